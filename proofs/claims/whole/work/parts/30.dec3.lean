theorem dX5_init_0 : decode cX5_init 0 = .ok (.aload_n 0, 1) := by decide +kernel
theorem dX5_init_1 : decode cX5_init 1 = .ok (.invokespecial 1, 3) := by decide +kernel
theorem dX5_init_4 : decode cX5_init 4 = .ok (.aload_n 0, 1) := by decide +kernel
theorem dX5_init_5 : decode cX5_init 5 = .ok (.bipush 21, 2) := by decide +kernel
theorem dX5_init_7 : decode cX5_init 7 = .ok (.newarray .int, 2) := by decide +kernel
theorem dX5_init_9 : decode cX5_init 9 = .ok (.putfield 7, 3) := by decide +kernel
theorem dX5_init_12 : decode cX5_init 12 = .ok (.aload_n 0, 1) := by decide +kernel
theorem dX5_init_13 : decode cX5_init 13 = .ok (.bipush 21, 2) := by decide +kernel
theorem dX5_init_15 : decode cX5_init 15 = .ok (.newarray .long, 2) := by decide +kernel
theorem dX5_init_17 : decode cX5_init 17 = .ok (.putfield 13, 3) := by decide +kernel
theorem dX5_init_20 : decode cX5_init 20 = .ok (.aload_n 0, 1) := by decide +kernel
theorem dX5_init_21 : decode cX5_init 21 = .ok (.bipush 21, 2) := by decide +kernel
theorem dX5_init_23 : decode cX5_init 23 = .ok (.newarray .int, 2) := by decide +kernel
theorem dX5_init_25 : decode cX5_init 25 = .ok (.putfield 17, 3) := by decide +kernel
theorem dX5_init_28 : decode cX5_init 28 = .ok (.aload_n 0, 1) := by decide +kernel
theorem dX5_init_29 : decode cX5_init 29 = .ok (.bipush 21, 2) := by decide +kernel
theorem dX5_init_31 : decode cX5_init 31 = .ok (.newarray .int, 2) := by decide +kernel
theorem dX5_init_33 : decode cX5_init 33 = .ok (.putfield 20, 3) := by decide +kernel
theorem dX5_init_36 : decode cX5_init 36 = .ok (.aload_n 0, 1) := by decide +kernel
theorem dX5_init_37 : decode cX5_init 37 = .ok (.bipush 21, 2) := by decide +kernel
theorem dX5_init_39 : decode cX5_init 39 = .ok (.newarray .boolean, 2) := by decide +kernel
theorem dX5_init_41 : decode cX5_init 41 = .ok (.putfield 23, 3) := by decide +kernel
theorem dX5_init_44 : decode cX5_init 44 = .ok (.aload_n 0, 1) := by decide +kernel
theorem dX5_init_45 : decode cX5_init 45 = .ok (.bipush 21, 2) := by decide +kernel
theorem dX5_init_47 : decode cX5_init 47 = .ok (.newarray .int, 2) := by decide +kernel
theorem dX5_init_49 : decode cX5_init 49 = .ok (.putfield 27, 3) := by decide +kernel
theorem dX5_init_52 : decode cX5_init 52 = .ok (.aload_n 0, 1) := by decide +kernel
theorem dX5_init_53 : decode cX5_init 53 = .ok (.bipush 21, 2) := by decide +kernel
theorem dX5_init_55 : decode cX5_init 55 = .ok (.newarray .boolean, 2) := by decide +kernel
theorem dX5_init_57 : decode cX5_init 57 = .ok (.putfield 30, 3) := by decide +kernel
theorem dX5_init_60 : decode cX5_init 60 = .ok (.aload_n 0, 1) := by decide +kernel
theorem dX5_init_61 : decode cX5_init 61 = .ok (.bipush 21, 2) := by decide +kernel
theorem dX5_init_63 : decode cX5_init 63 = .ok (.newarray .int, 2) := by decide +kernel
theorem dX5_init_65 : decode cX5_init 65 = .ok (.putfield 33, 3) := by decide +kernel
theorem dX5_init_68 : decode cX5_init 68 = .ok (.aload_n 0, 1) := by decide +kernel
theorem dX5_init_69 : decode cX5_init 69 = .ok (.bipush 21, 2) := by decide +kernel
theorem dX5_init_71 : decode cX5_init 71 = .ok (.newarray .long, 2) := by decide +kernel
theorem dX5_init_73 : decode cX5_init 73 = .ok (.putfield 36, 3) := by decide +kernel
theorem dX5_init_76 : decode cX5_init 76 = .ok (.aload_n 0, 1) := by decide +kernel
theorem dX5_init_77 : decode cX5_init 77 = .ok (.bipush 21, 2) := by decide +kernel
theorem dX5_init_79 : decode cX5_init 79 = .ok (.newarray .long, 2) := by decide +kernel
theorem dX5_init_81 : decode cX5_init 81 = .ok (.putfield 39, 3) := by decide +kernel
theorem dX5_init_84 : decode cX5_init 84 = .ok (.aload_n 0, 1) := by decide +kernel
theorem dX5_init_85 : decode cX5_init 85 = .ok (.bipush 21, 2) := by decide +kernel
theorem dX5_init_87 : decode cX5_init 87 = .ok (.newarray .int, 2) := by decide +kernel
theorem dX5_init_89 : decode cX5_init 89 = .ok (.putfield 42, 3) := by decide +kernel
theorem dX5_init_92 : decode cX5_init 92 = .ok (.aload_n 0, 1) := by decide +kernel
theorem dX5_init_93 : decode cX5_init 93 = .ok (.bipush 20, 2) := by decide +kernel
theorem dX5_init_95 : decode cX5_init 95 = .ok (.newarray .int, 2) := by decide +kernel
theorem dX5_init_97 : decode cX5_init 97 = .ok (.putfield 45, 3) := by decide +kernel
theorem dX5_init_100 : decode cX5_init 100 = .ok (.aload_n 0, 1) := by decide +kernel
theorem dX5_init_101 : decode cX5_init 101 = .ok (.bipush 61, 2) := by decide +kernel
theorem dX5_init_103 : decode cX5_init 103 = .ok (.newarray .int, 2) := by decide +kernel
theorem dX5_init_105 : decode cX5_init 105 = .ok (.putfield 48, 3) := by decide +kernel
theorem dX5_init_108 : decode cX5_init 108 = .ok (.aload_n 0, 1) := by decide +kernel
theorem dX5_init_109 : decode cX5_init 109 = .ok (.bipush 61, 2) := by decide +kernel
theorem dX5_init_111 : decode cX5_init 111 = .ok (.newarray .long, 2) := by decide +kernel
theorem dX5_init_113 : decode cX5_init 113 = .ok (.putfield 51, 3) := by decide +kernel
theorem dX5_init_116 : decode cX5_init 116 = .ok (.aload_n 0, 1) := by decide +kernel
theorem dX5_init_117 : decode cX5_init 117 = .ok (.bipush 61, 2) := by decide +kernel
theorem dX5_init_119 : decode cX5_init 119 = .ok (.newarray .int, 2) := by decide +kernel
theorem dX5_init_121 : decode cX5_init 121 = .ok (.putfield 54, 3) := by decide +kernel
theorem dX5_init_124 : decode cX5_init 124 = .ok (.aload_n 0, 1) := by decide +kernel
theorem dX5_init_125 : decode cX5_init 125 = .ok (.bipush 61, 2) := by decide +kernel
theorem dX5_init_127 : decode cX5_init 127 = .ok (.newarray .int, 2) := by decide +kernel
theorem dX5_init_129 : decode cX5_init 129 = .ok (.putfield 57, 3) := by decide +kernel
theorem dX5_init_132 : decode cX5_init 132 = .ok (.aload_n 0, 1) := by decide +kernel
theorem dX5_init_133 : decode cX5_init 133 = .ok (.sipush 244, 3) := by decide +kernel
theorem dX5_init_136 : decode cX5_init 136 = .ok (.newarray .int, 2) := by decide +kernel
theorem dX5_init_138 : decode cX5_init 138 = .ok (.putfield 60, 3) := by decide +kernel
theorem dX5_init_141 : decode cX5_init 141 = .ok (.aload_n 0, 1) := by decide +kernel
theorem dX5_init_142 : decode cX5_init 142 = .ok (.sipush 244, 3) := by decide +kernel
theorem dX5_init_145 : decode cX5_init 145 = .ok (.newarray .long, 2) := by decide +kernel
theorem dX5_init_147 : decode cX5_init 147 = .ok (.putfield 63, 3) := by decide +kernel
theorem dX5_init_150 : decode cX5_init 150 = .ok (.aload_n 0, 1) := by decide +kernel
theorem dX5_init_151 : decode cX5_init 151 = .ok (.iconst 4, 1) := by decide +kernel
theorem dX5_init_152 : decode cX5_init 152 = .ok (.newarray .boolean, 2) := by decide +kernel
theorem dX5_init_154 : decode cX5_init 154 = .ok (.putfield 66, 3) := by decide +kernel
theorem dX5_init_157 : decode cX5_init 157 = .ok (.aload_n 0, 1) := by decide +kernel
theorem dX5_init_158 : decode cX5_init 158 = .ok (.iconst 4, 1) := by decide +kernel
theorem dX5_init_159 : decode cX5_init 159 = .ok (.newarray .int, 2) := by decide +kernel
theorem dX5_init_161 : decode cX5_init 161 = .ok (.putfield 69, 3) := by decide +kernel
theorem dX5_init_164 : decode cX5_init 164 = .ok (.return_, 1) := by decide +kernel
theorem dX5_thrown_0 : decode cX5_thrown 0 = .ok (.aload_n 0, 1) := by decide +kernel
theorem dX5_thrown_1 : decode cX5_thrown 1 = .ok (.getfield 72, 3) := by decide +kernel
theorem dX5_thrown_4 : decode cX5_thrown 4 = .ok (.ireturn, 1) := by decide +kernel
theorem dX5_refuse_0 : decode cX5_refuse 0 = .ok (.aload_n 0, 1) := by decide +kernel
theorem dX5_refuse_1 : decode cX5_refuse 1 = .ok (.iload_n 1, 1) := by decide +kernel
theorem dX5_refuse_2 : decode cX5_refuse 2 = .ok (.putfield 72, 3) := by decide +kernel
theorem dX5_refuse_5 : decode cX5_refuse 5 = .ok (.iconst 0, 1) := by decide +kernel
theorem dX5_refuse_6 : decode cX5_refuse 6 = .ok (.ireturn, 1) := by decide +kernel
theorem dX5_in_0 : decode cX5_in 0 = .ok (.lload_n 0, 1) := by decide +kernel
theorem dX5_in_1 : decode cX5_in 1 = .ok (.lload_n 2, 1) := by decide +kernel
theorem dX5_in_2 : decode cX5_in 2 = .ok (.lcmp, 1) := by decide +kernel
theorem dX5_in_3 : decode cX5_in 3 = .ok (.ifCond .lt 14, 3) := by decide +kernel
theorem dX5_in_6 : decode cX5_in 6 = .ok (.lload_n 0, 1) := by decide +kernel
theorem dX5_in_7 : decode cX5_in 7 = .ok (.lload 4, 2) := by decide +kernel
theorem dX5_in_9 : decode cX5_in 9 = .ok (.lcmp, 1) := by decide +kernel
theorem dX5_in_10 : decode cX5_in 10 = .ok (.ifCond .gt 7, 3) := by decide +kernel
theorem dX5_in_13 : decode cX5_in 13 = .ok (.iconst 1, 1) := by decide +kernel
theorem dX5_in_14 : decode cX5_in 14 = .ok (.goto 4, 3) := by decide +kernel
theorem dX5_in_17 : decode cX5_in 17 = .ok (.iconst 0, 1) := by decide +kernel
theorem dX5_in_18 : decode cX5_in 18 = .ok (.ireturn, 1) := by decide +kernel
theorem dX5_isGuarantee_0 : decode cX5_isGuarantee 0 = .ok (.iload_n 1, 1) := by decide +kernel
theorem dX5_isGuarantee_1 : decode cX5_isGuarantee 1 = .ok (.iconst 1, 1) := by decide +kernel
theorem dX5_isGuarantee_2 : decode cX5_isGuarantee 2 = .ok (.if_icmp .lt 15, 3) := by decide +kernel
theorem dX5_isGuarantee_5 : decode cX5_isGuarantee 5 = .ok (.iload_n 1, 1) := by decide +kernel
theorem dX5_isGuarantee_6 : decode cX5_isGuarantee 6 = .ok (.aload_n 0, 1) := by decide +kernel
theorem dX5_isGuarantee_7 : decode cX5_isGuarantee 7 = .ok (.getfield 76, 3) := by decide +kernel
theorem dX5_isGuarantee_10 : decode cX5_isGuarantee 10 = .ok (.if_icmp .gt 7, 3) := by decide +kernel
theorem dX5_isGuarantee_13 : decode cX5_isGuarantee 13 = .ok (.iconst 1, 1) := by decide +kernel
theorem dX5_isGuarantee_14 : decode cX5_isGuarantee 14 = .ok (.goto 4, 3) := by decide +kernel
theorem dX5_isGuarantee_17 : decode cX5_isGuarantee 17 = .ok (.iconst 0, 1) := by decide +kernel
theorem dX5_isGuarantee_18 : decode cX5_isGuarantee 18 = .ok (.ireturn, 1) := by decide +kernel
theorem dX5_isReservation_0 : decode cX5_isReservation 0 = .ok (.iload_n 1, 1) := by decide +kernel
theorem dX5_isReservation_1 : decode cX5_isReservation 1 = .ok (.iconst 1, 1) := by decide +kernel
theorem dX5_isReservation_2 : decode cX5_isReservation 2 = .ok (.if_icmp .lt 15, 3) := by decide +kernel
theorem dX5_isReservation_5 : decode cX5_isReservation 5 = .ok (.iload_n 1, 1) := by decide +kernel
theorem dX5_isReservation_6 : decode cX5_isReservation 6 = .ok (.aload_n 0, 1) := by decide +kernel
theorem dX5_isReservation_7 : decode cX5_isReservation 7 = .ok (.getfield 79, 3) := by decide +kernel
theorem dX5_isReservation_10 : decode cX5_isReservation 10 = .ok (.if_icmp .gt 7, 3) := by decide +kernel
theorem dX5_isReservation_13 : decode cX5_isReservation 13 = .ok (.iconst 1, 1) := by decide +kernel
theorem dX5_isReservation_14 : decode cX5_isReservation 14 = .ok (.goto 4, 3) := by decide +kernel
theorem dX5_isReservation_17 : decode cX5_isReservation 17 = .ok (.iconst 0, 1) := by decide +kernel
theorem dX5_isReservation_18 : decode cX5_isReservation 18 = .ok (.ireturn, 1) := by decide +kernel
theorem dX5_isHolder_0 : decode cX5_isHolder 0 = .ok (.iload_n 0, 1) := by decide +kernel
theorem dX5_isHolder_1 : decode cX5_isHolder 1 = .ok (.ifCond .lt 13, 3) := by decide +kernel
theorem dX5_isHolder_4 : decode cX5_isHolder 4 = .ok (.iload_n 0, 1) := by decide +kernel
theorem dX5_isHolder_5 : decode cX5_isHolder 5 = .ok (.bipush 8, 2) := by decide +kernel
theorem dX5_isHolder_7 : decode cX5_isHolder 7 = .ok (.if_icmp .ge 7, 3) := by decide +kernel
theorem dX5_isHolder_10 : decode cX5_isHolder 10 = .ok (.iconst 1, 1) := by decide +kernel
theorem dX5_isHolder_11 : decode cX5_isHolder 11 = .ok (.goto 4, 3) := by decide +kernel
theorem dX5_isHolder_14 : decode cX5_isHolder 14 = .ok (.iconst 0, 1) := by decide +kernel
theorem dX5_isHolder_15 : decode cX5_isHolder 15 = .ok (.ireturn, 1) := by decide +kernel
theorem dX5_guarantee_0 : decode cX5_guarantee 0 = .ok (.lload_n 2, 1) := by decide +kernel
theorem dX5_guarantee_1 : decode cX5_guarantee 1 = .ok (.lconst 1, 1) := by decide +kernel
theorem dX5_guarantee_2 : decode cX5_guarantee 2 = .ok (.ldc2_w 82, 3) := by decide +kernel
theorem dX5_guarantee_5 : decode cX5_guarantee 5 = .ok (.invokestatic 84, 3) := by decide +kernel
theorem dX5_guarantee_8 : decode cX5_guarantee 8 = .ok (.ifCond .eq 53, 3) := by decide +kernel
theorem dX5_guarantee_11 : decode cX5_guarantee 11 = .ok (.iload 4, 2) := by decide +kernel
theorem dX5_guarantee_13 : decode cX5_guarantee 13 = .ok (.i2l, 1) := by decide +kernel
theorem dX5_guarantee_14 : decode cX5_guarantee 14 = .ok (.lconst 0, 1) := by decide +kernel
theorem dX5_guarantee_15 : decode cX5_guarantee 15 = .ok (.ldc2_w 88, 3) := by decide +kernel
theorem dX5_guarantee_18 : decode cX5_guarantee 18 = .ok (.invokestatic 84, 3) := by decide +kernel
theorem dX5_guarantee_21 : decode cX5_guarantee 21 = .ok (.ifCond .eq 40, 3) := by decide +kernel
theorem dX5_guarantee_24 : decode cX5_guarantee 24 = .ok (.iload 5, 2) := by decide +kernel
theorem dX5_guarantee_26 : decode cX5_guarantee 26 = .ok (.i2l, 1) := by decide +kernel
theorem dX5_guarantee_27 : decode cX5_guarantee 27 = .ok (.lconst 1, 1) := by decide +kernel
theorem dX5_guarantee_28 : decode cX5_guarantee 28 = .ok (.ldc2_w 88, 3) := by decide +kernel
theorem dX5_guarantee_31 : decode cX5_guarantee 31 = .ok (.invokestatic 84, 3) := by decide +kernel
theorem dX5_guarantee_34 : decode cX5_guarantee 34 = .ok (.ifCond .eq 27, 3) := by decide +kernel
theorem dX5_guarantee_37 : decode cX5_guarantee 37 = .ok (.iload 4, 2) := by decide +kernel
theorem dX5_guarantee_39 : decode cX5_guarantee 39 = .ok (.iload 5, 2) := by decide +kernel
theorem dX5_guarantee_41 : decode cX5_guarantee 41 = .ok (.if_icmp .gt 20, 3) := by decide +kernel
theorem dX5_guarantee_44 : decode cX5_guarantee 44 = .ok (.iload 7, 2) := by decide +kernel
theorem dX5_guarantee_46 : decode cX5_guarantee 46 = .ok (.i2l, 1) := by decide +kernel
theorem dX5_guarantee_47 : decode cX5_guarantee 47 = .ok (.lconst 0, 1) := by decide +kernel
theorem dX5_guarantee_48 : decode cX5_guarantee 48 = .ok (.ldc2_w 90, 3) := by decide +kernel
theorem dX5_guarantee_51 : decode cX5_guarantee 51 = .ok (.invokestatic 84, 3) := by decide +kernel
theorem dX5_guarantee_54 : decode cX5_guarantee 54 = .ok (.ifCond .eq 7, 3) := by decide +kernel
theorem dX5_guarantee_57 : decode cX5_guarantee 57 = .ok (.iconst 1, 1) := by decide +kernel
theorem dX5_guarantee_58 : decode cX5_guarantee 58 = .ok (.goto 4, 3) := by decide +kernel
theorem dX5_guarantee_61 : decode cX5_guarantee 61 = .ok (.iconst 0, 1) := by decide +kernel
theorem dX5_guarantee_62 : decode cX5_guarantee 62 = .ok (.istore 8, 2) := by decide +kernel
theorem dX5_guarantee_64 : decode cX5_guarantee 64 = .ok (.iload_n 1, 1) := by decide +kernel
theorem dX5_guarantee_65 : decode cX5_guarantee 65 = .ok (.invokestatic 92, 3) := by decide +kernel
theorem dX5_guarantee_68 : decode cX5_guarantee 68 = .ok (.ifCond .eq 8, 3) := by decide +kernel
theorem dX5_guarantee_71 : decode cX5_guarantee 71 = .ok (.iload 8, 2) := by decide +kernel
theorem dX5_guarantee_73 : decode cX5_guarantee 73 = .ok (.ifCond .ne 9, 3) := by decide +kernel
theorem dX5_guarantee_76 : decode cX5_guarantee 76 = .ok (.aload_n 0, 1) := by decide +kernel
theorem dX5_guarantee_77 : decode cX5_guarantee 77 = .ok (.iconst 1, 1) := by decide +kernel
theorem dX5_guarantee_78 : decode cX5_guarantee 78 = .ok (.invokevirtual 96, 3) := by decide +kernel
theorem dX5_guarantee_81 : decode cX5_guarantee 81 = .ok (.ireturn, 1) := by decide +kernel
theorem dX5_guarantee_82 : decode cX5_guarantee 82 = .ok (.aload_n 0, 1) := by decide +kernel
theorem dX5_guarantee_83 : decode cX5_guarantee 83 = .ok (.getfield 76, 3) := by decide +kernel
theorem dX5_guarantee_86 : decode cX5_guarantee 86 = .ok (.bipush 20, 2) := by decide +kernel
theorem dX5_guarantee_88 : decode cX5_guarantee 88 = .ok (.if_icmp .ne 9, 3) := by decide +kernel
theorem dX5_guarantee_91 : decode cX5_guarantee 91 = .ok (.aload_n 0, 1) := by decide +kernel
theorem dX5_guarantee_92 : decode cX5_guarantee 92 = .ok (.iconst 2, 1) := by decide +kernel
theorem dX5_guarantee_93 : decode cX5_guarantee 93 = .ok (.invokevirtual 96, 3) := by decide +kernel
theorem dX5_guarantee_96 : decode cX5_guarantee 96 = .ok (.ireturn, 1) := by decide +kernel
theorem dX5_guarantee_97 : decode cX5_guarantee 97 = .ok (.aload_n 0, 1) := by decide +kernel
theorem dX5_guarantee_98 : decode cX5_guarantee 98 = .ok (.iconst 0, 1) := by decide +kernel
theorem dX5_guarantee_99 : decode cX5_guarantee 99 = .ok (.putfield 72, 3) := by decide +kernel
theorem dX5_guarantee_102 : decode cX5_guarantee 102 = .ok (.aload_n 0, 1) := by decide +kernel
theorem dX5_guarantee_103 : decode cX5_guarantee 103 = .ok (.getfield 45, 3) := by decide +kernel
theorem dX5_guarantee_106 : decode cX5_guarantee 106 = .ok (.aload_n 0, 1) := by decide +kernel
theorem dX5_guarantee_107 : decode cX5_guarantee 107 = .ok (.getfield 76, 3) := by decide +kernel
theorem dX5_guarantee_110 : decode cX5_guarantee 110 = .ok (.aload_n 0, 1) := by decide +kernel
theorem dX5_guarantee_111 : decode cX5_guarantee 111 = .ok (.getfield 76, 3) := by decide +kernel
theorem dX5_guarantee_114 : decode cX5_guarantee 114 = .ok (.iconst 1, 1) := by decide +kernel
theorem dX5_guarantee_115 : decode cX5_guarantee 115 = .ok (.iadd, 1) := by decide +kernel
theorem dX5_guarantee_116 : decode cX5_guarantee 116 = .ok (.iastore, 1) := by decide +kernel
theorem dX5_guarantee_117 : decode cX5_guarantee 117 = .ok (.aload_n 0, 1) := by decide +kernel
theorem dX5_guarantee_118 : decode cX5_guarantee 118 = .ok (.dup, 1) := by decide +kernel
theorem dX5_guarantee_119 : decode cX5_guarantee 119 = .ok (.getfield 76, 3) := by decide +kernel
theorem dX5_guarantee_122 : decode cX5_guarantee 122 = .ok (.iconst 1, 1) := by decide +kernel
theorem dX5_guarantee_123 : decode cX5_guarantee 123 = .ok (.iadd, 1) := by decide +kernel
theorem dX5_guarantee_124 : decode cX5_guarantee 124 = .ok (.putfield 76, 3) := by decide +kernel
theorem dX5_guarantee_127 : decode cX5_guarantee 127 = .ok (.aload_n 0, 1) := by decide +kernel
theorem dX5_guarantee_128 : decode cX5_guarantee 128 = .ok (.getfield 7, 3) := by decide +kernel
theorem dX5_guarantee_131 : decode cX5_guarantee 131 = .ok (.aload_n 0, 1) := by decide +kernel
theorem dX5_guarantee_132 : decode cX5_guarantee 132 = .ok (.getfield 76, 3) := by decide +kernel
theorem dX5_guarantee_135 : decode cX5_guarantee 135 = .ok (.iload_n 1, 1) := by decide +kernel
theorem dX5_guarantee_136 : decode cX5_guarantee 136 = .ok (.iastore, 1) := by decide +kernel
theorem dX5_guarantee_137 : decode cX5_guarantee 137 = .ok (.aload_n 0, 1) := by decide +kernel
theorem dX5_guarantee_138 : decode cX5_guarantee 138 = .ok (.getfield 13, 3) := by decide +kernel
theorem dX5_guarantee_141 : decode cX5_guarantee 141 = .ok (.aload_n 0, 1) := by decide +kernel
theorem dX5_guarantee_142 : decode cX5_guarantee 142 = .ok (.getfield 76, 3) := by decide +kernel
theorem dX5_guarantee_145 : decode cX5_guarantee 145 = .ok (.lload_n 2, 1) := by decide +kernel
theorem dX5_guarantee_146 : decode cX5_guarantee 146 = .ok (.lastore, 1) := by decide +kernel
theorem dX5_guarantee_147 : decode cX5_guarantee 147 = .ok (.aload_n 0, 1) := by decide +kernel
theorem dX5_guarantee_148 : decode cX5_guarantee 148 = .ok (.getfield 17, 3) := by decide +kernel
theorem dX5_guarantee_151 : decode cX5_guarantee 151 = .ok (.aload_n 0, 1) := by decide +kernel
theorem dX5_guarantee_152 : decode cX5_guarantee 152 = .ok (.getfield 76, 3) := by decide +kernel
theorem dX5_guarantee_155 : decode cX5_guarantee 155 = .ok (.iload 4, 2) := by decide +kernel
theorem dX5_guarantee_157 : decode cX5_guarantee 157 = .ok (.iastore, 1) := by decide +kernel
theorem dX5_guarantee_158 : decode cX5_guarantee 158 = .ok (.aload_n 0, 1) := by decide +kernel
theorem dX5_guarantee_159 : decode cX5_guarantee 159 = .ok (.getfield 20, 3) := by decide +kernel
theorem dX5_guarantee_162 : decode cX5_guarantee 162 = .ok (.aload_n 0, 1) := by decide +kernel
theorem dX5_guarantee_163 : decode cX5_guarantee 163 = .ok (.getfield 76, 3) := by decide +kernel
theorem dX5_guarantee_166 : decode cX5_guarantee 166 = .ok (.iload 5, 2) := by decide +kernel
theorem dX5_guarantee_168 : decode cX5_guarantee 168 = .ok (.iastore, 1) := by decide +kernel
theorem dX5_guarantee_169 : decode cX5_guarantee 169 = .ok (.aload_n 0, 1) := by decide +kernel
theorem dX5_guarantee_170 : decode cX5_guarantee 170 = .ok (.getfield 23, 3) := by decide +kernel
theorem dX5_guarantee_173 : decode cX5_guarantee 173 = .ok (.aload_n 0, 1) := by decide +kernel
theorem dX5_guarantee_174 : decode cX5_guarantee 174 = .ok (.getfield 76, 3) := by decide +kernel
theorem dX5_guarantee_177 : decode cX5_guarantee 177 = .ok (.iload 6, 2) := by decide +kernel
theorem dX5_guarantee_179 : decode cX5_guarantee 179 = .ok (.bastore, 1) := by decide +kernel
theorem dX5_guarantee_180 : decode cX5_guarantee 180 = .ok (.aload_n 0, 1) := by decide +kernel
theorem dX5_guarantee_181 : decode cX5_guarantee 181 = .ok (.getfield 27, 3) := by decide +kernel
theorem dX5_guarantee_184 : decode cX5_guarantee 184 = .ok (.aload_n 0, 1) := by decide +kernel
theorem dX5_guarantee_185 : decode cX5_guarantee 185 = .ok (.getfield 76, 3) := by decide +kernel
theorem dX5_guarantee_188 : decode cX5_guarantee 188 = .ok (.iload 7, 2) := by decide +kernel
theorem dX5_guarantee_190 : decode cX5_guarantee 190 = .ok (.iastore, 1) := by decide +kernel
theorem dX5_guarantee_191 : decode cX5_guarantee 191 = .ok (.aload_n 0, 1) := by decide +kernel
theorem dX5_guarantee_192 : decode cX5_guarantee 192 = .ok (.getfield 42, 3) := by decide +kernel
theorem dX5_guarantee_195 : decode cX5_guarantee 195 = .ok (.aload_n 0, 1) := by decide +kernel
theorem dX5_guarantee_196 : decode cX5_guarantee 196 = .ok (.getfield 76, 3) := by decide +kernel
theorem dX5_guarantee_199 : decode cX5_guarantee 199 = .ok (.aload_n 0, 1) := by decide +kernel
theorem dX5_guarantee_200 : decode cX5_guarantee 200 = .ok (.getfield 100, 3) := by decide +kernel
theorem dX5_guarantee_203 : decode cX5_guarantee 203 = .ok (.iastore, 1) := by decide +kernel
theorem dX5_guarantee_204 : decode cX5_guarantee 204 = .ok (.aload_n 0, 1) := by decide +kernel
theorem dX5_guarantee_205 : decode cX5_guarantee 205 = .ok (.getfield 76, 3) := by decide +kernel
theorem dX5_guarantee_208 : decode cX5_guarantee 208 = .ok (.ireturn, 1) := by decide +kernel
theorem dX5_list_0 : decode cX5_list 0 = .ok (.aload_n 0, 1) := by decide +kernel
theorem dX5_list_1 : decode cX5_list 1 = .ok (.iconst 0, 1) := by decide +kernel
theorem dX5_list_2 : decode cX5_list 2 = .ok (.putfield 72, 3) := by decide +kernel
theorem dX5_list_5 : decode cX5_list 5 = .ok (.iload_n 2, 1) := by decide +kernel
theorem dX5_list_6 : decode cX5_list 6 = .ok (.istore_n 3, 1) := by decide +kernel
theorem dX5_list_7 : decode cX5_list 7 = .ok (.iconst 0, 1) := by decide +kernel
theorem dX5_list_8 : decode cX5_list 8 = .ok (.istore 4, 2) := by decide +kernel
theorem dX5_list_10 : decode cX5_list 10 = .ok (.iload 4, 2) := by decide +kernel
theorem dX5_list_12 : decode cX5_list 12 = .ok (.aload_n 0, 1) := by decide +kernel
theorem dX5_list_13 : decode cX5_list 13 = .ok (.getfield 76, 3) := by decide +kernel
theorem dX5_list_16 : decode cX5_list 16 = .ok (.if_icmp .ge 61, 3) := by decide +kernel
theorem dX5_list_19 : decode cX5_list 19 = .ok (.aload_n 0, 1) := by decide +kernel
theorem dX5_list_20 : decode cX5_list 20 = .ok (.getfield 7, 3) := by decide +kernel
theorem dX5_list_23 : decode cX5_list 23 = .ok (.aload_n 0, 1) := by decide +kernel
theorem dX5_list_24 : decode cX5_list 24 = .ok (.getfield 45, 3) := by decide +kernel
theorem dX5_list_27 : decode cX5_list 27 = .ok (.iload 4, 2) := by decide +kernel
theorem dX5_list_29 : decode cX5_list 29 = .ok (.iaload, 1) := by decide +kernel
theorem dX5_list_30 : decode cX5_list 30 = .ok (.iaload, 1) := by decide +kernel
theorem dX5_list_31 : decode cX5_list 31 = .ok (.iload_n 1, 1) := by decide +kernel
theorem dX5_list_32 : decode cX5_list 32 = .ok (.if_icmp .ne 15, 3) := by decide +kernel
theorem dX5_list_35 : decode cX5_list 35 = .ok (.iload_n 3, 1) := by decide +kernel
theorem dX5_list_36 : decode cX5_list 36 = .ok (.ifCond .ne 11, 3) := by decide +kernel
theorem dX5_list_39 : decode cX5_list 39 = .ok (.aload_n 0, 1) := by decide +kernel
theorem dX5_list_40 : decode cX5_list 40 = .ok (.getfield 45, 3) := by decide +kernel
theorem dX5_list_43 : decode cX5_list 43 = .ok (.iload 4, 2) := by decide +kernel
theorem dX5_list_45 : decode cX5_list 45 = .ok (.iaload, 1) := by decide +kernel
theorem dX5_list_46 : decode cX5_list 46 = .ok (.ireturn, 1) := by decide +kernel
theorem dX5_list_47 : decode cX5_list 47 = .ok (.iload_n 3, 1) := by decide +kernel
theorem dX5_list_48 : decode cX5_list 48 = .ok (.aload_n 0, 1) := by decide +kernel
theorem dX5_list_49 : decode cX5_list 49 = .ok (.getfield 7, 3) := by decide +kernel
theorem dX5_list_52 : decode cX5_list 52 = .ok (.aload_n 0, 1) := by decide +kernel
theorem dX5_list_53 : decode cX5_list 53 = .ok (.getfield 45, 3) := by decide +kernel
theorem dX5_list_56 : decode cX5_list 56 = .ok (.iload 4, 2) := by decide +kernel
theorem dX5_list_58 : decode cX5_list 58 = .ok (.iaload, 1) := by decide +kernel
theorem dX5_list_59 : decode cX5_list 59 = .ok (.iaload, 1) := by decide +kernel
theorem dX5_list_60 : decode cX5_list 60 = .ok (.iload_n 1, 1) := by decide +kernel
theorem dX5_list_61 : decode cX5_list 61 = .ok (.if_icmp .ne 7, 3) := by decide +kernel
theorem dX5_list_64 : decode cX5_list 64 = .ok (.iconst 1, 1) := by decide +kernel
theorem dX5_list_65 : decode cX5_list 65 = .ok (.goto 4, 3) := by decide +kernel
theorem dX5_list_68 : decode cX5_list 68 = .ok (.iconst 0, 1) := by decide +kernel
theorem dX5_list_69 : decode cX5_list 69 = .ok (.isub, 1) := by decide +kernel
theorem dX5_list_70 : decode cX5_list 70 = .ok (.istore_n 3, 1) := by decide +kernel
theorem dX5_list_71 : decode cX5_list 71 = .ok (.iinc 4 1, 3) := by decide +kernel
theorem dX5_list_74 : decode cX5_list 74 = .ok (.goto (-64), 3) := by decide +kernel
theorem dX5_list_77 : decode cX5_list 77 = .ok (.iconst (-1), 1) := by decide +kernel
theorem dX5_list_78 : decode cX5_list 78 = .ok (.ireturn, 1) := by decide +kernel
theorem dX5_first_0 : decode cX5_first 0 = .ok (.aload_n 0, 1) := by decide +kernel
theorem dX5_first_1 : decode cX5_first 1 = .ok (.iconst 0, 1) := by decide +kernel
theorem dX5_first_2 : decode cX5_first 2 = .ok (.putfield 72, 3) := by decide +kernel
theorem dX5_first_5 : decode cX5_first 5 = .ok (.aload_n 0, 1) := by decide +kernel
theorem dX5_first_6 : decode cX5_first 6 = .ok (.iload_n 1, 1) := by decide +kernel
theorem dX5_first_7 : decode cX5_first 7 = .ok (.invokevirtual 103, 3) := by decide +kernel
theorem dX5_first_10 : decode cX5_first 10 = .ok (.ifCond .ne 5, 3) := by decide +kernel
theorem dX5_first_13 : decode cX5_first 13 = .ok (.iconst 0, 1) := by decide +kernel
theorem dX5_first_14 : decode cX5_first 14 = .ok (.ireturn, 1) := by decide +kernel
theorem dX5_first_15 : decode cX5_first 15 = .ok (.iconst 0, 1) := by decide +kernel
theorem dX5_first_16 : decode cX5_first 16 = .ok (.istore_n 2, 1) := by decide +kernel
theorem dX5_first_17 : decode cX5_first 17 = .ok (.iconst 0, 1) := by decide +kernel
theorem dX5_first_18 : decode cX5_first 18 = .ok (.istore_n 3, 1) := by decide +kernel
theorem dX5_first_19 : decode cX5_first 19 = .ok (.aload_n 0, 1) := by decide +kernel
theorem dX5_first_20 : decode cX5_first 20 = .ok (.getfield 45, 3) := by decide +kernel
theorem dX5_first_23 : decode cX5_first 23 = .ok (.iload_n 2, 1) := by decide +kernel
theorem dX5_first_24 : decode cX5_first 24 = .ok (.iaload, 1) := by decide +kernel
theorem dX5_first_25 : decode cX5_first 25 = .ok (.iload_n 1, 1) := by decide +kernel
theorem dX5_first_26 : decode cX5_first 26 = .ok (.if_icmp .eq 39, 3) := by decide +kernel
theorem dX5_first_29 : decode cX5_first 29 = .ok (.iload_n 3, 1) := by decide +kernel
theorem dX5_first_30 : decode cX5_first 30 = .ok (.ifCond .ne 23, 3) := by decide +kernel
theorem dX5_first_33 : decode cX5_first 33 = .ok (.aload_n 0, 1) := by decide +kernel
theorem dX5_first_34 : decode cX5_first 34 = .ok (.getfield 7, 3) := by decide +kernel
theorem dX5_first_37 : decode cX5_first 37 = .ok (.aload_n 0, 1) := by decide +kernel
theorem dX5_first_38 : decode cX5_first 38 = .ok (.getfield 45, 3) := by decide +kernel
theorem dX5_first_41 : decode cX5_first 41 = .ok (.iload_n 2, 1) := by decide +kernel
theorem dX5_first_42 : decode cX5_first 42 = .ok (.iaload, 1) := by decide +kernel
theorem dX5_first_43 : decode cX5_first 43 = .ok (.iaload, 1) := by decide +kernel
theorem dX5_first_44 : decode cX5_first 44 = .ok (.aload_n 0, 1) := by decide +kernel
theorem dX5_first_45 : decode cX5_first 45 = .ok (.getfield 7, 3) := by decide +kernel
theorem dX5_first_48 : decode cX5_first 48 = .ok (.iload_n 1, 1) := by decide +kernel
theorem dX5_first_49 : decode cX5_first 49 = .ok (.iaload, 1) := by decide +kernel
theorem dX5_first_50 : decode cX5_first 50 = .ok (.if_icmp .ne 7, 3) := by decide +kernel
theorem dX5_first_53 : decode cX5_first 53 = .ok (.iconst 1, 1) := by decide +kernel
theorem dX5_first_54 : decode cX5_first 54 = .ok (.goto 4, 3) := by decide +kernel
theorem dX5_first_57 : decode cX5_first 57 = .ok (.iconst 0, 1) := by decide +kernel
theorem dX5_first_58 : decode cX5_first 58 = .ok (.istore_n 3, 1) := by decide +kernel
theorem dX5_first_59 : decode cX5_first 59 = .ok (.iinc 2 1, 3) := by decide +kernel
theorem dX5_first_62 : decode cX5_first 62 = .ok (.goto (-43), 3) := by decide +kernel
theorem dX5_first_65 : decode cX5_first 65 = .ok (.iload_n 2, 1) := by decide +kernel
theorem dX5_first_66 : decode cX5_first 66 = .ok (.istore 4, 2) := by decide +kernel
theorem dX5_first_68 : decode cX5_first 68 = .ok (.iload 4, 2) := by decide +kernel
theorem dX5_first_70 : decode cX5_first 70 = .ok (.ifCond .le 29, 3) := by decide +kernel
theorem dX5_first_73 : decode cX5_first 73 = .ok (.iload_n 3, 1) := by decide +kernel
theorem dX5_first_74 : decode cX5_first 74 = .ok (.ifCond .eq 25, 3) := by decide +kernel
theorem dX5_first_77 : decode cX5_first 77 = .ok (.aload_n 0, 1) := by decide +kernel
theorem dX5_first_78 : decode cX5_first 78 = .ok (.getfield 45, 3) := by decide +kernel
theorem dX5_first_81 : decode cX5_first 81 = .ok (.iload 4, 2) := by decide +kernel
theorem dX5_first_83 : decode cX5_first 83 = .ok (.aload_n 0, 1) := by decide +kernel
theorem dX5_first_84 : decode cX5_first 84 = .ok (.getfield 45, 3) := by decide +kernel
theorem dX5_first_87 : decode cX5_first 87 = .ok (.iload 4, 2) := by decide +kernel
theorem dX5_first_89 : decode cX5_first 89 = .ok (.iconst 1, 1) := by decide +kernel
theorem dX5_first_90 : decode cX5_first 90 = .ok (.isub, 1) := by decide +kernel
theorem dX5_first_91 : decode cX5_first 91 = .ok (.iaload, 1) := by decide +kernel
theorem dX5_first_92 : decode cX5_first 92 = .ok (.iastore, 1) := by decide +kernel
theorem dX5_first_93 : decode cX5_first 93 = .ok (.iinc 4 (-1), 3) := by decide +kernel
theorem dX5_first_96 : decode cX5_first 96 = .ok (.goto (-28), 3) := by decide +kernel
theorem dX5_first_99 : decode cX5_first 99 = .ok (.aload_n 0, 1) := by decide +kernel
theorem dX5_first_100 : decode cX5_first 100 = .ok (.getfield 45, 3) := by decide +kernel
theorem dX5_first_103 : decode cX5_first 103 = .ok (.iload_n 3, 1) := by decide +kernel
theorem dX5_first_104 : decode cX5_first 104 = .ok (.ifCond .eq 7, 3) := by decide +kernel
theorem dX5_first_107 : decode cX5_first 107 = .ok (.iconst 0, 1) := by decide +kernel
theorem dX5_first_108 : decode cX5_first 108 = .ok (.goto 4, 3) := by decide +kernel
theorem dX5_first_111 : decode cX5_first 111 = .ok (.iload_n 2, 1) := by decide +kernel
theorem dX5_first_112 : decode cX5_first 112 = .ok (.iload_n 1, 1) := by decide +kernel
theorem dX5_first_113 : decode cX5_first 113 = .ok (.iastore, 1) := by decide +kernel
theorem dX5_first_114 : decode cX5_first 114 = .ok (.iload_n 3, 1) := by decide +kernel
theorem dX5_first_115 : decode cX5_first 115 = .ok (.ireturn, 1) := by decide +kernel
theorem dX5_needs_0 : decode cX5_needs 0 = .ok (.lload_n 2, 1) := by decide +kernel
theorem dX5_needs_1 : decode cX5_needs 1 = .ok (.aload_n 0, 1) := by decide +kernel
theorem dX5_needs_2 : decode cX5_needs 2 = .ok (.getfield 17, 3) := by decide +kernel
theorem dX5_needs_5 : decode cX5_needs 5 = .ok (.iload_n 1, 1) := by decide +kernel
theorem dX5_needs_6 : decode cX5_needs 6 = .ok (.iaload, 1) := by decide +kernel
theorem dX5_needs_7 : decode cX5_needs 7 = .ok (.i2l, 1) := by decide +kernel
theorem dX5_needs_8 : decode cX5_needs 8 = .ok (.lmul, 1) := by decide +kernel
theorem dX5_needs_9 : decode cX5_needs 9 = .ok (.lstore 4, 2) := by decide +kernel
theorem dX5_needs_11 : decode cX5_needs 11 = .ok (.lload 4, 2) := by decide +kernel
theorem dX5_needs_13 : decode cX5_needs 13 = .ok (.aload_n 0, 1) := by decide +kernel
theorem dX5_needs_14 : decode cX5_needs 14 = .ok (.getfield 20, 3) := by decide +kernel
theorem dX5_needs_17 : decode cX5_needs 17 = .ok (.iload_n 1, 1) := by decide +kernel
theorem dX5_needs_18 : decode cX5_needs 18 = .ok (.iaload, 1) := by decide +kernel
theorem dX5_needs_19 : decode cX5_needs 19 = .ok (.i2l, 1) := by decide +kernel
theorem dX5_needs_20 : decode cX5_needs 20 = .ok (.ldiv, 1) := by decide +kernel
theorem dX5_needs_21 : decode cX5_needs 21 = .ok (.lload 4, 2) := by decide +kernel
theorem dX5_needs_23 : decode cX5_needs 23 = .ok (.aload_n 0, 1) := by decide +kernel
theorem dX5_needs_24 : decode cX5_needs 24 = .ok (.getfield 20, 3) := by decide +kernel
theorem dX5_needs_27 : decode cX5_needs 27 = .ok (.iload_n 1, 1) := by decide +kernel
theorem dX5_needs_28 : decode cX5_needs 28 = .ok (.iaload, 1) := by decide +kernel
theorem dX5_needs_29 : decode cX5_needs 29 = .ok (.i2l, 1) := by decide +kernel
theorem dX5_needs_30 : decode cX5_needs 30 = .ok (.lrem, 1) := by decide +kernel
theorem dX5_needs_31 : decode cX5_needs 31 = .ok (.lconst 0, 1) := by decide +kernel
theorem dX5_needs_32 : decode cX5_needs 32 = .ok (.lcmp, 1) := by decide +kernel
theorem dX5_needs_33 : decode cX5_needs 33 = .ok (.ifCond .le 7, 3) := by decide +kernel
theorem dX5_needs_36 : decode cX5_needs 36 = .ok (.lconst 1, 1) := by decide +kernel
theorem dX5_needs_37 : decode cX5_needs 37 = .ok (.goto 4, 3) := by decide +kernel
theorem dX5_needs_40 : decode cX5_needs 40 = .ok (.lconst 0, 1) := by decide +kernel
theorem dX5_needs_41 : decode cX5_needs 41 = .ok (.ladd, 1) := by decide +kernel
theorem dX5_needs_42 : decode cX5_needs 42 = .ok (.lreturn, 1) := by decide +kernel
theorem dX5_needed_0 : decode cX5_needed 0 = .ok (.lconst 0, 1) := by decide +kernel
theorem dX5_needed_1 : decode cX5_needed 1 = .ok (.lstore_n 2, 1) := by decide +kernel
theorem dX5_needed_2 : decode cX5_needed 2 = .ok (.iconst 1, 1) := by decide +kernel
theorem dX5_needed_3 : decode cX5_needed 3 = .ok (.istore 4, 2) := by decide +kernel
theorem dX5_needed_5 : decode cX5_needed 5 = .ok (.iload 4, 2) := by decide +kernel
theorem dX5_needed_7 : decode cX5_needed 7 = .ok (.aload_n 0, 1) := by decide +kernel
theorem dX5_needed_8 : decode cX5_needed 8 = .ok (.getfield 79, 3) := by decide +kernel
theorem dX5_needed_11 : decode cX5_needed 11 = .ok (.if_icmp .gt 68, 3) := by decide +kernel
theorem dX5_needed_14 : decode cX5_needed 14 = .ok (.iconst 4, 1) := by decide +kernel
theorem dX5_needed_15 : decode cX5_needed 15 = .ok (.iload 4, 2) := by decide +kernel
theorem dX5_needed_17 : decode cX5_needed 17 = .ok (.imul, 1) := by decide +kernel
theorem dX5_needed_18 : decode cX5_needed 18 = .ok (.istore 5, 2) := by decide +kernel
theorem dX5_needed_20 : decode cX5_needed 20 = .ok (.iload 5, 2) := by decide +kernel
theorem dX5_needed_22 : decode cX5_needed 22 = .ok (.iconst 4, 1) := by decide +kernel
theorem dX5_needed_23 : decode cX5_needed 23 = .ok (.iload 4, 2) := by decide +kernel
theorem dX5_needed_25 : decode cX5_needed 25 = .ok (.imul, 1) := by decide +kernel
theorem dX5_needed_26 : decode cX5_needed 26 = .ok (.aload_n 0, 1) := by decide +kernel
theorem dX5_needed_27 : decode cX5_needed 27 = .ok (.getfield 57, 3) := by decide +kernel
theorem dX5_needed_30 : decode cX5_needed 30 = .ok (.iload 4, 2) := by decide +kernel
theorem dX5_needed_32 : decode cX5_needed 32 = .ok (.iaload, 1) := by decide +kernel
theorem dX5_needed_33 : decode cX5_needed 33 = .ok (.iadd, 1) := by decide +kernel
theorem dX5_needed_34 : decode cX5_needed 34 = .ok (.if_icmp .ge 39, 3) := by decide +kernel
theorem dX5_needed_37 : decode cX5_needed 37 = .ok (.lload_n 2, 1) := by decide +kernel
theorem dX5_needed_38 : decode cX5_needed 38 = .ok (.aload_n 0, 1) := by decide +kernel
theorem dX5_needed_39 : decode cX5_needed 39 = .ok (.getfield 60, 3) := by decide +kernel
theorem dX5_needed_42 : decode cX5_needed 42 = .ok (.iload 5, 2) := by decide +kernel
theorem dX5_needed_44 : decode cX5_needed 44 = .ok (.iaload, 1) := by decide +kernel
theorem dX5_needed_45 : decode cX5_needed 45 = .ok (.iload_n 1, 1) := by decide +kernel
theorem dX5_needed_46 : decode cX5_needed 46 = .ok (.if_icmp .ne 18, 3) := by decide +kernel
theorem dX5_needed_49 : decode cX5_needed 49 = .ok (.aload_n 0, 1) := by decide +kernel
theorem dX5_needed_50 : decode cX5_needed 50 = .ok (.iload_n 1, 1) := by decide +kernel
theorem dX5_needed_51 : decode cX5_needed 51 = .ok (.aload_n 0, 1) := by decide +kernel
theorem dX5_needed_52 : decode cX5_needed 52 = .ok (.getfield 63, 3) := by decide +kernel
theorem dX5_needed_55 : decode cX5_needed 55 = .ok (.iload 5, 2) := by decide +kernel
theorem dX5_needed_57 : decode cX5_needed 57 = .ok (.laload, 1) := by decide +kernel
theorem dX5_needed_58 : decode cX5_needed 58 = .ok (.invokevirtual 106, 3) := by decide +kernel
theorem dX5_needed_61 : decode cX5_needed 61 = .ok (.goto 4, 3) := by decide +kernel
theorem dX5_needed_64 : decode cX5_needed 64 = .ok (.lconst 0, 1) := by decide +kernel
theorem dX5_needed_65 : decode cX5_needed 65 = .ok (.ladd, 1) := by decide +kernel
theorem dX5_needed_66 : decode cX5_needed 66 = .ok (.lstore_n 2, 1) := by decide +kernel
theorem dX5_needed_67 : decode cX5_needed 67 = .ok (.iinc 5 1, 3) := by decide +kernel
theorem dX5_needed_70 : decode cX5_needed 70 = .ok (.goto (-50), 3) := by decide +kernel
theorem dX5_needed_73 : decode cX5_needed 73 = .ok (.iinc 4 1, 3) := by decide +kernel
theorem dX5_needed_76 : decode cX5_needed 76 = .ok (.goto (-71), 3) := by decide +kernel
theorem dX5_needed_79 : decode cX5_needed 79 = .ok (.lload_n 2, 1) := by decide +kernel
theorem dX5_needed_80 : decode cX5_needed 80 = .ok (.lreturn, 1) := by decide +kernel
theorem dX5_used_0 : decode cX5_used 0 = .ok (.iconst 0, 1) := by decide +kernel
theorem dX5_used_1 : decode cX5_used 1 = .ok (.istore_n 2, 1) := by decide +kernel
theorem dX5_used_2 : decode cX5_used 2 = .ok (.iconst 1, 1) := by decide +kernel
theorem dX5_used_3 : decode cX5_used 3 = .ok (.istore_n 3, 1) := by decide +kernel
theorem dX5_used_4 : decode cX5_used 4 = .ok (.iload_n 3, 1) := by decide +kernel
theorem dX5_used_5 : decode cX5_used 5 = .ok (.aload_n 0, 1) := by decide +kernel
theorem dX5_used_6 : decode cX5_used 6 = .ok (.getfield 79, 3) := by decide +kernel
theorem dX5_used_9 : decode cX5_used 9 = .ok (.if_icmp .gt 54, 3) := by decide +kernel
theorem dX5_used_12 : decode cX5_used 12 = .ok (.iconst 4, 1) := by decide +kernel
theorem dX5_used_13 : decode cX5_used 13 = .ok (.iload_n 3, 1) := by decide +kernel
theorem dX5_used_14 : decode cX5_used 14 = .ok (.imul, 1) := by decide +kernel
theorem dX5_used_15 : decode cX5_used 15 = .ok (.istore 4, 2) := by decide +kernel
theorem dX5_used_17 : decode cX5_used 17 = .ok (.iload 4, 2) := by decide +kernel
theorem dX5_used_19 : decode cX5_used 19 = .ok (.iconst 4, 1) := by decide +kernel
theorem dX5_used_20 : decode cX5_used 20 = .ok (.iload_n 3, 1) := by decide +kernel
theorem dX5_used_21 : decode cX5_used 21 = .ok (.imul, 1) := by decide +kernel
theorem dX5_used_22 : decode cX5_used 22 = .ok (.aload_n 0, 1) := by decide +kernel
theorem dX5_used_23 : decode cX5_used 23 = .ok (.getfield 57, 3) := by decide +kernel
theorem dX5_used_26 : decode cX5_used 26 = .ok (.iload_n 3, 1) := by decide +kernel
theorem dX5_used_27 : decode cX5_used 27 = .ok (.iaload, 1) := by decide +kernel
theorem dX5_used_28 : decode cX5_used 28 = .ok (.iadd, 1) := by decide +kernel
theorem dX5_used_29 : decode cX5_used 29 = .ok (.if_icmp .ge 28, 3) := by decide +kernel
theorem dX5_used_32 : decode cX5_used 32 = .ok (.iload_n 2, 1) := by decide +kernel
theorem dX5_used_33 : decode cX5_used 33 = .ok (.aload_n 0, 1) := by decide +kernel
theorem dX5_used_34 : decode cX5_used 34 = .ok (.getfield 60, 3) := by decide +kernel
theorem dX5_used_37 : decode cX5_used 37 = .ok (.iload 4, 2) := by decide +kernel
theorem dX5_used_39 : decode cX5_used 39 = .ok (.iaload, 1) := by decide +kernel
theorem dX5_used_40 : decode cX5_used 40 = .ok (.iload_n 1, 1) := by decide +kernel
theorem dX5_used_41 : decode cX5_used 41 = .ok (.if_icmp .ne 7, 3) := by decide +kernel
theorem dX5_used_44 : decode cX5_used 44 = .ok (.iconst 1, 1) := by decide +kernel
theorem dX5_used_45 : decode cX5_used 45 = .ok (.goto 4, 3) := by decide +kernel
theorem dX5_used_48 : decode cX5_used 48 = .ok (.iconst 0, 1) := by decide +kernel
theorem dX5_used_49 : decode cX5_used 49 = .ok (.iadd, 1) := by decide +kernel
theorem dX5_used_50 : decode cX5_used 50 = .ok (.istore_n 2, 1) := by decide +kernel
theorem dX5_used_51 : decode cX5_used 51 = .ok (.iinc 4 1, 3) := by decide +kernel
theorem dX5_used_54 : decode cX5_used 54 = .ok (.goto (-37), 3) := by decide +kernel
theorem dX5_used_57 : decode cX5_used 57 = .ok (.iinc 3 1, 3) := by decide +kernel
theorem dX5_used_60 : decode cX5_used 60 = .ok (.goto (-56), 3) := by decide +kernel
theorem dX5_used_63 : decode cX5_used 63 = .ok (.iload_n 2, 1) := by decide +kernel
theorem dX5_used_64 : decode cX5_used 64 = .ok (.ireturn, 1) := by decide +kernel
theorem dX5_freeOf_0 : decode cX5_freeOf 0 = .ok (.aload_n 0, 1) := by decide +kernel
theorem dX5_freeOf_1 : decode cX5_freeOf 1 = .ok (.getfield 13, 3) := by decide +kernel
theorem dX5_freeOf_4 : decode cX5_freeOf 4 = .ok (.iload_n 1, 1) := by decide +kernel
theorem dX5_freeOf_5 : decode cX5_freeOf 5 = .ok (.laload, 1) := by decide +kernel
theorem dX5_freeOf_6 : decode cX5_freeOf 6 = .ok (.aload_n 0, 1) := by decide +kernel
theorem dX5_freeOf_7 : decode cX5_freeOf 7 = .ok (.iload_n 1, 1) := by decide +kernel
theorem dX5_freeOf_8 : decode cX5_freeOf 8 = .ok (.invokevirtual 110, 3) := by decide +kernel
theorem dX5_freeOf_11 : decode cX5_freeOf 11 = .ok (.lsub, 1) := by decide +kernel
theorem dX5_freeOf_12 : decode cX5_freeOf 12 = .ok (.lstore_n 2, 1) := by decide +kernel
theorem dX5_freeOf_13 : decode cX5_freeOf 13 = .ok (.lload_n 2, 1) := by decide +kernel
theorem dX5_freeOf_14 : decode cX5_freeOf 14 = .ok (.lconst 0, 1) := by decide +kernel
theorem dX5_freeOf_15 : decode cX5_freeOf 15 = .ok (.lcmp, 1) := by decide +kernel
theorem dX5_freeOf_16 : decode cX5_freeOf 16 = .ok (.ifCond .ge 7, 3) := by decide +kernel
theorem dX5_freeOf_19 : decode cX5_freeOf 19 = .ok (.lconst 0, 1) := by decide +kernel
theorem dX5_freeOf_20 : decode cX5_freeOf 20 = .ok (.goto 4, 3) := by decide +kernel
theorem dX5_freeOf_23 : decode cX5_freeOf 23 = .ok (.lload_n 2, 1) := by decide +kernel
theorem dX5_freeOf_24 : decode cX5_freeOf 24 = .ok (.lreturn, 1) := by decide +kernel
theorem dX5_may_0 : decode cX5_may 0 = .ok (.aload_n 0, 1) := by decide +kernel
theorem dX5_may_1 : decode cX5_may 1 = .ok (.getfield 30, 3) := by decide +kernel
theorem dX5_may_4 : decode cX5_may 4 = .ok (.iload_n 1, 1) := by decide +kernel
theorem dX5_may_5 : decode cX5_may 5 = .ok (.baload, 1) := by decide +kernel
theorem dX5_may_6 : decode cX5_may 6 = .ok (.ifCond .ne 20, 3) := by decide +kernel
theorem dX5_may_9 : decode cX5_may 9 = .ok (.aload_n 0, 1) := by decide +kernel
theorem dX5_may_10 : decode cX5_may 10 = .ok (.getfield 23, 3) := by decide +kernel
theorem dX5_may_13 : decode cX5_may 13 = .ok (.iload_n 1, 1) := by decide +kernel
theorem dX5_may_14 : decode cX5_may 14 = .ok (.baload, 1) := by decide +kernel
theorem dX5_may_15 : decode cX5_may 15 = .ok (.ifCond .eq 13, 3) := by decide +kernel
theorem dX5_may_18 : decode cX5_may 18 = .ok (.aload_n 0, 1) := by decide +kernel
theorem dX5_may_19 : decode cX5_may 19 = .ok (.iload_n 1, 1) := by decide +kernel
theorem dX5_may_20 : decode cX5_may 20 = .ok (.invokevirtual 114, 3) := by decide +kernel
theorem dX5_may_23 : decode cX5_may 23 = .ok (.ifCond .le 5, 3) := by decide +kernel
theorem dX5_may_26 : decode cX5_may 26 = .ok (.lconst 0, 1) := by decide +kernel
theorem dX5_may_27 : decode cX5_may 27 = .ok (.lreturn, 1) := by decide +kernel
theorem dX5_may_28 : decode cX5_may 28 = .ok (.aload_n 0, 1) := by decide +kernel
theorem dX5_may_29 : decode cX5_may 29 = .ok (.getfield 17, 3) := by decide +kernel
theorem dX5_may_32 : decode cX5_may 32 = .ok (.iload_n 1, 1) := by decide +kernel
theorem dX5_may_33 : decode cX5_may 33 = .ok (.iaload, 1) := by decide +kernel
theorem dX5_may_34 : decode cX5_may 34 = .ok (.ifCond .ne 9, 3) := by decide +kernel
theorem dX5_may_37 : decode cX5_may 37 = .ok (.ldc2_w 82, 3) := by decide +kernel
theorem dX5_may_40 : decode cX5_may 40 = .ok (.goto 24, 3) := by decide +kernel
theorem dX5_may_43 : decode cX5_may 43 = .ok (.aload_n 0, 1) := by decide +kernel
theorem dX5_may_44 : decode cX5_may 44 = .ok (.iload_n 1, 1) := by decide +kernel
theorem dX5_may_45 : decode cX5_may 45 = .ok (.invokevirtual 117, 3) := by decide +kernel
theorem dX5_may_48 : decode cX5_may 48 = .ok (.aload_n 0, 1) := by decide +kernel
theorem dX5_may_49 : decode cX5_may 49 = .ok (.getfield 20, 3) := by decide +kernel
theorem dX5_may_52 : decode cX5_may 52 = .ok (.iload_n 1, 1) := by decide +kernel
theorem dX5_may_53 : decode cX5_may 53 = .ok (.iaload, 1) := by decide +kernel
theorem dX5_may_54 : decode cX5_may 54 = .ok (.i2l, 1) := by decide +kernel
theorem dX5_may_55 : decode cX5_may 55 = .ok (.lmul, 1) := by decide +kernel
theorem dX5_may_56 : decode cX5_may 56 = .ok (.aload_n 0, 1) := by decide +kernel
theorem dX5_may_57 : decode cX5_may 57 = .ok (.getfield 17, 3) := by decide +kernel
theorem dX5_may_60 : decode cX5_may 60 = .ok (.iload_n 1, 1) := by decide +kernel
theorem dX5_may_61 : decode cX5_may 61 = .ok (.iaload, 1) := by decide +kernel
theorem dX5_may_62 : decode cX5_may 62 = .ok (.i2l, 1) := by decide +kernel
theorem dX5_may_63 : decode cX5_may 63 = .ok (.ldiv, 1) := by decide +kernel
theorem dX5_may_64 : decode cX5_may 64 = .ok (.lreturn, 1) := by decide +kernel
theorem dX5_together_0 : decode cX5_together 0 = .ok (.lconst 0, 1) := by decide +kernel
theorem dX5_together_1 : decode cX5_together 1 = .ok (.lstore_n 2, 1) := by decide +kernel
theorem dX5_together_2 : decode cX5_together 2 = .ok (.iconst 1, 1) := by decide +kernel
theorem dX5_together_3 : decode cX5_together 3 = .ok (.istore 4, 2) := by decide +kernel
theorem dX5_together_5 : decode cX5_together 5 = .ok (.iload 4, 2) := by decide +kernel
theorem dX5_together_7 : decode cX5_together 7 = .ok (.aload_n 0, 1) := by decide +kernel
theorem dX5_together_8 : decode cX5_together 8 = .ok (.getfield 76, 3) := by decide +kernel
theorem dX5_together_11 : decode cX5_together 11 = .ok (.if_icmp .gt 33, 3) := by decide +kernel
theorem dX5_together_14 : decode cX5_together 14 = .ok (.lload_n 2, 1) := by decide +kernel
theorem dX5_together_15 : decode cX5_together 15 = .ok (.aload_n 0, 1) := by decide +kernel
theorem dX5_together_16 : decode cX5_together 16 = .ok (.getfield 7, 3) := by decide +kernel
theorem dX5_together_19 : decode cX5_together 19 = .ok (.iload 4, 2) := by decide +kernel
theorem dX5_together_21 : decode cX5_together 21 = .ok (.iaload, 1) := by decide +kernel
theorem dX5_together_22 : decode cX5_together 22 = .ok (.iload_n 1, 1) := by decide +kernel
theorem dX5_together_23 : decode cX5_together 23 = .ok (.if_icmp .ne 12, 3) := by decide +kernel
theorem dX5_together_26 : decode cX5_together 26 = .ok (.aload_n 0, 1) := by decide +kernel
theorem dX5_together_27 : decode cX5_together 27 = .ok (.iload 4, 2) := by decide +kernel
theorem dX5_together_29 : decode cX5_together 29 = .ok (.invokevirtual 120, 3) := by decide +kernel
theorem dX5_together_32 : decode cX5_together 32 = .ok (.goto 4, 3) := by decide +kernel
theorem dX5_together_35 : decode cX5_together 35 = .ok (.lconst 0, 1) := by decide +kernel
theorem dX5_together_36 : decode cX5_together 36 = .ok (.ladd, 1) := by decide +kernel
theorem dX5_together_37 : decode cX5_together 37 = .ok (.lstore_n 2, 1) := by decide +kernel
theorem dX5_together_38 : decode cX5_together 38 = .ok (.iinc 4 1, 3) := by decide +kernel
theorem dX5_together_41 : decode cX5_together 41 = .ok (.goto (-36), 3) := by decide +kernel
theorem dX5_together_44 : decode cX5_together 44 = .ok (.lload_n 2, 1) := by decide +kernel
theorem dX5_together_45 : decode cX5_together 45 = .ok (.ldc2_w 123, 3) := by decide +kernel
theorem dX5_together_48 : decode cX5_together 48 = .ok (.lcmp, 1) := by decide +kernel
theorem dX5_together_49 : decode cX5_together 49 = .ok (.ifCond .le 9, 3) := by decide +kernel
theorem dX5_together_52 : decode cX5_together 52 = .ok (.ldc2_w 123, 3) := by decide +kernel
theorem dX5_together_55 : decode cX5_together 55 = .ok (.goto 4, 3) := by decide +kernel
theorem dX5_together_58 : decode cX5_together 58 = .ok (.lload_n 2, 1) := by decide +kernel
theorem dX5_together_59 : decode cX5_together 59 = .ok (.lreturn, 1) := by decide +kernel
theorem dX5_free_0 : decode cX5_free 0 = .ok (.aload_n 0, 1) := by decide +kernel
theorem dX5_free_1 : decode cX5_free 1 = .ok (.iconst 0, 1) := by decide +kernel
theorem dX5_free_2 : decode cX5_free 2 = .ok (.putfield 72, 3) := by decide +kernel
theorem dX5_free_5 : decode cX5_free 5 = .ok (.iload_n 1, 1) := by decide +kernel
theorem dX5_free_6 : decode cX5_free 6 = .ok (.invokestatic 92, 3) := by decide +kernel
theorem dX5_free_9 : decode cX5_free 9 = .ok (.ifCond .eq 11, 3) := by decide +kernel
theorem dX5_free_12 : decode cX5_free 12 = .ok (.aload_n 0, 1) := by decide +kernel
theorem dX5_free_13 : decode cX5_free 13 = .ok (.iload_n 1, 1) := by decide +kernel
theorem dX5_free_14 : decode cX5_free 14 = .ok (.invokevirtual 125, 3) := by decide +kernel
theorem dX5_free_17 : decode cX5_free 17 = .ok (.goto 6, 3) := by decide +kernel
theorem dX5_free_20 : decode cX5_free 20 = .ok (.ldc2_w 128, 3) := by decide +kernel
theorem dX5_free_23 : decode cX5_free 23 = .ok (.lreturn, 1) := by decide +kernel
theorem dX5_lays_0 : decode cX5_lays 0 = .ok (.aload_n 0, 1) := by decide +kernel
theorem dX5_lays_1 : decode cX5_lays 1 = .ok (.getfield 79, 3) := by decide +kernel
theorem dX5_lays_4 : decode cX5_lays 4 = .ok (.iconst 1, 1) := by decide +kernel
theorem dX5_lays_5 : decode cX5_lays 5 = .ok (.iadd, 1) := by decide +kernel
theorem dX5_lays_6 : decode cX5_lays 6 = .ok (.istore 4, 2) := by decide +kernel
theorem dX5_lays_8 : decode cX5_lays 8 = .ok (.lload_n 2, 1) := by decide +kernel
theorem dX5_lays_9 : decode cX5_lays 9 = .ok (.lstore 5, 2) := by decide +kernel
theorem dX5_lays_11 : decode cX5_lays 11 = .ok (.iconst 0, 1) := by decide +kernel
theorem dX5_lays_12 : decode cX5_lays 12 = .ok (.istore 7, 2) := by decide +kernel
theorem dX5_lays_14 : decode cX5_lays 14 = .ok (.iconst 0, 1) := by decide +kernel
theorem dX5_lays_15 : decode cX5_lays 15 = .ok (.istore 8, 2) := by decide +kernel
theorem dX5_lays_17 : decode cX5_lays 17 = .ok (.iload 8, 2) := by decide +kernel
theorem dX5_lays_19 : decode cX5_lays 19 = .ok (.aload_n 0, 1) := by decide +kernel
theorem dX5_lays_20 : decode cX5_lays 20 = .ok (.getfield 76, 3) := by decide +kernel
theorem dX5_lays_23 : decode cX5_lays 23 = .ok (.if_icmp .ge 125, 3) := by decide +kernel
theorem dX5_lays_26 : decode cX5_lays 26 = .ok (.lload 5, 2) := by decide +kernel
theorem dX5_lays_28 : decode cX5_lays 28 = .ok (.lconst 0, 1) := by decide +kernel
theorem dX5_lays_29 : decode cX5_lays 29 = .ok (.lcmp, 1) := by decide +kernel
theorem dX5_lays_30 : decode cX5_lays 30 = .ok (.ifCond .le 118, 3) := by decide +kernel
theorem dX5_lays_33 : decode cX5_lays 33 = .ok (.aload_n 0, 1) := by decide +kernel
theorem dX5_lays_34 : decode cX5_lays 34 = .ok (.getfield 45, 3) := by decide +kernel
theorem dX5_lays_37 : decode cX5_lays 37 = .ok (.iload 8, 2) := by decide +kernel
theorem dX5_lays_39 : decode cX5_lays 39 = .ok (.iaload, 1) := by decide +kernel
theorem dX5_lays_40 : decode cX5_lays 40 = .ok (.istore 9, 2) := by decide +kernel
theorem dX5_lays_42 : decode cX5_lays 42 = .ok (.aload_n 0, 1) := by decide +kernel
theorem dX5_lays_43 : decode cX5_lays 43 = .ok (.getfield 7, 3) := by decide +kernel
theorem dX5_lays_46 : decode cX5_lays 46 = .ok (.iload 9, 2) := by decide +kernel
theorem dX5_lays_48 : decode cX5_lays 48 = .ok (.iaload, 1) := by decide +kernel
theorem dX5_lays_49 : decode cX5_lays 49 = .ok (.iload_n 1, 1) := by decide +kernel
theorem dX5_lays_50 : decode cX5_lays 50 = .ok (.if_icmp .ne 12, 3) := by decide +kernel
theorem dX5_lays_53 : decode cX5_lays 53 = .ok (.aload_n 0, 1) := by decide +kernel
theorem dX5_lays_54 : decode cX5_lays 54 = .ok (.iload 9, 2) := by decide +kernel
theorem dX5_lays_56 : decode cX5_lays 56 = .ok (.invokevirtual 120, 3) := by decide +kernel
theorem dX5_lays_59 : decode cX5_lays 59 = .ok (.goto 4, 3) := by decide +kernel
theorem dX5_lays_62 : decode cX5_lays 62 = .ok (.lconst 0, 1) := by decide +kernel
theorem dX5_lays_63 : decode cX5_lays 63 = .ok (.lstore 10, 2) := by decide +kernel
theorem dX5_lays_65 : decode cX5_lays 65 = .ok (.lload 10, 2) := by decide +kernel
theorem dX5_lays_67 : decode cX5_lays 67 = .ok (.lload 5, 2) := by decide +kernel
theorem dX5_lays_69 : decode cX5_lays 69 = .ok (.lcmp, 1) := by decide +kernel
theorem dX5_lays_70 : decode cX5_lays 70 = .ok (.ifCond .ge 8, 3) := by decide +kernel
theorem dX5_lays_73 : decode cX5_lays 73 = .ok (.lload 10, 2) := by decide +kernel
theorem dX5_lays_75 : decode cX5_lays 75 = .ok (.goto 5, 3) := by decide +kernel
theorem dX5_lays_78 : decode cX5_lays 78 = .ok (.lload 5, 2) := by decide +kernel
theorem dX5_lays_80 : decode cX5_lays 80 = .ok (.lstore 10, 2) := by decide +kernel
theorem dX5_lays_82 : decode cX5_lays 82 = .ok (.lload 10, 2) := by decide +kernel
theorem dX5_lays_84 : decode cX5_lays 84 = .ok (.lconst 0, 1) := by decide +kernel
theorem dX5_lays_85 : decode cX5_lays 85 = .ok (.lcmp, 1) := by decide +kernel
theorem dX5_lays_86 : decode cX5_lays 86 = .ok (.ifCond .le 11, 3) := by decide +kernel
theorem dX5_lays_89 : decode cX5_lays 89 = .ok (.iload 7, 2) := by decide +kernel
theorem dX5_lays_91 : decode cX5_lays 91 = .ok (.iconst 4, 1) := by decide +kernel
theorem dX5_lays_92 : decode cX5_lays 92 = .ok (.if_icmp .ne 5, 3) := by decide +kernel
theorem dX5_lays_95 : decode cX5_lays 95 = .ok (.iconst 0, 1) := by decide +kernel
theorem dX5_lays_96 : decode cX5_lays 96 = .ok (.ireturn, 1) := by decide +kernel
theorem dX5_lays_97 : decode cX5_lays 97 = .ok (.lload 10, 2) := by decide +kernel
theorem dX5_lays_99 : decode cX5_lays 99 = .ok (.lconst 0, 1) := by decide +kernel
theorem dX5_lays_100 : decode cX5_lays 100 = .ok (.lcmp, 1) := by decide +kernel
theorem dX5_lays_101 : decode cX5_lays 101 = .ok (.ifCond .le 41, 3) := by decide +kernel
theorem dX5_lays_104 : decode cX5_lays 104 = .ok (.aload_n 0, 1) := by decide +kernel
theorem dX5_lays_105 : decode cX5_lays 105 = .ok (.getfield 60, 3) := by decide +kernel
theorem dX5_lays_108 : decode cX5_lays 108 = .ok (.iconst 4, 1) := by decide +kernel
theorem dX5_lays_109 : decode cX5_lays 109 = .ok (.iload 4, 2) := by decide +kernel
theorem dX5_lays_111 : decode cX5_lays 111 = .ok (.imul, 1) := by decide +kernel
theorem dX5_lays_112 : decode cX5_lays 112 = .ok (.iload 7, 2) := by decide +kernel
theorem dX5_lays_114 : decode cX5_lays 114 = .ok (.iadd, 1) := by decide +kernel
theorem dX5_lays_115 : decode cX5_lays 115 = .ok (.iload 9, 2) := by decide +kernel
theorem dX5_lays_117 : decode cX5_lays 117 = .ok (.iastore, 1) := by decide +kernel
theorem dX5_lays_118 : decode cX5_lays 118 = .ok (.aload_n 0, 1) := by decide +kernel
theorem dX5_lays_119 : decode cX5_lays 119 = .ok (.getfield 63, 3) := by decide +kernel
theorem dX5_lays_122 : decode cX5_lays 122 = .ok (.iconst 4, 1) := by decide +kernel
theorem dX5_lays_123 : decode cX5_lays 123 = .ok (.iload 4, 2) := by decide +kernel
theorem dX5_lays_125 : decode cX5_lays 125 = .ok (.imul, 1) := by decide +kernel
theorem dX5_lays_126 : decode cX5_lays 126 = .ok (.iload 7, 2) := by decide +kernel
theorem dX5_lays_128 : decode cX5_lays 128 = .ok (.iadd, 1) := by decide +kernel
theorem dX5_lays_129 : decode cX5_lays 129 = .ok (.lload 10, 2) := by decide +kernel
theorem dX5_lays_131 : decode cX5_lays 131 = .ok (.lastore, 1) := by decide +kernel
theorem dX5_lays_132 : decode cX5_lays 132 = .ok (.iinc 7 1, 3) := by decide +kernel
theorem dX5_lays_135 : decode cX5_lays 135 = .ok (.lload 5, 2) := by decide +kernel
theorem dX5_lays_137 : decode cX5_lays 137 = .ok (.lload 10, 2) := by decide +kernel
theorem dX5_lays_139 : decode cX5_lays 139 = .ok (.lsub, 1) := by decide +kernel
theorem dX5_lays_140 : decode cX5_lays 140 = .ok (.lstore 5, 2) := by decide +kernel
theorem dX5_lays_142 : decode cX5_lays 142 = .ok (.iinc 8 1, 3) := by decide +kernel
theorem dX5_lays_145 : decode cX5_lays 145 = .ok (.goto (-128), 3) := by decide +kernel
theorem dX5_lays_148 : decode cX5_lays 148 = .ok (.aload_n 0, 1) := by decide +kernel
theorem dX5_lays_149 : decode cX5_lays 149 = .ok (.getfield 57, 3) := by decide +kernel
theorem dX5_lays_152 : decode cX5_lays 152 = .ok (.iload 4, 2) := by decide +kernel
theorem dX5_lays_154 : decode cX5_lays 154 = .ok (.lload 5, 2) := by decide +kernel
theorem dX5_lays_156 : decode cX5_lays 156 = .ok (.lconst 0, 1) := by decide +kernel
theorem dX5_lays_157 : decode cX5_lays 157 = .ok (.lcmp, 1) := by decide +kernel
theorem dX5_lays_158 : decode cX5_lays 158 = .ok (.ifCond .ne 8, 3) := by decide +kernel
theorem dX5_lays_161 : decode cX5_lays 161 = .ok (.iload 7, 2) := by decide +kernel
theorem dX5_lays_163 : decode cX5_lays 163 = .ok (.goto 4, 3) := by decide +kernel
theorem dX5_lays_166 : decode cX5_lays 166 = .ok (.iconst 0, 1) := by decide +kernel
theorem dX5_lays_167 : decode cX5_lays 167 = .ok (.iastore, 1) := by decide +kernel
theorem dX5_lays_168 : decode cX5_lays 168 = .ok (.lload 5, 2) := by decide +kernel
theorem dX5_lays_170 : decode cX5_lays 170 = .ok (.lconst 0, 1) := by decide +kernel
theorem dX5_lays_171 : decode cX5_lays 171 = .ok (.lcmp, 1) := by decide +kernel
theorem dX5_lays_172 : decode cX5_lays 172 = .ok (.ifCond .ne 7, 3) := by decide +kernel
theorem dX5_lays_175 : decode cX5_lays 175 = .ok (.iconst 1, 1) := by decide +kernel
theorem dX5_lays_176 : decode cX5_lays 176 = .ok (.goto 4, 3) := by decide +kernel
theorem dX5_lays_179 : decode cX5_lays 179 = .ok (.iconst 0, 1) := by decide +kernel
theorem dX5_lays_180 : decode cX5_lays 180 = .ok (.ireturn, 1) := by decide +kernel
theorem dX5_reserve_0 : decode cX5_reserve 0 = .ok (.iload_n 1, 1) := by decide +kernel
theorem dX5_reserve_1 : decode cX5_reserve 1 = .ok (.i2l, 1) := by decide +kernel
theorem dX5_reserve_2 : decode cX5_reserve 2 = .ok (.lconst 0, 1) := by decide +kernel
theorem dX5_reserve_3 : decode cX5_reserve 3 = .ok (.ldc2_w 130, 3) := by decide +kernel
theorem dX5_reserve_6 : decode cX5_reserve 6 = .ok (.invokestatic 84, 3) := by decide +kernel
theorem dX5_reserve_9 : decode cX5_reserve 9 = .ok (.ifCond .eq 21, 3) := by decide +kernel
theorem dX5_reserve_12 : decode cX5_reserve 12 = .ok (.iload_n 2, 1) := by decide +kernel
theorem dX5_reserve_13 : decode cX5_reserve 13 = .ok (.invokestatic 92, 3) := by decide +kernel
theorem dX5_reserve_16 : decode cX5_reserve 16 = .ok (.ifCond .eq 14, 3) := by decide +kernel
theorem dX5_reserve_19 : decode cX5_reserve 19 = .ok (.lload_n 3, 1) := by decide +kernel
theorem dX5_reserve_20 : decode cX5_reserve 20 = .ok (.lconst 1, 1) := by decide +kernel
theorem dX5_reserve_21 : decode cX5_reserve 21 = .ok (.ldc2_w 82, 3) := by decide +kernel
theorem dX5_reserve_24 : decode cX5_reserve 24 = .ok (.invokestatic 84, 3) := by decide +kernel
theorem dX5_reserve_27 : decode cX5_reserve 27 = .ok (.ifCond .ne 9, 3) := by decide +kernel
theorem dX5_reserve_30 : decode cX5_reserve 30 = .ok (.aload_n 0, 1) := by decide +kernel
theorem dX5_reserve_31 : decode cX5_reserve 31 = .ok (.iconst 1, 1) := by decide +kernel
theorem dX5_reserve_32 : decode cX5_reserve 32 = .ok (.invokevirtual 96, 3) := by decide +kernel
theorem dX5_reserve_35 : decode cX5_reserve 35 = .ok (.ireturn, 1) := by decide +kernel
theorem dX5_reserve_36 : decode cX5_reserve 36 = .ok (.aload_n 0, 1) := by decide +kernel
theorem dX5_reserve_37 : decode cX5_reserve 37 = .ok (.getfield 79, 3) := by decide +kernel
theorem dX5_reserve_40 : decode cX5_reserve 40 = .ok (.bipush 60, 2) := by decide +kernel
theorem dX5_reserve_42 : decode cX5_reserve 42 = .ok (.if_icmp .ne 9, 3) := by decide +kernel
theorem dX5_reserve_45 : decode cX5_reserve 45 = .ok (.aload_n 0, 1) := by decide +kernel
theorem dX5_reserve_46 : decode cX5_reserve 46 = .ok (.iconst 2, 1) := by decide +kernel
theorem dX5_reserve_47 : decode cX5_reserve 47 = .ok (.invokevirtual 96, 3) := by decide +kernel
theorem dX5_reserve_50 : decode cX5_reserve 50 = .ok (.ireturn, 1) := by decide +kernel
theorem dX5_reserve_51 : decode cX5_reserve 51 = .ok (.aload_n 0, 1) := by decide +kernel
theorem dX5_reserve_52 : decode cX5_reserve 52 = .ok (.iconst 0, 1) := by decide +kernel
theorem dX5_reserve_53 : decode cX5_reserve 53 = .ok (.putfield 72, 3) := by decide +kernel
theorem dX5_reserve_56 : decode cX5_reserve 56 = .ok (.aload_n 0, 1) := by decide +kernel
theorem dX5_reserve_57 : decode cX5_reserve 57 = .ok (.iload_n 2, 1) := by decide +kernel
theorem dX5_reserve_58 : decode cX5_reserve 58 = .ok (.lload_n 3, 1) := by decide +kernel
theorem dX5_reserve_59 : decode cX5_reserve 59 = .ok (.invokevirtual 132, 3) := by decide +kernel
theorem dX5_reserve_62 : decode cX5_reserve 62 = .ok (.ifCond .ne 14, 3) := by decide +kernel
theorem dX5_reserve_65 : decode cX5_reserve 65 = .ok (.ldc2_w 136, 3) := by decide +kernel
theorem dX5_reserve_68 : decode cX5_reserve 68 = .ok (.aload_n 0, 1) := by decide +kernel
theorem dX5_reserve_69 : decode cX5_reserve 69 = .ok (.iload_n 2, 1) := by decide +kernel
theorem dX5_reserve_70 : decode cX5_reserve 70 = .ok (.invokevirtual 125, 3) := by decide +kernel
theorem dX5_reserve_73 : decode cX5_reserve 73 = .ok (.lsub, 1) := by decide +kernel
theorem dX5_reserve_74 : decode cX5_reserve 74 = .ok (.l2i, 1) := by decide +kernel
theorem dX5_reserve_75 : decode cX5_reserve 75 = .ok (.ireturn, 1) := by decide +kernel
theorem dX5_reserve_76 : decode cX5_reserve 76 = .ok (.aload_n 0, 1) := by decide +kernel
theorem dX5_reserve_77 : decode cX5_reserve 77 = .ok (.getfield 66, 3) := by decide +kernel
theorem dX5_reserve_80 : decode cX5_reserve 80 = .ok (.iload_n 1, 1) := by decide +kernel
theorem dX5_reserve_81 : decode cX5_reserve 81 = .ok (.baload, 1) := by decide +kernel
theorem dX5_reserve_82 : decode cX5_reserve 82 = .ok (.ifCond .eq 34, 3) := by decide +kernel
theorem dX5_reserve_85 : decode cX5_reserve 85 = .ok (.aload_n 0, 1) := by decide +kernel
theorem dX5_reserve_86 : decode cX5_reserve 86 = .ok (.getfield 66, 3) := by decide +kernel
theorem dX5_reserve_89 : decode cX5_reserve 89 = .ok (.iload_n 1, 1) := by decide +kernel
theorem dX5_reserve_90 : decode cX5_reserve 90 = .ok (.iconst 0, 1) := by decide +kernel
theorem dX5_reserve_91 : decode cX5_reserve 91 = .ok (.bastore, 1) := by decide +kernel
theorem dX5_reserve_92 : decode cX5_reserve 92 = .ok (.aload_n 0, 1) := by decide +kernel
theorem dX5_reserve_93 : decode cX5_reserve 93 = .ok (.getfield 69, 3) := by decide +kernel
theorem dX5_reserve_96 : decode cX5_reserve 96 = .ok (.iload_n 1, 1) := by decide +kernel
theorem dX5_reserve_97 : decode cX5_reserve 97 = .ok (.dup2, 1) := by decide +kernel
theorem dX5_reserve_98 : decode cX5_reserve 98 = .ok (.iaload, 1) := by decide +kernel
theorem dX5_reserve_99 : decode cX5_reserve 99 = .ok (.iconst 1, 1) := by decide +kernel
theorem dX5_reserve_100 : decode cX5_reserve 100 = .ok (.iadd, 1) := by decide +kernel
theorem dX5_reserve_101 : decode cX5_reserve 101 = .ok (.iastore, 1) := by decide +kernel
theorem dX5_reserve_102 : decode cX5_reserve 102 = .ok (.aload_n 0, 1) := by decide +kernel
theorem dX5_reserve_103 : decode cX5_reserve 103 = .ok (.getfield 57, 3) := by decide +kernel
theorem dX5_reserve_106 : decode cX5_reserve 106 = .ok (.aload_n 0, 1) := by decide +kernel
theorem dX5_reserve_107 : decode cX5_reserve 107 = .ok (.getfield 79, 3) := by decide +kernel
theorem dX5_reserve_110 : decode cX5_reserve 110 = .ok (.iconst 1, 1) := by decide +kernel
theorem dX5_reserve_111 : decode cX5_reserve 111 = .ok (.iadd, 1) := by decide +kernel
theorem dX5_reserve_112 : decode cX5_reserve 112 = .ok (.iconst 0, 1) := by decide +kernel
theorem dX5_reserve_113 : decode cX5_reserve 113 = .ok (.iastore, 1) := by decide +kernel
theorem dX5_reserve_114 : decode cX5_reserve 114 = .ok (.iconst (-1), 1) := by decide +kernel
theorem dX5_reserve_115 : decode cX5_reserve 115 = .ok (.ireturn, 1) := by decide +kernel
theorem dX5_reserve_116 : decode cX5_reserve 116 = .ok (.aload_n 0, 1) := by decide +kernel
theorem dX5_reserve_117 : decode cX5_reserve 117 = .ok (.dup, 1) := by decide +kernel
theorem dX5_reserve_118 : decode cX5_reserve 118 = .ok (.getfield 79, 3) := by decide +kernel
theorem dX5_reserve_121 : decode cX5_reserve 121 = .ok (.iconst 1, 1) := by decide +kernel
theorem dX5_reserve_122 : decode cX5_reserve 122 = .ok (.iadd, 1) := by decide +kernel
theorem dX5_reserve_123 : decode cX5_reserve 123 = .ok (.putfield 79, 3) := by decide +kernel
theorem dX5_reserve_126 : decode cX5_reserve 126 = .ok (.aload_n 0, 1) := by decide +kernel
theorem dX5_reserve_127 : decode cX5_reserve 127 = .ok (.getfield 48, 3) := by decide +kernel
theorem dX5_reserve_130 : decode cX5_reserve 130 = .ok (.aload_n 0, 1) := by decide +kernel
theorem dX5_reserve_131 : decode cX5_reserve 131 = .ok (.getfield 79, 3) := by decide +kernel
theorem dX5_reserve_134 : decode cX5_reserve 134 = .ok (.iload_n 2, 1) := by decide +kernel
theorem dX5_reserve_135 : decode cX5_reserve 135 = .ok (.iastore, 1) := by decide +kernel
theorem dX5_reserve_136 : decode cX5_reserve 136 = .ok (.aload_n 0, 1) := by decide +kernel
theorem dX5_reserve_137 : decode cX5_reserve 137 = .ok (.getfield 51, 3) := by decide +kernel
theorem dX5_reserve_140 : decode cX5_reserve 140 = .ok (.aload_n 0, 1) := by decide +kernel
theorem dX5_reserve_141 : decode cX5_reserve 141 = .ok (.getfield 79, 3) := by decide +kernel
theorem dX5_reserve_144 : decode cX5_reserve 144 = .ok (.lload_n 3, 1) := by decide +kernel
theorem dX5_reserve_145 : decode cX5_reserve 145 = .ok (.lastore, 1) := by decide +kernel
theorem dX5_reserve_146 : decode cX5_reserve 146 = .ok (.aload_n 0, 1) := by decide +kernel
theorem dX5_reserve_147 : decode cX5_reserve 147 = .ok (.getfield 79, 3) := by decide +kernel
theorem dX5_reserve_150 : decode cX5_reserve 150 = .ok (.ireturn, 1) := by decide +kernel
theorem dX5_covered_0 : decode cX5_covered 0 = .ok (.lconst 0, 1) := by decide +kernel
theorem dX5_covered_1 : decode cX5_covered 1 = .ok (.lstore_n 2, 1) := by decide +kernel
theorem dX5_covered_2 : decode cX5_covered 2 = .ok (.iconst 4, 1) := by decide +kernel
theorem dX5_covered_3 : decode cX5_covered 3 = .ok (.iload_n 1, 1) := by decide +kernel
theorem dX5_covered_4 : decode cX5_covered 4 = .ok (.imul, 1) := by decide +kernel
theorem dX5_covered_5 : decode cX5_covered 5 = .ok (.istore 4, 2) := by decide +kernel
theorem dX5_covered_7 : decode cX5_covered 7 = .ok (.iload 4, 2) := by decide +kernel
theorem dX5_covered_9 : decode cX5_covered 9 = .ok (.iconst 4, 1) := by decide +kernel
theorem dX5_covered_10 : decode cX5_covered 10 = .ok (.iload_n 1, 1) := by decide +kernel
theorem dX5_covered_11 : decode cX5_covered 11 = .ok (.imul, 1) := by decide +kernel
theorem dX5_covered_12 : decode cX5_covered 12 = .ok (.aload_n 0, 1) := by decide +kernel
theorem dX5_covered_13 : decode cX5_covered 13 = .ok (.getfield 57, 3) := by decide +kernel
theorem dX5_covered_16 : decode cX5_covered 16 = .ok (.iload_n 1, 1) := by decide +kernel
theorem dX5_covered_17 : decode cX5_covered 17 = .ok (.iaload, 1) := by decide +kernel
theorem dX5_covered_18 : decode cX5_covered 18 = .ok (.iadd, 1) := by decide +kernel
theorem dX5_covered_19 : decode cX5_covered 19 = .ok (.if_icmp .ge 19, 3) := by decide +kernel
theorem dX5_covered_22 : decode cX5_covered 22 = .ok (.lload_n 2, 1) := by decide +kernel
theorem dX5_covered_23 : decode cX5_covered 23 = .ok (.aload_n 0, 1) := by decide +kernel
theorem dX5_covered_24 : decode cX5_covered 24 = .ok (.getfield 63, 3) := by decide +kernel
theorem dX5_covered_27 : decode cX5_covered 27 = .ok (.iload 4, 2) := by decide +kernel
theorem dX5_covered_29 : decode cX5_covered 29 = .ok (.laload, 1) := by decide +kernel
theorem dX5_covered_30 : decode cX5_covered 30 = .ok (.ladd, 1) := by decide +kernel
theorem dX5_covered_31 : decode cX5_covered 31 = .ok (.lstore_n 2, 1) := by decide +kernel
theorem dX5_covered_32 : decode cX5_covered 32 = .ok (.iinc 4 1, 3) := by decide +kernel
theorem dX5_covered_35 : decode cX5_covered 35 = .ok (.goto (-28), 3) := by decide +kernel
theorem dX5_covered_38 : decode cX5_covered 38 = .ok (.lload_n 2, 1) := by decide +kernel
theorem dX5_covered_39 : decode cX5_covered 39 = .ok (.lreturn, 1) := by decide +kernel
theorem dX5_end_0 : decode cX5_end 0 = .ok (.aload_n 0, 1) := by decide +kernel
theorem dX5_end_1 : decode cX5_end 1 = .ok (.iload_n 1, 1) := by decide +kernel
theorem dX5_end_2 : decode cX5_end 2 = .ok (.invokevirtual 138, 3) := by decide +kernel
theorem dX5_end_5 : decode cX5_end 5 = .ok (.ifCond .eq 13, 3) := by decide +kernel
theorem dX5_end_8 : decode cX5_end 8 = .ok (.iload_n 2, 1) := by decide +kernel
theorem dX5_end_9 : decode cX5_end 9 = .ok (.iconst 1, 1) := by decide +kernel
theorem dX5_end_10 : decode cX5_end 10 = .ok (.if_icmp .lt 8, 3) := by decide +kernel
theorem dX5_end_13 : decode cX5_end 13 = .ok (.iload_n 2, 1) := by decide +kernel
theorem dX5_end_14 : decode cX5_end 14 = .ok (.iconst 2, 1) := by decide +kernel
theorem dX5_end_15 : decode cX5_end 15 = .ok (.if_icmp .le 9, 3) := by decide +kernel
theorem dX5_end_18 : decode cX5_end 18 = .ok (.aload_n 0, 1) := by decide +kernel
theorem dX5_end_19 : decode cX5_end 19 = .ok (.iconst 1, 1) := by decide +kernel
theorem dX5_end_20 : decode cX5_end 20 = .ok (.invokevirtual 96, 3) := by decide +kernel
theorem dX5_end_23 : decode cX5_end 23 = .ok (.ireturn, 1) := by decide +kernel
theorem dX5_end_24 : decode cX5_end 24 = .ok (.aload_n 0, 1) := by decide +kernel
theorem dX5_end_25 : decode cX5_end 25 = .ok (.iconst 0, 1) := by decide +kernel
theorem dX5_end_26 : decode cX5_end 26 = .ok (.putfield 72, 3) := by decide +kernel
theorem dX5_end_29 : decode cX5_end 29 = .ok (.aload_n 0, 1) := by decide +kernel
theorem dX5_end_30 : decode cX5_end 30 = .ok (.getfield 54, 3) := by decide +kernel
theorem dX5_end_33 : decode cX5_end 33 = .ok (.iload_n 1, 1) := by decide +kernel
theorem dX5_end_34 : decode cX5_end 34 = .ok (.iaload, 1) := by decide +kernel
theorem dX5_end_35 : decode cX5_end 35 = .ok (.ifCond .le 5, 3) := by decide +kernel
theorem dX5_end_38 : decode cX5_end 38 = .ok (.iconst 0, 1) := by decide +kernel
theorem dX5_end_39 : decode cX5_end 39 = .ok (.ireturn, 1) := by decide +kernel
theorem dX5_end_40 : decode cX5_end 40 = .ok (.aload_n 0, 1) := by decide +kernel
theorem dX5_end_41 : decode cX5_end 41 = .ok (.getfield 54, 3) := by decide +kernel
theorem dX5_end_44 : decode cX5_end 44 = .ok (.iload_n 1, 1) := by decide +kernel
theorem dX5_end_45 : decode cX5_end 45 = .ok (.iload_n 2, 1) := by decide +kernel
theorem dX5_end_46 : decode cX5_end 46 = .ok (.iastore, 1) := by decide +kernel
theorem dX5_end_47 : decode cX5_end 47 = .ok (.aload_n 0, 1) := by decide +kernel
theorem dX5_end_48 : decode cX5_end 48 = .ok (.getfield 57, 3) := by decide +kernel
theorem dX5_end_51 : decode cX5_end 51 = .ok (.iload_n 1, 1) := by decide +kernel
theorem dX5_end_52 : decode cX5_end 52 = .ok (.iconst 0, 1) := by decide +kernel
theorem dX5_end_53 : decode cX5_end 53 = .ok (.iastore, 1) := by decide +kernel
theorem dX5_end_54 : decode cX5_end 54 = .ok (.iconst 1, 1) := by decide +kernel
theorem dX5_end_55 : decode cX5_end 55 = .ok (.ireturn, 1) := by decide +kernel
theorem dX5_reduce_0 : decode cX5_reduce 0 = .ok (.aload_n 0, 1) := by decide +kernel
theorem dX5_reduce_1 : decode cX5_reduce 1 = .ok (.iload_n 1, 1) := by decide +kernel
theorem dX5_reduce_2 : decode cX5_reduce 2 = .ok (.invokevirtual 138, 3) := by decide +kernel
theorem dX5_reduce_5 : decode cX5_reduce 5 = .ok (.ifCond .eq 9, 3) := by decide +kernel
theorem dX5_reduce_8 : decode cX5_reduce 8 = .ok (.lload_n 2, 1) := by decide +kernel
theorem dX5_reduce_9 : decode cX5_reduce 9 = .ok (.lconst 1, 1) := by decide +kernel
theorem dX5_reduce_10 : decode cX5_reduce 10 = .ok (.lcmp, 1) := by decide +kernel
theorem dX5_reduce_11 : decode cX5_reduce 11 = .ok (.ifCond .ge 10, 3) := by decide +kernel
theorem dX5_reduce_14 : decode cX5_reduce 14 = .ok (.aload_n 0, 1) := by decide +kernel
theorem dX5_reduce_15 : decode cX5_reduce 15 = .ok (.iconst 1, 1) := by decide +kernel
theorem dX5_reduce_16 : decode cX5_reduce 16 = .ok (.invokevirtual 96, 3) := by decide +kernel
theorem dX5_reduce_19 : decode cX5_reduce 19 = .ok (.i2l, 1) := by decide +kernel
theorem dX5_reduce_20 : decode cX5_reduce 20 = .ok (.lreturn, 1) := by decide +kernel
theorem dX5_reduce_21 : decode cX5_reduce 21 = .ok (.aload_n 0, 1) := by decide +kernel
theorem dX5_reduce_22 : decode cX5_reduce 22 = .ok (.iconst 0, 1) := by decide +kernel
theorem dX5_reduce_23 : decode cX5_reduce 23 = .ok (.putfield 72, 3) := by decide +kernel
theorem dX5_reduce_26 : decode cX5_reduce 26 = .ok (.aload_n 0, 1) := by decide +kernel
theorem dX5_reduce_27 : decode cX5_reduce 27 = .ok (.getfield 54, 3) := by decide +kernel
theorem dX5_reduce_30 : decode cX5_reduce 30 = .ok (.iload_n 1, 1) := by decide +kernel
theorem dX5_reduce_31 : decode cX5_reduce 31 = .ok (.iaload, 1) := by decide +kernel
theorem dX5_reduce_32 : decode cX5_reduce 32 = .ok (.ifCond .gt 13, 3) := by decide +kernel
theorem dX5_reduce_35 : decode cX5_reduce 35 = .ok (.aload_n 0, 1) := by decide +kernel
theorem dX5_reduce_36 : decode cX5_reduce 36 = .ok (.iload_n 1, 1) := by decide +kernel
theorem dX5_reduce_37 : decode cX5_reduce 37 = .ok (.invokevirtual 141, 3) := by decide +kernel
theorem dX5_reduce_40 : decode cX5_reduce 40 = .ok (.lload_n 2, 1) := by decide +kernel
theorem dX5_reduce_41 : decode cX5_reduce 41 = .ok (.lcmp, 1) := by decide +kernel
theorem dX5_reduce_42 : decode cX5_reduce 42 = .ok (.ifCond .gt 7, 3) := by decide +kernel
theorem dX5_reduce_45 : decode cX5_reduce 45 = .ok (.ldc2_w 128, 3) := by decide +kernel
theorem dX5_reduce_48 : decode cX5_reduce 48 = .ok (.lreturn, 1) := by decide +kernel
theorem dX5_reduce_49 : decode cX5_reduce 49 = .ok (.lload_n 2, 1) := by decide +kernel
theorem dX5_reduce_50 : decode cX5_reduce 50 = .ok (.lstore 4, 2) := by decide +kernel
theorem dX5_reduce_52 : decode cX5_reduce 52 = .ok (.lload 4, 2) := by decide +kernel
theorem dX5_reduce_54 : decode cX5_reduce 54 = .ok (.lconst 0, 1) := by decide +kernel
theorem dX5_reduce_55 : decode cX5_reduce 55 = .ok (.lcmp, 1) := by decide +kernel
theorem dX5_reduce_56 : decode cX5_reduce 56 = .ok (.ifCond .le 92, 3) := by decide +kernel
theorem dX5_reduce_59 : decode cX5_reduce 59 = .ok (.iconst 4, 1) := by decide +kernel
theorem dX5_reduce_60 : decode cX5_reduce 60 = .ok (.iload_n 1, 1) := by decide +kernel
theorem dX5_reduce_61 : decode cX5_reduce 61 = .ok (.imul, 1) := by decide +kernel
theorem dX5_reduce_62 : decode cX5_reduce 62 = .ok (.aload_n 0, 1) := by decide +kernel
theorem dX5_reduce_63 : decode cX5_reduce 63 = .ok (.getfield 57, 3) := by decide +kernel
theorem dX5_reduce_66 : decode cX5_reduce 66 = .ok (.iload_n 1, 1) := by decide +kernel
theorem dX5_reduce_67 : decode cX5_reduce 67 = .ok (.iaload, 1) := by decide +kernel
theorem dX5_reduce_68 : decode cX5_reduce 68 = .ok (.iadd, 1) := by decide +kernel
theorem dX5_reduce_69 : decode cX5_reduce 69 = .ok (.iconst 1, 1) := by decide +kernel
theorem dX5_reduce_70 : decode cX5_reduce 70 = .ok (.isub, 1) := by decide +kernel
theorem dX5_reduce_71 : decode cX5_reduce 71 = .ok (.istore 6, 2) := by decide +kernel
theorem dX5_reduce_73 : decode cX5_reduce 73 = .ok (.aload_n 0, 1) := by decide +kernel
theorem dX5_reduce_74 : decode cX5_reduce 74 = .ok (.getfield 63, 3) := by decide +kernel
theorem dX5_reduce_77 : decode cX5_reduce 77 = .ok (.iload 6, 2) := by decide +kernel
theorem dX5_reduce_79 : decode cX5_reduce 79 = .ok (.laload, 1) := by decide +kernel
theorem dX5_reduce_80 : decode cX5_reduce 80 = .ok (.lload 4, 2) := by decide +kernel
theorem dX5_reduce_82 : decode cX5_reduce 82 = .ok (.lcmp, 1) := by decide +kernel
theorem dX5_reduce_83 : decode cX5_reduce 83 = .ok (.ifCond .ge 13, 3) := by decide +kernel
theorem dX5_reduce_86 : decode cX5_reduce 86 = .ok (.aload_n 0, 1) := by decide +kernel
theorem dX5_reduce_87 : decode cX5_reduce 87 = .ok (.getfield 63, 3) := by decide +kernel
theorem dX5_reduce_90 : decode cX5_reduce 90 = .ok (.iload 6, 2) := by decide +kernel
theorem dX5_reduce_92 : decode cX5_reduce 92 = .ok (.laload, 1) := by decide +kernel
theorem dX5_reduce_93 : decode cX5_reduce 93 = .ok (.goto 5, 3) := by decide +kernel
theorem dX5_reduce_96 : decode cX5_reduce 96 = .ok (.lload 4, 2) := by decide +kernel
theorem dX5_reduce_98 : decode cX5_reduce 98 = .ok (.lstore 7, 2) := by decide +kernel
theorem dX5_reduce_100 : decode cX5_reduce 100 = .ok (.aload_n 0, 1) := by decide +kernel
theorem dX5_reduce_101 : decode cX5_reduce 101 = .ok (.getfield 63, 3) := by decide +kernel
theorem dX5_reduce_104 : decode cX5_reduce 104 = .ok (.iload 6, 2) := by decide +kernel
theorem dX5_reduce_106 : decode cX5_reduce 106 = .ok (.dup2, 1) := by decide +kernel
theorem dX5_reduce_107 : decode cX5_reduce 107 = .ok (.laload, 1) := by decide +kernel
theorem dX5_reduce_108 : decode cX5_reduce 108 = .ok (.lload 7, 2) := by decide +kernel
theorem dX5_reduce_110 : decode cX5_reduce 110 = .ok (.lsub, 1) := by decide +kernel
theorem dX5_reduce_111 : decode cX5_reduce 111 = .ok (.lastore, 1) := by decide +kernel
theorem dX5_reduce_112 : decode cX5_reduce 112 = .ok (.lload 4, 2) := by decide +kernel
theorem dX5_reduce_114 : decode cX5_reduce 114 = .ok (.lload 7, 2) := by decide +kernel
theorem dX5_reduce_116 : decode cX5_reduce 116 = .ok (.lsub, 1) := by decide +kernel
theorem dX5_reduce_117 : decode cX5_reduce 117 = .ok (.lstore 4, 2) := by decide +kernel
theorem dX5_reduce_119 : decode cX5_reduce 119 = .ok (.aload_n 0, 1) := by decide +kernel
theorem dX5_reduce_120 : decode cX5_reduce 120 = .ok (.getfield 57, 3) := by decide +kernel
theorem dX5_reduce_123 : decode cX5_reduce 123 = .ok (.iload_n 1, 1) := by decide +kernel
theorem dX5_reduce_124 : decode cX5_reduce 124 = .ok (.dup2, 1) := by decide +kernel
theorem dX5_reduce_125 : decode cX5_reduce 125 = .ok (.iaload, 1) := by decide +kernel
theorem dX5_reduce_126 : decode cX5_reduce 126 = .ok (.aload_n 0, 1) := by decide +kernel
theorem dX5_reduce_127 : decode cX5_reduce 127 = .ok (.getfield 63, 3) := by decide +kernel
theorem dX5_reduce_130 : decode cX5_reduce 130 = .ok (.iload 6, 2) := by decide +kernel
theorem dX5_reduce_132 : decode cX5_reduce 132 = .ok (.laload, 1) := by decide +kernel
theorem dX5_reduce_133 : decode cX5_reduce 133 = .ok (.lconst 0, 1) := by decide +kernel
theorem dX5_reduce_134 : decode cX5_reduce 134 = .ok (.lcmp, 1) := by decide +kernel
theorem dX5_reduce_135 : decode cX5_reduce 135 = .ok (.ifCond .ne 7, 3) := by decide +kernel
theorem dX5_reduce_138 : decode cX5_reduce 138 = .ok (.iconst 1, 1) := by decide +kernel
theorem dX5_reduce_139 : decode cX5_reduce 139 = .ok (.goto 4, 3) := by decide +kernel
theorem dX5_reduce_142 : decode cX5_reduce 142 = .ok (.iconst 0, 1) := by decide +kernel
theorem dX5_reduce_143 : decode cX5_reduce 143 = .ok (.isub, 1) := by decide +kernel
theorem dX5_reduce_144 : decode cX5_reduce 144 = .ok (.iastore, 1) := by decide +kernel
theorem dX5_reduce_145 : decode cX5_reduce 145 = .ok (.goto (-93), 3) := by decide +kernel
theorem dX5_reduce_148 : decode cX5_reduce 148 = .ok (.aload_n 0, 1) := by decide +kernel
theorem dX5_reduce_149 : decode cX5_reduce 149 = .ok (.iload_n 1, 1) := by decide +kernel
theorem dX5_reduce_150 : decode cX5_reduce 150 = .ok (.invokevirtual 141, 3) := by decide +kernel
theorem dX5_reduce_153 : decode cX5_reduce 153 = .ok (.lreturn, 1) := by decide +kernel
theorem dX5_endRow_0 : decode cX5_endRow 0 = .ok (.aload_n 0, 1) := by decide +kernel
theorem dX5_endRow_1 : decode cX5_endRow 1 = .ok (.getfield 39, 3) := by decide +kernel
theorem dX5_endRow_4 : decode cX5_endRow 4 = .ok (.iload_n 1, 1) := by decide +kernel
theorem dX5_endRow_5 : decode cX5_endRow 5 = .ok (.dup2, 1) := by decide +kernel
theorem dX5_endRow_6 : decode cX5_endRow 6 = .ok (.laload, 1) := by decide +kernel
theorem dX5_endRow_7 : decode cX5_endRow 7 = .ok (.aload_n 0, 1) := by decide +kernel
theorem dX5_endRow_8 : decode cX5_endRow 8 = .ok (.iload_n 1, 1) := by decide +kernel
theorem dX5_endRow_9 : decode cX5_endRow 9 = .ok (.invokevirtual 144, 3) := by decide +kernel
theorem dX5_endRow_12 : decode cX5_endRow 12 = .ok (.ladd, 1) := by decide +kernel
theorem dX5_endRow_13 : decode cX5_endRow 13 = .ok (.lastore, 1) := by decide +kernel
theorem dX5_endRow_14 : decode cX5_endRow 14 = .ok (.aload_n 0, 1) := by decide +kernel
theorem dX5_endRow_15 : decode cX5_endRow 15 = .ok (.getfield 42, 3) := by decide +kernel
theorem dX5_endRow_18 : decode cX5_endRow 18 = .ok (.iload_n 1, 1) := by decide +kernel
theorem dX5_endRow_19 : decode cX5_endRow 19 = .ok (.aload_n 0, 1) := by decide +kernel
theorem dX5_endRow_20 : decode cX5_endRow 20 = .ok (.getfield 100, 3) := by decide +kernel
theorem dX5_endRow_23 : decode cX5_endRow 23 = .ok (.iastore, 1) := by decide +kernel
theorem dX5_endRow_24 : decode cX5_endRow 24 = .ok (.return_, 1) := by decide +kernel
theorem dX5_running_0 : decode cX5_running 0 = .ok (.aload_n 0, 1) := by decide +kernel
theorem dX5_running_1 : decode cX5_running 1 = .ok (.getfield 30, 3) := by decide +kernel
theorem dX5_running_4 : decode cX5_running 4 = .ok (.iload_n 1, 1) := by decide +kernel
theorem dX5_running_5 : decode cX5_running 5 = .ok (.baload, 1) := by decide +kernel
theorem dX5_running_6 : decode cX5_running 6 = .ok (.ifCond .eq 12, 3) := by decide +kernel
theorem dX5_running_9 : decode cX5_running 9 = .ok (.aload_n 0, 1) := by decide +kernel
theorem dX5_running_10 : decode cX5_running 10 = .ok (.getfield 33, 3) := by decide +kernel
theorem dX5_running_13 : decode cX5_running 13 = .ok (.iload_n 1, 1) := by decide +kernel
theorem dX5_running_14 : decode cX5_running 14 = .ok (.iaload, 1) := by decide +kernel
theorem dX5_running_15 : decode cX5_running 15 = .ok (.goto 7, 3) := by decide +kernel
theorem dX5_running_18 : decode cX5_running 18 = .ok (.aload_n 0, 1) := by decide +kernel
theorem dX5_running_19 : decode cX5_running 19 = .ok (.getfield 100, 3) := by decide +kernel
theorem dX5_running_22 : decode cX5_running 22 = .ok (.istore_n 2, 1) := by decide +kernel
theorem dX5_running_23 : decode cX5_running 23 = .ok (.iload_n 2, 1) := by decide +kernel
theorem dX5_running_24 : decode cX5_running 24 = .ok (.aload_n 0, 1) := by decide +kernel
theorem dX5_running_25 : decode cX5_running 25 = .ok (.getfield 42, 3) := by decide +kernel
theorem dX5_running_28 : decode cX5_running 28 = .ok (.iload_n 1, 1) := by decide +kernel
theorem dX5_running_29 : decode cX5_running 29 = .ok (.iaload, 1) := by decide +kernel
theorem dX5_running_30 : decode cX5_running 30 = .ok (.if_icmp .gt 7, 3) := by decide +kernel
theorem dX5_running_33 : decode cX5_running 33 = .ok (.lconst 0, 1) := by decide +kernel
theorem dX5_running_34 : decode cX5_running 34 = .ok (.goto 31, 3) := by decide +kernel
theorem dX5_running_37 : decode cX5_running 37 = .ok (.aload_n 0, 1) := by decide +kernel
theorem dX5_running_38 : decode cX5_running 38 = .ok (.getfield 13, 3) := by decide +kernel
theorem dX5_running_41 : decode cX5_running 41 = .ok (.iload_n 1, 1) := by decide +kernel
theorem dX5_running_42 : decode cX5_running 42 = .ok (.laload, 1) := by decide +kernel
theorem dX5_running_43 : decode cX5_running 43 = .ok (.iload_n 2, 1) := by decide +kernel
theorem dX5_running_44 : decode cX5_running 44 = .ok (.aload_n 0, 1) := by decide +kernel
theorem dX5_running_45 : decode cX5_running 45 = .ok (.getfield 42, 3) := by decide +kernel
theorem dX5_running_48 : decode cX5_running 48 = .ok (.iload_n 1, 1) := by decide +kernel
theorem dX5_running_49 : decode cX5_running 49 = .ok (.iaload, 1) := by decide +kernel
theorem dX5_running_50 : decode cX5_running 50 = .ok (.isub, 1) := by decide +kernel
theorem dX5_running_51 : decode cX5_running 51 = .ok (.i2l, 1) := by decide +kernel
theorem dX5_running_52 : decode cX5_running 52 = .ok (.lmul, 1) := by decide +kernel
theorem dX5_running_53 : decode cX5_running 53 = .ok (.aload_n 0, 1) := by decide +kernel
theorem dX5_running_54 : decode cX5_running 54 = .ok (.getfield 27, 3) := by decide +kernel
theorem dX5_running_57 : decode cX5_running 57 = .ok (.iload_n 1, 1) := by decide +kernel
theorem dX5_running_58 : decode cX5_running 58 = .ok (.iaload, 1) := by decide +kernel
theorem dX5_running_59 : decode cX5_running 59 = .ok (.i2l, 1) := by decide +kernel
theorem dX5_running_60 : decode cX5_running 60 = .ok (.lmul, 1) := by decide +kernel
theorem dX5_running_61 : decode cX5_running 61 = .ok (.ldc2_w 147, 3) := by decide +kernel
theorem dX5_running_64 : decode cX5_running 64 = .ok (.ldiv, 1) := by decide +kernel
theorem dX5_running_65 : decode cX5_running 65 = .ok (.lreturn, 1) := by decide +kernel
theorem dX5_claim_0 : decode cX5_claim 0 = .ok (.aload_n 0, 1) := by decide +kernel
theorem dX5_claim_1 : decode cX5_claim 1 = .ok (.iload_n 1, 1) := by decide +kernel
theorem dX5_claim_2 : decode cX5_claim 2 = .ok (.invokevirtual 138, 3) := by decide +kernel
theorem dX5_claim_5 : decode cX5_claim 5 = .ok (.ifCond .eq 9, 3) := by decide +kernel
theorem dX5_claim_8 : decode cX5_claim 8 = .ok (.lload_n 2, 1) := by decide +kernel
theorem dX5_claim_9 : decode cX5_claim 9 = .ok (.lconst 1, 1) := by decide +kernel
theorem dX5_claim_10 : decode cX5_claim 10 = .ok (.lcmp, 1) := by decide +kernel
theorem dX5_claim_11 : decode cX5_claim 11 = .ok (.ifCond .ge 10, 3) := by decide +kernel
theorem dX5_claim_14 : decode cX5_claim 14 = .ok (.aload_n 0, 1) := by decide +kernel
theorem dX5_claim_15 : decode cX5_claim 15 = .ok (.iconst 1, 1) := by decide +kernel
theorem dX5_claim_16 : decode cX5_claim 16 = .ok (.invokevirtual 96, 3) := by decide +kernel
theorem dX5_claim_19 : decode cX5_claim 19 = .ok (.i2l, 1) := by decide +kernel
theorem dX5_claim_20 : decode cX5_claim 20 = .ok (.lreturn, 1) := by decide +kernel
theorem dX5_claim_21 : decode cX5_claim 21 = .ok (.aload_n 0, 1) := by decide +kernel
theorem dX5_claim_22 : decode cX5_claim 22 = .ok (.iconst 0, 1) := by decide +kernel
theorem dX5_claim_23 : decode cX5_claim 23 = .ok (.putfield 72, 3) := by decide +kernel
theorem dX5_claim_26 : decode cX5_claim 26 = .ok (.aload_n 0, 1) := by decide +kernel
theorem dX5_claim_27 : decode cX5_claim 27 = .ok (.getfield 54, 3) := by decide +kernel
theorem dX5_claim_30 : decode cX5_claim 30 = .ok (.iload_n 1, 1) := by decide +kernel
theorem dX5_claim_31 : decode cX5_claim 31 = .ok (.iaload, 1) := by decide +kernel
theorem dX5_claim_32 : decode cX5_claim 32 = .ok (.ifCond .gt 13, 3) := by decide +kernel
theorem dX5_claim_35 : decode cX5_claim 35 = .ok (.aload_n 0, 1) := by decide +kernel
theorem dX5_claim_36 : decode cX5_claim 36 = .ok (.iload_n 1, 1) := by decide +kernel
theorem dX5_claim_37 : decode cX5_claim 37 = .ok (.invokevirtual 141, 3) := by decide +kernel
theorem dX5_claim_40 : decode cX5_claim 40 = .ok (.lload_n 2, 1) := by decide +kernel
theorem dX5_claim_41 : decode cX5_claim 41 = .ok (.lcmp, 1) := by decide +kernel
theorem dX5_claim_42 : decode cX5_claim 42 = .ok (.ifCond .ge 7, 3) := by decide +kernel
theorem dX5_claim_45 : decode cX5_claim 45 = .ok (.ldc2_w 128, 3) := by decide +kernel
theorem dX5_claim_48 : decode cX5_claim 48 = .ok (.lreturn, 1) := by decide +kernel
theorem dX5_claim_49 : decode cX5_claim 49 = .ok (.lload_n 2, 1) := by decide +kernel
theorem dX5_claim_50 : decode cX5_claim 50 = .ok (.lstore 4, 2) := by decide +kernel
theorem dX5_claim_52 : decode cX5_claim 52 = .ok (.lconst 0, 1) := by decide +kernel
theorem dX5_claim_53 : decode cX5_claim 53 = .ok (.lstore 6, 2) := by decide +kernel
theorem dX5_claim_55 : decode cX5_claim 55 = .ok (.iconst 4, 1) := by decide +kernel
theorem dX5_claim_56 : decode cX5_claim 56 = .ok (.iload_n 1, 1) := by decide +kernel
theorem dX5_claim_57 : decode cX5_claim 57 = .ok (.imul, 1) := by decide +kernel
theorem dX5_claim_58 : decode cX5_claim 58 = .ok (.istore 8, 2) := by decide +kernel
theorem dX5_claim_60 : decode cX5_claim 60 = .ok (.iload 8, 2) := by decide +kernel
theorem dX5_claim_62 : decode cX5_claim 62 = .ok (.iconst 4, 1) := by decide +kernel
theorem dX5_claim_63 : decode cX5_claim 63 = .ok (.iload_n 1, 1) := by decide +kernel
theorem dX5_claim_64 : decode cX5_claim 64 = .ok (.imul, 1) := by decide +kernel
theorem dX5_claim_65 : decode cX5_claim 65 = .ok (.aload_n 0, 1) := by decide +kernel
theorem dX5_claim_66 : decode cX5_claim 66 = .ok (.getfield 57, 3) := by decide +kernel
theorem dX5_claim_69 : decode cX5_claim 69 = .ok (.iload_n 1, 1) := by decide +kernel
theorem dX5_claim_70 : decode cX5_claim 70 = .ok (.iaload, 1) := by decide +kernel
theorem dX5_claim_71 : decode cX5_claim 71 = .ok (.iadd, 1) := by decide +kernel
theorem dX5_claim_72 : decode cX5_claim 72 = .ok (.if_icmp .ge 123, 3) := by decide +kernel
theorem dX5_claim_75 : decode cX5_claim 75 = .ok (.aload_n 0, 1) := by decide +kernel
theorem dX5_claim_76 : decode cX5_claim 76 = .ok (.getfield 60, 3) := by decide +kernel
theorem dX5_claim_79 : decode cX5_claim 79 = .ok (.iload 8, 2) := by decide +kernel
theorem dX5_claim_81 : decode cX5_claim 81 = .ok (.iaload, 1) := by decide +kernel
theorem dX5_claim_82 : decode cX5_claim 82 = .ok (.istore 9, 2) := by decide +kernel
theorem dX5_claim_84 : decode cX5_claim 84 = .ok (.aload_n 0, 1) := by decide +kernel
theorem dX5_claim_85 : decode cX5_claim 85 = .ok (.getfield 63, 3) := by decide +kernel
theorem dX5_claim_88 : decode cX5_claim 88 = .ok (.iload 8, 2) := by decide +kernel
theorem dX5_claim_90 : decode cX5_claim 90 = .ok (.laload, 1) := by decide +kernel
theorem dX5_claim_91 : decode cX5_claim 91 = .ok (.lload 4, 2) := by decide +kernel
theorem dX5_claim_93 : decode cX5_claim 93 = .ok (.lcmp, 1) := by decide +kernel
theorem dX5_claim_94 : decode cX5_claim 94 = .ok (.ifCond .ge 13, 3) := by decide +kernel
theorem dX5_claim_97 : decode cX5_claim 97 = .ok (.aload_n 0, 1) := by decide +kernel
theorem dX5_claim_98 : decode cX5_claim 98 = .ok (.getfield 63, 3) := by decide +kernel
theorem dX5_claim_101 : decode cX5_claim 101 = .ok (.iload 8, 2) := by decide +kernel
theorem dX5_claim_103 : decode cX5_claim 103 = .ok (.laload, 1) := by decide +kernel
theorem dX5_claim_104 : decode cX5_claim 104 = .ok (.goto 5, 3) := by decide +kernel
theorem dX5_claim_107 : decode cX5_claim 107 = .ok (.lload 4, 2) := by decide +kernel
theorem dX5_claim_109 : decode cX5_claim 109 = .ok (.lstore 10, 2) := by decide +kernel
theorem dX5_claim_111 : decode cX5_claim 111 = .ok (.lload 4, 2) := by decide +kernel
theorem dX5_claim_113 : decode cX5_claim 113 = .ok (.lload 10, 2) := by decide +kernel
theorem dX5_claim_115 : decode cX5_claim 115 = .ok (.lsub, 1) := by decide +kernel
theorem dX5_claim_116 : decode cX5_claim 116 = .ok (.lstore 4, 2) := by decide +kernel
theorem dX5_claim_118 : decode cX5_claim 118 = .ok (.lload 10, 2) := by decide +kernel
theorem dX5_claim_120 : decode cX5_claim 120 = .ok (.aload_n 0, 1) := by decide +kernel
theorem dX5_claim_121 : decode cX5_claim 121 = .ok (.getfield 13, 3) := by decide +kernel
theorem dX5_claim_124 : decode cX5_claim 124 = .ok (.iload 9, 2) := by decide +kernel
theorem dX5_claim_126 : decode cX5_claim 126 = .ok (.laload, 1) := by decide +kernel
theorem dX5_claim_127 : decode cX5_claim 127 = .ok (.lcmp, 1) := by decide +kernel
theorem dX5_claim_128 : decode cX5_claim 128 = .ok (.ifCond .ge 8, 3) := by decide +kernel
theorem dX5_claim_131 : decode cX5_claim 131 = .ok (.lload 10, 2) := by decide +kernel
theorem dX5_claim_133 : decode cX5_claim 133 = .ok (.goto 10, 3) := by decide +kernel
theorem dX5_claim_136 : decode cX5_claim 136 = .ok (.aload_n 0, 1) := by decide +kernel
theorem dX5_claim_137 : decode cX5_claim 137 = .ok (.getfield 13, 3) := by decide +kernel
theorem dX5_claim_140 : decode cX5_claim 140 = .ok (.iload 9, 2) := by decide +kernel
theorem dX5_claim_142 : decode cX5_claim 142 = .ok (.laload, 1) := by decide +kernel
theorem dX5_claim_143 : decode cX5_claim 143 = .ok (.lstore 10, 2) := by decide +kernel
theorem dX5_claim_145 : decode cX5_claim 145 = .ok (.lload 10, 2) := by decide +kernel
theorem dX5_claim_147 : decode cX5_claim 147 = .ok (.lconst 0, 1) := by decide +kernel
theorem dX5_claim_148 : decode cX5_claim 148 = .ok (.lcmp, 1) := by decide +kernel
theorem dX5_claim_149 : decode cX5_claim 149 = .ok (.ifCond .le 40, 3) := by decide +kernel
theorem dX5_claim_152 : decode cX5_claim 152 = .ok (.aload_n 0, 1) := by decide +kernel
theorem dX5_claim_153 : decode cX5_claim 153 = .ok (.iload 9, 2) := by decide +kernel
theorem dX5_claim_155 : decode cX5_claim 155 = .ok (.invokevirtual 149, 3) := by decide +kernel
theorem dX5_claim_158 : decode cX5_claim 158 = .ok (.aload_n 0, 1) := by decide +kernel
theorem dX5_claim_159 : decode cX5_claim 159 = .ok (.getfield 13, 3) := by decide +kernel
theorem dX5_claim_162 : decode cX5_claim 162 = .ok (.iload 9, 2) := by decide +kernel
theorem dX5_claim_164 : decode cX5_claim 164 = .ok (.dup2, 1) := by decide +kernel
theorem dX5_claim_165 : decode cX5_claim 165 = .ok (.laload, 1) := by decide +kernel
theorem dX5_claim_166 : decode cX5_claim 166 = .ok (.lload 10, 2) := by decide +kernel
theorem dX5_claim_168 : decode cX5_claim 168 = .ok (.lsub, 1) := by decide +kernel
theorem dX5_claim_169 : decode cX5_claim 169 = .ok (.lastore, 1) := by decide +kernel
theorem dX5_claim_170 : decode cX5_claim 170 = .ok (.aload_n 0, 1) := by decide +kernel
theorem dX5_claim_171 : decode cX5_claim 171 = .ok (.getfield 36, 3) := by decide +kernel
theorem dX5_claim_174 : decode cX5_claim 174 = .ok (.iload 9, 2) := by decide +kernel
theorem dX5_claim_176 : decode cX5_claim 176 = .ok (.dup2, 1) := by decide +kernel
theorem dX5_claim_177 : decode cX5_claim 177 = .ok (.laload, 1) := by decide +kernel
theorem dX5_claim_178 : decode cX5_claim 178 = .ok (.lload 10, 2) := by decide +kernel
theorem dX5_claim_180 : decode cX5_claim 180 = .ok (.ladd, 1) := by decide +kernel
theorem dX5_claim_181 : decode cX5_claim 181 = .ok (.lastore, 1) := by decide +kernel
theorem dX5_claim_182 : decode cX5_claim 182 = .ok (.lload 6, 2) := by decide +kernel
theorem dX5_claim_184 : decode cX5_claim 184 = .ok (.lload 10, 2) := by decide +kernel
theorem dX5_claim_186 : decode cX5_claim 186 = .ok (.ladd, 1) := by decide +kernel
theorem dX5_claim_187 : decode cX5_claim 187 = .ok (.lstore 6, 2) := by decide +kernel
theorem dX5_claim_189 : decode cX5_claim 189 = .ok (.iinc 8 1, 3) := by decide +kernel
theorem dX5_claim_192 : decode cX5_claim 192 = .ok (.goto (-132), 3) := by decide +kernel
theorem dX5_claim_195 : decode cX5_claim 195 = .ok (.aload_n 0, 1) := by decide +kernel
theorem dX5_claim_196 : decode cX5_claim 196 = .ok (.getfield 54, 3) := by decide +kernel
theorem dX5_claim_199 : decode cX5_claim 199 = .ok (.iload_n 1, 1) := by decide +kernel
theorem dX5_claim_200 : decode cX5_claim 200 = .ok (.iconst 3, 1) := by decide +kernel
theorem dX5_claim_201 : decode cX5_claim 201 = .ok (.iastore, 1) := by decide +kernel
theorem dX5_claim_202 : decode cX5_claim 202 = .ok (.aload_n 0, 1) := by decide +kernel
theorem dX5_claim_203 : decode cX5_claim 203 = .ok (.getfield 57, 3) := by decide +kernel
theorem dX5_claim_206 : decode cX5_claim 206 = .ok (.iload_n 1, 1) := by decide +kernel
theorem dX5_claim_207 : decode cX5_claim 207 = .ok (.iconst 0, 1) := by decide +kernel
theorem dX5_claim_208 : decode cX5_claim 208 = .ok (.iastore, 1) := by decide +kernel
theorem dX5_claim_209 : decode cX5_claim 209 = .ok (.lload 6, 2) := by decide +kernel
theorem dX5_claim_211 : decode cX5_claim 211 = .ok (.lreturn, 1) := by decide +kernel
theorem dX5_close_0 : decode cX5_close 0 = .ok (.aload_n 0, 1) := by decide +kernel
theorem dX5_close_1 : decode cX5_close 1 = .ok (.iconst 0, 1) := by decide +kernel
theorem dX5_close_2 : decode cX5_close 2 = .ok (.putfield 72, 3) := by decide +kernel
theorem dX5_close_5 : decode cX5_close 5 = .ok (.aload_n 0, 1) := by decide +kernel
theorem dX5_close_6 : decode cX5_close 6 = .ok (.iload_n 1, 1) := by decide +kernel
theorem dX5_close_7 : decode cX5_close 7 = .ok (.invokevirtual 103, 3) := by decide +kernel
theorem dX5_close_10 : decode cX5_close 10 = .ok (.ifCond .eq 12, 3) := by decide +kernel
theorem dX5_close_13 : decode cX5_close 13 = .ok (.aload_n 0, 1) := by decide +kernel
theorem dX5_close_14 : decode cX5_close 14 = .ok (.getfield 30, 3) := by decide +kernel
theorem dX5_close_17 : decode cX5_close 17 = .ok (.iload_n 1, 1) := by decide +kernel
theorem dX5_close_18 : decode cX5_close 18 = .ok (.baload, 1) := by decide +kernel
theorem dX5_close_19 : decode cX5_close 19 = .ok (.ifCond .eq 5, 3) := by decide +kernel
theorem dX5_close_22 : decode cX5_close 22 = .ok (.iconst 0, 1) := by decide +kernel
theorem dX5_close_23 : decode cX5_close 23 = .ok (.ireturn, 1) := by decide +kernel
theorem dX5_close_24 : decode cX5_close 24 = .ok (.aload_n 0, 1) := by decide +kernel
theorem dX5_close_25 : decode cX5_close 25 = .ok (.getfield 30, 3) := by decide +kernel
theorem dX5_close_28 : decode cX5_close 28 = .ok (.iload_n 1, 1) := by decide +kernel
theorem dX5_close_29 : decode cX5_close 29 = .ok (.iconst 1, 1) := by decide +kernel
theorem dX5_close_30 : decode cX5_close 30 = .ok (.bastore, 1) := by decide +kernel
theorem dX5_close_31 : decode cX5_close 31 = .ok (.aload_n 0, 1) := by decide +kernel
theorem dX5_close_32 : decode cX5_close 32 = .ok (.getfield 33, 3) := by decide +kernel
theorem dX5_close_35 : decode cX5_close 35 = .ok (.iload_n 1, 1) := by decide +kernel
theorem dX5_close_36 : decode cX5_close 36 = .ok (.aload_n 0, 1) := by decide +kernel
theorem dX5_close_37 : decode cX5_close 37 = .ok (.getfield 100, 3) := by decide +kernel
theorem dX5_close_40 : decode cX5_close 40 = .ok (.iastore, 1) := by decide +kernel
theorem dX5_close_41 : decode cX5_close 41 = .ok (.iconst 1, 1) := by decide +kernel
theorem dX5_close_42 : decode cX5_close 42 = .ok (.ireturn, 1) := by decide +kernel
theorem dX5_fails_0 : decode cX5_fails 0 = .ok (.aload_n 0, 1) := by decide +kernel
theorem dX5_fails_1 : decode cX5_fails 1 = .ok (.iconst 0, 1) := by decide +kernel
theorem dX5_fails_2 : decode cX5_fails 2 = .ok (.putfield 72, 3) := by decide +kernel
theorem dX5_fails_5 : decode cX5_fails 5 = .ok (.iload_n 1, 1) := by decide +kernel
theorem dX5_fails_6 : decode cX5_fails 6 = .ok (.i2l, 1) := by decide +kernel
theorem dX5_fails_7 : decode cX5_fails 7 = .ok (.lconst 0, 1) := by decide +kernel
theorem dX5_fails_8 : decode cX5_fails 8 = .ok (.ldc2_w 130, 3) := by decide +kernel
theorem dX5_fails_11 : decode cX5_fails 11 = .ok (.invokestatic 84, 3) := by decide +kernel
theorem dX5_fails_14 : decode cX5_fails 14 = .ok (.ifCond .eq 13, 3) := by decide +kernel
theorem dX5_fails_17 : decode cX5_fails 17 = .ok (.aload_n 0, 1) := by decide +kernel
theorem dX5_fails_18 : decode cX5_fails 18 = .ok (.getfield 66, 3) := by decide +kernel
theorem dX5_fails_21 : decode cX5_fails 21 = .ok (.iload_n 1, 1) := by decide +kernel
theorem dX5_fails_22 : decode cX5_fails 22 = .ok (.baload, 1) := by decide +kernel
theorem dX5_fails_23 : decode cX5_fails 23 = .ok (.iload_n 2, 1) := by decide +kernel
theorem dX5_fails_24 : decode cX5_fails 24 = .ok (.if_icmp .ne 5, 3) := by decide +kernel
theorem dX5_fails_27 : decode cX5_fails 27 = .ok (.iconst 0, 1) := by decide +kernel
theorem dX5_fails_28 : decode cX5_fails 28 = .ok (.ireturn, 1) := by decide +kernel
theorem dX5_fails_29 : decode cX5_fails 29 = .ok (.aload_n 0, 1) := by decide +kernel
theorem dX5_fails_30 : decode cX5_fails 30 = .ok (.getfield 66, 3) := by decide +kernel
theorem dX5_fails_33 : decode cX5_fails 33 = .ok (.iload_n 1, 1) := by decide +kernel
theorem dX5_fails_34 : decode cX5_fails 34 = .ok (.iload_n 2, 1) := by decide +kernel
theorem dX5_fails_35 : decode cX5_fails 35 = .ok (.bastore, 1) := by decide +kernel
theorem dX5_fails_36 : decode cX5_fails 36 = .ok (.iconst 1, 1) := by decide +kernel
theorem dX5_fails_37 : decode cX5_fails 37 = .ok (.ireturn, 1) := by decide +kernel
theorem dX5_tick_0 : decode cX5_tick 0 = .ok (.aload_n 0, 1) := by decide +kernel
theorem dX5_tick_1 : decode cX5_tick 1 = .ok (.iconst 0, 1) := by decide +kernel
theorem dX5_tick_2 : decode cX5_tick 2 = .ok (.putfield 72, 3) := by decide +kernel
theorem dX5_tick_5 : decode cX5_tick 5 = .ok (.iload_n 1, 1) := by decide +kernel
theorem dX5_tick_6 : decode cX5_tick 6 = .ok (.aload_n 0, 1) := by decide +kernel
theorem dX5_tick_7 : decode cX5_tick 7 = .ok (.getfield 100, 3) := by decide +kernel
theorem dX5_tick_10 : decode cX5_tick 10 = .ok (.if_icmp .lt 9, 3) := by decide +kernel
theorem dX5_tick_13 : decode cX5_tick 13 = .ok (.iload_n 1, 1) := by decide +kernel
theorem dX5_tick_14 : decode cX5_tick 14 = .ok (.ldc 153, 2) := by decide +kernel
theorem dX5_tick_16 : decode cX5_tick 16 = .ok (.if_icmp .le 5, 3) := by decide +kernel
theorem dX5_tick_19 : decode cX5_tick 19 = .ok (.iconst 0, 1) := by decide +kernel
theorem dX5_tick_20 : decode cX5_tick 20 = .ok (.ireturn, 1) := by decide +kernel
theorem dX5_tick_21 : decode cX5_tick 21 = .ok (.aload_n 0, 1) := by decide +kernel
theorem dX5_tick_22 : decode cX5_tick 22 = .ok (.iload_n 1, 1) := by decide +kernel
theorem dX5_tick_23 : decode cX5_tick 23 = .ok (.putfield 100, 3) := by decide +kernel
theorem dX5_tick_26 : decode cX5_tick 26 = .ok (.iconst 1, 1) := by decide +kernel
theorem dX5_tick_27 : decode cX5_tick 27 = .ok (.ireturn, 1) := by decide +kernel
theorem dX5_interest_0 : decode cX5_interest 0 = .ok (.aload_n 0, 1) := by decide +kernel
theorem dX5_interest_1 : decode cX5_interest 1 = .ok (.iload_n 1, 1) := by decide +kernel
theorem dX5_interest_2 : decode cX5_interest 2 = .ok (.invokevirtual 103, 3) := by decide +kernel
theorem dX5_interest_5 : decode cX5_interest 5 = .ok (.ifCond .ne 10, 3) := by decide +kernel
theorem dX5_interest_8 : decode cX5_interest 8 = .ok (.aload_n 0, 1) := by decide +kernel
theorem dX5_interest_9 : decode cX5_interest 9 = .ok (.iconst 1, 1) := by decide +kernel
theorem dX5_interest_10 : decode cX5_interest 10 = .ok (.invokevirtual 96, 3) := by decide +kernel
theorem dX5_interest_13 : decode cX5_interest 13 = .ok (.i2l, 1) := by decide +kernel
theorem dX5_interest_14 : decode cX5_interest 14 = .ok (.lreturn, 1) := by decide +kernel
theorem dX5_interest_15 : decode cX5_interest 15 = .ok (.aload_n 0, 1) := by decide +kernel
theorem dX5_interest_16 : decode cX5_interest 16 = .ok (.iconst 0, 1) := by decide +kernel
theorem dX5_interest_17 : decode cX5_interest 17 = .ok (.putfield 72, 3) := by decide +kernel
theorem dX5_interest_20 : decode cX5_interest 20 = .ok (.aload_n 0, 1) := by decide +kernel
theorem dX5_interest_21 : decode cX5_interest 21 = .ok (.getfield 39, 3) := by decide +kernel
theorem dX5_interest_24 : decode cX5_interest 24 = .ok (.iload_n 1, 1) := by decide +kernel
theorem dX5_interest_25 : decode cX5_interest 25 = .ok (.laload, 1) := by decide +kernel
theorem dX5_interest_26 : decode cX5_interest 26 = .ok (.aload_n 0, 1) := by decide +kernel
theorem dX5_interest_27 : decode cX5_interest 27 = .ok (.iload_n 1, 1) := by decide +kernel
theorem dX5_interest_28 : decode cX5_interest 28 = .ok (.invokevirtual 144, 3) := by decide +kernel
theorem dX5_interest_31 : decode cX5_interest 31 = .ok (.ladd, 1) := by decide +kernel
theorem dX5_interest_32 : decode cX5_interest 32 = .ok (.lreturn, 1) := by decide +kernel
theorem dX5_look_0 : decode cX5_look 0 = .ok (.aload_n 0, 1) := by decide +kernel
theorem dX5_look_1 : decode cX5_look 1 = .ok (.iload_n 1, 1) := by decide +kernel
theorem dX5_look_2 : decode cX5_look 2 = .ok (.invokevirtual 103, 3) := by decide +kernel
theorem dX5_look_5 : decode cX5_look 5 = .ok (.ifCond .eq 13, 3) := by decide +kernel
theorem dX5_look_8 : decode cX5_look 8 = .ok (.iload_n 2, 1) := by decide +kernel
theorem dX5_look_9 : decode cX5_look 9 = .ok (.ifCond .lt 9, 3) := by decide +kernel
theorem dX5_look_12 : decode cX5_look 12 = .ok (.iload_n 2, 1) := by decide +kernel
theorem dX5_look_13 : decode cX5_look 13 = .ok (.bipush 8, 2) := by decide +kernel
theorem dX5_look_15 : decode cX5_look 15 = .ok (.if_icmp .le 10, 3) := by decide +kernel
theorem dX5_look_18 : decode cX5_look 18 = .ok (.aload_n 0, 1) := by decide +kernel
theorem dX5_look_19 : decode cX5_look 19 = .ok (.iconst 1, 1) := by decide +kernel
theorem dX5_look_20 : decode cX5_look 20 = .ok (.invokevirtual 96, 3) := by decide +kernel
theorem dX5_look_23 : decode cX5_look 23 = .ok (.i2l, 1) := by decide +kernel
theorem dX5_look_24 : decode cX5_look 24 = .ok (.lreturn, 1) := by decide +kernel
theorem dX5_look_25 : decode cX5_look 25 = .ok (.aload_n 0, 1) := by decide +kernel
theorem dX5_look_26 : decode cX5_look 26 = .ok (.iconst 0, 1) := by decide +kernel
theorem dX5_look_27 : decode cX5_look 27 = .ok (.putfield 72, 3) := by decide +kernel
theorem dX5_look_30 : decode cX5_look 30 = .ok (.aload_n 0, 1) := by decide +kernel
theorem dX5_look_31 : decode cX5_look 31 = .ok (.iload_n 1, 1) := by decide +kernel
theorem dX5_look_32 : decode cX5_look 32 = .ok (.invokevirtual 110, 3) := by decide +kernel
theorem dX5_look_35 : decode cX5_look 35 = .ok (.aload_n 0, 1) := by decide +kernel
theorem dX5_look_36 : decode cX5_look 36 = .ok (.getfield 13, 3) := by decide +kernel
theorem dX5_look_39 : decode cX5_look 39 = .ok (.iload_n 1, 1) := by decide +kernel
theorem dX5_look_40 : decode cX5_look 40 = .ok (.laload, 1) := by decide +kernel
theorem dX5_look_41 : decode cX5_look 41 = .ok (.lsub, 1) := by decide +kernel
theorem dX5_look_42 : decode cX5_look 42 = .ok (.lstore_n 3, 1) := by decide +kernel
theorem dX5_look_43 : decode cX5_look 43 = .ok (.iload_n 2, 1) := by decide +kernel
theorem dX5_look_44 : decode cX5_look 44 = .ok (.tableswitch 115 0 7 #[48, 56, 63, 69, 75, 81, 88, 103], 48) := by decide +kernel
theorem dX5_look_92 : decode cX5_look 92 = .ok (.aload_n 0, 1) := by decide +kernel
theorem dX5_look_93 : decode cX5_look 93 = .ok (.getfield 7, 3) := by decide +kernel
theorem dX5_look_96 : decode cX5_look 96 = .ok (.iload_n 1, 1) := by decide +kernel
theorem dX5_look_97 : decode cX5_look 97 = .ok (.iaload, 1) := by decide +kernel
theorem dX5_look_98 : decode cX5_look 98 = .ok (.i2l, 1) := by decide +kernel
theorem dX5_look_99 : decode cX5_look 99 = .ok (.lreturn, 1) := by decide +kernel
theorem dX5_look_100 : decode cX5_look 100 = .ok (.aload_n 0, 1) := by decide +kernel
theorem dX5_look_101 : decode cX5_look 101 = .ok (.getfield 13, 3) := by decide +kernel
theorem dX5_look_104 : decode cX5_look 104 = .ok (.iload_n 1, 1) := by decide +kernel
theorem dX5_look_105 : decode cX5_look 105 = .ok (.laload, 1) := by decide +kernel
theorem dX5_look_106 : decode cX5_look 106 = .ok (.lreturn, 1) := by decide +kernel
theorem dX5_look_107 : decode cX5_look 107 = .ok (.aload_n 0, 1) := by decide +kernel
theorem dX5_look_108 : decode cX5_look 108 = .ok (.iload_n 1, 1) := by decide +kernel
theorem dX5_look_109 : decode cX5_look 109 = .ok (.invokevirtual 110, 3) := by decide +kernel
theorem dX5_look_112 : decode cX5_look 112 = .ok (.lreturn, 1) := by decide +kernel
theorem dX5_look_113 : decode cX5_look 113 = .ok (.aload_n 0, 1) := by decide +kernel
theorem dX5_look_114 : decode cX5_look 114 = .ok (.iload_n 1, 1) := by decide +kernel
theorem dX5_look_115 : decode cX5_look 115 = .ok (.invokevirtual 117, 3) := by decide +kernel
theorem dX5_look_118 : decode cX5_look 118 = .ok (.lreturn, 1) := by decide +kernel
theorem dX5_look_119 : decode cX5_look 119 = .ok (.aload_n 0, 1) := by decide +kernel
theorem dX5_look_120 : decode cX5_look 120 = .ok (.iload_n 1, 1) := by decide +kernel
theorem dX5_look_121 : decode cX5_look 121 = .ok (.invokevirtual 120, 3) := by decide +kernel
theorem dX5_look_124 : decode cX5_look 124 = .ok (.lreturn, 1) := by decide +kernel
theorem dX5_look_125 : decode cX5_look 125 = .ok (.aload_n 0, 1) := by decide +kernel
theorem dX5_look_126 : decode cX5_look 126 = .ok (.iload_n 1, 1) := by decide +kernel
theorem dX5_look_127 : decode cX5_look 127 = .ok (.invokevirtual 114, 3) := by decide +kernel
theorem dX5_look_130 : decode cX5_look 130 = .ok (.i2l, 1) := by decide +kernel
theorem dX5_look_131 : decode cX5_look 131 = .ok (.lreturn, 1) := by decide +kernel
theorem dX5_look_132 : decode cX5_look 132 = .ok (.aload_n 0, 1) := by decide +kernel
theorem dX5_look_133 : decode cX5_look 133 = .ok (.getfield 30, 3) := by decide +kernel
theorem dX5_look_136 : decode cX5_look 136 = .ok (.iload_n 1, 1) := by decide +kernel
theorem dX5_look_137 : decode cX5_look 137 = .ok (.baload, 1) := by decide +kernel
theorem dX5_look_138 : decode cX5_look 138 = .ok (.ifCond .eq 7, 3) := by decide +kernel
theorem dX5_look_141 : decode cX5_look 141 = .ok (.lconst 1, 1) := by decide +kernel
theorem dX5_look_142 : decode cX5_look 142 = .ok (.goto 4, 3) := by decide +kernel
theorem dX5_look_145 : decode cX5_look 145 = .ok (.lconst 0, 1) := by decide +kernel
theorem dX5_look_146 : decode cX5_look 146 = .ok (.lreturn, 1) := by decide +kernel
theorem dX5_look_147 : decode cX5_look 147 = .ok (.lload_n 3, 1) := by decide +kernel
theorem dX5_look_148 : decode cX5_look 148 = .ok (.lconst 0, 1) := by decide +kernel
theorem dX5_look_149 : decode cX5_look 149 = .ok (.lcmp, 1) := by decide +kernel
theorem dX5_look_150 : decode cX5_look 150 = .ok (.ifCond .le 7, 3) := by decide +kernel
theorem dX5_look_153 : decode cX5_look 153 = .ok (.lload_n 3, 1) := by decide +kernel
theorem dX5_look_154 : decode cX5_look 154 = .ok (.goto 4, 3) := by decide +kernel
theorem dX5_look_157 : decode cX5_look 157 = .ok (.lconst 0, 1) := by decide +kernel
theorem dX5_look_158 : decode cX5_look 158 = .ok (.lreturn, 1) := by decide +kernel
theorem dX5_look_159 : decode cX5_look 159 = .ok (.aload_n 0, 1) := by decide +kernel
theorem dX5_look_160 : decode cX5_look 160 = .ok (.getfield 36, 3) := by decide +kernel
theorem dX5_look_163 : decode cX5_look 163 = .ok (.iload_n 1, 1) := by decide +kernel
theorem dX5_look_164 : decode cX5_look 164 = .ok (.laload, 1) := by decide +kernel
theorem dX5_look_165 : decode cX5_look 165 = .ok (.lreturn, 1) := by decide +kernel
theorem dX5_of_0 : decode cX5_of 0 = .ok (.aload_n 0, 1) := by decide +kernel
theorem dX5_of_1 : decode cX5_of 1 = .ok (.iload_n 1, 1) := by decide +kernel
theorem dX5_of_2 : decode cX5_of 2 = .ok (.invokevirtual 138, 3) := by decide +kernel
theorem dX5_of_5 : decode cX5_of 5 = .ok (.ifCond .eq 17, 3) := by decide +kernel
theorem dX5_of_8 : decode cX5_of 8 = .ok (.iload_n 2, 1) := by decide +kernel
theorem dX5_of_9 : decode cX5_of 9 = .ok (.ifCond .lt 13, 3) := by decide +kernel
theorem dX5_of_12 : decode cX5_of 12 = .ok (.iload_n 2, 1) := by decide +kernel
theorem dX5_of_13 : decode cX5_of 13 = .ok (.bipush 13, 2) := by decide +kernel
theorem dX5_of_15 : decode cX5_of 15 = .ok (.if_icmp .ge 7, 3) := by decide +kernel
theorem dX5_of_18 : decode cX5_of 18 = .ok (.iconst 1, 1) := by decide +kernel
theorem dX5_of_19 : decode cX5_of 19 = .ok (.goto 4, 3) := by decide +kernel
theorem dX5_of_22 : decode cX5_of 22 = .ok (.iconst 0, 1) := by decide +kernel
theorem dX5_of_23 : decode cX5_of 23 = .ok (.istore_n 3, 1) := by decide +kernel
theorem dX5_of_24 : decode cX5_of 24 = .ok (.iload_n 2, 1) := by decide +kernel
theorem dX5_of_25 : decode cX5_of 25 = .ok (.iconst 5, 1) := by decide +kernel
theorem dX5_of_26 : decode cX5_of 26 = .ok (.if_icmp .ge 7, 3) := by decide +kernel
theorem dX5_of_29 : decode cX5_of 29 = .ok (.iconst 0, 1) := by decide +kernel
theorem dX5_of_30 : decode cX5_of 30 = .ok (.goto 19, 3) := by decide +kernel
theorem dX5_of_33 : decode cX5_of 33 = .ok (.iload_n 2, 1) := by decide +kernel
theorem dX5_of_34 : decode cX5_of 34 = .ok (.bipush 9, 2) := by decide +kernel
theorem dX5_of_36 : decode cX5_of 36 = .ok (.if_icmp .ge 9, 3) := by decide +kernel
theorem dX5_of_39 : decode cX5_of 39 = .ok (.iload_n 2, 1) := by decide +kernel
theorem dX5_of_40 : decode cX5_of 40 = .ok (.iconst 5, 1) := by decide +kernel
theorem dX5_of_41 : decode cX5_of 41 = .ok (.isub, 1) := by decide +kernel
theorem dX5_of_42 : decode cX5_of 42 = .ok (.goto 7, 3) := by decide +kernel
theorem dX5_of_45 : decode cX5_of 45 = .ok (.iload_n 2, 1) := by decide +kernel
theorem dX5_of_46 : decode cX5_of 46 = .ok (.bipush 9, 2) := by decide +kernel
theorem dX5_of_48 : decode cX5_of 48 = .ok (.isub, 1) := by decide +kernel
theorem dX5_of_49 : decode cX5_of 49 = .ok (.istore 4, 2) := by decide +kernel
theorem dX5_of_51 : decode cX5_of 51 = .ok (.iload_n 3, 1) := by decide +kernel
theorem dX5_of_52 : decode cX5_of 52 = .ok (.ifCond .eq 27, 3) := by decide +kernel
theorem dX5_of_55 : decode cX5_of 55 = .ok (.iload_n 2, 1) := by decide +kernel
theorem dX5_of_56 : decode cX5_of 56 = .ok (.iconst 4, 1) := by decide +kernel
theorem dX5_of_57 : decode cX5_of 57 = .ok (.if_icmp .le 29, 3) := by decide +kernel
theorem dX5_of_60 : decode cX5_of 60 = .ok (.iload 4, 2) := by decide +kernel
theorem dX5_of_62 : decode cX5_of 62 = .ok (.aload_n 0, 1) := by decide +kernel
theorem dX5_of_63 : decode cX5_of 63 = .ok (.getfield 57, 3) := by decide +kernel
theorem dX5_of_66 : decode cX5_of 66 = .ok (.iload_n 3, 1) := by decide +kernel
theorem dX5_of_67 : decode cX5_of 67 = .ok (.ifCond .eq 7, 3) := by decide +kernel
theorem dX5_of_70 : decode cX5_of 70 = .ok (.iload_n 1, 1) := by decide +kernel
theorem dX5_of_71 : decode cX5_of 71 = .ok (.goto 4, 3) := by decide +kernel
theorem dX5_of_74 : decode cX5_of 74 = .ok (.iconst 0, 1) := by decide +kernel
theorem dX5_of_75 : decode cX5_of 75 = .ok (.iaload, 1) := by decide +kernel
theorem dX5_of_76 : decode cX5_of 76 = .ok (.if_icmp .lt 10, 3) := by decide +kernel
theorem dX5_of_79 : decode cX5_of 79 = .ok (.aload_n 0, 1) := by decide +kernel
theorem dX5_of_80 : decode cX5_of 80 = .ok (.iconst 1, 1) := by decide +kernel
theorem dX5_of_81 : decode cX5_of 81 = .ok (.invokevirtual 96, 3) := by decide +kernel
theorem dX5_of_84 : decode cX5_of 84 = .ok (.i2l, 1) := by decide +kernel
theorem dX5_of_85 : decode cX5_of 85 = .ok (.lreturn, 1) := by decide +kernel
theorem dX5_of_86 : decode cX5_of 86 = .ok (.aload_n 0, 1) := by decide +kernel
theorem dX5_of_87 : decode cX5_of 87 = .ok (.iconst 0, 1) := by decide +kernel
theorem dX5_of_88 : decode cX5_of 88 = .ok (.putfield 72, 3) := by decide +kernel
theorem dX5_of_91 : decode cX5_of 91 = .ok (.iload_n 2, 1) := by decide +kernel
theorem dX5_of_92 : decode cX5_of 92 = .ok (.tableswitch 73 0 4 #[36, 44, 51, 57, 65], 36) := by decide +kernel
theorem dX5_of_128 : decode cX5_of 128 = .ok (.aload_n 0, 1) := by decide +kernel
theorem dX5_of_129 : decode cX5_of 129 = .ok (.getfield 48, 3) := by decide +kernel
theorem dX5_of_132 : decode cX5_of 132 = .ok (.iload_n 1, 1) := by decide +kernel
theorem dX5_of_133 : decode cX5_of 133 = .ok (.iaload, 1) := by decide +kernel
theorem dX5_of_134 : decode cX5_of 134 = .ok (.i2l, 1) := by decide +kernel
theorem dX5_of_135 : decode cX5_of 135 = .ok (.lreturn, 1) := by decide +kernel
theorem dX5_of_136 : decode cX5_of 136 = .ok (.aload_n 0, 1) := by decide +kernel
theorem dX5_of_137 : decode cX5_of 137 = .ok (.getfield 51, 3) := by decide +kernel
theorem dX5_of_140 : decode cX5_of 140 = .ok (.iload_n 1, 1) := by decide +kernel
theorem dX5_of_141 : decode cX5_of 141 = .ok (.laload, 1) := by decide +kernel
theorem dX5_of_142 : decode cX5_of 142 = .ok (.lreturn, 1) := by decide +kernel
theorem dX5_of_143 : decode cX5_of 143 = .ok (.aload_n 0, 1) := by decide +kernel
theorem dX5_of_144 : decode cX5_of 144 = .ok (.iload_n 1, 1) := by decide +kernel
theorem dX5_of_145 : decode cX5_of 145 = .ok (.invokevirtual 141, 3) := by decide +kernel
theorem dX5_of_148 : decode cX5_of 148 = .ok (.lreturn, 1) := by decide +kernel
theorem dX5_of_149 : decode cX5_of 149 = .ok (.aload_n 0, 1) := by decide +kernel
theorem dX5_of_150 : decode cX5_of 150 = .ok (.getfield 54, 3) := by decide +kernel
theorem dX5_of_153 : decode cX5_of 153 = .ok (.iload_n 1, 1) := by decide +kernel
theorem dX5_of_154 : decode cX5_of 154 = .ok (.iaload, 1) := by decide +kernel
theorem dX5_of_155 : decode cX5_of 155 = .ok (.i2l, 1) := by decide +kernel
theorem dX5_of_156 : decode cX5_of 156 = .ok (.lreturn, 1) := by decide +kernel
theorem dX5_of_157 : decode cX5_of 157 = .ok (.aload_n 0, 1) := by decide +kernel
theorem dX5_of_158 : decode cX5_of 158 = .ok (.getfield 57, 3) := by decide +kernel
theorem dX5_of_161 : decode cX5_of 161 = .ok (.iload_n 1, 1) := by decide +kernel
theorem dX5_of_162 : decode cX5_of 162 = .ok (.iaload, 1) := by decide +kernel
theorem dX5_of_163 : decode cX5_of 163 = .ok (.i2l, 1) := by decide +kernel
theorem dX5_of_164 : decode cX5_of 164 = .ok (.lreturn, 1) := by decide +kernel
theorem dX5_of_165 : decode cX5_of 165 = .ok (.iload_n 2, 1) := by decide +kernel
theorem dX5_of_166 : decode cX5_of 166 = .ok (.bipush 9, 2) := by decide +kernel
theorem dX5_of_168 : decode cX5_of 168 = .ok (.if_icmp .ge 18, 3) := by decide +kernel
theorem dX5_of_171 : decode cX5_of 171 = .ok (.aload_n 0, 1) := by decide +kernel
theorem dX5_of_172 : decode cX5_of 172 = .ok (.getfield 60, 3) := by decide +kernel
theorem dX5_of_175 : decode cX5_of 175 = .ok (.iconst 4, 1) := by decide +kernel
theorem dX5_of_176 : decode cX5_of 176 = .ok (.iload_n 1, 1) := by decide +kernel
theorem dX5_of_177 : decode cX5_of 177 = .ok (.imul, 1) := by decide +kernel
theorem dX5_of_178 : decode cX5_of 178 = .ok (.iload 4, 2) := by decide +kernel
theorem dX5_of_180 : decode cX5_of 180 = .ok (.iadd, 1) := by decide +kernel
theorem dX5_of_181 : decode cX5_of 181 = .ok (.iaload, 1) := by decide +kernel
theorem dX5_of_182 : decode cX5_of 182 = .ok (.i2l, 1) := by decide +kernel
theorem dX5_of_183 : decode cX5_of 183 = .ok (.goto 14, 3) := by decide +kernel
theorem dX5_of_186 : decode cX5_of 186 = .ok (.aload_n 0, 1) := by decide +kernel
theorem dX5_of_187 : decode cX5_of 187 = .ok (.getfield 63, 3) := by decide +kernel
theorem dX5_of_190 : decode cX5_of 190 = .ok (.iconst 4, 1) := by decide +kernel
theorem dX5_of_191 : decode cX5_of 191 = .ok (.iload_n 1, 1) := by decide +kernel
theorem dX5_of_192 : decode cX5_of 192 = .ok (.imul, 1) := by decide +kernel
theorem dX5_of_193 : decode cX5_of 193 = .ok (.iload 4, 2) := by decide +kernel
theorem dX5_of_195 : decode cX5_of 195 = .ok (.iadd, 1) := by decide +kernel
theorem dX5_of_196 : decode cX5_of 196 = .ok (.laload, 1) := by decide +kernel
theorem dX5_of_197 : decode cX5_of 197 = .ok (.lreturn, 1) := by decide +kernel
theorem dX5_count_0 : decode cX5_count 0 = .ok (.aload_n 0, 1) := by decide +kernel
theorem dX5_count_1 : decode cX5_count 1 = .ok (.iconst 0, 1) := by decide +kernel
theorem dX5_count_2 : decode cX5_count 2 = .ok (.putfield 72, 3) := by decide +kernel
theorem dX5_count_5 : decode cX5_count 5 = .ok (.iconst 0, 1) := by decide +kernel
theorem dX5_count_6 : decode cX5_count 6 = .ok (.istore_n 2, 1) := by decide +kernel
theorem dX5_count_7 : decode cX5_count 7 = .ok (.iconst 1, 1) := by decide +kernel
theorem dX5_count_8 : decode cX5_count 8 = .ok (.istore_n 3, 1) := by decide +kernel
theorem dX5_count_9 : decode cX5_count 9 = .ok (.iload_n 3, 1) := by decide +kernel
theorem dX5_count_10 : decode cX5_count 10 = .ok (.aload_n 0, 1) := by decide +kernel
theorem dX5_count_11 : decode cX5_count 11 = .ok (.getfield 79, 3) := by decide +kernel
theorem dX5_count_14 : decode cX5_count 14 = .ok (.if_icmp .gt 26, 3) := by decide +kernel
theorem dX5_count_17 : decode cX5_count 17 = .ok (.iload_n 2, 1) := by decide +kernel
theorem dX5_count_18 : decode cX5_count 18 = .ok (.aload_n 0, 1) := by decide +kernel
theorem dX5_count_19 : decode cX5_count 19 = .ok (.getfield 54, 3) := by decide +kernel
theorem dX5_count_22 : decode cX5_count 22 = .ok (.iload_n 3, 1) := by decide +kernel
theorem dX5_count_23 : decode cX5_count 23 = .ok (.iaload, 1) := by decide +kernel
theorem dX5_count_24 : decode cX5_count 24 = .ok (.ifCond .ne 7, 3) := by decide +kernel
theorem dX5_count_27 : decode cX5_count 27 = .ok (.iconst 1, 1) := by decide +kernel
theorem dX5_count_28 : decode cX5_count 28 = .ok (.goto 4, 3) := by decide +kernel
theorem dX5_count_31 : decode cX5_count 31 = .ok (.iconst 0, 1) := by decide +kernel
theorem dX5_count_32 : decode cX5_count 32 = .ok (.iadd, 1) := by decide +kernel
theorem dX5_count_33 : decode cX5_count 33 = .ok (.istore_n 2, 1) := by decide +kernel
theorem dX5_count_34 : decode cX5_count 34 = .ok (.iinc 3 1, 3) := by decide +kernel
theorem dX5_count_37 : decode cX5_count 37 = .ok (.goto (-28), 3) := by decide +kernel
theorem dX5_count_40 : decode cX5_count 40 = .ok (.iload_n 1, 1) := by decide +kernel
theorem dX5_count_41 : decode cX5_count 41 = .ok (.bipush 10, 2) := by decide +kernel
theorem dX5_count_43 : decode cX5_count 43 = .ok (.if_icmp .lt 23, 3) := by decide +kernel
theorem dX5_count_46 : decode cX5_count 46 = .ok (.iload_n 1, 1) := by decide +kernel
theorem dX5_count_47 : decode cX5_count 47 = .ok (.bipush 14, 2) := by decide +kernel
theorem dX5_count_49 : decode cX5_count 49 = .ok (.if_icmp .ge 15, 3) := by decide +kernel
theorem dX5_count_52 : decode cX5_count 52 = .ok (.aload_n 0, 1) := by decide +kernel
theorem dX5_count_53 : decode cX5_count 53 = .ok (.getfield 69, 3) := by decide +kernel
theorem dX5_count_56 : decode cX5_count 56 = .ok (.iload_n 1, 1) := by decide +kernel
theorem dX5_count_57 : decode cX5_count 57 = .ok (.bipush 10, 2) := by decide +kernel
theorem dX5_count_59 : decode cX5_count 59 = .ok (.isub, 1) := by decide +kernel
theorem dX5_count_60 : decode cX5_count 60 = .ok (.iaload, 1) := by decide +kernel
theorem dX5_count_61 : decode cX5_count 61 = .ok (.goto 4, 3) := by decide +kernel
theorem dX5_count_64 : decode cX5_count 64 = .ok (.iconst (-1), 1) := by decide +kernel
theorem dX5_count_65 : decode cX5_count 65 = .ok (.ireturn, 1) := by decide +kernel
theorem dX5_count_66 : decode cX5_count 66 = .ok (.iload_n 1, 1) := by decide +kernel
theorem dX5_count_67 : decode cX5_count 67 = .ok (.tableswitch 46 0 3 #[29, 34, 39, 41], 29) := by decide +kernel
theorem dX5_count_96 : decode cX5_count 96 = .ok (.aload_n 0, 1) := by decide +kernel
theorem dX5_count_97 : decode cX5_count 97 = .ok (.getfield 76, 3) := by decide +kernel
theorem dX5_count_100 : decode cX5_count 100 = .ok (.ireturn, 1) := by decide +kernel
theorem dX5_count_101 : decode cX5_count 101 = .ok (.aload_n 0, 1) := by decide +kernel
theorem dX5_count_102 : decode cX5_count 102 = .ok (.getfield 79, 3) := by decide +kernel
theorem dX5_count_105 : decode cX5_count 105 = .ok (.ireturn, 1) := by decide +kernel
theorem dX5_count_106 : decode cX5_count 106 = .ok (.iload_n 2, 1) := by decide +kernel
theorem dX5_count_107 : decode cX5_count 107 = .ok (.ireturn, 1) := by decide +kernel
theorem dX5_count_108 : decode cX5_count 108 = .ok (.aload_n 0, 1) := by decide +kernel
theorem dX5_count_109 : decode cX5_count 109 = .ok (.getfield 100, 3) := by decide +kernel
theorem dX5_count_112 : decode cX5_count 112 = .ok (.ireturn, 1) := by decide +kernel
theorem dX5_count_113 : decode cX5_count 113 = .ok (.iconst (-1), 1) := by decide +kernel
theorem dX5_count_114 : decode cX5_count 114 = .ok (.ireturn, 1) := by decide +kernel

theorem dX1_init_0 : decode cX1_init 0 = .ok (.aload_n 0, 1) := by decide +kernel
theorem dX1_init_1 : decode cX1_init 1 = .ok (.invokespecial 1, 3) := by decide +kernel
theorem dX1_init_4 : decode cX1_init 4 = .ok (.aload_n 0, 1) := by decide +kernel
theorem dX1_init_5 : decode cX1_init 5 = .ok (.iload_n 1, 1) := by decide +kernel
theorem dX1_init_6 : decode cX1_init 6 = .ok (.putfield 7, 3) := by decide +kernel
theorem dX1_init_9 : decode cX1_init 9 = .ok (.aload_n 0, 1) := by decide +kernel
theorem dX1_init_10 : decode cX1_init 10 = .ok (.iload_n 2, 1) := by decide +kernel
theorem dX1_init_11 : decode cX1_init 11 = .ok (.putfield 13, 3) := by decide +kernel
theorem dX1_init_14 : decode cX1_init 14 = .ok (.aload_n 0, 1) := by decide +kernel
theorem dX1_init_15 : decode cX1_init 15 = .ok (.lload_n 3, 1) := by decide +kernel
theorem dX1_init_16 : decode cX1_init 16 = .ok (.putfield 16, 3) := by decide +kernel
theorem dX1_init_19 : decode cX1_init 19 = .ok (.aload_n 0, 1) := by decide +kernel
theorem dX1_init_20 : decode cX1_init 20 = .ok (.aload 5, 2) := by decide +kernel
theorem dX1_init_22 : decode cX1_init 22 = .ok (.putfield 20, 3) := by decide +kernel
theorem dX1_init_25 : decode cX1_init 25 = .ok (.aload_n 0, 1) := by decide +kernel
theorem dX1_init_26 : decode cX1_init 26 = .ok (.iload 6, 2) := by decide +kernel
theorem dX1_init_28 : decode cX1_init 28 = .ok (.putfield 24, 3) := by decide +kernel
theorem dX1_init_31 : decode cX1_init 31 = .ok (.aload_n 0, 1) := by decide +kernel
theorem dX1_init_32 : decode cX1_init 32 = .ok (.aload 7, 2) := by decide +kernel
theorem dX1_init_34 : decode cX1_init 34 = .ok (.putfield 28, 3) := by decide +kernel
theorem dX1_init_37 : decode cX1_init 37 = .ok (.return_, 1) := by decide +kernel
theorem dX1_unneeded_0 : decode cX1_unneeded 0 = .ok (.lconst 0, 1) := by decide +kernel
theorem dX1_unneeded_1 : decode cX1_unneeded 1 = .ok (.aload_n 0, 1) := by decide +kernel
theorem dX1_unneeded_2 : decode cX1_unneeded 2 = .ok (.getfield 16, 3) := by decide +kernel
theorem dX1_unneeded_5 : decode cX1_unneeded 5 = .ok (.aload_n 0, 1) := by decide +kernel
theorem dX1_unneeded_6 : decode cX1_unneeded 6 = .ok (.getfield 32, 3) := by decide +kernel
theorem dX1_unneeded_9 : decode cX1_unneeded 9 = .ok (.lsub, 1) := by decide +kernel
theorem dX1_unneeded_10 : decode cX1_unneeded 10 = .ok (.invokestatic 35, 3) := by decide +kernel
theorem dX1_unneeded_13 : decode cX1_unneeded 13 = .ok (.lreturn, 1) := by decide +kernel
theorem dX1_risk_0 : decode cX1_risk 0 = .ok (.lconst 0, 1) := by decide +kernel
theorem dX1_risk_1 : decode cX1_risk 1 = .ok (.aload_n 0, 1) := by decide +kernel
theorem dX1_risk_2 : decode cX1_risk 2 = .ok (.getfield 32, 3) := by decide +kernel
theorem dX1_risk_5 : decode cX1_risk 5 = .ok (.aload_n 0, 1) := by decide +kernel
theorem dX1_risk_6 : decode cX1_risk 6 = .ok (.getfield 16, 3) := by decide +kernel
theorem dX1_risk_9 : decode cX1_risk 9 = .ok (.lsub, 1) := by decide +kernel
theorem dX1_risk_10 : decode cX1_risk 10 = .ok (.invokestatic 35, 3) := by decide +kernel
theorem dX1_risk_13 : decode cX1_risk 13 = .ok (.lreturn, 1) := by decide +kernel
theorem dX1_mayCover_0 : decode cX1_mayCover 0 = .ok (.aload_n 0, 1) := by decide +kernel
theorem dX1_mayCover_1 : decode cX1_mayCover 1 = .ok (.getfield 41, 3) := by decide +kernel
theorem dX1_mayCover_4 : decode cX1_mayCover 4 = .ok (.ifCond .ne 17, 3) := by decide +kernel
theorem dX1_mayCover_7 : decode cX1_mayCover 7 = .ok (.aload_n 0, 1) := by decide +kernel
theorem dX1_mayCover_8 : decode cX1_mayCover 8 = .ok (.getfield 24, 3) := by decide +kernel
theorem dX1_mayCover_11 : decode cX1_mayCover 11 = .ok (.ifCond .eq 14, 3) := by decide +kernel
theorem dX1_mayCover_14 : decode cX1_mayCover 14 = .ok (.aload_n 0, 1) := by decide +kernel
theorem dX1_mayCover_15 : decode cX1_mayCover 15 = .ok (.getfield 44, 3) := by decide +kernel
theorem dX1_mayCover_18 : decode cX1_mayCover 18 = .ok (.ifCond .le 7, 3) := by decide +kernel
theorem dX1_mayCover_21 : decode cX1_mayCover 21 = .ok (.lconst 0, 1) := by decide +kernel
theorem dX1_mayCover_22 : decode cX1_mayCover 22 = .ok (.goto 14, 3) := by decide +kernel
theorem dX1_mayCover_25 : decode cX1_mayCover 25 = .ok (.aload_n 0, 1) := by decide +kernel
theorem dX1_mayCover_26 : decode cX1_mayCover 26 = .ok (.getfield 20, 3) := by decide +kernel
theorem dX1_mayCover_29 : decode cX1_mayCover 29 = .ok (.aload_n 0, 1) := by decide +kernel
theorem dX1_mayCover_30 : decode cX1_mayCover 30 = .ok (.invokevirtual 47, 3) := by decide +kernel
theorem dX1_mayCover_33 : decode cX1_mayCover 33 = .ok (.invokevirtual 51, 3) := by decide +kernel
theorem dX1_mayCover_36 : decode cX1_mayCover 36 = .ok (.lreturn, 1) := by decide +kernel
theorem dX1_changePart_0 : decode cX1_changePart 0 = .ok (.aload_n 0, 1) := by decide +kernel
theorem dX1_changePart_1 : decode cX1_changePart 1 = .ok (.dup, 1) := by decide +kernel
theorem dX1_changePart_2 : decode cX1_changePart 2 = .ok (.getfield 32, 3) := by decide +kernel
theorem dX1_changePart_5 : decode cX1_changePart 5 = .ok (.aload_n 0, 1) := by decide +kernel
theorem dX1_changePart_6 : decode cX1_changePart 6 = .ok (.getfield 20, 3) := by decide +kernel
theorem dX1_changePart_9 : decode cX1_changePart 9 = .ok (.lload_n 3, 1) := by decide +kernel
theorem dX1_changePart_10 : decode cX1_changePart 10 = .ok (.invokevirtual 57, 3) := by decide +kernel
theorem dX1_changePart_13 : decode cX1_changePart 13 = .ok (.aload_n 0, 1) := by decide +kernel
theorem dX1_changePart_14 : decode cX1_changePart 14 = .ok (.getfield 20, 3) := by decide +kernel
theorem dX1_changePart_17 : decode cX1_changePart 17 = .ok (.lload_n 1, 1) := by decide +kernel
theorem dX1_changePart_18 : decode cX1_changePart 18 = .ok (.invokevirtual 57, 3) := by decide +kernel
theorem dX1_changePart_21 : decode cX1_changePart 21 = .ok (.lsub, 1) := by decide +kernel
theorem dX1_changePart_22 : decode cX1_changePart 22 = .ok (.ladd, 1) := by decide +kernel
theorem dX1_changePart_23 : decode cX1_changePart 23 = .ok (.putfield 32, 3) := by decide +kernel
theorem dX1_changePart_26 : decode cX1_changePart 26 = .ok (.lload_n 1, 1) := by decide +kernel
theorem dX1_changePart_27 : decode cX1_changePart 27 = .ok (.lconst 0, 1) := by decide +kernel
theorem dX1_changePart_28 : decode cX1_changePart 28 = .ok (.lcmp, 1) := by decide +kernel
theorem dX1_changePart_29 : decode cX1_changePart 29 = .ok (.ifCond .ne 13, 3) := by decide +kernel
theorem dX1_changePart_32 : decode cX1_changePart 32 = .ok (.aload_n 0, 1) := by decide +kernel
theorem dX1_changePart_33 : decode cX1_changePart 33 = .ok (.dup, 1) := by decide +kernel
theorem dX1_changePart_34 : decode cX1_changePart 34 = .ok (.getfield 44, 3) := by decide +kernel
theorem dX1_changePart_37 : decode cX1_changePart 37 = .ok (.iconst 1, 1) := by decide +kernel
theorem dX1_changePart_38 : decode cX1_changePart 38 = .ok (.iadd, 1) := by decide +kernel
theorem dX1_changePart_39 : decode cX1_changePart 39 = .ok (.putfield 44, 3) := by decide +kernel
theorem dX1_changePart_42 : decode cX1_changePart 42 = .ok (.lload_n 3, 1) := by decide +kernel
theorem dX1_changePart_43 : decode cX1_changePart 43 = .ok (.lconst 0, 1) := by decide +kernel
theorem dX1_changePart_44 : decode cX1_changePart 44 = .ok (.lcmp, 1) := by decide +kernel
theorem dX1_changePart_45 : decode cX1_changePart 45 = .ok (.ifCond .ne 13, 3) := by decide +kernel
theorem dX1_changePart_48 : decode cX1_changePart 48 = .ok (.aload_n 0, 1) := by decide +kernel
theorem dX1_changePart_49 : decode cX1_changePart 49 = .ok (.dup, 1) := by decide +kernel
theorem dX1_changePart_50 : decode cX1_changePart 50 = .ok (.getfield 44, 3) := by decide +kernel
theorem dX1_changePart_53 : decode cX1_changePart 53 = .ok (.iconst 1, 1) := by decide +kernel
theorem dX1_changePart_54 : decode cX1_changePart 54 = .ok (.isub, 1) := by decide +kernel
theorem dX1_changePart_55 : decode cX1_changePart 55 = .ok (.putfield 44, 3) := by decide +kernel
theorem dX1_changePart_58 : decode cX1_changePart 58 = .ok (.return_, 1) := by decide +kernel
theorem dX1_loseUpTo_0 : decode cX1_loseUpTo 0 = .ok (.aload_n 0, 1) := by decide +kernel
theorem dX1_loseUpTo_1 : decode cX1_loseUpTo 1 = .ok (.getfield 16, 3) := by decide +kernel
theorem dX1_loseUpTo_4 : decode cX1_loseUpTo 4 = .ok (.lload_n 1, 1) := by decide +kernel
theorem dX1_loseUpTo_5 : decode cX1_loseUpTo 5 = .ok (.invokestatic 60, 3) := by decide +kernel
theorem dX1_loseUpTo_8 : decode cX1_loseUpTo 8 = .ok (.lstore 4, 2) := by decide +kernel
theorem dX1_loseUpTo_10 : decode cX1_loseUpTo 10 = .ok (.lload 4, 2) := by decide +kernel
theorem dX1_loseUpTo_12 : decode cX1_loseUpTo 12 = .ok (.lconst 0, 1) := by decide +kernel
theorem dX1_loseUpTo_13 : decode cX1_loseUpTo 13 = .ok (.lcmp, 1) := by decide +kernel
theorem dX1_loseUpTo_14 : decode cX1_loseUpTo 14 = .ok (.ifCond .le 37, 3) := by decide +kernel
theorem dX1_loseUpTo_17 : decode cX1_loseUpTo 17 = .ok (.aload_n 0, 1) := by decide +kernel
theorem dX1_loseUpTo_18 : decode cX1_loseUpTo 18 = .ok (.getfield 28, 3) := by decide +kernel
theorem dX1_loseUpTo_21 : decode cX1_loseUpTo 21 = .ok (.iload_n 3, 1) := by decide +kernel
theorem dX1_loseUpTo_22 : decode cX1_loseUpTo 22 = .ok (.aload_n 0, 1) := by decide +kernel
theorem dX1_loseUpTo_23 : decode cX1_loseUpTo 23 = .ok (.getfield 16, 3) := by decide +kernel
theorem dX1_loseUpTo_26 : decode cX1_loseUpTo 26 = .ok (.invokevirtual 63, 3) := by decide +kernel
theorem dX1_loseUpTo_29 : decode cX1_loseUpTo 29 = .ok (.aload_n 0, 1) := by decide +kernel
theorem dX1_loseUpTo_30 : decode cX1_loseUpTo 30 = .ok (.dup, 1) := by decide +kernel
theorem dX1_loseUpTo_31 : decode cX1_loseUpTo 31 = .ok (.getfield 16, 3) := by decide +kernel
theorem dX1_loseUpTo_34 : decode cX1_loseUpTo 34 = .ok (.lload 4, 2) := by decide +kernel
theorem dX1_loseUpTo_36 : decode cX1_loseUpTo 36 = .ok (.lsub, 1) := by decide +kernel
theorem dX1_loseUpTo_37 : decode cX1_loseUpTo 37 = .ok (.putfield 16, 3) := by decide +kernel
theorem dX1_loseUpTo_40 : decode cX1_loseUpTo 40 = .ok (.aload_n 0, 1) := by decide +kernel
theorem dX1_loseUpTo_41 : decode cX1_loseUpTo 41 = .ok (.dup, 1) := by decide +kernel
theorem dX1_loseUpTo_42 : decode cX1_loseUpTo 42 = .ok (.getfield 69, 3) := by decide +kernel
theorem dX1_loseUpTo_45 : decode cX1_loseUpTo 45 = .ok (.lload 4, 2) := by decide +kernel
theorem dX1_loseUpTo_47 : decode cX1_loseUpTo 47 = .ok (.ladd, 1) := by decide +kernel
theorem dX1_loseUpTo_48 : decode cX1_loseUpTo 48 = .ok (.putfield 69, 3) := by decide +kernel
theorem dX1_loseUpTo_51 : decode cX1_loseUpTo 51 = .ok (.lload 4, 2) := by decide +kernel
theorem dX1_loseUpTo_53 : decode cX1_loseUpTo 53 = .ok (.lreturn, 1) := by decide +kernel
theorem dX1_shut_0 : decode cX1_shut 0 = .ok (.aload_n 0, 1) := by decide +kernel
theorem dX1_shut_1 : decode cX1_shut 1 = .ok (.getfield 28, 3) := by decide +kernel
theorem dX1_shut_4 : decode cX1_shut 4 = .ok (.iload_n 1, 1) := by decide +kernel
theorem dX1_shut_5 : decode cX1_shut 5 = .ok (.aload_n 0, 1) := by decide +kernel
theorem dX1_shut_6 : decode cX1_shut 6 = .ok (.getfield 16, 3) := by decide +kernel
theorem dX1_shut_9 : decode cX1_shut 9 = .ok (.invokevirtual 72, 3) := by decide +kernel
theorem dX1_shut_12 : decode cX1_shut 12 = .ok (.aload_n 0, 1) := by decide +kernel
theorem dX1_shut_13 : decode cX1_shut 13 = .ok (.iconst 1, 1) := by decide +kernel
theorem dX1_shut_14 : decode cX1_shut 14 = .ok (.putfield 41, 3) := by decide +kernel
theorem dX1_shut_17 : decode cX1_shut 17 = .ok (.return_, 1) := by decide +kernel
theorem dX2_init_0 : decode cX2_init 0 = .ok (.aload_n 0, 1) := by decide +kernel
theorem dX2_init_1 : decode cX2_init 1 = .ok (.invokespecial 3, 3) := by decide +kernel
theorem dX2_init_4 : decode cX2_init 4 = .ok (.aload_n 0, 1) := by decide +kernel
theorem dX2_init_5 : decode cX2_init 5 = .ok (.iload_n 1, 1) := by decide +kernel
theorem dX2_init_6 : decode cX2_init 6 = .ok (.putfield 9, 3) := by decide +kernel
theorem dX2_init_9 : decode cX2_init 9 = .ok (.aload_n 0, 1) := by decide +kernel
theorem dX2_init_10 : decode cX2_init 10 = .ok (.iload_n 2, 1) := by decide +kernel
theorem dX2_init_11 : decode cX2_init 11 = .ok (.putfield 15, 3) := by decide +kernel
theorem dX2_init_14 : decode cX2_init 14 = .ok (.return_, 1) := by decide +kernel
theorem dX2_neededFor_0 : decode cX2_neededFor 0 = .ok (.aload_n 0, 1) := by decide +kernel
theorem dX2_neededFor_1 : decode cX2_neededFor 1 = .ok (.getfield 15, 3) := by decide +kernel
theorem dX2_neededFor_4 : decode cX2_neededFor 4 = .ok (.ifCond .ne 7, 3) := by decide +kernel
theorem dX2_neededFor_7 : decode cX2_neededFor 7 = .ok (.lconst 0, 1) := by decide +kernel
theorem dX2_neededFor_8 : decode cX2_neededFor 8 = .ok (.goto 24, 3) := by decide +kernel
theorem dX2_neededFor_11 : decode cX2_neededFor 11 = .ok (.lload_n 1, 1) := by decide +kernel
theorem dX2_neededFor_12 : decode cX2_neededFor 12 = .ok (.aload_n 0, 1) := by decide +kernel
theorem dX2_neededFor_13 : decode cX2_neededFor 13 = .ok (.getfield 9, 3) := by decide +kernel
theorem dX2_neededFor_16 : decode cX2_neededFor 16 = .ok (.i2l, 1) := by decide +kernel
theorem dX2_neededFor_17 : decode cX2_neededFor 17 = .ok (.lmul, 1) := by decide +kernel
theorem dX2_neededFor_18 : decode cX2_neededFor 18 = .ok (.aload_n 0, 1) := by decide +kernel
theorem dX2_neededFor_19 : decode cX2_neededFor 19 = .ok (.getfield 15, 3) := by decide +kernel
theorem dX2_neededFor_22 : decode cX2_neededFor 22 = .ok (.i2l, 1) := by decide +kernel
theorem dX2_neededFor_23 : decode cX2_neededFor 23 = .ok (.ladd, 1) := by decide +kernel
theorem dX2_neededFor_24 : decode cX2_neededFor 24 = .ok (.lconst 1, 1) := by decide +kernel
theorem dX2_neededFor_25 : decode cX2_neededFor 25 = .ok (.lsub, 1) := by decide +kernel
theorem dX2_neededFor_26 : decode cX2_neededFor 26 = .ok (.aload_n 0, 1) := by decide +kernel
theorem dX2_neededFor_27 : decode cX2_neededFor 27 = .ok (.getfield 15, 3) := by decide +kernel
theorem dX2_neededFor_30 : decode cX2_neededFor 30 = .ok (.i2l, 1) := by decide +kernel
theorem dX2_neededFor_31 : decode cX2_neededFor 31 = .ok (.ldiv, 1) := by decide +kernel
theorem dX2_neededFor_32 : decode cX2_neededFor 32 = .ok (.lreturn, 1) := by decide +kernel
theorem dX2_mostFor_0 : decode cX2_mostFor 0 = .ok (.aload_n 0, 1) := by decide +kernel
theorem dX2_mostFor_1 : decode cX2_mostFor 1 = .ok (.getfield 9, 3) := by decide +kernel
theorem dX2_mostFor_4 : decode cX2_mostFor 4 = .ok (.ifCond .ne 9, 3) := by decide +kernel
theorem dX2_mostFor_7 : decode cX2_mostFor 7 = .ok (.ldc2_w 18, 3) := by decide +kernel
theorem dX2_mostFor_10 : decode cX2_mostFor 10 = .ok (.goto 16, 3) := by decide +kernel
theorem dX2_mostFor_13 : decode cX2_mostFor 13 = .ok (.lload_n 1, 1) := by decide +kernel
theorem dX2_mostFor_14 : decode cX2_mostFor 14 = .ok (.aload_n 0, 1) := by decide +kernel
theorem dX2_mostFor_15 : decode cX2_mostFor 15 = .ok (.getfield 15, 3) := by decide +kernel
theorem dX2_mostFor_18 : decode cX2_mostFor 18 = .ok (.i2l, 1) := by decide +kernel
theorem dX2_mostFor_19 : decode cX2_mostFor 19 = .ok (.lmul, 1) := by decide +kernel
theorem dX2_mostFor_20 : decode cX2_mostFor 20 = .ok (.aload_n 0, 1) := by decide +kernel
theorem dX2_mostFor_21 : decode cX2_mostFor 21 = .ok (.getfield 9, 3) := by decide +kernel
theorem dX2_mostFor_24 : decode cX2_mostFor 24 = .ok (.i2l, 1) := by decide +kernel
theorem dX2_mostFor_25 : decode cX2_mostFor 25 = .ok (.ldiv, 1) := by decide +kernel
theorem dX2_mostFor_26 : decode cX2_mostFor 26 = .ok (.lreturn, 1) := by decide +kernel
theorem dX3_init_0 : decode cX3_init 0 = .ok (.aload_n 0, 1) := by decide +kernel
theorem dX3_init_1 : decode cX3_init 1 = .ok (.invokespecial 3, 3) := by decide +kernel
theorem dX3_init_4 : decode cX3_init 4 = .ok (.aload_n 0, 1) := by decide +kernel
theorem dX3_init_5 : decode cX3_init 5 = .ok (.iload_n 1, 1) := by decide +kernel
theorem dX3_init_6 : decode cX3_init 6 = .ok (.putfield 9, 3) := by decide +kernel
theorem dX3_init_9 : decode cX3_init 9 = .ok (.aload_n 0, 1) := by decide +kernel
theorem dX3_init_10 : decode cX3_init 10 = .ok (.iload_n 2, 1) := by decide +kernel
theorem dX3_init_11 : decode cX3_init 11 = .ok (.putfield 15, 3) := by decide +kernel
theorem dX3_init_14 : decode cX3_init 14 = .ok (.return_, 1) := by decide +kernel
theorem dX3_upTo_0 : decode cX3_upTo 0 = .ok (.aload_n 0, 1) := by decide +kernel
theorem dX3_upTo_1 : decode cX3_upTo 1 = .ok (.getfield 18, 3) := by decide +kernel
theorem dX3_upTo_4 : decode cX3_upTo 4 = .ok (.ifCond .eq 10, 3) := by decide +kernel
theorem dX3_upTo_7 : decode cX3_upTo 7 = .ok (.aload_n 0, 1) := by decide +kernel
theorem dX3_upTo_8 : decode cX3_upTo 8 = .ok (.getfield 22, 3) := by decide +kernel
theorem dX3_upTo_11 : decode cX3_upTo 11 = .ok (.goto 27, 3) := by decide +kernel
theorem dX3_upTo_14 : decode cX3_upTo 14 = .ok (.aload_n 0, 1) := by decide +kernel
theorem dX3_upTo_15 : decode cX3_upTo 15 = .ok (.getfield 22, 3) := by decide +kernel
theorem dX3_upTo_18 : decode cX3_upTo 18 = .ok (.lload_n 2, 1) := by decide +kernel
theorem dX3_upTo_19 : decode cX3_upTo 19 = .ok (.aload_n 0, 1) := by decide +kernel
theorem dX3_upTo_20 : decode cX3_upTo 20 = .ok (.getfield 9, 3) := by decide +kernel
theorem dX3_upTo_23 : decode cX3_upTo 23 = .ok (.i2l, 1) := by decide +kernel
theorem dX3_upTo_24 : decode cX3_upTo 24 = .ok (.lmul, 1) := by decide +kernel
theorem dX3_upTo_25 : decode cX3_upTo 25 = .ok (.iload_n 1, 1) := by decide +kernel
theorem dX3_upTo_26 : decode cX3_upTo 26 = .ok (.aload_n 0, 1) := by decide +kernel
theorem dX3_upTo_27 : decode cX3_upTo 27 = .ok (.getfield 15, 3) := by decide +kernel
theorem dX3_upTo_30 : decode cX3_upTo 30 = .ok (.isub, 1) := by decide +kernel
theorem dX3_upTo_31 : decode cX3_upTo 31 = .ok (.i2l, 1) := by decide +kernel
theorem dX3_upTo_32 : decode cX3_upTo 32 = .ok (.lmul, 1) := by decide +kernel
theorem dX3_upTo_33 : decode cX3_upTo 33 = .ok (.ldc2_w 26, 3) := by decide +kernel
theorem dX3_upTo_36 : decode cX3_upTo 36 = .ok (.ldiv, 1) := by decide +kernel
theorem dX3_upTo_37 : decode cX3_upTo 37 = .ok (.ladd, 1) := by decide +kernel
theorem dX3_upTo_38 : decode cX3_upTo 38 = .ok (.lreturn, 1) := by decide +kernel
theorem dX3_endRow_0 : decode cX3_endRow 0 = .ok (.aload_n 0, 1) := by decide +kernel
theorem dX3_endRow_1 : decode cX3_endRow 1 = .ok (.aload_n 0, 1) := by decide +kernel
theorem dX3_endRow_2 : decode cX3_endRow 2 = .ok (.iload_n 1, 1) := by decide +kernel
theorem dX3_endRow_3 : decode cX3_endRow 3 = .ok (.lload_n 2, 1) := by decide +kernel
theorem dX3_endRow_4 : decode cX3_endRow 4 = .ok (.invokevirtual 28, 3) := by decide +kernel
theorem dX3_endRow_7 : decode cX3_endRow 7 = .ok (.putfield 22, 3) := by decide +kernel
theorem dX3_endRow_10 : decode cX3_endRow 10 = .ok (.aload_n 0, 1) := by decide +kernel
theorem dX3_endRow_11 : decode cX3_endRow 11 = .ok (.iload_n 1, 1) := by decide +kernel
theorem dX3_endRow_12 : decode cX3_endRow 12 = .ok (.putfield 15, 3) := by decide +kernel
theorem dX3_endRow_15 : decode cX3_endRow 15 = .ok (.return_, 1) := by decide +kernel
theorem dX3_stop_0 : decode cX3_stop 0 = .ok (.aload_n 0, 1) := by decide +kernel
theorem dX3_stop_1 : decode cX3_stop 1 = .ok (.iload_n 1, 1) := by decide +kernel
theorem dX3_stop_2 : decode cX3_stop 2 = .ok (.lload_n 2, 1) := by decide +kernel
theorem dX3_stop_3 : decode cX3_stop 3 = .ok (.invokevirtual 32, 3) := by decide +kernel
theorem dX3_stop_6 : decode cX3_stop 6 = .ok (.aload_n 0, 1) := by decide +kernel
theorem dX3_stop_7 : decode cX3_stop 7 = .ok (.iconst 1, 1) := by decide +kernel
theorem dX3_stop_8 : decode cX3_stop 8 = .ok (.putfield 18, 3) := by decide +kernel
theorem dX3_stop_11 : decode cX3_stop 11 = .ok (.return_, 1) := by decide +kernel
theorem dX4_init_0 : decode cX4_init 0 = .ok (.aload_n 0, 1) := by decide +kernel
theorem dX4_init_1 : decode cX4_init 1 = .ok (.invokespecial 3, 3) := by decide +kernel
theorem dX4_init_4 : decode cX4_init 4 = .ok (.aload_n 0, 1) := by decide +kernel
theorem dX4_init_5 : decode cX4_init 5 = .ok (.iconst 4, 1) := by decide +kernel
theorem dX4_init_6 : decode cX4_init 6 = .ok (.anewarray 9, 3) := by decide +kernel
theorem dX4_init_9 : decode cX4_init 9 = .ok (.putfield 11, 3) := by decide +kernel
theorem dX4_init_12 : decode cX4_init 12 = .ok (.aload_n 0, 1) := by decide +kernel
theorem dX4_init_13 : decode cX4_init 13 = .ok (.iconst 4, 1) := by decide +kernel
theorem dX4_init_14 : decode cX4_init 14 = .ok (.newarray .long, 2) := by decide +kernel
theorem dX4_init_16 : decode cX4_init 16 = .ok (.putfield 17, 3) := by decide +kernel
theorem dX4_init_19 : decode cX4_init 19 = .ok (.aload_n 0, 1) := by decide +kernel
theorem dX4_init_20 : decode cX4_init 20 = .ok (.iconst 0, 1) := by decide +kernel
theorem dX4_init_21 : decode cX4_init 21 = .ok (.putfield 21, 3) := by decide +kernel
theorem dX4_init_24 : decode cX4_init 24 = .ok (.return_, 1) := by decide +kernel
theorem dX4_beginFor_0 : decode cX4_beginFor 0 = .ok (.aload_n 0, 1) := by decide +kernel
theorem dX4_beginFor_1 : decode cX4_beginFor 1 = .ok (.iload_n 1, 1) := by decide +kernel
theorem dX4_beginFor_2 : decode cX4_beginFor 2 = .ok (.putfield 25, 3) := by decide +kernel
theorem dX4_beginFor_5 : decode cX4_beginFor 5 = .ok (.aload_n 0, 1) := by decide +kernel
theorem dX4_beginFor_6 : decode cX4_beginFor 6 = .ok (.lload_n 2, 1) := by decide +kernel
theorem dX4_beginFor_7 : decode cX4_beginFor 7 = .ok (.putfield 28, 3) := by decide +kernel
theorem dX4_beginFor_10 : decode cX4_beginFor 10 = .ok (.aload_n 0, 1) := by decide +kernel
theorem dX4_beginFor_11 : decode cX4_beginFor 11 = .ok (.iconst 0, 1) := by decide +kernel
theorem dX4_beginFor_12 : decode cX4_beginFor 12 = .ok (.putfield 32, 3) := by decide +kernel
theorem dX4_beginFor_15 : decode cX4_beginFor 15 = .ok (.return_, 1) := by decide +kernel
theorem dX4_addPart_0 : decode cX4_addPart 0 = .ok (.aload_n 0, 1) := by decide +kernel
theorem dX4_addPart_1 : decode cX4_addPart 1 = .ok (.getfield 32, 3) := by decide +kernel
theorem dX4_addPart_4 : decode cX4_addPart 4 = .ok (.iconst 4, 1) := by decide +kernel
theorem dX4_addPart_5 : decode cX4_addPart 5 = .ok (.if_icmp .lt 5, 3) := by decide +kernel
theorem dX4_addPart_8 : decode cX4_addPart 8 = .ok (.iconst 0, 1) := by decide +kernel
theorem dX4_addPart_9 : decode cX4_addPart 9 = .ok (.ireturn, 1) := by decide +kernel
theorem dX4_addPart_10 : decode cX4_addPart 10 = .ok (.aload_n 0, 1) := by decide +kernel
theorem dX4_addPart_11 : decode cX4_addPart 11 = .ok (.getfield 11, 3) := by decide +kernel
theorem dX4_addPart_14 : decode cX4_addPart 14 = .ok (.aload_n 0, 1) := by decide +kernel
theorem dX4_addPart_15 : decode cX4_addPart 15 = .ok (.getfield 32, 3) := by decide +kernel
theorem dX4_addPart_18 : decode cX4_addPart 18 = .ok (.aload_n 1, 1) := by decide +kernel
theorem dX4_addPart_19 : decode cX4_addPart 19 = .ok (.aastore, 1) := by decide +kernel
theorem dX4_addPart_20 : decode cX4_addPart 20 = .ok (.aload_n 0, 1) := by decide +kernel
theorem dX4_addPart_21 : decode cX4_addPart 21 = .ok (.getfield 17, 3) := by decide +kernel
theorem dX4_addPart_24 : decode cX4_addPart 24 = .ok (.aload_n 0, 1) := by decide +kernel
theorem dX4_addPart_25 : decode cX4_addPart 25 = .ok (.getfield 32, 3) := by decide +kernel
theorem dX4_addPart_28 : decode cX4_addPart 28 = .ok (.lload_n 2, 1) := by decide +kernel
theorem dX4_addPart_29 : decode cX4_addPart 29 = .ok (.lastore, 1) := by decide +kernel
theorem dX4_addPart_30 : decode cX4_addPart 30 = .ok (.aload_n 0, 1) := by decide +kernel
theorem dX4_addPart_31 : decode cX4_addPart 31 = .ok (.dup, 1) := by decide +kernel
theorem dX4_addPart_32 : decode cX4_addPart 32 = .ok (.getfield 32, 3) := by decide +kernel
theorem dX4_addPart_35 : decode cX4_addPart 35 = .ok (.iconst 1, 1) := by decide +kernel
theorem dX4_addPart_36 : decode cX4_addPart 36 = .ok (.iadd, 1) := by decide +kernel
theorem dX4_addPart_37 : decode cX4_addPart 37 = .ok (.putfield 32, 3) := by decide +kernel
theorem dX4_addPart_40 : decode cX4_addPart 40 = .ok (.iconst 1, 1) := by decide +kernel
theorem dX4_addPart_41 : decode cX4_addPart 41 = .ok (.ireturn, 1) := by decide +kernel
theorem dX4_hasPart_0 : decode cX4_hasPart 0 = .ok (.iload_n 1, 1) := by decide +kernel
theorem dX4_hasPart_1 : decode cX4_hasPart 1 = .ok (.ifCond .lt 15, 3) := by decide +kernel
theorem dX4_hasPart_4 : decode cX4_hasPart 4 = .ok (.iload_n 1, 1) := by decide +kernel
theorem dX4_hasPart_5 : decode cX4_hasPart 5 = .ok (.aload_n 0, 1) := by decide +kernel
theorem dX4_hasPart_6 : decode cX4_hasPart 6 = .ok (.getfield 32, 3) := by decide +kernel
theorem dX4_hasPart_9 : decode cX4_hasPart 9 = .ok (.if_icmp .ge 7, 3) := by decide +kernel
theorem dX4_hasPart_12 : decode cX4_hasPart 12 = .ok (.iconst 1, 1) := by decide +kernel
theorem dX4_hasPart_13 : decode cX4_hasPart 13 = .ok (.goto 4, 3) := by decide +kernel
theorem dX4_hasPart_16 : decode cX4_hasPart 16 = .ok (.iconst 0, 1) := by decide +kernel
theorem dX4_hasPart_17 : decode cX4_hasPart 17 = .ok (.ireturn, 1) := by decide +kernel
theorem dX4_numberOfPart_0 : decode cX4_numberOfPart 0 = .ok (.aload_n 0, 1) := by decide +kernel
theorem dX4_numberOfPart_1 : decode cX4_numberOfPart 1 = .ok (.getfield 11, 3) := by decide +kernel
theorem dX4_numberOfPart_4 : decode cX4_numberOfPart 4 = .ok (.iload_n 1, 1) := by decide +kernel
theorem dX4_numberOfPart_5 : decode cX4_numberOfPart 5 = .ok (.aaload, 1) := by decide +kernel
theorem dX4_numberOfPart_6 : decode cX4_numberOfPart 6 = .ok (.astore_n 2, 1) := by decide +kernel
theorem dX4_numberOfPart_7 : decode cX4_numberOfPart 7 = .ok (.aload_n 2, 1) := by decide +kernel
theorem dX4_numberOfPart_8 : decode cX4_numberOfPart 8 = .ok (.ifnonnull 7, 3) := by decide +kernel
theorem dX4_numberOfPart_11 : decode cX4_numberOfPart 11 = .ok (.iconst (-1), 1) := by decide +kernel
theorem dX4_numberOfPart_12 : decode cX4_numberOfPart 12 = .ok (.goto 7, 3) := by decide +kernel
theorem dX4_numberOfPart_15 : decode cX4_numberOfPart 15 = .ok (.aload_n 2, 1) := by decide +kernel
theorem dX4_numberOfPart_16 : decode cX4_numberOfPart 16 = .ok (.getfield 35, 3) := by decide +kernel
theorem dX4_numberOfPart_19 : decode cX4_numberOfPart 19 = .ok (.ireturn, 1) := by decide +kernel
theorem dX4_covered_0 : decode cX4_covered 0 = .ok (.lconst 0, 1) := by decide +kernel
theorem dX4_covered_1 : decode cX4_covered 1 = .ok (.lstore_n 1, 1) := by decide +kernel
theorem dX4_covered_2 : decode cX4_covered 2 = .ok (.iconst 0, 1) := by decide +kernel
theorem dX4_covered_3 : decode cX4_covered 3 = .ok (.istore_n 3, 1) := by decide +kernel
theorem dX4_covered_4 : decode cX4_covered 4 = .ok (.iload_n 3, 1) := by decide +kernel
theorem dX4_covered_5 : decode cX4_covered 5 = .ok (.aload_n 0, 1) := by decide +kernel
theorem dX4_covered_6 : decode cX4_covered 6 = .ok (.getfield 32, 3) := by decide +kernel
theorem dX4_covered_9 : decode cX4_covered 9 = .ok (.if_icmp .ge 18, 3) := by decide +kernel
theorem dX4_covered_12 : decode cX4_covered 12 = .ok (.lload_n 1, 1) := by decide +kernel
theorem dX4_covered_13 : decode cX4_covered 13 = .ok (.aload_n 0, 1) := by decide +kernel
theorem dX4_covered_14 : decode cX4_covered 14 = .ok (.getfield 17, 3) := by decide +kernel
theorem dX4_covered_17 : decode cX4_covered 17 = .ok (.iload_n 3, 1) := by decide +kernel
theorem dX4_covered_18 : decode cX4_covered 18 = .ok (.laload, 1) := by decide +kernel
theorem dX4_covered_19 : decode cX4_covered 19 = .ok (.ladd, 1) := by decide +kernel
theorem dX4_covered_20 : decode cX4_covered 20 = .ok (.lstore_n 1, 1) := by decide +kernel
theorem dX4_covered_21 : decode cX4_covered 21 = .ok (.iinc 3 1, 3) := by decide +kernel
theorem dX4_covered_24 : decode cX4_covered 24 = .ok (.goto (-20), 3) := by decide +kernel
theorem dX4_covered_27 : decode cX4_covered 27 = .ok (.lload_n 1, 1) := by decide +kernel
theorem dX4_covered_28 : decode cX4_covered 28 = .ok (.lreturn, 1) := by decide +kernel
theorem dX4_bindParts_0 : decode cX4_bindParts 0 = .ok (.iconst 0, 1) := by decide +kernel
theorem dX4_bindParts_1 : decode cX4_bindParts 1 = .ok (.istore_n 1, 1) := by decide +kernel
theorem dX4_bindParts_2 : decode cX4_bindParts 2 = .ok (.iload_n 1, 1) := by decide +kernel
theorem dX4_bindParts_3 : decode cX4_bindParts 3 = .ok (.aload_n 0, 1) := by decide +kernel
theorem dX4_bindParts_4 : decode cX4_bindParts 4 = .ok (.getfield 32, 3) := by decide +kernel
theorem dX4_bindParts_7 : decode cX4_bindParts 7 = .ok (.if_icmp .ge 21, 3) := by decide +kernel
theorem dX4_bindParts_10 : decode cX4_bindParts 10 = .ok (.aload_n 0, 1) := by decide +kernel
theorem dX4_bindParts_11 : decode cX4_bindParts 11 = .ok (.iload_n 1, 1) := by decide +kernel
theorem dX4_bindParts_12 : decode cX4_bindParts 12 = .ok (.lconst 0, 1) := by decide +kernel
theorem dX4_bindParts_13 : decode cX4_bindParts 13 = .ok (.aload_n 0, 1) := by decide +kernel
theorem dX4_bindParts_14 : decode cX4_bindParts 14 = .ok (.getfield 17, 3) := by decide +kernel
theorem dX4_bindParts_17 : decode cX4_bindParts 17 = .ok (.iload_n 1, 1) := by decide +kernel
theorem dX4_bindParts_18 : decode cX4_bindParts 18 = .ok (.laload, 1) := by decide +kernel
theorem dX4_bindParts_19 : decode cX4_bindParts 19 = .ok (.invokevirtual 38, 3) := by decide +kernel
theorem dX4_bindParts_22 : decode cX4_bindParts 22 = .ok (.iinc 1 1, 3) := by decide +kernel
theorem dX4_bindParts_25 : decode cX4_bindParts 25 = .ok (.goto (-23), 3) := by decide +kernel
theorem dX4_bindParts_28 : decode cX4_bindParts 28 = .ok (.return_, 1) := by decide +kernel
theorem dX4_dropParts_0 : decode cX4_dropParts 0 = .ok (.iconst 0, 1) := by decide +kernel
theorem dX4_dropParts_1 : decode cX4_dropParts 1 = .ok (.istore_n 1, 1) := by decide +kernel
theorem dX4_dropParts_2 : decode cX4_dropParts 2 = .ok (.iload_n 1, 1) := by decide +kernel
theorem dX4_dropParts_3 : decode cX4_dropParts 3 = .ok (.aload_n 0, 1) := by decide +kernel
theorem dX4_dropParts_4 : decode cX4_dropParts 4 = .ok (.getfield 32, 3) := by decide +kernel
theorem dX4_dropParts_7 : decode cX4_dropParts 7 = .ok (.if_icmp .ge 21, 3) := by decide +kernel
theorem dX4_dropParts_10 : decode cX4_dropParts 10 = .ok (.aload_n 0, 1) := by decide +kernel
theorem dX4_dropParts_11 : decode cX4_dropParts 11 = .ok (.iload_n 1, 1) := by decide +kernel
theorem dX4_dropParts_12 : decode cX4_dropParts 12 = .ok (.aload_n 0, 1) := by decide +kernel
theorem dX4_dropParts_13 : decode cX4_dropParts 13 = .ok (.getfield 17, 3) := by decide +kernel
theorem dX4_dropParts_16 : decode cX4_dropParts 16 = .ok (.iload_n 1, 1) := by decide +kernel
theorem dX4_dropParts_17 : decode cX4_dropParts 17 = .ok (.laload, 1) := by decide +kernel
theorem dX4_dropParts_18 : decode cX4_dropParts 18 = .ok (.lconst 0, 1) := by decide +kernel
theorem dX4_dropParts_19 : decode cX4_dropParts 19 = .ok (.invokevirtual 38, 3) := by decide +kernel
theorem dX4_dropParts_22 : decode cX4_dropParts 22 = .ok (.iinc 1 1, 3) := by decide +kernel
theorem dX4_dropParts_25 : decode cX4_dropParts 25 = .ok (.goto (-23), 3) := by decide +kernel
theorem dX4_dropParts_28 : decode cX4_dropParts 28 = .ok (.aload_n 0, 1) := by decide +kernel
theorem dX4_dropParts_29 : decode cX4_dropParts 29 = .ok (.iconst 0, 1) := by decide +kernel
theorem dX4_dropParts_30 : decode cX4_dropParts 30 = .ok (.putfield 32, 3) := by decide +kernel
theorem dX4_dropParts_33 : decode cX4_dropParts 33 = .ok (.return_, 1) := by decide +kernel
theorem dX4_shrinkBy_0 : decode cX4_shrinkBy 0 = .ok (.lload_n 1, 1) := by decide +kernel
theorem dX4_shrinkBy_1 : decode cX4_shrinkBy 1 = .ok (.lstore_n 3, 1) := by decide +kernel
theorem dX4_shrinkBy_2 : decode cX4_shrinkBy 2 = .ok (.aload_n 0, 1) := by decide +kernel
theorem dX4_shrinkBy_3 : decode cX4_shrinkBy 3 = .ok (.getfield 32, 3) := by decide +kernel
theorem dX4_shrinkBy_6 : decode cX4_shrinkBy 6 = .ok (.iconst 1, 1) := by decide +kernel
theorem dX4_shrinkBy_7 : decode cX4_shrinkBy 7 = .ok (.isub, 1) := by decide +kernel
theorem dX4_shrinkBy_8 : decode cX4_shrinkBy 8 = .ok (.istore 5, 2) := by decide +kernel
theorem dX4_shrinkBy_10 : decode cX4_shrinkBy 10 = .ok (.iload 5, 2) := by decide +kernel
theorem dX4_shrinkBy_12 : decode cX4_shrinkBy 12 = .ok (.ifCond .lt 86, 3) := by decide +kernel
theorem dX4_shrinkBy_15 : decode cX4_shrinkBy 15 = .ok (.lload_n 3, 1) := by decide +kernel
theorem dX4_shrinkBy_16 : decode cX4_shrinkBy 16 = .ok (.lconst 0, 1) := by decide +kernel
theorem dX4_shrinkBy_17 : decode cX4_shrinkBy 17 = .ok (.lcmp, 1) := by decide +kernel
theorem dX4_shrinkBy_18 : decode cX4_shrinkBy 18 = .ok (.ifCond .le 80, 3) := by decide +kernel
theorem dX4_shrinkBy_21 : decode cX4_shrinkBy 21 = .ok (.lload_n 3, 1) := by decide +kernel
theorem dX4_shrinkBy_22 : decode cX4_shrinkBy 22 = .ok (.aload_n 0, 1) := by decide +kernel
theorem dX4_shrinkBy_23 : decode cX4_shrinkBy 23 = .ok (.getfield 17, 3) := by decide +kernel
theorem dX4_shrinkBy_26 : decode cX4_shrinkBy 26 = .ok (.iload 5, 2) := by decide +kernel
theorem dX4_shrinkBy_28 : decode cX4_shrinkBy 28 = .ok (.laload, 1) := by decide +kernel
theorem dX4_shrinkBy_29 : decode cX4_shrinkBy 29 = .ok (.invokestatic 42, 3) := by decide +kernel
theorem dX4_shrinkBy_32 : decode cX4_shrinkBy 32 = .ok (.lstore 6, 2) := by decide +kernel
theorem dX4_shrinkBy_34 : decode cX4_shrinkBy 34 = .ok (.aload_n 0, 1) := by decide +kernel
theorem dX4_shrinkBy_35 : decode cX4_shrinkBy 35 = .ok (.iload 5, 2) := by decide +kernel
theorem dX4_shrinkBy_37 : decode cX4_shrinkBy 37 = .ok (.aload_n 0, 1) := by decide +kernel
theorem dX4_shrinkBy_38 : decode cX4_shrinkBy 38 = .ok (.getfield 17, 3) := by decide +kernel
theorem dX4_shrinkBy_41 : decode cX4_shrinkBy 41 = .ok (.iload 5, 2) := by decide +kernel
theorem dX4_shrinkBy_43 : decode cX4_shrinkBy 43 = .ok (.laload, 1) := by decide +kernel
theorem dX4_shrinkBy_44 : decode cX4_shrinkBy 44 = .ok (.aload_n 0, 1) := by decide +kernel
theorem dX4_shrinkBy_45 : decode cX4_shrinkBy 45 = .ok (.getfield 17, 3) := by decide +kernel
theorem dX4_shrinkBy_48 : decode cX4_shrinkBy 48 = .ok (.iload 5, 2) := by decide +kernel
theorem dX4_shrinkBy_50 : decode cX4_shrinkBy 50 = .ok (.laload, 1) := by decide +kernel
theorem dX4_shrinkBy_51 : decode cX4_shrinkBy 51 = .ok (.lload 6, 2) := by decide +kernel
theorem dX4_shrinkBy_53 : decode cX4_shrinkBy 53 = .ok (.lsub, 1) := by decide +kernel
theorem dX4_shrinkBy_54 : decode cX4_shrinkBy 54 = .ok (.invokevirtual 38, 3) := by decide +kernel
theorem dX4_shrinkBy_57 : decode cX4_shrinkBy 57 = .ok (.aload_n 0, 1) := by decide +kernel
theorem dX4_shrinkBy_58 : decode cX4_shrinkBy 58 = .ok (.getfield 17, 3) := by decide +kernel
theorem dX4_shrinkBy_61 : decode cX4_shrinkBy 61 = .ok (.iload 5, 2) := by decide +kernel
theorem dX4_shrinkBy_63 : decode cX4_shrinkBy 63 = .ok (.dup2, 1) := by decide +kernel
theorem dX4_shrinkBy_64 : decode cX4_shrinkBy 64 = .ok (.laload, 1) := by decide +kernel
theorem dX4_shrinkBy_65 : decode cX4_shrinkBy 65 = .ok (.lload 6, 2) := by decide +kernel
theorem dX4_shrinkBy_67 : decode cX4_shrinkBy 67 = .ok (.lsub, 1) := by decide +kernel
theorem dX4_shrinkBy_68 : decode cX4_shrinkBy 68 = .ok (.lastore, 1) := by decide +kernel
theorem dX4_shrinkBy_69 : decode cX4_shrinkBy 69 = .ok (.lload_n 3, 1) := by decide +kernel
theorem dX4_shrinkBy_70 : decode cX4_shrinkBy 70 = .ok (.lload 6, 2) := by decide +kernel
theorem dX4_shrinkBy_72 : decode cX4_shrinkBy 72 = .ok (.lsub, 1) := by decide +kernel
theorem dX4_shrinkBy_73 : decode cX4_shrinkBy 73 = .ok (.lstore_n 3, 1) := by decide +kernel
theorem dX4_shrinkBy_74 : decode cX4_shrinkBy 74 = .ok (.aload_n 0, 1) := by decide +kernel
theorem dX4_shrinkBy_75 : decode cX4_shrinkBy 75 = .ok (.getfield 17, 3) := by decide +kernel
theorem dX4_shrinkBy_78 : decode cX4_shrinkBy 78 = .ok (.iload 5, 2) := by decide +kernel
theorem dX4_shrinkBy_80 : decode cX4_shrinkBy 80 = .ok (.laload, 1) := by decide +kernel
theorem dX4_shrinkBy_81 : decode cX4_shrinkBy 81 = .ok (.lconst 0, 1) := by decide +kernel
theorem dX4_shrinkBy_82 : decode cX4_shrinkBy 82 = .ok (.lcmp, 1) := by decide +kernel
theorem dX4_shrinkBy_83 : decode cX4_shrinkBy 83 = .ok (.ifCond .ne 9, 3) := by decide +kernel
theorem dX4_shrinkBy_86 : decode cX4_shrinkBy 86 = .ok (.aload_n 0, 1) := by decide +kernel
theorem dX4_shrinkBy_87 : decode cX4_shrinkBy 87 = .ok (.iload 5, 2) := by decide +kernel
theorem dX4_shrinkBy_89 : decode cX4_shrinkBy 89 = .ok (.putfield 32, 3) := by decide +kernel
theorem dX4_shrinkBy_92 : decode cX4_shrinkBy 92 = .ok (.iinc 5 (-1), 3) := by decide +kernel
theorem dX4_shrinkBy_95 : decode cX4_shrinkBy 95 = .ok (.goto (-85), 3) := by decide +kernel
theorem dX4_shrinkBy_98 : decode cX4_shrinkBy 98 = .ok (.return_, 1) := by decide +kernel
theorem dX4_takeFromAmounts_0 : decode cX4_takeFromAmounts 0 = .ok (.lload_n 1, 1) := by decide +kernel
theorem dX4_takeFromAmounts_1 : decode cX4_takeFromAmounts 1 = .ok (.lstore 4, 2) := by decide +kernel
theorem dX4_takeFromAmounts_3 : decode cX4_takeFromAmounts 3 = .ok (.lconst 0, 1) := by decide +kernel
theorem dX4_takeFromAmounts_4 : decode cX4_takeFromAmounts 4 = .ok (.lstore 6, 2) := by decide +kernel
theorem dX4_takeFromAmounts_6 : decode cX4_takeFromAmounts 6 = .ok (.iconst 0, 1) := by decide +kernel
theorem dX4_takeFromAmounts_7 : decode cX4_takeFromAmounts 7 = .ok (.istore 8, 2) := by decide +kernel
theorem dX4_takeFromAmounts_9 : decode cX4_takeFromAmounts 9 = .ok (.iload 8, 2) := by decide +kernel
theorem dX4_takeFromAmounts_11 : decode cX4_takeFromAmounts 11 = .ok (.aload_n 0, 1) := by decide +kernel
theorem dX4_takeFromAmounts_12 : decode cX4_takeFromAmounts 12 = .ok (.getfield 32, 3) := by decide +kernel
theorem dX4_takeFromAmounts_15 : decode cX4_takeFromAmounts 15 = .ok (.if_icmp .ge 57, 3) := by decide +kernel
theorem dX4_takeFromAmounts_18 : decode cX4_takeFromAmounts 18 = .ok (.aload_n 0, 1) := by decide +kernel
theorem dX4_takeFromAmounts_19 : decode cX4_takeFromAmounts 19 = .ok (.getfield 11, 3) := by decide +kernel
theorem dX4_takeFromAmounts_22 : decode cX4_takeFromAmounts 22 = .ok (.iload 8, 2) := by decide +kernel
theorem dX4_takeFromAmounts_24 : decode cX4_takeFromAmounts 24 = .ok (.aaload, 1) := by decide +kernel
theorem dX4_takeFromAmounts_25 : decode cX4_takeFromAmounts 25 = .ok (.astore 9, 2) := by decide +kernel
theorem dX4_takeFromAmounts_27 : decode cX4_takeFromAmounts 27 = .ok (.lload 4, 2) := by decide +kernel
theorem dX4_takeFromAmounts_29 : decode cX4_takeFromAmounts 29 = .ok (.aload_n 0, 1) := by decide +kernel
theorem dX4_takeFromAmounts_30 : decode cX4_takeFromAmounts 30 = .ok (.getfield 17, 3) := by decide +kernel
theorem dX4_takeFromAmounts_33 : decode cX4_takeFromAmounts 33 = .ok (.iload 8, 2) := by decide +kernel
theorem dX4_takeFromAmounts_35 : decode cX4_takeFromAmounts 35 = .ok (.laload, 1) := by decide +kernel
theorem dX4_takeFromAmounts_36 : decode cX4_takeFromAmounts 36 = .ok (.invokestatic 42, 3) := by decide +kernel
theorem dX4_takeFromAmounts_39 : decode cX4_takeFromAmounts 39 = .ok (.lstore 10, 2) := by decide +kernel
theorem dX4_takeFromAmounts_41 : decode cX4_takeFromAmounts 41 = .ok (.lload 4, 2) := by decide +kernel
theorem dX4_takeFromAmounts_43 : decode cX4_takeFromAmounts 43 = .ok (.lload 10, 2) := by decide +kernel
theorem dX4_takeFromAmounts_45 : decode cX4_takeFromAmounts 45 = .ok (.lsub, 1) := by decide +kernel
theorem dX4_takeFromAmounts_46 : decode cX4_takeFromAmounts 46 = .ok (.lstore 4, 2) := by decide +kernel
theorem dX4_takeFromAmounts_48 : decode cX4_takeFromAmounts 48 = .ok (.aload 9, 2) := by decide +kernel
theorem dX4_takeFromAmounts_50 : decode cX4_takeFromAmounts 50 = .ok (.ifnull 16, 3) := by decide +kernel
theorem dX4_takeFromAmounts_53 : decode cX4_takeFromAmounts 53 = .ok (.lload 6, 2) := by decide +kernel
theorem dX4_takeFromAmounts_55 : decode cX4_takeFromAmounts 55 = .ok (.aload 9, 2) := by decide +kernel
theorem dX4_takeFromAmounts_57 : decode cX4_takeFromAmounts 57 = .ok (.lload 10, 2) := by decide +kernel
theorem dX4_takeFromAmounts_59 : decode cX4_takeFromAmounts 59 = .ok (.iload_n 3, 1) := by decide +kernel
theorem dX4_takeFromAmounts_60 : decode cX4_takeFromAmounts 60 = .ok (.invokevirtual 48, 3) := by decide +kernel
theorem dX4_takeFromAmounts_63 : decode cX4_takeFromAmounts 63 = .ok (.ladd, 1) := by decide +kernel
theorem dX4_takeFromAmounts_64 : decode cX4_takeFromAmounts 64 = .ok (.lstore 6, 2) := by decide +kernel
theorem dX4_takeFromAmounts_66 : decode cX4_takeFromAmounts 66 = .ok (.iinc 8 1, 3) := by decide +kernel
theorem dX4_takeFromAmounts_69 : decode cX4_takeFromAmounts 69 = .ok (.goto (-60), 3) := by decide +kernel
theorem dX4_takeFromAmounts_72 : decode cX4_takeFromAmounts 72 = .ok (.lload 6, 2) := by decide +kernel
theorem dX4_takeFromAmounts_74 : decode cX4_takeFromAmounts 74 = .ok (.lreturn, 1) := by decide +kernel
theorem dX4_tellGuarantee_0 : decode cX4_tellGuarantee 0 = .ok (.aload_n 0, 1) := by decide +kernel
theorem dX4_tellGuarantee_1 : decode cX4_tellGuarantee 1 = .ok (.getfield 11, 3) := by decide +kernel
theorem dX4_tellGuarantee_4 : decode cX4_tellGuarantee 4 = .ok (.iload_n 1, 1) := by decide +kernel
theorem dX4_tellGuarantee_5 : decode cX4_tellGuarantee 5 = .ok (.aaload, 1) := by decide +kernel
theorem dX4_tellGuarantee_6 : decode cX4_tellGuarantee 6 = .ok (.astore 6, 2) := by decide +kernel
theorem dX4_tellGuarantee_8 : decode cX4_tellGuarantee 8 = .ok (.aload 6, 2) := by decide +kernel
theorem dX4_tellGuarantee_10 : decode cX4_tellGuarantee 10 = .ok (.ifnull 11, 3) := by decide +kernel
theorem dX4_tellGuarantee_13 : decode cX4_tellGuarantee 13 = .ok (.aload 6, 2) := by decide +kernel
theorem dX4_tellGuarantee_15 : decode cX4_tellGuarantee 15 = .ok (.lload_n 2, 1) := by decide +kernel
theorem dX4_tellGuarantee_16 : decode cX4_tellGuarantee 16 = .ok (.lload 4, 2) := by decide +kernel
theorem dX4_tellGuarantee_18 : decode cX4_tellGuarantee 18 = .ok (.invokevirtual 52, 3) := by decide +kernel
theorem dX4_tellGuarantee_21 : decode cX4_tellGuarantee 21 = .ok (.return_, 1) := by decide +kernel

theorem dX0_init_0 : decode cX0_init 0 = .ok (.aload_n 0, 1) := by decide +kernel
theorem dX0_init_1 : decode cX0_init 1 = .ok (.invokespecial 3, 3) := by decide +kernel
theorem dX0_init_4 : decode cX0_init 4 = .ok (.aload_n 0, 1) := by decide +kernel
theorem dX0_init_5 : decode cX0_init 5 = .ok (.bipush 40, 2) := by decide +kernel
theorem dX0_init_7 : decode cX0_init 7 = .ok (.newarray .int, 2) := by decide +kernel
theorem dX0_init_9 : decode cX0_init 9 = .ok (.putfield 9, 3) := by decide +kernel
theorem dX0_init_12 : decode cX0_init 12 = .ok (.return_, 1) := by decide +kernel
theorem dX0_buyBlindly_0 : decode cX0_buyBlindly 0 = .ok (.aload_n 0, 1) := by decide +kernel
theorem dX0_buyBlindly_1 : decode cX0_buyBlindly 1 = .ok (.getfield 9, 3) := by decide +kernel
theorem dX0_buyBlindly_4 : decode cX0_buyBlindly 4 = .ok (.iconst 0, 1) := by decide +kernel
theorem dX0_buyBlindly_5 : decode cX0_buyBlindly 5 = .ok (.invokestatic 15, 3) := by decide +kernel
theorem dX0_buyBlindly_8 : decode cX0_buyBlindly 8 = .ok (.iconst 0, 1) := by decide +kernel
theorem dX0_buyBlindly_9 : decode cX0_buyBlindly 9 = .ok (.istore_n 3, 1) := by decide +kernel
theorem dX0_buyBlindly_10 : decode cX0_buyBlindly 10 = .ok (.iload_n 3, 1) := by decide +kernel
theorem dX0_buyBlindly_11 : decode cX0_buyBlindly 11 = .ok (.aload_n 1, 1) := by decide +kernel
theorem dX0_buyBlindly_12 : decode cX0_buyBlindly 12 = .ok (.getfield 21, 3) := by decide +kernel
theorem dX0_buyBlindly_15 : decode cX0_buyBlindly 15 = .ok (.if_icmp .ge 22, 3) := by decide +kernel
theorem dX0_buyBlindly_18 : decode cX0_buyBlindly 18 = .ok (.aload_n 1, 1) := by decide +kernel
theorem dX0_buyBlindly_19 : decode cX0_buyBlindly 19 = .ok (.iload_n 2, 1) := by decide +kernel
theorem dX0_buyBlindly_20 : decode cX0_buyBlindly 20 = .ok (.iload_n 3, 1) := by decide +kernel
theorem dX0_buyBlindly_21 : decode cX0_buyBlindly 21 = .ok (.aload_n 0, 1) := by decide +kernel
theorem dX0_buyBlindly_22 : decode cX0_buyBlindly 22 = .ok (.aload_n 1, 1) := by decide +kernel
theorem dX0_buyBlindly_23 : decode cX0_buyBlindly 23 = .ok (.iload_n 2, 1) := by decide +kernel
theorem dX0_buyBlindly_24 : decode cX0_buyBlindly 24 = .ok (.iload_n 3, 1) := by decide +kernel
theorem dX0_buyBlindly_25 : decode cX0_buyBlindly 25 = .ok (.invokevirtual 27, 3) := by decide +kernel
theorem dX0_buyBlindly_28 : decode cX0_buyBlindly 28 = .ok (.invokevirtual 31, 3) := by decide +kernel
theorem dX0_buyBlindly_31 : decode cX0_buyBlindly 31 = .ok (.iinc 3 1, 3) := by decide +kernel
theorem dX0_buyBlindly_34 : decode cX0_buyBlindly 34 = .ok (.goto (-24), 3) := by decide +kernel
theorem dX0_buyBlindly_37 : decode cX0_buyBlindly 37 = .ok (.return_, 1) := by decide +kernel
theorem dX0_buyAt_0 : decode cX0_buyAt 0 = .ok (.iconst 0, 1) := by decide +kernel
theorem dX0_buyAt_1 : decode cX0_buyAt 1 = .ok (.istore 4, 2) := by decide +kernel
theorem dX0_buyAt_3 : decode cX0_buyAt 3 = .ok (.iload 4, 2) := by decide +kernel
theorem dX0_buyAt_5 : decode cX0_buyAt 5 = .ok (.bipush 60, 2) := by decide +kernel
theorem dX0_buyAt_7 : decode cX0_buyAt 7 = .ok (.if_icmp .ge 26, 3) := by decide +kernel
theorem dX0_buyAt_10 : decode cX0_buyAt 10 = .ok (.aload_n 0, 1) := by decide +kernel
theorem dX0_buyAt_11 : decode cX0_buyAt 11 = .ok (.aload_n 1, 1) := by decide +kernel
theorem dX0_buyAt_12 : decode cX0_buyAt 12 = .ok (.iload_n 2, 1) := by decide +kernel
theorem dX0_buyAt_13 : decode cX0_buyAt 13 = .ok (.iload_n 3, 1) := by decide +kernel
theorem dX0_buyAt_14 : decode cX0_buyAt 14 = .ok (.invokevirtual 35, 3) := by decide +kernel
theorem dX0_buyAt_17 : decode cX0_buyAt 17 = .ok (.ifCond .eq 16, 3) := by decide +kernel
theorem dX0_buyAt_20 : decode cX0_buyAt 20 = .ok (.aload_n 0, 1) := by decide +kernel
theorem dX0_buyAt_21 : decode cX0_buyAt 21 = .ok (.aload_n 1, 1) := by decide +kernel
theorem dX0_buyAt_22 : decode cX0_buyAt 22 = .ok (.iload_n 2, 1) := by decide +kernel
theorem dX0_buyAt_23 : decode cX0_buyAt 23 = .ok (.iload_n 3, 1) := by decide +kernel
theorem dX0_buyAt_24 : decode cX0_buyAt 24 = .ok (.invokevirtual 39, 3) := by decide +kernel
theorem dX0_buyAt_27 : decode cX0_buyAt 27 = .ok (.iinc 4 1, 3) := by decide +kernel
theorem dX0_buyAt_30 : decode cX0_buyAt 30 = .ok (.goto (-27), 3) := by decide +kernel
theorem dX0_buyAt_33 : decode cX0_buyAt 33 = .ok (.iload 4, 2) := by decide +kernel
theorem dX0_buyAt_35 : decode cX0_buyAt 35 = .ok (.ireturn, 1) := by decide +kernel
theorem dX0_isSpent_0 : decode cX0_isSpent 0 = .ok (.aload_n 1, 1) := by decide +kernel
theorem dX0_isSpent_1 : decode cX0_isSpent 1 = .ok (.getfield 43, 3) := by decide +kernel
theorem dX0_isSpent_4 : decode cX0_isSpent 4 = .ok (.iload_n 2, 1) := by decide +kernel
theorem dX0_isSpent_5 : decode cX0_isSpent 5 = .ok (.iaload, 1) := by decide +kernel
theorem dX0_isSpent_6 : decode cX0_isSpent 6 = .ok (.istore 4, 2) := by decide +kernel
theorem dX0_isSpent_8 : decode cX0_isSpent 8 = .ok (.iconst 0, 1) := by decide +kernel
theorem dX0_isSpent_9 : decode cX0_isSpent 9 = .ok (.istore 5, 2) := by decide +kernel
theorem dX0_isSpent_11 : decode cX0_isSpent 11 = .ok (.aload_n 1, 1) := by decide +kernel
theorem dX0_isSpent_12 : decode cX0_isSpent 12 = .ok (.iload_n 2, 1) := by decide +kernel
theorem dX0_isSpent_13 : decode cX0_isSpent 13 = .ok (.iload_n 3, 1) := by decide +kernel
theorem dX0_isSpent_14 : decode cX0_isSpent 14 = .ok (.invokestatic 46, 3) := by decide +kernel
theorem dX0_isSpent_17 : decode cX0_isSpent 17 = .ok (.istore 6, 2) := by decide +kernel
theorem dX0_isSpent_19 : decode cX0_isSpent 19 = .ok (.iload 6, 2) := by decide +kernel
theorem dX0_isSpent_21 : decode cX0_isSpent 21 = .ok (.iload_n 3, 1) := by decide +kernel
theorem dX0_isSpent_22 : decode cX0_isSpent 22 = .ok (.if_icmp .gt 37, 3) := by decide +kernel
theorem dX0_isSpent_25 : decode cX0_isSpent 25 = .ok (.iload 5, 2) := by decide +kernel
theorem dX0_isSpent_27 : decode cX0_isSpent 27 = .ok (.aload_n 1, 1) := by decide +kernel
theorem dX0_isSpent_28 : decode cX0_isSpent 28 = .ok (.iload 4, 2) := by decide +kernel
theorem dX0_isSpent_30 : decode cX0_isSpent 30 = .ok (.iload 6, 2) := by decide +kernel
theorem dX0_isSpent_32 : decode cX0_isSpent 32 = .ok (.invokevirtual 49, 3) := by decide +kernel
theorem dX0_isSpent_35 : decode cX0_isSpent 35 = .ok (.aload_n 0, 1) := by decide +kernel
theorem dX0_isSpent_36 : decode cX0_isSpent 36 = .ok (.getfield 9, 3) := by decide +kernel
theorem dX0_isSpent_39 : decode cX0_isSpent 39 = .ok (.iload 6, 2) := by decide +kernel
theorem dX0_isSpent_41 : decode cX0_isSpent 41 = .ok (.iaload, 1) := by decide +kernel
theorem dX0_isSpent_42 : decode cX0_isSpent 42 = .ok (.if_icmp .le 7, 3) := by decide +kernel
theorem dX0_isSpent_45 : decode cX0_isSpent 45 = .ok (.iconst 1, 1) := by decide +kernel
theorem dX0_isSpent_46 : decode cX0_isSpent 46 = .ok (.goto 4, 3) := by decide +kernel
theorem dX0_isSpent_49 : decode cX0_isSpent 49 = .ok (.iconst 0, 1) := by decide +kernel
theorem dX0_isSpent_50 : decode cX0_isSpent 50 = .ok (.iadd, 1) := by decide +kernel
theorem dX0_isSpent_51 : decode cX0_isSpent 51 = .ok (.istore 5, 2) := by decide +kernel
theorem dX0_isSpent_53 : decode cX0_isSpent 53 = .ok (.iinc 6 1, 3) := by decide +kernel
theorem dX0_isSpent_56 : decode cX0_isSpent 56 = .ok (.goto (-37), 3) := by decide +kernel
theorem dX0_isSpent_59 : decode cX0_isSpent 59 = .ok (.aload_n 1, 1) := by decide +kernel
theorem dX0_isSpent_60 : decode cX0_isSpent 60 = .ok (.getfield 53, 3) := by decide +kernel
theorem dX0_isSpent_63 : decode cX0_isSpent 63 = .ok (.iload_n 2, 1) := by decide +kernel
theorem dX0_isSpent_64 : decode cX0_isSpent 64 = .ok (.iaload, 1) := by decide +kernel
theorem dX0_isSpent_65 : decode cX0_isSpent 65 = .ok (.ifCond .le 26, 3) := by decide +kernel
theorem dX0_isSpent_68 : decode cX0_isSpent 68 = .ok (.iload 5, 2) := by decide +kernel
theorem dX0_isSpent_70 : decode cX0_isSpent 70 = .ok (.aload_n 1, 1) := by decide +kernel
theorem dX0_isSpent_71 : decode cX0_isSpent 71 = .ok (.getfield 56, 3) := by decide +kernel
theorem dX0_isSpent_74 : decode cX0_isSpent 74 = .ok (.iload 4, 2) := by decide +kernel
theorem dX0_isSpent_76 : decode cX0_isSpent 76 = .ok (.iaload, 1) := by decide +kernel
theorem dX0_isSpent_77 : decode cX0_isSpent 77 = .ok (.imul, 1) := by decide +kernel
theorem dX0_isSpent_78 : decode cX0_isSpent 78 = .ok (.aload_n 1, 1) := by decide +kernel
theorem dX0_isSpent_79 : decode cX0_isSpent 79 = .ok (.getfield 53, 3) := by decide +kernel
theorem dX0_isSpent_82 : decode cX0_isSpent 82 = .ok (.iload_n 2, 1) := by decide +kernel
theorem dX0_isSpent_83 : decode cX0_isSpent 83 = .ok (.iaload, 1) := by decide +kernel
theorem dX0_isSpent_84 : decode cX0_isSpent 84 = .ok (.if_icmp .lt 7, 3) := by decide +kernel
theorem dX0_isSpent_87 : decode cX0_isSpent 87 = .ok (.iconst 1, 1) := by decide +kernel
theorem dX0_isSpent_88 : decode cX0_isSpent 88 = .ok (.goto 4, 3) := by decide +kernel
theorem dX0_isSpent_91 : decode cX0_isSpent 91 = .ok (.iconst 0, 1) := by decide +kernel
theorem dX0_isSpent_92 : decode cX0_isSpent 92 = .ok (.ireturn, 1) := by decide +kernel
theorem dX0_countOneMore_0 : decode cX0_countOneMore 0 = .ok (.aload_n 1, 1) := by decide +kernel
theorem dX0_countOneMore_1 : decode cX0_countOneMore 1 = .ok (.getfield 21, 3) := by decide +kernel
theorem dX0_countOneMore_4 : decode cX0_countOneMore 4 = .ok (.iload_n 3, 1) := by decide +kernel
theorem dX0_countOneMore_5 : decode cX0_countOneMore 5 = .ok (.aload_n 1, 1) := by decide +kernel
theorem dX0_countOneMore_6 : decode cX0_countOneMore 6 = .ok (.getfield 59, 3) := by decide +kernel
theorem dX0_countOneMore_9 : decode cX0_countOneMore 9 = .ok (.iload_n 2, 1) := by decide +kernel
theorem dX0_countOneMore_10 : decode cX0_countOneMore 10 = .ok (.iaload, 1) := by decide +kernel
theorem dX0_countOneMore_11 : decode cX0_countOneMore 11 = .ok (.iadd, 1) := by decide +kernel
theorem dX0_countOneMore_12 : decode cX0_countOneMore 12 = .ok (.invokestatic 62, 3) := by decide +kernel
theorem dX0_countOneMore_15 : decode cX0_countOneMore 15 = .ok (.istore 4, 2) := by decide +kernel
theorem dX0_countOneMore_17 : decode cX0_countOneMore 17 = .ok (.aload_n 1, 1) := by decide +kernel
theorem dX0_countOneMore_18 : decode cX0_countOneMore 18 = .ok (.iload_n 2, 1) := by decide +kernel
theorem dX0_countOneMore_19 : decode cX0_countOneMore 19 = .ok (.iload_n 3, 1) := by decide +kernel
theorem dX0_countOneMore_20 : decode cX0_countOneMore 20 = .ok (.invokestatic 46, 3) := by decide +kernel
theorem dX0_countOneMore_23 : decode cX0_countOneMore 23 = .ok (.istore 5, 2) := by decide +kernel
theorem dX0_countOneMore_25 : decode cX0_countOneMore 25 = .ok (.iload 5, 2) := by decide +kernel
theorem dX0_countOneMore_27 : decode cX0_countOneMore 27 = .ok (.iload 4, 2) := by decide +kernel
theorem dX0_countOneMore_29 : decode cX0_countOneMore 29 = .ok (.if_icmp .ge 20, 3) := by decide +kernel
theorem dX0_countOneMore_32 : decode cX0_countOneMore 32 = .ok (.aload_n 0, 1) := by decide +kernel
theorem dX0_countOneMore_33 : decode cX0_countOneMore 33 = .ok (.getfield 9, 3) := by decide +kernel
theorem dX0_countOneMore_36 : decode cX0_countOneMore 36 = .ok (.iload 5, 2) := by decide +kernel
theorem dX0_countOneMore_38 : decode cX0_countOneMore 38 = .ok (.dup2, 1) := by decide +kernel
theorem dX0_countOneMore_39 : decode cX0_countOneMore 39 = .ok (.iaload, 1) := by decide +kernel
theorem dX0_countOneMore_40 : decode cX0_countOneMore 40 = .ok (.iconst 1, 1) := by decide +kernel
theorem dX0_countOneMore_41 : decode cX0_countOneMore 41 = .ok (.iadd, 1) := by decide +kernel
theorem dX0_countOneMore_42 : decode cX0_countOneMore 42 = .ok (.iastore, 1) := by decide +kernel
theorem dX0_countOneMore_43 : decode cX0_countOneMore 43 = .ok (.iinc 5 1, 3) := by decide +kernel
theorem dX0_countOneMore_46 : decode cX0_countOneMore 46 = .ok (.goto (-21), 3) := by decide +kernel
theorem dX0_countOneMore_49 : decode cX0_countOneMore 49 = .ok (.return_, 1) := by decide +kernel
theorem dX0_firstOfLatest_0 : decode cX0_firstOfLatest 0 = .ok (.iconst 0, 1) := by decide +kernel
theorem dX0_firstOfLatest_1 : decode cX0_firstOfLatest 1 = .ok (.iload_n 2, 1) := by decide +kernel
theorem dX0_firstOfLatest_2 : decode cX0_firstOfLatest 2 = .ok (.aload_n 0, 1) := by decide +kernel
theorem dX0_firstOfLatest_3 : decode cX0_firstOfLatest 3 = .ok (.getfield 59, 3) := by decide +kernel
theorem dX0_firstOfLatest_6 : decode cX0_firstOfLatest 6 = .ok (.iload_n 1, 1) := by decide +kernel
theorem dX0_firstOfLatest_7 : decode cX0_firstOfLatest 7 = .ok (.iaload, 1) := by decide +kernel
theorem dX0_firstOfLatest_8 : decode cX0_firstOfLatest 8 = .ok (.isub, 1) := by decide +kernel
theorem dX0_firstOfLatest_9 : decode cX0_firstOfLatest 9 = .ok (.iconst 1, 1) := by decide +kernel
theorem dX0_firstOfLatest_10 : decode cX0_firstOfLatest 10 = .ok (.iadd, 1) := by decide +kernel
theorem dX0_firstOfLatest_11 : decode cX0_firstOfLatest 11 = .ok (.invokestatic 67, 3) := by decide +kernel
theorem dX0_firstOfLatest_14 : decode cX0_firstOfLatest 14 = .ok (.ireturn, 1) := by decide +kernel
theorem dX1_init_0 : decode cX1_init 0 = .ok (.aload_n 0, 1) := by decide +kernel
theorem dX1_init_1 : decode cX1_init 1 = .ok (.invokespecial 3, 3) := by decide +kernel
theorem dX1_init_4 : decode cX1_init 4 = .ok (.aload_n 0, 1) := by decide +kernel
theorem dX1_init_5 : decode cX1_init 5 = .ok (.bipush 24, 2) := by decide +kernel
theorem dX1_init_7 : decode cX1_init 7 = .ok (.putfield 9, 3) := by decide +kernel
theorem dX1_init_10 : decode cX1_init 10 = .ok (.aload_n 0, 1) := by decide +kernel
theorem dX1_init_11 : decode cX1_init 11 = .ok (.iconst 3, 1) := by decide +kernel
theorem dX1_init_12 : decode cX1_init 12 = .ok (.newarray .int, 2) := by decide +kernel
theorem dX1_init_14 : decode cX1_init 14 = .ok (.putfield 15, 3) := by decide +kernel
theorem dX1_init_17 : decode cX1_init 17 = .ok (.aload_n 0, 1) := by decide +kernel
theorem dX1_init_18 : decode cX1_init 18 = .ok (.bipush 6, 2) := by decide +kernel
theorem dX1_init_20 : decode cX1_init 20 = .ok (.newarray .int, 2) := by decide +kernel
theorem dX1_init_22 : decode cX1_init 22 = .ok (.putfield 19, 3) := by decide +kernel
theorem dX1_init_25 : decode cX1_init 25 = .ok (.aload_n 0, 1) := by decide +kernel
theorem dX1_init_26 : decode cX1_init 26 = .ok (.bipush 6, 2) := by decide +kernel
theorem dX1_init_28 : decode cX1_init 28 = .ok (.newarray .int, 2) := by decide +kernel
theorem dX1_init_30 : decode cX1_init 30 = .ok (.putfield 22, 3) := by decide +kernel
theorem dX1_init_33 : decode cX1_init 33 = .ok (.aload_n 0, 1) := by decide +kernel
theorem dX1_init_34 : decode cX1_init 34 = .ok (.bipush 6, 2) := by decide +kernel
theorem dX1_init_36 : decode cX1_init 36 = .ok (.newarray .int, 2) := by decide +kernel
theorem dX1_init_38 : decode cX1_init 38 = .ok (.putfield 25, 3) := by decide +kernel
theorem dX1_init_41 : decode cX1_init 41 = .ok (.aload_n 0, 1) := by decide +kernel
theorem dX1_init_42 : decode cX1_init 42 = .ok (.sipush 480, 3) := by decide +kernel
theorem dX1_init_45 : decode cX1_init 45 = .ok (.newarray .int, 2) := by decide +kernel
theorem dX1_init_47 : decode cX1_init 47 = .ok (.putfield 28, 3) := by decide +kernel
theorem dX1_init_50 : decode cX1_init 50 = .ok (.aload_n 0, 1) := by decide +kernel
theorem dX1_init_51 : decode cX1_init 51 = .ok (.sipush 240, 3) := by decide +kernel
theorem dX1_init_54 : decode cX1_init 54 = .ok (.newarray .int, 2) := by decide +kernel
theorem dX1_init_56 : decode cX1_init 56 = .ok (.putfield 31, 3) := by decide +kernel
theorem dX1_init_59 : decode cX1_init 59 = .ok (.return_, 1) := by decide +kernel
theorem dX1_takeOver_0 : decode cX1_takeOver 0 = .ok (.aload_n 0, 1) := by decide +kernel
theorem dX1_takeOver_1 : decode cX1_takeOver 1 = .ok (.aload_n 1, 1) := by decide +kernel
theorem dX1_takeOver_2 : decode cX1_takeOver 2 = .ok (.getfield 9, 3) := by decide +kernel
theorem dX1_takeOver_5 : decode cX1_takeOver 5 = .ok (.putfield 9, 3) := by decide +kernel
theorem dX1_takeOver_8 : decode cX1_takeOver 8 = .ok (.aload_n 0, 1) := by decide +kernel
theorem dX1_takeOver_9 : decode cX1_takeOver 9 = .ok (.aload_n 1, 1) := by decide +kernel
theorem dX1_takeOver_10 : decode cX1_takeOver 10 = .ok (.getfield 34, 3) := by decide +kernel
theorem dX1_takeOver_13 : decode cX1_takeOver 13 = .ok (.putfield 34, 3) := by decide +kernel
theorem dX1_takeOver_16 : decode cX1_takeOver 16 = .ok (.aload_n 0, 1) := by decide +kernel
theorem dX1_takeOver_17 : decode cX1_takeOver 17 = .ok (.aload_n 1, 1) := by decide +kernel
theorem dX1_takeOver_18 : decode cX1_takeOver 18 = .ok (.getfield 37, 3) := by decide +kernel
theorem dX1_takeOver_21 : decode cX1_takeOver 21 = .ok (.putfield 37, 3) := by decide +kernel
theorem dX1_takeOver_24 : decode cX1_takeOver 24 = .ok (.aload_n 1, 1) := by decide +kernel
theorem dX1_takeOver_25 : decode cX1_takeOver 25 = .ok (.getfield 15, 3) := by decide +kernel
theorem dX1_takeOver_28 : decode cX1_takeOver 28 = .ok (.iconst 0, 1) := by decide +kernel
theorem dX1_takeOver_29 : decode cX1_takeOver 29 = .ok (.aload_n 0, 1) := by decide +kernel
theorem dX1_takeOver_30 : decode cX1_takeOver 30 = .ok (.getfield 15, 3) := by decide +kernel
theorem dX1_takeOver_33 : decode cX1_takeOver 33 = .ok (.iconst 0, 1) := by decide +kernel
theorem dX1_takeOver_34 : decode cX1_takeOver 34 = .ok (.aload_n 0, 1) := by decide +kernel
theorem dX1_takeOver_35 : decode cX1_takeOver 35 = .ok (.getfield 15, 3) := by decide +kernel
theorem dX1_takeOver_38 : decode cX1_takeOver 38 = .ok (.arraylength, 1) := by decide +kernel
theorem dX1_takeOver_39 : decode cX1_takeOver 39 = .ok (.invokestatic 40, 3) := by decide +kernel
theorem dX1_takeOver_42 : decode cX1_takeOver 42 = .ok (.aload_n 1, 1) := by decide +kernel
theorem dX1_takeOver_43 : decode cX1_takeOver 43 = .ok (.getfield 19, 3) := by decide +kernel
theorem dX1_takeOver_46 : decode cX1_takeOver 46 = .ok (.iconst 0, 1) := by decide +kernel
theorem dX1_takeOver_47 : decode cX1_takeOver 47 = .ok (.aload_n 0, 1) := by decide +kernel
theorem dX1_takeOver_48 : decode cX1_takeOver 48 = .ok (.getfield 19, 3) := by decide +kernel
theorem dX1_takeOver_51 : decode cX1_takeOver 51 = .ok (.iconst 0, 1) := by decide +kernel
theorem dX1_takeOver_52 : decode cX1_takeOver 52 = .ok (.aload_n 0, 1) := by decide +kernel
theorem dX1_takeOver_53 : decode cX1_takeOver 53 = .ok (.getfield 19, 3) := by decide +kernel
theorem dX1_takeOver_56 : decode cX1_takeOver 56 = .ok (.arraylength, 1) := by decide +kernel
theorem dX1_takeOver_57 : decode cX1_takeOver 57 = .ok (.invokestatic 40, 3) := by decide +kernel
theorem dX1_takeOver_60 : decode cX1_takeOver 60 = .ok (.aload_n 1, 1) := by decide +kernel
theorem dX1_takeOver_61 : decode cX1_takeOver 61 = .ok (.getfield 22, 3) := by decide +kernel
theorem dX1_takeOver_64 : decode cX1_takeOver 64 = .ok (.iconst 0, 1) := by decide +kernel
theorem dX1_takeOver_65 : decode cX1_takeOver 65 = .ok (.aload_n 0, 1) := by decide +kernel
theorem dX1_takeOver_66 : decode cX1_takeOver 66 = .ok (.getfield 22, 3) := by decide +kernel
theorem dX1_takeOver_69 : decode cX1_takeOver 69 = .ok (.iconst 0, 1) := by decide +kernel
theorem dX1_takeOver_70 : decode cX1_takeOver 70 = .ok (.aload_n 0, 1) := by decide +kernel
theorem dX1_takeOver_71 : decode cX1_takeOver 71 = .ok (.getfield 22, 3) := by decide +kernel
theorem dX1_takeOver_74 : decode cX1_takeOver 74 = .ok (.arraylength, 1) := by decide +kernel
theorem dX1_takeOver_75 : decode cX1_takeOver 75 = .ok (.invokestatic 40, 3) := by decide +kernel
theorem dX1_takeOver_78 : decode cX1_takeOver 78 = .ok (.aload_n 1, 1) := by decide +kernel
theorem dX1_takeOver_79 : decode cX1_takeOver 79 = .ok (.getfield 25, 3) := by decide +kernel
theorem dX1_takeOver_82 : decode cX1_takeOver 82 = .ok (.iconst 0, 1) := by decide +kernel
theorem dX1_takeOver_83 : decode cX1_takeOver 83 = .ok (.aload_n 0, 1) := by decide +kernel
theorem dX1_takeOver_84 : decode cX1_takeOver 84 = .ok (.getfield 25, 3) := by decide +kernel
theorem dX1_takeOver_87 : decode cX1_takeOver 87 = .ok (.iconst 0, 1) := by decide +kernel
theorem dX1_takeOver_88 : decode cX1_takeOver 88 = .ok (.aload_n 0, 1) := by decide +kernel
theorem dX1_takeOver_89 : decode cX1_takeOver 89 = .ok (.getfield 25, 3) := by decide +kernel
theorem dX1_takeOver_92 : decode cX1_takeOver 92 = .ok (.arraylength, 1) := by decide +kernel
theorem dX1_takeOver_93 : decode cX1_takeOver 93 = .ok (.invokestatic 40, 3) := by decide +kernel
theorem dX1_takeOver_96 : decode cX1_takeOver 96 = .ok (.aload_n 1, 1) := by decide +kernel
theorem dX1_takeOver_97 : decode cX1_takeOver 97 = .ok (.getfield 28, 3) := by decide +kernel
theorem dX1_takeOver_100 : decode cX1_takeOver 100 = .ok (.iconst 0, 1) := by decide +kernel
theorem dX1_takeOver_101 : decode cX1_takeOver 101 = .ok (.aload_n 0, 1) := by decide +kernel
theorem dX1_takeOver_102 : decode cX1_takeOver 102 = .ok (.getfield 28, 3) := by decide +kernel
theorem dX1_takeOver_105 : decode cX1_takeOver 105 = .ok (.iconst 0, 1) := by decide +kernel
theorem dX1_takeOver_106 : decode cX1_takeOver 106 = .ok (.aload_n 0, 1) := by decide +kernel
theorem dX1_takeOver_107 : decode cX1_takeOver 107 = .ok (.getfield 28, 3) := by decide +kernel
theorem dX1_takeOver_110 : decode cX1_takeOver 110 = .ok (.arraylength, 1) := by decide +kernel
theorem dX1_takeOver_111 : decode cX1_takeOver 111 = .ok (.invokestatic 40, 3) := by decide +kernel
theorem dX1_takeOver_114 : decode cX1_takeOver 114 = .ok (.aload_n 1, 1) := by decide +kernel
theorem dX1_takeOver_115 : decode cX1_takeOver 115 = .ok (.getfield 31, 3) := by decide +kernel
theorem dX1_takeOver_118 : decode cX1_takeOver 118 = .ok (.iconst 0, 1) := by decide +kernel
theorem dX1_takeOver_119 : decode cX1_takeOver 119 = .ok (.aload_n 0, 1) := by decide +kernel
theorem dX1_takeOver_120 : decode cX1_takeOver 120 = .ok (.getfield 31, 3) := by decide +kernel
theorem dX1_takeOver_123 : decode cX1_takeOver 123 = .ok (.iconst 0, 1) := by decide +kernel
theorem dX1_takeOver_124 : decode cX1_takeOver 124 = .ok (.aload_n 0, 1) := by decide +kernel
theorem dX1_takeOver_125 : decode cX1_takeOver 125 = .ok (.getfield 31, 3) := by decide +kernel
theorem dX1_takeOver_128 : decode cX1_takeOver 128 = .ok (.arraylength, 1) := by decide +kernel
theorem dX1_takeOver_129 : decode cX1_takeOver 129 = .ok (.invokestatic 40, 3) := by decide +kernel
theorem dX1_takeOver_132 : decode cX1_takeOver 132 = .ok (.return_, 1) := by decide +kernel
theorem dX1_hasHour_0 : decode cX1_hasHour 0 = .ok (.iload_n 1, 1) := by decide +kernel
theorem dX1_hasHour_1 : decode cX1_hasHour 1 = .ok (.ifCond .lt 15, 3) := by decide +kernel
theorem dX1_hasHour_4 : decode cX1_hasHour 4 = .ok (.iload_n 1, 1) := by decide +kernel
theorem dX1_hasHour_5 : decode cX1_hasHour 5 = .ok (.aload_n 0, 1) := by decide +kernel
theorem dX1_hasHour_6 : decode cX1_hasHour 6 = .ok (.getfield 9, 3) := by decide +kernel
theorem dX1_hasHour_9 : decode cX1_hasHour 9 = .ok (.if_icmp .ge 7, 3) := by decide +kernel
theorem dX1_hasHour_12 : decode cX1_hasHour 12 = .ok (.iconst 1, 1) := by decide +kernel
theorem dX1_hasHour_13 : decode cX1_hasHour 13 = .ok (.goto 4, 3) := by decide +kernel
theorem dX1_hasHour_16 : decode cX1_hasHour 16 = .ok (.iconst 0, 1) := by decide +kernel
theorem dX1_hasHour_17 : decode cX1_hasHour 17 = .ok (.ireturn, 1) := by decide +kernel
theorem dX1_hasKind_0 : decode cX1_hasKind 0 = .ok (.iload_n 1, 1) := by decide +kernel
theorem dX1_hasKind_1 : decode cX1_hasKind 1 = .ok (.ifCond .lt 15, 3) := by decide +kernel
theorem dX1_hasKind_4 : decode cX1_hasKind 4 = .ok (.iload_n 1, 1) := by decide +kernel
theorem dX1_hasKind_5 : decode cX1_hasKind 5 = .ok (.aload_n 0, 1) := by decide +kernel
theorem dX1_hasKind_6 : decode cX1_hasKind 6 = .ok (.getfield 34, 3) := by decide +kernel
theorem dX1_hasKind_9 : decode cX1_hasKind 9 = .ok (.if_icmp .ge 7, 3) := by decide +kernel
theorem dX1_hasKind_12 : decode cX1_hasKind 12 = .ok (.iconst 1, 1) := by decide +kernel
theorem dX1_hasKind_13 : decode cX1_hasKind 13 = .ok (.goto 4, 3) := by decide +kernel
theorem dX1_hasKind_16 : decode cX1_hasKind 16 = .ok (.iconst 0, 1) := by decide +kernel
theorem dX1_hasKind_17 : decode cX1_hasKind 17 = .ok (.ireturn, 1) := by decide +kernel
theorem dX1_hasOffer_0 : decode cX1_hasOffer 0 = .ok (.iload_n 1, 1) := by decide +kernel
theorem dX1_hasOffer_1 : decode cX1_hasOffer 1 = .ok (.ifCond .lt 15, 3) := by decide +kernel
theorem dX1_hasOffer_4 : decode cX1_hasOffer 4 = .ok (.iload_n 1, 1) := by decide +kernel
theorem dX1_hasOffer_5 : decode cX1_hasOffer 5 = .ok (.aload_n 0, 1) := by decide +kernel
theorem dX1_hasOffer_6 : decode cX1_hasOffer 6 = .ok (.getfield 37, 3) := by decide +kernel
theorem dX1_hasOffer_9 : decode cX1_hasOffer 9 = .ok (.if_icmp .ge 7, 3) := by decide +kernel
theorem dX1_hasOffer_12 : decode cX1_hasOffer 12 = .ok (.iconst 1, 1) := by decide +kernel
theorem dX1_hasOffer_13 : decode cX1_hasOffer 13 = .ok (.goto 4, 3) := by decide +kernel
theorem dX1_hasOffer_16 : decode cX1_hasOffer 16 = .ok (.iconst 0, 1) := by decide +kernel
theorem dX1_hasOffer_17 : decode cX1_hasOffer 17 = .ok (.ireturn, 1) := by decide +kernel
theorem dX1_isOfferOf_0 : decode cX1_isOfferOf 0 = .ok (.aload_n 0, 1) := by decide +kernel
theorem dX1_isOfferOf_1 : decode cX1_isOfferOf 1 = .ok (.iload_n 1, 1) := by decide +kernel
theorem dX1_isOfferOf_2 : decode cX1_isOfferOf 2 = .ok (.invokevirtual 46, 3) := by decide +kernel
theorem dX1_isOfferOf_5 : decode cX1_isOfferOf 5 = .ok (.ifCond .eq 17, 3) := by decide +kernel
theorem dX1_isOfferOf_8 : decode cX1_isOfferOf 8 = .ok (.aload_n 0, 1) := by decide +kernel
theorem dX1_isOfferOf_9 : decode cX1_isOfferOf 9 = .ok (.getfield 19, 3) := by decide +kernel
theorem dX1_isOfferOf_12 : decode cX1_isOfferOf 12 = .ok (.iload_n 1, 1) := by decide +kernel
theorem dX1_isOfferOf_13 : decode cX1_isOfferOf 13 = .ok (.iaload, 1) := by decide +kernel
theorem dX1_isOfferOf_14 : decode cX1_isOfferOf 14 = .ok (.iload_n 2, 1) := by decide +kernel
theorem dX1_isOfferOf_15 : decode cX1_isOfferOf 15 = .ok (.if_icmp .ne 7, 3) := by decide +kernel
theorem dX1_isOfferOf_18 : decode cX1_isOfferOf 18 = .ok (.iconst 1, 1) := by decide +kernel
theorem dX1_isOfferOf_19 : decode cX1_isOfferOf 19 = .ok (.goto 4, 3) := by decide +kernel
theorem dX1_isOfferOf_22 : decode cX1_isOfferOf 22 = .ok (.iconst 0, 1) := by decide +kernel
theorem dX1_isOfferOf_23 : decode cX1_isOfferOf 23 = .ok (.ireturn, 1) := by decide +kernel
theorem dX1_setHours_0 : decode cX1_setHours 0 = .ok (.aload_n 0, 1) := by decide +kernel
theorem dX1_setHours_1 : decode cX1_setHours 1 = .ok (.getfield 28, 3) := by decide +kernel
theorem dX1_setHours_4 : decode cX1_setHours 4 = .ok (.iload_n 1, 1) := by decide +kernel
theorem dX1_setHours_5 : decode cX1_setHours 5 = .ok (.invokestatic 50, 3) := by decide +kernel
theorem dX1_setHours_8 : decode cX1_setHours 8 = .ok (.aload_n 0, 1) := by decide +kernel
theorem dX1_setHours_9 : decode cX1_setHours 9 = .ok (.getfield 31, 3) := by decide +kernel
theorem dX1_setHours_12 : decode cX1_setHours 12 = .ok (.iload_n 1, 1) := by decide +kernel
theorem dX1_setHours_13 : decode cX1_setHours 13 = .ok (.invokestatic 50, 3) := by decide +kernel
theorem dX1_setHours_16 : decode cX1_setHours 16 = .ok (.aload_n 0, 1) := by decide +kernel
theorem dX1_setHours_17 : decode cX1_setHours 17 = .ok (.iload_n 1, 1) := by decide +kernel
theorem dX1_setHours_18 : decode cX1_setHours 18 = .ok (.putfield 9, 3) := by decide +kernel
theorem dX1_setHours_21 : decode cX1_setHours 21 = .ok (.return_, 1) := by decide +kernel
theorem dX1_forgetFrom_0 : decode cX1_forgetFrom 0 = .ok (.iconst 0, 1) := by decide +kernel
theorem dX1_forgetFrom_1 : decode cX1_forgetFrom 1 = .ok (.istore_n 2, 1) := by decide +kernel
theorem dX1_forgetFrom_2 : decode cX1_forgetFrom 2 = .ok (.iload_n 2, 1) := by decide +kernel
theorem dX1_forgetFrom_3 : decode cX1_forgetFrom 3 = .ok (.aload_n 0, 1) := by decide +kernel
theorem dX1_forgetFrom_4 : decode cX1_forgetFrom 4 = .ok (.arraylength, 1) := by decide +kernel
theorem dX1_forgetFrom_5 : decode cX1_forgetFrom 5 = .ok (.if_icmp .ge 21, 3) := by decide +kernel
theorem dX1_forgetFrom_8 : decode cX1_forgetFrom 8 = .ok (.aload_n 0, 1) := by decide +kernel
theorem dX1_forgetFrom_9 : decode cX1_forgetFrom 9 = .ok (.iload_n 2, 1) := by decide +kernel
theorem dX1_forgetFrom_10 : decode cX1_forgetFrom 10 = .ok (.iload_n 1, 1) := by decide +kernel
theorem dX1_forgetFrom_11 : decode cX1_forgetFrom 11 = .ok (.iadd, 1) := by decide +kernel
theorem dX1_forgetFrom_12 : decode cX1_forgetFrom 12 = .ok (.iload_n 2, 1) := by decide +kernel
theorem dX1_forgetFrom_13 : decode cX1_forgetFrom 13 = .ok (.bipush 40, 2) := by decide +kernel
theorem dX1_forgetFrom_15 : decode cX1_forgetFrom 15 = .ok (.iadd, 1) := by decide +kernel
theorem dX1_forgetFrom_16 : decode cX1_forgetFrom 16 = .ok (.iconst 0, 1) := by decide +kernel
theorem dX1_forgetFrom_17 : decode cX1_forgetFrom 17 = .ok (.invokestatic 54, 3) := by decide +kernel
theorem dX1_forgetFrom_20 : decode cX1_forgetFrom 20 = .ok (.iinc 2 40, 3) := by decide +kernel
theorem dX1_forgetFrom_23 : decode cX1_forgetFrom 23 = .ok (.goto (-21), 3) := by decide +kernel
theorem dX1_forgetFrom_26 : decode cX1_forgetFrom 26 = .ok (.return_, 1) := by decide +kernel
theorem dX1_addKind_0 : decode cX1_addKind 0 = .ok (.aload_n 0, 1) := by decide +kernel
theorem dX1_addKind_1 : decode cX1_addKind 1 = .ok (.getfield 15, 3) := by decide +kernel
theorem dX1_addKind_4 : decode cX1_addKind 4 = .ok (.aload_n 0, 1) := by decide +kernel
theorem dX1_addKind_5 : decode cX1_addKind 5 = .ok (.getfield 34, 3) := by decide +kernel
theorem dX1_addKind_8 : decode cX1_addKind 8 = .ok (.iload_n 1, 1) := by decide +kernel
theorem dX1_addKind_9 : decode cX1_addKind 9 = .ok (.iastore, 1) := by decide +kernel
theorem dX1_addKind_10 : decode cX1_addKind 10 = .ok (.aload_n 0, 1) := by decide +kernel
theorem dX1_addKind_11 : decode cX1_addKind 11 = .ok (.dup, 1) := by decide +kernel
theorem dX1_addKind_12 : decode cX1_addKind 12 = .ok (.getfield 34, 3) := by decide +kernel
theorem dX1_addKind_15 : decode cX1_addKind 15 = .ok (.iconst 1, 1) := by decide +kernel
theorem dX1_addKind_16 : decode cX1_addKind 16 = .ok (.iadd, 1) := by decide +kernel
theorem dX1_addKind_17 : decode cX1_addKind 17 = .ok (.putfield 34, 3) := by decide +kernel
theorem dX1_addKind_20 : decode cX1_addKind 20 = .ok (.aload_n 0, 1) := by decide +kernel
theorem dX1_addKind_21 : decode cX1_addKind 21 = .ok (.getfield 34, 3) := by decide +kernel
theorem dX1_addKind_24 : decode cX1_addKind 24 = .ok (.iconst 1, 1) := by decide +kernel
theorem dX1_addKind_25 : decode cX1_addKind 25 = .ok (.isub, 1) := by decide +kernel
theorem dX1_addKind_26 : decode cX1_addKind 26 = .ok (.ireturn, 1) := by decide +kernel
theorem dX1_addOffer_0 : decode cX1_addOffer 0 = .ok (.aload_n 0, 1) := by decide +kernel
theorem dX1_addOffer_1 : decode cX1_addOffer 1 = .ok (.getfield 19, 3) := by decide +kernel
theorem dX1_addOffer_4 : decode cX1_addOffer 4 = .ok (.aload_n 0, 1) := by decide +kernel
theorem dX1_addOffer_5 : decode cX1_addOffer 5 = .ok (.getfield 37, 3) := by decide +kernel
theorem dX1_addOffer_8 : decode cX1_addOffer 8 = .ok (.iload_n 1, 1) := by decide +kernel
theorem dX1_addOffer_9 : decode cX1_addOffer 9 = .ok (.iastore, 1) := by decide +kernel
theorem dX1_addOffer_10 : decode cX1_addOffer 10 = .ok (.aload_n 0, 1) := by decide +kernel
theorem dX1_addOffer_11 : decode cX1_addOffer 11 = .ok (.getfield 22, 3) := by decide +kernel
theorem dX1_addOffer_14 : decode cX1_addOffer 14 = .ok (.aload_n 0, 1) := by decide +kernel
theorem dX1_addOffer_15 : decode cX1_addOffer 15 = .ok (.getfield 37, 3) := by decide +kernel
theorem dX1_addOffer_18 : decode cX1_addOffer 18 = .ok (.iload_n 2, 1) := by decide +kernel
theorem dX1_addOffer_19 : decode cX1_addOffer 19 = .ok (.iastore, 1) := by decide +kernel
theorem dX1_addOffer_20 : decode cX1_addOffer 20 = .ok (.aload_n 0, 1) := by decide +kernel
theorem dX1_addOffer_21 : decode cX1_addOffer 21 = .ok (.getfield 25, 3) := by decide +kernel
theorem dX1_addOffer_24 : decode cX1_addOffer 24 = .ok (.aload_n 0, 1) := by decide +kernel
theorem dX1_addOffer_25 : decode cX1_addOffer 25 = .ok (.getfield 37, 3) := by decide +kernel
theorem dX1_addOffer_28 : decode cX1_addOffer 28 = .ok (.iload_n 3, 1) := by decide +kernel
theorem dX1_addOffer_29 : decode cX1_addOffer 29 = .ok (.iastore, 1) := by decide +kernel
theorem dX1_addOffer_30 : decode cX1_addOffer 30 = .ok (.aload_n 0, 1) := by decide +kernel
theorem dX1_addOffer_31 : decode cX1_addOffer 31 = .ok (.dup, 1) := by decide +kernel
theorem dX1_addOffer_32 : decode cX1_addOffer 32 = .ok (.getfield 37, 3) := by decide +kernel
theorem dX1_addOffer_35 : decode cX1_addOffer 35 = .ok (.iconst 1, 1) := by decide +kernel
theorem dX1_addOffer_36 : decode cX1_addOffer 36 = .ok (.iadd, 1) := by decide +kernel
theorem dX1_addOffer_37 : decode cX1_addOffer 37 = .ok (.putfield 37, 3) := by decide +kernel
theorem dX1_addOffer_40 : decode cX1_addOffer 40 = .ok (.aload_n 0, 1) := by decide +kernel
theorem dX1_addOffer_41 : decode cX1_addOffer 41 = .ok (.getfield 37, 3) := by decide +kernel
theorem dX1_addOffer_44 : decode cX1_addOffer 44 = .ok (.iconst 1, 1) := by decide +kernel
theorem dX1_addOffer_45 : decode cX1_addOffer 45 = .ok (.isub, 1) := by decide +kernel
theorem dX1_addOffer_46 : decode cX1_addOffer 46 = .ok (.ireturn, 1) := by decide +kernel
theorem dX1_setNeed_0 : decode cX1_setNeed 0 = .ok (.aload_n 0, 1) := by decide +kernel
theorem dX1_setNeed_1 : decode cX1_setNeed 1 = .ok (.getfield 28, 3) := by decide +kernel
theorem dX1_setNeed_4 : decode cX1_setNeed 4 = .ok (.iload_n 2, 1) := by decide +kernel
theorem dX1_setNeed_5 : decode cX1_setNeed 5 = .ok (.iconst 4, 1) := by decide +kernel
theorem dX1_setNeed_6 : decode cX1_setNeed 6 = .ok (.imul, 1) := by decide +kernel
theorem dX1_setNeed_7 : decode cX1_setNeed 7 = .ok (.iload_n 1, 1) := by decide +kernel
theorem dX1_setNeed_8 : decode cX1_setNeed 8 = .ok (.iadd, 1) := by decide +kernel
theorem dX1_setNeed_9 : decode cX1_setNeed 9 = .ok (.bipush 40, 2) := by decide +kernel
theorem dX1_setNeed_11 : decode cX1_setNeed 11 = .ok (.imul, 1) := by decide +kernel
theorem dX1_setNeed_12 : decode cX1_setNeed 12 = .ok (.iload_n 3, 1) := by decide +kernel
theorem dX1_setNeed_13 : decode cX1_setNeed 13 = .ok (.iadd, 1) := by decide +kernel
theorem dX1_setNeed_14 : decode cX1_setNeed 14 = .ok (.iload 4, 2) := by decide +kernel
theorem dX1_setNeed_16 : decode cX1_setNeed 16 = .ok (.iastore, 1) := by decide +kernel
theorem dX1_setNeed_17 : decode cX1_setNeed 17 = .ok (.return_, 1) := by decide +kernel
theorem dX1_needOf_0 : decode cX1_needOf 0 = .ok (.aload_n 0, 1) := by decide +kernel
theorem dX1_needOf_1 : decode cX1_needOf 1 = .ok (.getfield 28, 3) := by decide +kernel
theorem dX1_needOf_4 : decode cX1_needOf 4 = .ok (.iload_n 2, 1) := by decide +kernel
theorem dX1_needOf_5 : decode cX1_needOf 5 = .ok (.iconst 4, 1) := by decide +kernel
theorem dX1_needOf_6 : decode cX1_needOf 6 = .ok (.imul, 1) := by decide +kernel
theorem dX1_needOf_7 : decode cX1_needOf 7 = .ok (.iload_n 1, 1) := by decide +kernel
theorem dX1_needOf_8 : decode cX1_needOf 8 = .ok (.iadd, 1) := by decide +kernel
theorem dX1_needOf_9 : decode cX1_needOf 9 = .ok (.bipush 40, 2) := by decide +kernel
theorem dX1_needOf_11 : decode cX1_needOf 11 = .ok (.imul, 1) := by decide +kernel
theorem dX1_needOf_12 : decode cX1_needOf 12 = .ok (.iload_n 3, 1) := by decide +kernel
theorem dX1_needOf_13 : decode cX1_needOf 13 = .ok (.iadd, 1) := by decide +kernel
theorem dX1_needOf_14 : decode cX1_needOf 14 = .ok (.iaload, 1) := by decide +kernel
theorem dX1_needOf_15 : decode cX1_needOf 15 = .ok (.ireturn, 1) := by decide +kernel
theorem dX1_needOfAll_0 : decode cX1_needOfAll 0 = .ok (.iconst 0, 1) := by decide +kernel
theorem dX1_needOfAll_1 : decode cX1_needOfAll 1 = .ok (.istore_n 3, 1) := by decide +kernel
theorem dX1_needOfAll_2 : decode cX1_needOfAll 2 = .ok (.iconst 0, 1) := by decide +kernel
theorem dX1_needOfAll_3 : decode cX1_needOfAll 3 = .ok (.istore 4, 2) := by decide +kernel
theorem dX1_needOfAll_5 : decode cX1_needOfAll 5 = .ok (.iload 4, 2) := by decide +kernel
theorem dX1_needOfAll_7 : decode cX1_needOfAll 7 = .ok (.iconst 4, 1) := by decide +kernel
theorem dX1_needOfAll_8 : decode cX1_needOfAll 8 = .ok (.if_icmp .ge 20, 3) := by decide +kernel
theorem dX1_needOfAll_11 : decode cX1_needOfAll 11 = .ok (.iload_n 3, 1) := by decide +kernel
theorem dX1_needOfAll_12 : decode cX1_needOfAll 12 = .ok (.aload_n 0, 1) := by decide +kernel
theorem dX1_needOfAll_13 : decode cX1_needOfAll 13 = .ok (.iload 4, 2) := by decide +kernel
theorem dX1_needOfAll_15 : decode cX1_needOfAll 15 = .ok (.iload_n 1, 1) := by decide +kernel
theorem dX1_needOfAll_16 : decode cX1_needOfAll 16 = .ok (.iload_n 2, 1) := by decide +kernel
theorem dX1_needOfAll_17 : decode cX1_needOfAll 17 = .ok (.invokevirtual 60, 3) := by decide +kernel
theorem dX1_needOfAll_20 : decode cX1_needOfAll 20 = .ok (.iadd, 1) := by decide +kernel
theorem dX1_needOfAll_21 : decode cX1_needOfAll 21 = .ok (.istore_n 3, 1) := by decide +kernel
theorem dX1_needOfAll_22 : decode cX1_needOfAll 22 = .ok (.iinc 4 1, 3) := by decide +kernel
theorem dX1_needOfAll_25 : decode cX1_needOfAll 25 = .ok (.goto (-20), 3) := by decide +kernel
theorem dX1_needOfAll_28 : decode cX1_needOfAll 28 = .ok (.iload_n 3, 1) := by decide +kernel
theorem dX1_needOfAll_29 : decode cX1_needOfAll 29 = .ok (.ireturn, 1) := by decide +kernel
theorem dX1_needInAll_0 : decode cX1_needInAll 0 = .ok (.iconst 0, 1) := by decide +kernel
theorem dX1_needInAll_1 : decode cX1_needInAll 1 = .ok (.istore_n 2, 1) := by decide +kernel
theorem dX1_needInAll_2 : decode cX1_needInAll 2 = .ok (.iconst 0, 1) := by decide +kernel
theorem dX1_needInAll_3 : decode cX1_needInAll 3 = .ok (.istore_n 3, 1) := by decide +kernel
theorem dX1_needInAll_4 : decode cX1_needInAll 4 = .ok (.iload_n 3, 1) := by decide +kernel
theorem dX1_needInAll_5 : decode cX1_needInAll 5 = .ok (.aload_n 0, 1) := by decide +kernel
theorem dX1_needInAll_6 : decode cX1_needInAll 6 = .ok (.getfield 9, 3) := by decide +kernel
theorem dX1_needInAll_9 : decode cX1_needInAll 9 = .ok (.if_icmp .ge 18, 3) := by decide +kernel
theorem dX1_needInAll_12 : decode cX1_needInAll 12 = .ok (.iload_n 2, 1) := by decide +kernel
theorem dX1_needInAll_13 : decode cX1_needInAll 13 = .ok (.aload_n 0, 1) := by decide +kernel
theorem dX1_needInAll_14 : decode cX1_needInAll 14 = .ok (.iload_n 1, 1) := by decide +kernel
theorem dX1_needInAll_15 : decode cX1_needInAll 15 = .ok (.iload_n 3, 1) := by decide +kernel
theorem dX1_needInAll_16 : decode cX1_needInAll 16 = .ok (.invokevirtual 64, 3) := by decide +kernel
theorem dX1_needInAll_19 : decode cX1_needInAll 19 = .ok (.iadd, 1) := by decide +kernel
theorem dX1_needInAll_20 : decode cX1_needInAll 20 = .ok (.istore_n 2, 1) := by decide +kernel
theorem dX1_needInAll_21 : decode cX1_needInAll 21 = .ok (.iinc 3 1, 3) := by decide +kernel
theorem dX1_needInAll_24 : decode cX1_needInAll 24 = .ok (.goto (-20), 3) := by decide +kernel
theorem dX1_needInAll_27 : decode cX1_needInAll 27 = .ok (.iload_n 2, 1) := by decide +kernel
theorem dX1_needInAll_28 : decode cX1_needInAll 28 = .ok (.ireturn, 1) := by decide +kernel
theorem dX1_mostNeed_0 : decode cX1_mostNeed 0 = .ok (.iconst 0, 1) := by decide +kernel
theorem dX1_mostNeed_1 : decode cX1_mostNeed 1 = .ok (.istore_n 2, 1) := by decide +kernel
theorem dX1_mostNeed_2 : decode cX1_mostNeed 2 = .ok (.iconst 0, 1) := by decide +kernel
theorem dX1_mostNeed_3 : decode cX1_mostNeed 3 = .ok (.istore_n 3, 1) := by decide +kernel
theorem dX1_mostNeed_4 : decode cX1_mostNeed 4 = .ok (.iload_n 3, 1) := by decide +kernel
theorem dX1_mostNeed_5 : decode cX1_mostNeed 5 = .ok (.aload_n 0, 1) := by decide +kernel
theorem dX1_mostNeed_6 : decode cX1_mostNeed 6 = .ok (.getfield 9, 3) := by decide +kernel
theorem dX1_mostNeed_9 : decode cX1_mostNeed 9 = .ok (.if_icmp .ge 20, 3) := by decide +kernel
theorem dX1_mostNeed_12 : decode cX1_mostNeed 12 = .ok (.iload_n 2, 1) := by decide +kernel
theorem dX1_mostNeed_13 : decode cX1_mostNeed 13 = .ok (.aload_n 0, 1) := by decide +kernel
theorem dX1_mostNeed_14 : decode cX1_mostNeed 14 = .ok (.iload_n 1, 1) := by decide +kernel
theorem dX1_mostNeed_15 : decode cX1_mostNeed 15 = .ok (.iload_n 3, 1) := by decide +kernel
theorem dX1_mostNeed_16 : decode cX1_mostNeed 16 = .ok (.invokevirtual 64, 3) := by decide +kernel
theorem dX1_mostNeed_19 : decode cX1_mostNeed 19 = .ok (.invokestatic 68, 3) := by decide +kernel
theorem dX1_mostNeed_22 : decode cX1_mostNeed 22 = .ok (.istore_n 2, 1) := by decide +kernel
theorem dX1_mostNeed_23 : decode cX1_mostNeed 23 = .ok (.iinc 3 1, 3) := by decide +kernel
theorem dX1_mostNeed_26 : decode cX1_mostNeed 26 = .ok (.goto (-22), 3) := by decide +kernel
theorem dX1_mostNeed_29 : decode cX1_mostNeed 29 = .ok (.iload_n 2, 1) := by decide +kernel
theorem dX1_mostNeed_30 : decode cX1_mostNeed 30 = .ok (.ireturn, 1) := by decide +kernel
theorem dX1_offersOf_0 : decode cX1_offersOf 0 = .ok (.iconst 0, 1) := by decide +kernel
theorem dX1_offersOf_1 : decode cX1_offersOf 1 = .ok (.istore_n 2, 1) := by decide +kernel
theorem dX1_offersOf_2 : decode cX1_offersOf 2 = .ok (.iconst 0, 1) := by decide +kernel
theorem dX1_offersOf_3 : decode cX1_offersOf 3 = .ok (.istore_n 3, 1) := by decide +kernel
theorem dX1_offersOf_4 : decode cX1_offersOf 4 = .ok (.iload_n 3, 1) := by decide +kernel
theorem dX1_offersOf_5 : decode cX1_offersOf 5 = .ok (.aload_n 0, 1) := by decide +kernel
theorem dX1_offersOf_6 : decode cX1_offersOf 6 = .ok (.getfield 37, 3) := by decide +kernel
theorem dX1_offersOf_9 : decode cX1_offersOf 9 = .ok (.if_icmp .ge 27, 3) := by decide +kernel
theorem dX1_offersOf_12 : decode cX1_offersOf 12 = .ok (.iload_n 2, 1) := by decide +kernel
theorem dX1_offersOf_13 : decode cX1_offersOf 13 = .ok (.aload_n 0, 1) := by decide +kernel
theorem dX1_offersOf_14 : decode cX1_offersOf 14 = .ok (.getfield 19, 3) := by decide +kernel
theorem dX1_offersOf_17 : decode cX1_offersOf 17 = .ok (.iload_n 3, 1) := by decide +kernel
theorem dX1_offersOf_18 : decode cX1_offersOf 18 = .ok (.iaload, 1) := by decide +kernel
theorem dX1_offersOf_19 : decode cX1_offersOf 19 = .ok (.iload_n 1, 1) := by decide +kernel
theorem dX1_offersOf_20 : decode cX1_offersOf 20 = .ok (.if_icmp .ne 7, 3) := by decide +kernel
theorem dX1_offersOf_23 : decode cX1_offersOf 23 = .ok (.iconst 1, 1) := by decide +kernel
theorem dX1_offersOf_24 : decode cX1_offersOf 24 = .ok (.goto 4, 3) := by decide +kernel
theorem dX1_offersOf_27 : decode cX1_offersOf 27 = .ok (.iconst 0, 1) := by decide +kernel
theorem dX1_offersOf_28 : decode cX1_offersOf 28 = .ok (.iadd, 1) := by decide +kernel
theorem dX1_offersOf_29 : decode cX1_offersOf 29 = .ok (.istore_n 2, 1) := by decide +kernel
theorem dX1_offersOf_30 : decode cX1_offersOf 30 = .ok (.iinc 3 1, 3) := by decide +kernel
theorem dX1_offersOf_33 : decode cX1_offersOf 33 = .ok (.goto (-29), 3) := by decide +kernel
theorem dX1_offersOf_36 : decode cX1_offersOf 36 = .ok (.iload_n 2, 1) := by decide +kernel
theorem dX1_offersOf_37 : decode cX1_offersOf 37 = .ok (.ireturn, 1) := by decide +kernel
theorem dX1_setBought_0 : decode cX1_setBought 0 = .ok (.aload_n 0, 1) := by decide +kernel
theorem dX1_setBought_1 : decode cX1_setBought 1 = .ok (.getfield 31, 3) := by decide +kernel
theorem dX1_setBought_4 : decode cX1_setBought 4 = .ok (.iload_n 1, 1) := by decide +kernel
theorem dX1_setBought_5 : decode cX1_setBought 5 = .ok (.bipush 40, 2) := by decide +kernel
theorem dX1_setBought_7 : decode cX1_setBought 7 = .ok (.imul, 1) := by decide +kernel
theorem dX1_setBought_8 : decode cX1_setBought 8 = .ok (.iload_n 2, 1) := by decide +kernel
theorem dX1_setBought_9 : decode cX1_setBought 9 = .ok (.iadd, 1) := by decide +kernel
theorem dX1_setBought_10 : decode cX1_setBought 10 = .ok (.iload_n 3, 1) := by decide +kernel
theorem dX1_setBought_11 : decode cX1_setBought 11 = .ok (.iastore, 1) := by decide +kernel
theorem dX1_setBought_12 : decode cX1_setBought 12 = .ok (.return_, 1) := by decide +kernel
theorem dX1_boughtAt_0 : decode cX1_boughtAt 0 = .ok (.aload_n 0, 1) := by decide +kernel
theorem dX1_boughtAt_1 : decode cX1_boughtAt 1 = .ok (.getfield 31, 3) := by decide +kernel
theorem dX1_boughtAt_4 : decode cX1_boughtAt 4 = .ok (.iload_n 1, 1) := by decide +kernel
theorem dX1_boughtAt_5 : decode cX1_boughtAt 5 = .ok (.bipush 40, 2) := by decide +kernel
theorem dX1_boughtAt_7 : decode cX1_boughtAt 7 = .ok (.imul, 1) := by decide +kernel
theorem dX1_boughtAt_8 : decode cX1_boughtAt 8 = .ok (.iload_n 2, 1) := by decide +kernel
theorem dX1_boughtAt_9 : decode cX1_boughtAt 9 = .ok (.iadd, 1) := by decide +kernel
theorem dX1_boughtAt_10 : decode cX1_boughtAt 10 = .ok (.iaload, 1) := by decide +kernel
theorem dX1_boughtAt_11 : decode cX1_boughtAt 11 = .ok (.ireturn, 1) := by decide +kernel
theorem dX1_boughtInAll_0 : decode cX1_boughtInAll 0 = .ok (.aload_n 0, 1) := by decide +kernel
theorem dX1_boughtInAll_1 : decode cX1_boughtInAll 1 = .ok (.iload_n 1, 1) := by decide +kernel
theorem dX1_boughtInAll_2 : decode cX1_boughtInAll 2 = .ok (.iconst 0, 1) := by decide +kernel
theorem dX1_boughtInAll_3 : decode cX1_boughtInAll 3 = .ok (.aload_n 0, 1) := by decide +kernel
theorem dX1_boughtInAll_4 : decode cX1_boughtInAll 4 = .ok (.getfield 9, 3) := by decide +kernel
theorem dX1_boughtInAll_7 : decode cX1_boughtInAll 7 = .ok (.iconst 1, 1) := by decide +kernel
theorem dX1_boughtInAll_8 : decode cX1_boughtInAll 8 = .ok (.isub, 1) := by decide +kernel
theorem dX1_boughtInAll_9 : decode cX1_boughtInAll 9 = .ok (.invokevirtual 73, 3) := by decide +kernel
theorem dX1_boughtInAll_12 : decode cX1_boughtInAll 12 = .ok (.ireturn, 1) := by decide +kernel
theorem dX1_buyNothing_0 : decode cX1_buyNothing 0 = .ok (.iconst 0, 1) := by decide +kernel
theorem dX1_buyNothing_1 : decode cX1_buyNothing 1 = .ok (.istore_n 2, 1) := by decide +kernel
theorem dX1_buyNothing_2 : decode cX1_buyNothing 2 = .ok (.iload_n 2, 1) := by decide +kernel
theorem dX1_buyNothing_3 : decode cX1_buyNothing 3 = .ok (.aload_n 0, 1) := by decide +kernel
theorem dX1_buyNothing_4 : decode cX1_buyNothing 4 = .ok (.getfield 37, 3) := by decide +kernel
theorem dX1_buyNothing_7 : decode cX1_buyNothing 7 = .ok (.if_icmp .ge 37, 3) := by decide +kernel
theorem dX1_buyNothing_10 : decode cX1_buyNothing 10 = .ok (.aload_n 0, 1) := by decide +kernel
theorem dX1_buyNothing_11 : decode cX1_buyNothing 11 = .ok (.getfield 19, 3) := by decide +kernel
theorem dX1_buyNothing_14 : decode cX1_buyNothing 14 = .ok (.iload_n 2, 1) := by decide +kernel
theorem dX1_buyNothing_15 : decode cX1_buyNothing 15 = .ok (.iaload, 1) := by decide +kernel
theorem dX1_buyNothing_16 : decode cX1_buyNothing 16 = .ok (.iload_n 1, 1) := by decide +kernel
theorem dX1_buyNothing_17 : decode cX1_buyNothing 17 = .ok (.if_icmp .ne 21, 3) := by decide +kernel
theorem dX1_buyNothing_20 : decode cX1_buyNothing 20 = .ok (.iload_n 2, 1) := by decide +kernel
theorem dX1_buyNothing_21 : decode cX1_buyNothing 21 = .ok (.bipush 40, 2) := by decide +kernel
theorem dX1_buyNothing_23 : decode cX1_buyNothing 23 = .ok (.imul, 1) := by decide +kernel
theorem dX1_buyNothing_24 : decode cX1_buyNothing 24 = .ok (.istore_n 3, 1) := by decide +kernel
theorem dX1_buyNothing_25 : decode cX1_buyNothing 25 = .ok (.aload_n 0, 1) := by decide +kernel
theorem dX1_buyNothing_26 : decode cX1_buyNothing 26 = .ok (.getfield 31, 3) := by decide +kernel
theorem dX1_buyNothing_29 : decode cX1_buyNothing 29 = .ok (.iload_n 3, 1) := by decide +kernel
theorem dX1_buyNothing_30 : decode cX1_buyNothing 30 = .ok (.iload_n 3, 1) := by decide +kernel
theorem dX1_buyNothing_31 : decode cX1_buyNothing 31 = .ok (.bipush 40, 2) := by decide +kernel
theorem dX1_buyNothing_33 : decode cX1_buyNothing 33 = .ok (.iadd, 1) := by decide +kernel
theorem dX1_buyNothing_34 : decode cX1_buyNothing 34 = .ok (.iconst 0, 1) := by decide +kernel
theorem dX1_buyNothing_35 : decode cX1_buyNothing 35 = .ok (.invokestatic 54, 3) := by decide +kernel
theorem dX1_buyNothing_38 : decode cX1_buyNothing 38 = .ok (.iinc 2 1, 3) := by decide +kernel
theorem dX1_buyNothing_41 : decode cX1_buyNothing 41 = .ok (.goto (-39), 3) := by decide +kernel
theorem dX1_buyNothing_44 : decode cX1_buyNothing 44 = .ok (.return_, 1) := by decide +kernel
theorem dX1_ahead_0 : decode cX1_ahead 0 = .ok (.iconst 0, 1) := by decide +kernel
theorem dX1_ahead_1 : decode cX1_ahead 1 = .ok (.istore_n 3, 1) := by decide +kernel
theorem dX1_ahead_2 : decode cX1_ahead 2 = .ok (.iconst 0, 1) := by decide +kernel
theorem dX1_ahead_3 : decode cX1_ahead 3 = .ok (.istore 4, 2) := by decide +kernel
theorem dX1_ahead_5 : decode cX1_ahead 5 = .ok (.iload 4, 2) := by decide +kernel
theorem dX1_ahead_7 : decode cX1_ahead 7 = .ok (.aload_n 0, 1) := by decide +kernel
theorem dX1_ahead_8 : decode cX1_ahead 8 = .ok (.getfield 37, 3) := by decide +kernel
theorem dX1_ahead_11 : decode cX1_ahead 11 = .ok (.if_icmp .ge 45, 3) := by decide +kernel
theorem dX1_ahead_14 : decode cX1_ahead 14 = .ok (.aload_n 0, 1) := by decide +kernel
theorem dX1_ahead_15 : decode cX1_ahead 15 = .ok (.getfield 19, 3) := by decide +kernel
theorem dX1_ahead_18 : decode cX1_ahead 18 = .ok (.iload 4, 2) := by decide +kernel
theorem dX1_ahead_20 : decode cX1_ahead 20 = .ok (.iaload, 1) := by decide +kernel
theorem dX1_ahead_21 : decode cX1_ahead 21 = .ok (.iload_n 1, 1) := by decide +kernel
theorem dX1_ahead_22 : decode cX1_ahead 22 = .ok (.if_icmp .ne 28, 3) := by decide +kernel
theorem dX1_ahead_25 : decode cX1_ahead 25 = .ok (.iload_n 3, 1) := by decide +kernel
theorem dX1_ahead_26 : decode cX1_ahead 26 = .ok (.aload_n 0, 1) := by decide +kernel
theorem dX1_ahead_27 : decode cX1_ahead 27 = .ok (.iload 4, 2) := by decide +kernel
theorem dX1_ahead_29 : decode cX1_ahead 29 = .ok (.iconst 0, 1) := by decide +kernel
theorem dX1_ahead_30 : decode cX1_ahead 30 = .ok (.iload_n 2, 1) := by decide +kernel
theorem dX1_ahead_31 : decode cX1_ahead 31 = .ok (.aload_n 0, 1) := by decide +kernel
theorem dX1_ahead_32 : decode cX1_ahead 32 = .ok (.getfield 22, 3) := by decide +kernel
theorem dX1_ahead_35 : decode cX1_ahead 35 = .ok (.iload 4, 2) := by decide +kernel
theorem dX1_ahead_37 : decode cX1_ahead 37 = .ok (.iaload, 1) := by decide +kernel
theorem dX1_ahead_38 : decode cX1_ahead 38 = .ok (.isub, 1) := by decide +kernel
theorem dX1_ahead_39 : decode cX1_ahead 39 = .ok (.iconst 1, 1) := by decide +kernel
theorem dX1_ahead_40 : decode cX1_ahead 40 = .ok (.iadd, 1) := by decide +kernel
theorem dX1_ahead_41 : decode cX1_ahead 41 = .ok (.invokestatic 68, 3) := by decide +kernel
theorem dX1_ahead_44 : decode cX1_ahead 44 = .ok (.iload_n 2, 1) := by decide +kernel
theorem dX1_ahead_45 : decode cX1_ahead 45 = .ok (.invokevirtual 73, 3) := by decide +kernel
theorem dX1_ahead_48 : decode cX1_ahead 48 = .ok (.iadd, 1) := by decide +kernel
theorem dX1_ahead_49 : decode cX1_ahead 49 = .ok (.istore_n 3, 1) := by decide +kernel
theorem dX1_ahead_50 : decode cX1_ahead 50 = .ok (.iinc 4 1, 3) := by decide +kernel
theorem dX1_ahead_53 : decode cX1_ahead 53 = .ok (.goto (-48), 3) := by decide +kernel
theorem dX1_ahead_56 : decode cX1_ahead 56 = .ok (.iload_n 3, 1) := by decide +kernel
theorem dX1_ahead_57 : decode cX1_ahead 57 = .ok (.ireturn, 1) := by decide +kernel
theorem dX1_notAhead_0 : decode cX1_notAhead 0 = .ok (.iconst 0, 1) := by decide +kernel
theorem dX1_notAhead_1 : decode cX1_notAhead 1 = .ok (.aload_n 0, 1) := by decide +kernel
theorem dX1_notAhead_2 : decode cX1_notAhead 2 = .ok (.iload_n 1, 1) := by decide +kernel
theorem dX1_notAhead_3 : decode cX1_notAhead 3 = .ok (.iload_n 2, 1) := by decide +kernel
theorem dX1_notAhead_4 : decode cX1_notAhead 4 = .ok (.invokevirtual 64, 3) := by decide +kernel
theorem dX1_notAhead_7 : decode cX1_notAhead 7 = .ok (.aload_n 0, 1) := by decide +kernel
theorem dX1_notAhead_8 : decode cX1_notAhead 8 = .ok (.iload_n 1, 1) := by decide +kernel
theorem dX1_notAhead_9 : decode cX1_notAhead 9 = .ok (.iload_n 2, 1) := by decide +kernel
theorem dX1_notAhead_10 : decode cX1_notAhead 10 = .ok (.invokevirtual 76, 3) := by decide +kernel
theorem dX1_notAhead_13 : decode cX1_notAhead 13 = .ok (.isub, 1) := by decide +kernel
theorem dX1_notAhead_14 : decode cX1_notAhead 14 = .ok (.invokestatic 68, 3) := by decide +kernel
theorem dX1_notAhead_17 : decode cX1_notAhead 17 = .ok (.ireturn, 1) := by decide +kernel
theorem dX1_offersCost_0 : decode cX1_offersCost 0 = .ok (.lconst 0, 1) := by decide +kernel
theorem dX1_offersCost_1 : decode cX1_offersCost 1 = .ok (.lstore_n 2, 1) := by decide +kernel
theorem dX1_offersCost_2 : decode cX1_offersCost 2 = .ok (.iconst 0, 1) := by decide +kernel
theorem dX1_offersCost_3 : decode cX1_offersCost 3 = .ok (.istore 4, 2) := by decide +kernel
theorem dX1_offersCost_5 : decode cX1_offersCost 5 = .ok (.iload 4, 2) := by decide +kernel
theorem dX1_offersCost_7 : decode cX1_offersCost 7 = .ok (.aload_n 0, 1) := by decide +kernel
theorem dX1_offersCost_8 : decode cX1_offersCost 8 = .ok (.getfield 37, 3) := by decide +kernel
theorem dX1_offersCost_11 : decode cX1_offersCost 11 = .ok (.if_icmp .ge 39, 3) := by decide +kernel
theorem dX1_offersCost_14 : decode cX1_offersCost 14 = .ok (.aload_n 0, 1) := by decide +kernel
theorem dX1_offersCost_15 : decode cX1_offersCost 15 = .ok (.getfield 19, 3) := by decide +kernel
theorem dX1_offersCost_18 : decode cX1_offersCost 18 = .ok (.iload 4, 2) := by decide +kernel
theorem dX1_offersCost_20 : decode cX1_offersCost 20 = .ok (.iaload, 1) := by decide +kernel
theorem dX1_offersCost_21 : decode cX1_offersCost 21 = .ok (.iload_n 1, 1) := by decide +kernel
theorem dX1_offersCost_22 : decode cX1_offersCost 22 = .ok (.if_icmp .ne 22, 3) := by decide +kernel
theorem dX1_offersCost_25 : decode cX1_offersCost 25 = .ok (.lload_n 2, 1) := by decide +kernel
theorem dX1_offersCost_26 : decode cX1_offersCost 26 = .ok (.aload_n 0, 1) := by decide +kernel
theorem dX1_offersCost_27 : decode cX1_offersCost 27 = .ok (.iload 4, 2) := by decide +kernel
theorem dX1_offersCost_29 : decode cX1_offersCost 29 = .ok (.invokevirtual 79, 3) := by decide +kernel
theorem dX1_offersCost_32 : decode cX1_offersCost 32 = .ok (.i2l, 1) := by decide +kernel
theorem dX1_offersCost_33 : decode cX1_offersCost 33 = .ok (.aload_n 0, 1) := by decide +kernel
theorem dX1_offersCost_34 : decode cX1_offersCost 34 = .ok (.getfield 25, 3) := by decide +kernel
theorem dX1_offersCost_37 : decode cX1_offersCost 37 = .ok (.iload 4, 2) := by decide +kernel
theorem dX1_offersCost_39 : decode cX1_offersCost 39 = .ok (.iaload, 1) := by decide +kernel
theorem dX1_offersCost_40 : decode cX1_offersCost 40 = .ok (.i2l, 1) := by decide +kernel
theorem dX1_offersCost_41 : decode cX1_offersCost 41 = .ok (.lmul, 1) := by decide +kernel
theorem dX1_offersCost_42 : decode cX1_offersCost 42 = .ok (.ladd, 1) := by decide +kernel
theorem dX1_offersCost_43 : decode cX1_offersCost 43 = .ok (.lstore_n 2, 1) := by decide +kernel
theorem dX1_offersCost_44 : decode cX1_offersCost 44 = .ok (.iinc 4 1, 3) := by decide +kernel
theorem dX1_offersCost_47 : decode cX1_offersCost 47 = .ok (.goto (-42), 3) := by decide +kernel
theorem dX1_offersCost_50 : decode cX1_offersCost 50 = .ok (.lload_n 2, 1) := by decide +kernel
theorem dX1_offersCost_51 : decode cX1_offersCost 51 = .ok (.lreturn, 1) := by decide +kernel
theorem dX1_planCost_0 : decode cX1_planCost 0 = .ok (.aload_n 0, 1) := by decide +kernel
theorem dX1_planCost_1 : decode cX1_planCost 1 = .ok (.iload_n 1, 1) := by decide +kernel
theorem dX1_planCost_2 : decode cX1_planCost 2 = .ok (.invokevirtual 83, 3) := by decide +kernel
theorem dX1_planCost_5 : decode cX1_planCost 5 = .ok (.lstore_n 2, 1) := by decide +kernel
theorem dX1_planCost_6 : decode cX1_planCost 6 = .ok (.iconst 0, 1) := by decide +kernel
theorem dX1_planCost_7 : decode cX1_planCost 7 = .ok (.istore 4, 2) := by decide +kernel
theorem dX1_planCost_9 : decode cX1_planCost 9 = .ok (.iload 4, 2) := by decide +kernel
theorem dX1_planCost_11 : decode cX1_planCost 11 = .ok (.aload_n 0, 1) := by decide +kernel
theorem dX1_planCost_12 : decode cX1_planCost 12 = .ok (.getfield 9, 3) := by decide +kernel
theorem dX1_planCost_15 : decode cX1_planCost 15 = .ok (.if_icmp .ge 28, 3) := by decide +kernel
theorem dX1_planCost_18 : decode cX1_planCost 18 = .ok (.lload_n 2, 1) := by decide +kernel
theorem dX1_planCost_19 : decode cX1_planCost 19 = .ok (.aload_n 0, 1) := by decide +kernel
theorem dX1_planCost_20 : decode cX1_planCost 20 = .ok (.iload_n 1, 1) := by decide +kernel
theorem dX1_planCost_21 : decode cX1_planCost 21 = .ok (.iload 4, 2) := by decide +kernel
theorem dX1_planCost_23 : decode cX1_planCost 23 = .ok (.invokevirtual 87, 3) := by decide +kernel
theorem dX1_planCost_26 : decode cX1_planCost 26 = .ok (.i2l, 1) := by decide +kernel
theorem dX1_planCost_27 : decode cX1_planCost 27 = .ok (.aload_n 0, 1) := by decide +kernel
theorem dX1_planCost_28 : decode cX1_planCost 28 = .ok (.getfield 15, 3) := by decide +kernel
theorem dX1_planCost_31 : decode cX1_planCost 31 = .ok (.iload_n 1, 1) := by decide +kernel
theorem dX1_planCost_32 : decode cX1_planCost 32 = .ok (.iaload, 1) := by decide +kernel
theorem dX1_planCost_33 : decode cX1_planCost 33 = .ok (.i2l, 1) := by decide +kernel
theorem dX1_planCost_34 : decode cX1_planCost 34 = .ok (.lmul, 1) := by decide +kernel
theorem dX1_planCost_35 : decode cX1_planCost 35 = .ok (.ladd, 1) := by decide +kernel
theorem dX1_planCost_36 : decode cX1_planCost 36 = .ok (.lstore_n 2, 1) := by decide +kernel
theorem dX1_planCost_37 : decode cX1_planCost 37 = .ok (.iinc 4 1, 3) := by decide +kernel
theorem dX1_planCost_40 : decode cX1_planCost 40 = .ok (.goto (-31), 3) := by decide +kernel
theorem dX1_planCost_43 : decode cX1_planCost 43 = .ok (.lload_n 2, 1) := by decide +kernel
theorem dX1_planCost_44 : decode cX1_planCost 44 = .ok (.lreturn, 1) := by decide +kernel
theorem dX1_boughtWithin_0 : decode cX1_boughtWithin 0 = .ok (.iconst 0, 1) := by decide +kernel
theorem dX1_boughtWithin_1 : decode cX1_boughtWithin 1 = .ok (.istore 4, 2) := by decide +kernel
theorem dX1_boughtWithin_3 : decode cX1_boughtWithin 3 = .ok (.iload_n 2, 1) := by decide +kernel
theorem dX1_boughtWithin_4 : decode cX1_boughtWithin 4 = .ok (.istore 5, 2) := by decide +kernel
theorem dX1_boughtWithin_6 : decode cX1_boughtWithin 6 = .ok (.iload 5, 2) := by decide +kernel
theorem dX1_boughtWithin_8 : decode cX1_boughtWithin 8 = .ok (.iload_n 3, 1) := by decide +kernel
theorem dX1_boughtWithin_9 : decode cX1_boughtWithin 9 = .ok (.if_icmp .gt 21, 3) := by decide +kernel
theorem dX1_boughtWithin_12 : decode cX1_boughtWithin 12 = .ok (.iload 4, 2) := by decide +kernel
theorem dX1_boughtWithin_14 : decode cX1_boughtWithin 14 = .ok (.aload_n 0, 1) := by decide +kernel
theorem dX1_boughtWithin_15 : decode cX1_boughtWithin 15 = .ok (.iload_n 1, 1) := by decide +kernel
theorem dX1_boughtWithin_16 : decode cX1_boughtWithin 16 = .ok (.iload 5, 2) := by decide +kernel
theorem dX1_boughtWithin_18 : decode cX1_boughtWithin 18 = .ok (.invokevirtual 90, 3) := by decide +kernel
theorem dX1_boughtWithin_21 : decode cX1_boughtWithin 21 = .ok (.iadd, 1) := by decide +kernel
theorem dX1_boughtWithin_22 : decode cX1_boughtWithin 22 = .ok (.istore 4, 2) := by decide +kernel
theorem dX1_boughtWithin_24 : decode cX1_boughtWithin 24 = .ok (.iinc 5 1, 3) := by decide +kernel
theorem dX1_boughtWithin_27 : decode cX1_boughtWithin 27 = .ok (.goto (-21), 3) := by decide +kernel
theorem dX1_boughtWithin_30 : decode cX1_boughtWithin 30 = .ok (.iload 4, 2) := by decide +kernel
theorem dX1_boughtWithin_32 : decode cX1_boughtWithin 32 = .ok (.ireturn, 1) := by decide +kernel
theorem dX2_init_0 : decode cX2_init 0 = .ok (.aload_n 0, 1) := by decide +kernel
theorem dX2_init_1 : decode cX2_init 1 = .ok (.invokespecial 3, 3) := by decide +kernel
theorem dX2_init_4 : decode cX2_init 4 = .ok (.aload_n 0, 1) := by decide +kernel
theorem dX2_init_5 : decode cX2_init 5 = .ok (.bipush 8, 2) := by decide +kernel
theorem dX2_init_7 : decode cX2_init 7 = .ok (.newarray .int, 2) := by decide +kernel
theorem dX2_init_9 : decode cX2_init 9 = .ok (.putfield 11, 3) := by decide +kernel
theorem dX2_init_12 : decode cX2_init 12 = .ok (.aload_n 0, 1) := by decide +kernel
theorem dX2_init_13 : decode cX2_init 13 = .ok (.bipush 8, 2) := by decide +kernel
theorem dX2_init_15 : decode cX2_init 15 = .ok (.newarray .int, 2) := by decide +kernel
theorem dX2_init_17 : decode cX2_init 17 = .ok (.putfield 15, 3) := by decide +kernel
theorem dX2_init_20 : decode cX2_init 20 = .ok (.aload_n 0, 1) := by decide +kernel
theorem dX2_init_21 : decode cX2_init 21 = .ok (.sipush 328, 3) := by decide +kernel
theorem dX2_init_24 : decode cX2_init 24 = .ok (.newarray .int, 2) := by decide +kernel
theorem dX2_init_26 : decode cX2_init 26 = .ok (.putfield 18, 3) := by decide +kernel
theorem dX2_init_29 : decode cX2_init 29 = .ok (.aload_n 0, 1) := by decide +kernel
theorem dX2_init_30 : decode cX2_init 30 = .ok (.bipush 41, 2) := by decide +kernel
theorem dX2_init_32 : decode cX2_init 32 = .ok (.newarray .int, 2) := by decide +kernel
theorem dX2_init_34 : decode cX2_init 34 = .ok (.putfield 21, 3) := by decide +kernel
theorem dX2_init_37 : decode cX2_init 37 = .ok (.aload_n 0, 1) := by decide +kernel
theorem dX2_init_38 : decode cX2_init 38 = .ok (.bipush 41, 2) := by decide +kernel
theorem dX2_init_40 : decode cX2_init 40 = .ok (.newarray .int, 2) := by decide +kernel
theorem dX2_init_42 : decode cX2_init 42 = .ok (.putfield 24, 3) := by decide +kernel
theorem dX2_init_45 : decode cX2_init 45 = .ok (.aload_n 0, 1) := by decide +kernel
theorem dX2_init_46 : decode cX2_init 46 = .ok (.bipush 41, 2) := by decide +kernel
theorem dX2_init_48 : decode cX2_init 48 = .ok (.newarray .int, 2) := by decide +kernel
theorem dX2_init_50 : decode cX2_init 50 = .ok (.putfield 27, 3) := by decide +kernel
theorem dX2_init_53 : decode cX2_init 53 = .ok (.aload_n 0, 1) := by decide +kernel
theorem dX2_init_54 : decode cX2_init 54 = .ok (.bipush 41, 2) := by decide +kernel
theorem dX2_init_56 : decode cX2_init 56 = .ok (.newarray .boolean, 2) := by decide +kernel
theorem dX2_init_58 : decode cX2_init 58 = .ok (.putfield 30, 3) := by decide +kernel
theorem dX2_init_61 : decode cX2_init 61 = .ok (.return_, 1) := by decide +kernel
theorem dX2_least_0 : decode cX2_least 0 = .ok (.aload_n 0, 1) := by decide +kernel
theorem dX2_least_1 : decode cX2_least 1 = .ok (.aload_n 1, 1) := by decide +kernel
theorem dX2_least_2 : decode cX2_least 2 = .ok (.iload_n 2, 1) := by decide +kernel
theorem dX2_least_3 : decode cX2_least 3 = .ok (.invokevirtual 34, 3) := by decide +kernel
theorem dX2_least_6 : decode cX2_least 6 = .ok (.aload_n 0, 1) := by decide +kernel
theorem dX2_least_7 : decode cX2_least 7 = .ok (.getfield 18, 3) := by decide +kernel
theorem dX2_least_10 : decode cX2_least 10 = .ok (.iconst 0, 1) := by decide +kernel
theorem dX2_least_11 : decode cX2_least 11 = .ok (.invokestatic 38, 3) := by decide +kernel
theorem dX2_least_14 : decode cX2_least 14 = .ok (.aload_n 0, 1) := by decide +kernel
theorem dX2_least_15 : decode cX2_least 15 = .ok (.getfield 21, 3) := by decide +kernel
theorem dX2_least_18 : decode cX2_least 18 = .ok (.iconst 0, 1) := by decide +kernel
theorem dX2_least_19 : decode cX2_least 19 = .ok (.invokestatic 38, 3) := by decide +kernel
theorem dX2_least_22 : decode cX2_least 22 = .ok (.lconst 0, 1) := by decide +kernel
theorem dX2_least_23 : decode cX2_least 23 = .ok (.lstore_n 3, 1) := by decide +kernel
theorem dX2_least_24 : decode cX2_least 24 = .ok (.iconst 0, 1) := by decide +kernel
theorem dX2_least_25 : decode cX2_least 25 = .ok (.istore 5, 2) := by decide +kernel
theorem dX2_least_27 : decode cX2_least 27 = .ok (.iload 5, 2) := by decide +kernel
theorem dX2_least_29 : decode cX2_least 29 = .ok (.aload_n 0, 1) := by decide +kernel
theorem dX2_least_30 : decode cX2_least 30 = .ok (.getfield 44, 3) := by decide +kernel
theorem dX2_least_33 : decode cX2_least 33 = .ok (.if_icmp .ge 25, 3) := by decide +kernel
theorem dX2_least_36 : decode cX2_least 36 = .ok (.lload_n 3, 1) := by decide +kernel
theorem dX2_least_37 : decode cX2_least 37 = .ok (.aload_n 0, 1) := by decide +kernel
theorem dX2_least_38 : decode cX2_least 38 = .ok (.iload 5, 2) := by decide +kernel
theorem dX2_least_40 : decode cX2_least 40 = .ok (.aload_n 1, 1) := by decide +kernel
theorem dX2_least_41 : decode cX2_least 41 = .ok (.iload_n 2, 1) := by decide +kernel
theorem dX2_least_42 : decode cX2_least 42 = .ok (.iload 5, 2) := by decide +kernel
theorem dX2_least_44 : decode cX2_least 44 = .ok (.invokevirtual 48, 3) := by decide +kernel
theorem dX2_least_47 : decode cX2_least 47 = .ok (.invokevirtual 54, 3) := by decide +kernel
theorem dX2_least_50 : decode cX2_least 50 = .ok (.ladd, 1) := by decide +kernel
theorem dX2_least_51 : decode cX2_least 51 = .ok (.lstore_n 3, 1) := by decide +kernel
theorem dX2_least_52 : decode cX2_least 52 = .ok (.iinc 5 1, 3) := by decide +kernel
theorem dX2_least_55 : decode cX2_least 55 = .ok (.goto (-28), 3) := by decide +kernel
theorem dX2_least_58 : decode cX2_least 58 = .ok (.lload_n 3, 1) := by decide +kernel
theorem dX2_least_59 : decode cX2_least 59 = .ok (.lreturn, 1) := by decide +kernel
theorem dX2_change_0 : decode cX2_change 0 = .ok (.iload_n 2, 1) := by decide +kernel
theorem dX2_change_1 : decode cX2_change 1 = .ok (.ifCond .ge 16, 3) := by decide +kernel
theorem dX2_change_4 : decode cX2_change 4 = .ok (.aload_n 0, 1) := by decide +kernel
theorem dX2_change_5 : decode cX2_change 5 = .ok (.iload_n 1, 1) := by decide +kernel
theorem dX2_change_6 : decode cX2_change 6 = .ok (.iconst 1, 1) := by decide +kernel
theorem dX2_change_7 : decode cX2_change 7 = .ok (.iadd, 1) := by decide +kernel
theorem dX2_change_8 : decode cX2_change 8 = .ok (.iload_n 1, 1) := by decide +kernel
theorem dX2_change_9 : decode cX2_change 9 = .ok (.iload_n 2, 1) := by decide +kernel
theorem dX2_change_10 : decode cX2_change 10 = .ok (.ineg, 1) := by decide +kernel
theorem dX2_change_11 : decode cX2_change 11 = .ok (.invokevirtual 58, 3) := by decide +kernel
theorem dX2_change_14 : decode cX2_change 14 = .ok (.goto 12, 3) := by decide +kernel
theorem dX2_change_17 : decode cX2_change 17 = .ok (.aload_n 0, 1) := by decide +kernel
theorem dX2_change_18 : decode cX2_change 18 = .ok (.iload_n 1, 1) := by decide +kernel
theorem dX2_change_19 : decode cX2_change 19 = .ok (.iload_n 1, 1) := by decide +kernel
theorem dX2_change_20 : decode cX2_change 20 = .ok (.iconst 1, 1) := by decide +kernel
theorem dX2_change_21 : decode cX2_change 21 = .ok (.iadd, 1) := by decide +kernel
theorem dX2_change_22 : decode cX2_change 22 = .ok (.iload_n 2, 1) := by decide +kernel
theorem dX2_change_23 : decode cX2_change 23 = .ok (.invokevirtual 58, 3) := by decide +kernel
theorem dX2_change_26 : decode cX2_change 26 = .ok (.lreturn, 1) := by decide +kernel
theorem dX2_priceOf_0 : decode cX2_priceOf 0 = .ok (.aload_n 0, 1) := by decide +kernel
theorem dX2_priceOf_1 : decode cX2_priceOf 1 = .ok (.aload_n 0, 1) := by decide +kernel
theorem dX2_priceOf_2 : decode cX2_priceOf 2 = .ok (.getfield 44, 3) := by decide +kernel
theorem dX2_priceOf_5 : decode cX2_priceOf 5 = .ok (.iconst (-1), 1) := by decide +kernel
theorem dX2_priceOf_6 : decode cX2_priceOf 6 = .ok (.invokevirtual 62, 3) := by decide +kernel
theorem dX2_priceOf_9 : decode cX2_priceOf 9 = .ok (.aload_n 0, 1) := by decide +kernel
theorem dX2_priceOf_10 : decode cX2_priceOf 10 = .ok (.getfield 21, 3) := by decide +kernel
theorem dX2_priceOf_13 : decode cX2_priceOf 13 = .ok (.iload_n 1, 1) := by decide +kernel
theorem dX2_priceOf_14 : decode cX2_priceOf 14 = .ok (.iaload, 1) := by decide +kernel
theorem dX2_priceOf_15 : decode cX2_priceOf 15 = .ok (.aload_n 0, 1) := by decide +kernel
theorem dX2_priceOf_16 : decode cX2_priceOf 16 = .ok (.getfield 21, 3) := by decide +kernel
theorem dX2_priceOf_19 : decode cX2_priceOf 19 = .ok (.iload_n 1, 1) := by decide +kernel
theorem dX2_priceOf_20 : decode cX2_priceOf 20 = .ok (.iconst 1, 1) := by decide +kernel
theorem dX2_priceOf_21 : decode cX2_priceOf 21 = .ok (.iadd, 1) := by decide +kernel
theorem dX2_priceOf_22 : decode cX2_priceOf 22 = .ok (.iaload, 1) := by decide +kernel
theorem dX2_priceOf_23 : decode cX2_priceOf 23 = .ok (.isub, 1) := by decide +kernel
theorem dX2_priceOf_24 : decode cX2_priceOf 24 = .ok (.ireturn, 1) := by decide +kernel
theorem dX2_layWays_0 : decode cX2_layWays 0 = .ok (.aload_n 0, 1) := by decide +kernel
theorem dX2_layWays_1 : decode cX2_layWays 1 = .ok (.aload_n 1, 1) := by decide +kernel
theorem dX2_layWays_2 : decode cX2_layWays 2 = .ok (.getfield 66, 3) := by decide +kernel
theorem dX2_layWays_5 : decode cX2_layWays 5 = .ok (.putfield 44, 3) := by decide +kernel
theorem dX2_layWays_8 : decode cX2_layWays 8 = .ok (.aload_n 0, 1) := by decide +kernel
theorem dX2_layWays_9 : decode cX2_layWays 9 = .ok (.iconst 0, 1) := by decide +kernel
theorem dX2_layWays_10 : decode cX2_layWays 10 = .ok (.putfield 69, 3) := by decide +kernel
theorem dX2_layWays_13 : decode cX2_layWays 13 = .ok (.aload_n 0, 1) := by decide +kernel
theorem dX2_layWays_14 : decode cX2_layWays 14 = .ok (.iconst (-1), 1) := by decide +kernel
theorem dX2_layWays_15 : decode cX2_layWays 15 = .ok (.iconst 0, 1) := by decide +kernel
theorem dX2_layWays_16 : decode cX2_layWays 16 = .ok (.invokevirtual 72, 3) := by decide +kernel
theorem dX2_layWays_19 : decode cX2_layWays 19 = .ok (.aload_n 0, 1) := by decide +kernel
theorem dX2_layWays_20 : decode cX2_layWays 20 = .ok (.iconst 1, 1) := by decide +kernel
theorem dX2_layWays_21 : decode cX2_layWays 21 = .ok (.aload_n 1, 1) := by decide +kernel
theorem dX2_layWays_22 : decode cX2_layWays 22 = .ok (.getfield 75, 3) := by decide +kernel
theorem dX2_layWays_25 : decode cX2_layWays 25 = .ok (.iload_n 2, 1) := by decide +kernel
theorem dX2_layWays_26 : decode cX2_layWays 26 = .ok (.iaload, 1) := by decide +kernel
theorem dX2_layWays_27 : decode cX2_layWays 27 = .ok (.invokevirtual 72, 3) := by decide +kernel
theorem dX2_layWays_30 : decode cX2_layWays 30 = .ok (.iconst 0, 1) := by decide +kernel
theorem dX2_layWays_31 : decode cX2_layWays 31 = .ok (.istore_n 3, 1) := by decide +kernel
theorem dX2_layWays_32 : decode cX2_layWays 32 = .ok (.iload_n 3, 1) := by decide +kernel
theorem dX2_layWays_33 : decode cX2_layWays 33 = .ok (.aload_n 1, 1) := by decide +kernel
theorem dX2_layWays_34 : decode cX2_layWays 34 = .ok (.getfield 78, 3) := by decide +kernel
theorem dX2_layWays_37 : decode cX2_layWays 37 = .ok (.if_icmp .ge 64, 3) := by decide +kernel
theorem dX2_layWays_40 : decode cX2_layWays 40 = .ok (.aload_n 1, 1) := by decide +kernel
theorem dX2_layWays_41 : decode cX2_layWays 41 = .ok (.getfield 81, 3) := by decide +kernel
theorem dX2_layWays_44 : decode cX2_layWays 44 = .ok (.iload_n 3, 1) := by decide +kernel
theorem dX2_layWays_45 : decode cX2_layWays 45 = .ok (.iaload, 1) := by decide +kernel
theorem dX2_layWays_46 : decode cX2_layWays 46 = .ok (.aload_n 0, 1) := by decide +kernel
theorem dX2_layWays_47 : decode cX2_layWays 47 = .ok (.getfield 44, 3) := by decide +kernel
theorem dX2_layWays_50 : decode cX2_layWays 50 = .ok (.invokestatic 84, 3) := by decide +kernel
theorem dX2_layWays_53 : decode cX2_layWays 53 = .ok (.istore 4, 2) := by decide +kernel
theorem dX2_layWays_55 : decode cX2_layWays 55 = .ok (.aload_n 1, 1) := by decide +kernel
theorem dX2_layWays_56 : decode cX2_layWays 56 = .ok (.getfield 89, 3) := by decide +kernel
theorem dX2_layWays_59 : decode cX2_layWays 59 = .ok (.iload_n 3, 1) := by decide +kernel
theorem dX2_layWays_60 : decode cX2_layWays 60 = .ok (.iaload, 1) := by decide +kernel
theorem dX2_layWays_61 : decode cX2_layWays 61 = .ok (.iload_n 2, 1) := by decide +kernel
theorem dX2_layWays_62 : decode cX2_layWays 62 = .ok (.if_icmp .ne 33, 3) := by decide +kernel
theorem dX2_layWays_65 : decode cX2_layWays 65 = .ok (.aload_n 1, 1) := by decide +kernel
theorem dX2_layWays_66 : decode cX2_layWays 66 = .ok (.getfield 92, 3) := by decide +kernel
theorem dX2_layWays_69 : decode cX2_layWays 69 = .ok (.iload_n 3, 1) := by decide +kernel
theorem dX2_layWays_70 : decode cX2_layWays 70 = .ok (.iaload, 1) := by decide +kernel
theorem dX2_layWays_71 : decode cX2_layWays 71 = .ok (.iload 4, 2) := by decide +kernel
theorem dX2_layWays_73 : decode cX2_layWays 73 = .ok (.aload_n 1, 1) := by decide +kernel
theorem dX2_layWays_74 : decode cX2_layWays 74 = .ok (.getfield 75, 3) := by decide +kernel
theorem dX2_layWays_77 : decode cX2_layWays 77 = .ok (.iload_n 2, 1) := by decide +kernel
theorem dX2_layWays_78 : decode cX2_layWays 78 = .ok (.iaload, 1) := by decide +kernel
theorem dX2_layWays_79 : decode cX2_layWays 79 = .ok (.imul, 1) := by decide +kernel
theorem dX2_layWays_80 : decode cX2_layWays 80 = .ok (.if_icmp .ge 15, 3) := by decide +kernel
theorem dX2_layWays_83 : decode cX2_layWays 83 = .ok (.aload_n 0, 1) := by decide +kernel
theorem dX2_layWays_84 : decode cX2_layWays 84 = .ok (.iload 4, 2) := by decide +kernel
theorem dX2_layWays_86 : decode cX2_layWays 86 = .ok (.aload_n 1, 1) := by decide +kernel
theorem dX2_layWays_87 : decode cX2_layWays 87 = .ok (.getfield 92, 3) := by decide +kernel
theorem dX2_layWays_90 : decode cX2_layWays 90 = .ok (.iload_n 3, 1) := by decide +kernel
theorem dX2_layWays_91 : decode cX2_layWays 91 = .ok (.iaload, 1) := by decide +kernel
theorem dX2_layWays_92 : decode cX2_layWays 92 = .ok (.invokevirtual 72, 3) := by decide +kernel
theorem dX2_layWays_95 : decode cX2_layWays 95 = .ok (.iinc 3 1, 3) := by decide +kernel
theorem dX2_layWays_98 : decode cX2_layWays 98 = .ok (.goto (-66), 3) := by decide +kernel
theorem dX2_layWays_101 : decode cX2_layWays 101 = .ok (.return_, 1) := by decide +kernel
theorem dX2_addWay_0 : decode cX2_addWay 0 = .ok (.aload_n 0, 1) := by decide +kernel
theorem dX2_addWay_1 : decode cX2_addWay 1 = .ok (.getfield 11, 3) := by decide +kernel
theorem dX2_addWay_4 : decode cX2_addWay 4 = .ok (.aload_n 0, 1) := by decide +kernel
theorem dX2_addWay_5 : decode cX2_addWay 5 = .ok (.getfield 69, 3) := by decide +kernel
theorem dX2_addWay_8 : decode cX2_addWay 8 = .ok (.iload_n 1, 1) := by decide +kernel
theorem dX2_addWay_9 : decode cX2_addWay 9 = .ok (.iastore, 1) := by decide +kernel
theorem dX2_addWay_10 : decode cX2_addWay 10 = .ok (.aload_n 0, 1) := by decide +kernel
theorem dX2_addWay_11 : decode cX2_addWay 11 = .ok (.getfield 15, 3) := by decide +kernel
theorem dX2_addWay_14 : decode cX2_addWay 14 = .ok (.aload_n 0, 1) := by decide +kernel
theorem dX2_addWay_15 : decode cX2_addWay 15 = .ok (.getfield 69, 3) := by decide +kernel
theorem dX2_addWay_18 : decode cX2_addWay 18 = .ok (.iload_n 2, 1) := by decide +kernel
theorem dX2_addWay_19 : decode cX2_addWay 19 = .ok (.iastore, 1) := by decide +kernel
theorem dX2_addWay_20 : decode cX2_addWay 20 = .ok (.aload_n 0, 1) := by decide +kernel
theorem dX2_addWay_21 : decode cX2_addWay 21 = .ok (.dup, 1) := by decide +kernel
theorem dX2_addWay_22 : decode cX2_addWay 22 = .ok (.getfield 69, 3) := by decide +kernel
theorem dX2_addWay_25 : decode cX2_addWay 25 = .ok (.iconst 1, 1) := by decide +kernel
theorem dX2_addWay_26 : decode cX2_addWay 26 = .ok (.iadd, 1) := by decide +kernel
theorem dX2_addWay_27 : decode cX2_addWay 27 = .ok (.putfield 69, 3) := by decide +kernel
theorem dX2_addWay_30 : decode cX2_addWay 30 = .ok (.return_, 1) := by decide +kernel
theorem dX2_carry_0 : decode cX2_carry 0 = .ok (.lconst 0, 1) := by decide +kernel
theorem dX2_carry_1 : decode cX2_carry 1 = .ok (.lstore 4, 2) := by decide +kernel
theorem dX2_carry_3 : decode cX2_carry 3 = .ok (.iload_n 3, 1) := by decide +kernel
theorem dX2_carry_4 : decode cX2_carry 4 = .ok (.istore 6, 2) := by decide +kernel
theorem dX2_carry_6 : decode cX2_carry 6 = .ok (.iconst 0, 1) := by decide +kernel
theorem dX2_carry_7 : decode cX2_carry 7 = .ok (.istore 7, 2) := by decide +kernel
theorem dX2_carry_9 : decode cX2_carry 9 = .ok (.iload 7, 2) := by decide +kernel
theorem dX2_carry_11 : decode cX2_carry 11 = .ok (.iload_n 3, 1) := by decide +kernel
theorem dX2_carry_12 : decode cX2_carry 12 = .ok (.if_icmp .ge 68, 3) := by decide +kernel
theorem dX2_carry_15 : decode cX2_carry 15 = .ok (.iload 6, 2) := by decide +kernel
theorem dX2_carry_17 : decode cX2_carry 17 = .ok (.ifCond .le 63, 3) := by decide +kernel
theorem dX2_carry_20 : decode cX2_carry 20 = .ok (.aload_n 0, 1) := by decide +kernel
theorem dX2_carry_21 : decode cX2_carry 21 = .ok (.iload_n 2, 1) := by decide +kernel
theorem dX2_carry_22 : decode cX2_carry 22 = .ok (.iload_n 1, 1) := by decide +kernel
theorem dX2_carry_23 : decode cX2_carry 23 = .ok (.invokevirtual 62, 3) := by decide +kernel
theorem dX2_carry_26 : decode cX2_carry 26 = .ok (.aload_n 0, 1) := by decide +kernel
theorem dX2_carry_27 : decode cX2_carry 27 = .ok (.iload_n 1, 1) := by decide +kernel
theorem dX2_carry_28 : decode cX2_carry 28 = .ok (.iload_n 2, 1) := by decide +kernel
theorem dX2_carry_29 : decode cX2_carry 29 = .ok (.iload 6, 2) := by decide +kernel
theorem dX2_carry_31 : decode cX2_carry 31 = .ok (.invokevirtual 95, 3) := by decide +kernel
theorem dX2_carry_34 : decode cX2_carry 34 = .ok (.istore 8, 2) := by decide +kernel
theorem dX2_carry_36 : decode cX2_carry 36 = .ok (.aload_n 0, 1) := by decide +kernel
theorem dX2_carry_37 : decode cX2_carry 37 = .ok (.iload_n 1, 1) := by decide +kernel
theorem dX2_carry_38 : decode cX2_carry 38 = .ok (.iload_n 2, 1) := by decide +kernel
theorem dX2_carry_39 : decode cX2_carry 39 = .ok (.iload 8, 2) := by decide +kernel
theorem dX2_carry_41 : decode cX2_carry 41 = .ok (.invokevirtual 99, 3) := by decide +kernel
theorem dX2_carry_44 : decode cX2_carry 44 = .ok (.lload 4, 2) := by decide +kernel
theorem dX2_carry_46 : decode cX2_carry 46 = .ok (.iload 8, 2) := by decide +kernel
theorem dX2_carry_48 : decode cX2_carry 48 = .ok (.i2l, 1) := by decide +kernel
theorem dX2_carry_49 : decode cX2_carry 49 = .ok (.aload_n 0, 1) := by decide +kernel
theorem dX2_carry_50 : decode cX2_carry 50 = .ok (.getfield 21, 3) := by decide +kernel
theorem dX2_carry_53 : decode cX2_carry 53 = .ok (.iload_n 1, 1) := by decide +kernel
theorem dX2_carry_54 : decode cX2_carry 54 = .ok (.iaload, 1) := by decide +kernel
theorem dX2_carry_55 : decode cX2_carry 55 = .ok (.aload_n 0, 1) := by decide +kernel
theorem dX2_carry_56 : decode cX2_carry 56 = .ok (.getfield 21, 3) := by decide +kernel
theorem dX2_carry_59 : decode cX2_carry 59 = .ok (.iload_n 2, 1) := by decide +kernel
theorem dX2_carry_60 : decode cX2_carry 60 = .ok (.iaload, 1) := by decide +kernel
theorem dX2_carry_61 : decode cX2_carry 61 = .ok (.isub, 1) := by decide +kernel
theorem dX2_carry_62 : decode cX2_carry 62 = .ok (.i2l, 1) := by decide +kernel
theorem dX2_carry_63 : decode cX2_carry 63 = .ok (.lmul, 1) := by decide +kernel
theorem dX2_carry_64 : decode cX2_carry 64 = .ok (.ladd, 1) := by decide +kernel
theorem dX2_carry_65 : decode cX2_carry 65 = .ok (.lstore 4, 2) := by decide +kernel
theorem dX2_carry_67 : decode cX2_carry 67 = .ok (.iload 6, 2) := by decide +kernel
theorem dX2_carry_69 : decode cX2_carry 69 = .ok (.iload 8, 2) := by decide +kernel
theorem dX2_carry_71 : decode cX2_carry 71 = .ok (.isub, 1) := by decide +kernel
theorem dX2_carry_72 : decode cX2_carry 72 = .ok (.istore 6, 2) := by decide +kernel
theorem dX2_carry_74 : decode cX2_carry 74 = .ok (.iinc 7 1, 3) := by decide +kernel
theorem dX2_carry_77 : decode cX2_carry 77 = .ok (.goto (-68), 3) := by decide +kernel
theorem dX2_carry_80 : decode cX2_carry 80 = .ok (.lload 4, 2) := by decide +kernel
theorem dX2_carry_82 : decode cX2_carry 82 = .ok (.lreturn, 1) := by decide +kernel
theorem dX2_raiseWorth_0 : decode cX2_raiseWorth 0 = .ok (.iconst 0, 1) := by decide +kernel
theorem dX2_raiseWorth_1 : decode cX2_raiseWorth 1 = .ok (.istore_n 3, 1) := by decide +kernel
theorem dX2_raiseWorth_2 : decode cX2_raiseWorth 2 = .ok (.iload_n 3, 1) := by decide +kernel
theorem dX2_raiseWorth_3 : decode cX2_raiseWorth 3 = .ok (.aload_n 0, 1) := by decide +kernel
theorem dX2_raiseWorth_4 : decode cX2_raiseWorth 4 = .ok (.getfield 44, 3) := by decide +kernel
theorem dX2_raiseWorth_7 : decode cX2_raiseWorth 7 = .ok (.if_icmp .gt 24, 3) := by decide +kernel
theorem dX2_raiseWorth_10 : decode cX2_raiseWorth 10 = .ok (.aload_n 0, 1) := by decide +kernel
theorem dX2_raiseWorth_11 : decode cX2_raiseWorth 11 = .ok (.getfield 24, 3) := by decide +kernel
theorem dX2_raiseWorth_14 : decode cX2_raiseWorth 14 = .ok (.iload_n 3, 1) := by decide +kernel
theorem dX2_raiseWorth_15 : decode cX2_raiseWorth 15 = .ok (.ldc 103, 2) := by decide +kernel
theorem dX2_raiseWorth_17 : decode cX2_raiseWorth 17 = .ok (.iastore, 1) := by decide +kernel
theorem dX2_raiseWorth_18 : decode cX2_raiseWorth 18 = .ok (.aload_n 0, 1) := by decide +kernel
theorem dX2_raiseWorth_19 : decode cX2_raiseWorth 19 = .ok (.getfield 30, 3) := by decide +kernel
theorem dX2_raiseWorth_22 : decode cX2_raiseWorth 22 = .ok (.iload_n 3, 1) := by decide +kernel
theorem dX2_raiseWorth_23 : decode cX2_raiseWorth 23 = .ok (.iconst 0, 1) := by decide +kernel
theorem dX2_raiseWorth_24 : decode cX2_raiseWorth 24 = .ok (.bastore, 1) := by decide +kernel
theorem dX2_raiseWorth_25 : decode cX2_raiseWorth 25 = .ok (.iinc 3 1, 3) := by decide +kernel
theorem dX2_raiseWorth_28 : decode cX2_raiseWorth 28 = .ok (.goto (-26), 3) := by decide +kernel
theorem dX2_raiseWorth_31 : decode cX2_raiseWorth 31 = .ok (.aload_n 0, 1) := by decide +kernel
theorem dX2_raiseWorth_32 : decode cX2_raiseWorth 32 = .ok (.getfield 24, 3) := by decide +kernel
theorem dX2_raiseWorth_35 : decode cX2_raiseWorth 35 = .ok (.iload_n 1, 1) := by decide +kernel
theorem dX2_raiseWorth_36 : decode cX2_raiseWorth 36 = .ok (.iconst 0, 1) := by decide +kernel
theorem dX2_raiseWorth_37 : decode cX2_raiseWorth 37 = .ok (.iastore, 1) := by decide +kernel
theorem dX2_raiseWorth_38 : decode cX2_raiseWorth 38 = .ok (.iload_n 1, 1) := by decide +kernel
theorem dX2_raiseWorth_39 : decode cX2_raiseWorth 39 = .ok (.istore_n 3, 1) := by decide +kernel
theorem dX2_raiseWorth_40 : decode cX2_raiseWorth 40 = .ok (.iconst 0, 1) := by decide +kernel
theorem dX2_raiseWorth_41 : decode cX2_raiseWorth 41 = .ok (.istore 4, 2) := by decide +kernel
theorem dX2_raiseWorth_43 : decode cX2_raiseWorth 43 = .ok (.iload 4, 2) := by decide +kernel
theorem dX2_raiseWorth_45 : decode cX2_raiseWorth 45 = .ok (.aload_n 0, 1) := by decide +kernel
theorem dX2_raiseWorth_46 : decode cX2_raiseWorth 46 = .ok (.getfield 44, 3) := by decide +kernel
theorem dX2_raiseWorth_49 : decode cX2_raiseWorth 49 = .ok (.if_icmp .gt 39, 3) := by decide +kernel
theorem dX2_raiseWorth_52 : decode cX2_raiseWorth 52 = .ok (.iload_n 3, 1) := by decide +kernel
theorem dX2_raiseWorth_53 : decode cX2_raiseWorth 53 = .ok (.iconst (-1), 1) := by decide +kernel
theorem dX2_raiseWorth_54 : decode cX2_raiseWorth 54 = .ok (.if_icmp .eq 34, 3) := by decide +kernel
theorem dX2_raiseWorth_57 : decode cX2_raiseWorth 57 = .ok (.aload_n 0, 1) := by decide +kernel
theorem dX2_raiseWorth_58 : decode cX2_raiseWorth 58 = .ok (.getfield 30, 3) := by decide +kernel
theorem dX2_raiseWorth_61 : decode cX2_raiseWorth 61 = .ok (.iload_n 3, 1) := by decide +kernel
theorem dX2_raiseWorth_62 : decode cX2_raiseWorth 62 = .ok (.iconst 1, 1) := by decide +kernel
theorem dX2_raiseWorth_63 : decode cX2_raiseWorth 63 = .ok (.bastore, 1) := by decide +kernel
theorem dX2_raiseWorth_64 : decode cX2_raiseWorth 64 = .ok (.iload_n 3, 1) := by decide +kernel
theorem dX2_raiseWorth_65 : decode cX2_raiseWorth 65 = .ok (.iload_n 2, 1) := by decide +kernel
theorem dX2_raiseWorth_66 : decode cX2_raiseWorth 66 = .ok (.if_icmp .ne 6, 3) := by decide +kernel
theorem dX2_raiseWorth_69 : decode cX2_raiseWorth 69 = .ok (.goto 19, 3) := by decide +kernel
theorem dX2_raiseWorth_72 : decode cX2_raiseWorth 72 = .ok (.aload_n 0, 1) := by decide +kernel
theorem dX2_raiseWorth_73 : decode cX2_raiseWorth 73 = .ok (.iload_n 3, 1) := by decide +kernel
theorem dX2_raiseWorth_74 : decode cX2_raiseWorth 74 = .ok (.invokevirtual 104, 3) := by decide +kernel
theorem dX2_raiseWorth_77 : decode cX2_raiseWorth 77 = .ok (.aload_n 0, 1) := by decide +kernel
theorem dX2_raiseWorth_78 : decode cX2_raiseWorth 78 = .ok (.invokevirtual 108, 3) := by decide +kernel
theorem dX2_raiseWorth_81 : decode cX2_raiseWorth 81 = .ok (.istore_n 3, 1) := by decide +kernel
theorem dX2_raiseWorth_82 : decode cX2_raiseWorth 82 = .ok (.iinc 4 1, 3) := by decide +kernel
theorem dX2_raiseWorth_85 : decode cX2_raiseWorth 85 = .ok (.goto (-42), 3) := by decide +kernel
theorem dX2_raiseWorth_88 : decode cX2_raiseWorth 88 = .ok (.iload_n 2, 1) := by decide +kernel
theorem dX2_raiseWorth_89 : decode cX2_raiseWorth 89 = .ok (.iconst (-1), 1) := by decide +kernel
theorem dX2_raiseWorth_90 : decode cX2_raiseWorth 90 = .ok (.if_icmp .ne 8, 3) := by decide +kernel
theorem dX2_raiseWorth_93 : decode cX2_raiseWorth 93 = .ok (.ldc 103, 2) := by decide +kernel
theorem dX2_raiseWorth_95 : decode cX2_raiseWorth 95 = .ok (.goto 9, 3) := by decide +kernel
theorem dX2_raiseWorth_98 : decode cX2_raiseWorth 98 = .ok (.aload_n 0, 1) := by decide +kernel
theorem dX2_raiseWorth_99 : decode cX2_raiseWorth 99 = .ok (.getfield 24, 3) := by decide +kernel
theorem dX2_raiseWorth_102 : decode cX2_raiseWorth 102 = .ok (.iload_n 2, 1) := by decide +kernel
theorem dX2_raiseWorth_103 : decode cX2_raiseWorth 103 = .ok (.iaload, 1) := by decide +kernel
theorem dX2_raiseWorth_104 : decode cX2_raiseWorth 104 = .ok (.istore 4, 2) := by decide +kernel
theorem dX2_raiseWorth_106 : decode cX2_raiseWorth 106 = .ok (.iconst 0, 1) := by decide +kernel
theorem dX2_raiseWorth_107 : decode cX2_raiseWorth 107 = .ok (.istore 5, 2) := by decide +kernel
theorem dX2_raiseWorth_109 : decode cX2_raiseWorth 109 = .ok (.iload 5, 2) := by decide +kernel
theorem dX2_raiseWorth_111 : decode cX2_raiseWorth 111 = .ok (.aload_n 0, 1) := by decide +kernel
theorem dX2_raiseWorth_112 : decode cX2_raiseWorth 112 = .ok (.getfield 44, 3) := by decide +kernel
theorem dX2_raiseWorth_115 : decode cX2_raiseWorth 115 = .ok (.if_icmp .gt 31, 3) := by decide +kernel
theorem dX2_raiseWorth_118 : decode cX2_raiseWorth 118 = .ok (.aload_n 0, 1) := by decide +kernel
theorem dX2_raiseWorth_119 : decode cX2_raiseWorth 119 = .ok (.getfield 21, 3) := by decide +kernel
theorem dX2_raiseWorth_122 : decode cX2_raiseWorth 122 = .ok (.iload 5, 2) := by decide +kernel
theorem dX2_raiseWorth_124 : decode cX2_raiseWorth 124 = .ok (.dup2, 1) := by decide +kernel
theorem dX2_raiseWorth_125 : decode cX2_raiseWorth 125 = .ok (.iaload, 1) := by decide +kernel
theorem dX2_raiseWorth_126 : decode cX2_raiseWorth 126 = .ok (.aload_n 0, 1) := by decide +kernel
theorem dX2_raiseWorth_127 : decode cX2_raiseWorth 127 = .ok (.getfield 24, 3) := by decide +kernel
theorem dX2_raiseWorth_130 : decode cX2_raiseWorth 130 = .ok (.iload 5, 2) := by decide +kernel
theorem dX2_raiseWorth_132 : decode cX2_raiseWorth 132 = .ok (.iaload, 1) := by decide +kernel
theorem dX2_raiseWorth_133 : decode cX2_raiseWorth 133 = .ok (.iload 4, 2) := by decide +kernel
theorem dX2_raiseWorth_135 : decode cX2_raiseWorth 135 = .ok (.invokestatic 84, 3) := by decide +kernel
theorem dX2_raiseWorth_138 : decode cX2_raiseWorth 138 = .ok (.iadd, 1) := by decide +kernel
theorem dX2_raiseWorth_139 : decode cX2_raiseWorth 139 = .ok (.iastore, 1) := by decide +kernel
theorem dX2_raiseWorth_140 : decode cX2_raiseWorth 140 = .ok (.iinc 5 1, 3) := by decide +kernel
theorem dX2_raiseWorth_143 : decode cX2_raiseWorth 143 = .ok (.goto (-34), 3) := by decide +kernel
theorem dX2_raiseWorth_146 : decode cX2_raiseWorth 146 = .ok (.return_, 1) := by decide +kernel
theorem dX2_nearest_0 : decode cX2_nearest 0 = .ok (.iconst (-1), 1) := by decide +kernel
theorem dX2_nearest_1 : decode cX2_nearest 1 = .ok (.istore_n 1, 1) := by decide +kernel
theorem dX2_nearest_2 : decode cX2_nearest 2 = .ok (.iconst 0, 1) := by decide +kernel
theorem dX2_nearest_3 : decode cX2_nearest 3 = .ok (.istore_n 2, 1) := by decide +kernel
theorem dX2_nearest_4 : decode cX2_nearest 4 = .ok (.iload_n 2, 1) := by decide +kernel
theorem dX2_nearest_5 : decode cX2_nearest 5 = .ok (.aload_n 0, 1) := by decide +kernel
theorem dX2_nearest_6 : decode cX2_nearest 6 = .ok (.getfield 44, 3) := by decide +kernel
theorem dX2_nearest_9 : decode cX2_nearest 9 = .ok (.if_icmp .gt 40, 3) := by decide +kernel
theorem dX2_nearest_12 : decode cX2_nearest 12 = .ok (.aload_n 0, 1) := by decide +kernel
theorem dX2_nearest_13 : decode cX2_nearest 13 = .ok (.getfield 30, 3) := by decide +kernel
theorem dX2_nearest_16 : decode cX2_nearest 16 = .ok (.iload_n 2, 1) := by decide +kernel
theorem dX2_nearest_17 : decode cX2_nearest 17 = .ok (.baload, 1) := by decide +kernel
theorem dX2_nearest_18 : decode cX2_nearest 18 = .ok (.ifCond .ne 25, 3) := by decide +kernel
theorem dX2_nearest_21 : decode cX2_nearest 21 = .ok (.iload_n 1, 1) := by decide +kernel
theorem dX2_nearest_22 : decode cX2_nearest 22 = .ok (.iconst (-1), 1) := by decide +kernel
theorem dX2_nearest_23 : decode cX2_nearest 23 = .ok (.if_icmp .eq 18, 3) := by decide +kernel
theorem dX2_nearest_26 : decode cX2_nearest 26 = .ok (.aload_n 0, 1) := by decide +kernel
theorem dX2_nearest_27 : decode cX2_nearest 27 = .ok (.getfield 24, 3) := by decide +kernel
theorem dX2_nearest_30 : decode cX2_nearest 30 = .ok (.iload_n 2, 1) := by decide +kernel
theorem dX2_nearest_31 : decode cX2_nearest 31 = .ok (.iaload, 1) := by decide +kernel
theorem dX2_nearest_32 : decode cX2_nearest 32 = .ok (.aload_n 0, 1) := by decide +kernel
theorem dX2_nearest_33 : decode cX2_nearest 33 = .ok (.getfield 24, 3) := by decide +kernel
theorem dX2_nearest_36 : decode cX2_nearest 36 = .ok (.iload_n 1, 1) := by decide +kernel
theorem dX2_nearest_37 : decode cX2_nearest 37 = .ok (.iaload, 1) := by decide +kernel
theorem dX2_nearest_38 : decode cX2_nearest 38 = .ok (.if_icmp .ge 5, 3) := by decide +kernel
theorem dX2_nearest_41 : decode cX2_nearest 41 = .ok (.iload_n 2, 1) := by decide +kernel
theorem dX2_nearest_42 : decode cX2_nearest 42 = .ok (.istore_n 1, 1) := by decide +kernel
theorem dX2_nearest_43 : decode cX2_nearest 43 = .ok (.iinc 2 1, 3) := by decide +kernel
theorem dX2_nearest_46 : decode cX2_nearest 46 = .ok (.goto (-42), 3) := by decide +kernel
theorem dX2_nearest_49 : decode cX2_nearest 49 = .ok (.iload_n 1, 1) := by decide +kernel
theorem dX2_nearest_50 : decode cX2_nearest 50 = .ok (.ireturn, 1) := by decide +kernel
theorem dX2_reachThose_0 : decode cX2_reachThose 0 = .ok (.iconst 0, 1) := by decide +kernel
theorem dX2_reachThose_1 : decode cX2_reachThose 1 = .ok (.istore_n 2, 1) := by decide +kernel
theorem dX2_reachThose_2 : decode cX2_reachThose 2 = .ok (.iload_n 2, 1) := by decide +kernel
theorem dX2_reachThose_3 : decode cX2_reachThose 3 = .ok (.aload_n 0, 1) := by decide +kernel
theorem dX2_reachThose_4 : decode cX2_reachThose 4 = .ok (.getfield 69, 3) := by decide +kernel
theorem dX2_reachThose_7 : decode cX2_reachThose 7 = .ok (.if_icmp .ge 67, 3) := by decide +kernel
theorem dX2_reachThose_10 : decode cX2_reachThose 10 = .ok (.aload_n 0, 1) := by decide +kernel
theorem dX2_reachThose_11 : decode cX2_reachThose 11 = .ok (.iload_n 1, 1) := by decide +kernel
theorem dX2_reachThose_12 : decode cX2_reachThose 12 = .ok (.aload_n 0, 1) := by decide +kernel
theorem dX2_reachThose_13 : decode cX2_reachThose 13 = .ok (.getfield 11, 3) := by decide +kernel
theorem dX2_reachThose_16 : decode cX2_reachThose 16 = .ok (.iload_n 2, 1) := by decide +kernel
theorem dX2_reachThose_17 : decode cX2_reachThose 17 = .ok (.iaload, 1) := by decide +kernel
theorem dX2_reachThose_18 : decode cX2_reachThose 18 = .ok (.isub, 1) := by decide +kernel
theorem dX2_reachThose_19 : decode cX2_reachThose 19 = .ok (.iload_n 1, 1) := by decide +kernel
theorem dX2_reachThose_20 : decode cX2_reachThose 20 = .ok (.aload_n 0, 1) := by decide +kernel
theorem dX2_reachThose_21 : decode cX2_reachThose 21 = .ok (.getfield 15, 3) := by decide +kernel
theorem dX2_reachThose_24 : decode cX2_reachThose 24 = .ok (.iload_n 2, 1) := by decide +kernel
theorem dX2_reachThose_25 : decode cX2_reachThose 25 = .ok (.iaload, 1) := by decide +kernel
theorem dX2_reachThose_26 : decode cX2_reachThose 26 = .ok (.iload_n 2, 1) := by decide +kernel
theorem dX2_reachThose_27 : decode cX2_reachThose 27 = .ok (.invokevirtual 112, 3) := by decide +kernel
theorem dX2_reachThose_30 : decode cX2_reachThose 30 = .ok (.aload_n 0, 1) := by decide +kernel
theorem dX2_reachThose_31 : decode cX2_reachThose 31 = .ok (.getfield 18, 3) := by decide +kernel
theorem dX2_reachThose_34 : decode cX2_reachThose 34 = .ok (.iload_n 2, 1) := by decide +kernel
theorem dX2_reachThose_35 : decode cX2_reachThose 35 = .ok (.bipush 41, 2) := by decide +kernel
theorem dX2_reachThose_37 : decode cX2_reachThose 37 = .ok (.imul, 1) := by decide +kernel
theorem dX2_reachThose_38 : decode cX2_reachThose 38 = .ok (.iload_n 1, 1) := by decide +kernel
theorem dX2_reachThose_39 : decode cX2_reachThose 39 = .ok (.iadd, 1) := by decide +kernel
theorem dX2_reachThose_40 : decode cX2_reachThose 40 = .ok (.iaload, 1) := by decide +kernel
theorem dX2_reachThose_41 : decode cX2_reachThose 41 = .ok (.ifCond .le 27, 3) := by decide +kernel
theorem dX2_reachThose_44 : decode cX2_reachThose 44 = .ok (.aload_n 0, 1) := by decide +kernel
theorem dX2_reachThose_45 : decode cX2_reachThose 45 = .ok (.iload_n 1, 1) := by decide +kernel
theorem dX2_reachThose_46 : decode cX2_reachThose 46 = .ok (.aload_n 0, 1) := by decide +kernel
theorem dX2_reachThose_47 : decode cX2_reachThose 47 = .ok (.getfield 11, 3) := by decide +kernel
theorem dX2_reachThose_50 : decode cX2_reachThose 50 = .ok (.iload_n 2, 1) := by decide +kernel
theorem dX2_reachThose_51 : decode cX2_reachThose 51 = .ok (.iaload, 1) := by decide +kernel
theorem dX2_reachThose_52 : decode cX2_reachThose 52 = .ok (.iadd, 1) := by decide +kernel
theorem dX2_reachThose_53 : decode cX2_reachThose 53 = .ok (.iload_n 1, 1) := by decide +kernel
theorem dX2_reachThose_54 : decode cX2_reachThose 54 = .ok (.aload_n 0, 1) := by decide +kernel
theorem dX2_reachThose_55 : decode cX2_reachThose 55 = .ok (.getfield 15, 3) := by decide +kernel
theorem dX2_reachThose_58 : decode cX2_reachThose 58 = .ok (.iload_n 2, 1) := by decide +kernel
theorem dX2_reachThose_59 : decode cX2_reachThose 59 = .ok (.iaload, 1) := by decide +kernel
theorem dX2_reachThose_60 : decode cX2_reachThose 60 = .ok (.ineg, 1) := by decide +kernel
theorem dX2_reachThose_61 : decode cX2_reachThose 61 = .ok (.iload_n 2, 1) := by decide +kernel
theorem dX2_reachThose_62 : decode cX2_reachThose 62 = .ok (.bipush 8, 2) := by decide +kernel
theorem dX2_reachThose_64 : decode cX2_reachThose 64 = .ok (.iadd, 1) := by decide +kernel
theorem dX2_reachThose_65 : decode cX2_reachThose 65 = .ok (.invokevirtual 112, 3) := by decide +kernel
theorem dX2_reachThose_68 : decode cX2_reachThose 68 = .ok (.iinc 2 1, 3) := by decide +kernel
theorem dX2_reachThose_71 : decode cX2_reachThose 71 = .ok (.goto (-69), 3) := by decide +kernel
theorem dX2_reachThose_74 : decode cX2_reachThose 74 = .ok (.return_, 1) := by decide +kernel
theorem dX2_reach_0 : decode cX2_reach 0 = .ok (.iload_n 1, 1) := by decide +kernel
theorem dX2_reach_1 : decode cX2_reach 1 = .ok (.ifCond .lt 20, 3) := by decide +kernel
theorem dX2_reach_4 : decode cX2_reach 4 = .ok (.iload_n 1, 1) := by decide +kernel
theorem dX2_reach_5 : decode cX2_reach 5 = .ok (.aload_n 0, 1) := by decide +kernel
theorem dX2_reach_6 : decode cX2_reach 6 = .ok (.getfield 44, 3) := by decide +kernel
theorem dX2_reach_9 : decode cX2_reach 9 = .ok (.if_icmp .gt 12, 3) := by decide +kernel
theorem dX2_reach_12 : decode cX2_reach 12 = .ok (.aload_n 0, 1) := by decide +kernel
theorem dX2_reach_13 : decode cX2_reach 13 = .ok (.getfield 30, 3) := by decide +kernel
theorem dX2_reach_16 : decode cX2_reach 16 = .ok (.iload_n 1, 1) := by decide +kernel
theorem dX2_reach_17 : decode cX2_reach 17 = .ok (.baload, 1) := by decide +kernel
theorem dX2_reach_18 : decode cX2_reach 18 = .ok (.ifCond .eq 4, 3) := by decide +kernel
theorem dX2_reach_21 : decode cX2_reach 21 = .ok (.return_, 1) := by decide +kernel
theorem dX2_reach_22 : decode cX2_reach 22 = .ok (.aload_n 0, 1) := by decide +kernel
theorem dX2_reach_23 : decode cX2_reach 23 = .ok (.getfield 24, 3) := by decide +kernel
theorem dX2_reach_26 : decode cX2_reach 26 = .ok (.iload_n 2, 1) := by decide +kernel
theorem dX2_reach_27 : decode cX2_reach 27 = .ok (.iaload, 1) := by decide +kernel
theorem dX2_reach_28 : decode cX2_reach 28 = .ok (.iload_n 3, 1) := by decide +kernel
theorem dX2_reach_29 : decode cX2_reach 29 = .ok (.iadd, 1) := by decide +kernel
theorem dX2_reach_30 : decode cX2_reach 30 = .ok (.aload_n 0, 1) := by decide +kernel
theorem dX2_reach_31 : decode cX2_reach 31 = .ok (.getfield 21, 3) := by decide +kernel
theorem dX2_reach_34 : decode cX2_reach 34 = .ok (.iload_n 1, 1) := by decide +kernel
theorem dX2_reach_35 : decode cX2_reach 35 = .ok (.iaload, 1) := by decide +kernel
theorem dX2_reach_36 : decode cX2_reach 36 = .ok (.isub, 1) := by decide +kernel
theorem dX2_reach_37 : decode cX2_reach 37 = .ok (.aload_n 0, 1) := by decide +kernel
theorem dX2_reach_38 : decode cX2_reach 38 = .ok (.getfield 21, 3) := by decide +kernel
theorem dX2_reach_41 : decode cX2_reach 41 = .ok (.iload_n 2, 1) := by decide +kernel
theorem dX2_reach_42 : decode cX2_reach 42 = .ok (.iaload, 1) := by decide +kernel
theorem dX2_reach_43 : decode cX2_reach 43 = .ok (.iadd, 1) := by decide +kernel
theorem dX2_reach_44 : decode cX2_reach 44 = .ok (.istore 5, 2) := by decide +kernel
theorem dX2_reach_46 : decode cX2_reach 46 = .ok (.iload 5, 2) := by decide +kernel
theorem dX2_reach_48 : decode cX2_reach 48 = .ok (.aload_n 0, 1) := by decide +kernel
theorem dX2_reach_49 : decode cX2_reach 49 = .ok (.getfield 24, 3) := by decide +kernel
theorem dX2_reach_52 : decode cX2_reach 52 = .ok (.iload_n 1, 1) := by decide +kernel
theorem dX2_reach_53 : decode cX2_reach 53 = .ok (.iaload, 1) := by decide +kernel
theorem dX2_reach_54 : decode cX2_reach 54 = .ok (.if_icmp .ge 19, 3) := by decide +kernel
theorem dX2_reach_57 : decode cX2_reach 57 = .ok (.aload_n 0, 1) := by decide +kernel
theorem dX2_reach_58 : decode cX2_reach 58 = .ok (.getfield 24, 3) := by decide +kernel
theorem dX2_reach_61 : decode cX2_reach 61 = .ok (.iload_n 1, 1) := by decide +kernel
theorem dX2_reach_62 : decode cX2_reach 62 = .ok (.iload 5, 2) := by decide +kernel
theorem dX2_reach_64 : decode cX2_reach 64 = .ok (.iastore, 1) := by decide +kernel
theorem dX2_reach_65 : decode cX2_reach 65 = .ok (.aload_n 0, 1) := by decide +kernel
theorem dX2_reach_66 : decode cX2_reach 66 = .ok (.getfield 27, 3) := by decide +kernel
theorem dX2_reach_69 : decode cX2_reach 69 = .ok (.iload_n 1, 1) := by decide +kernel
theorem dX2_reach_70 : decode cX2_reach 70 = .ok (.iload 4, 2) := by decide +kernel
theorem dX2_reach_72 : decode cX2_reach 72 = .ok (.iastore, 1) := by decide +kernel
theorem dX2_reach_73 : decode cX2_reach 73 = .ok (.return_, 1) := by decide +kernel
theorem dX2_takesBack_0 : decode cX2_takesBack 0 = .ok (.aload_n 0, 1) := by decide +kernel
theorem dX2_takesBack_1 : decode cX2_takesBack 1 = .ok (.getfield 27, 3) := by decide +kernel
theorem dX2_takesBack_4 : decode cX2_takesBack 4 = .ok (.iload_n 1, 1) := by decide +kernel
theorem dX2_takesBack_5 : decode cX2_takesBack 5 = .ok (.iaload, 1) := by decide +kernel
theorem dX2_takesBack_6 : decode cX2_takesBack 6 = .ok (.bipush 8, 2) := by decide +kernel
theorem dX2_takesBack_8 : decode cX2_takesBack 8 = .ok (.if_icmp .lt 7, 3) := by decide +kernel
theorem dX2_takesBack_11 : decode cX2_takesBack 11 = .ok (.iconst 1, 1) := by decide +kernel
theorem dX2_takesBack_12 : decode cX2_takesBack 12 = .ok (.goto 4, 3) := by decide +kernel
theorem dX2_takesBack_15 : decode cX2_takesBack 15 = .ok (.iconst 0, 1) := by decide +kernel
theorem dX2_takesBack_16 : decode cX2_takesBack 16 = .ok (.ireturn, 1) := by decide +kernel
theorem dX2_after_0 : decode cX2_after 0 = .ok (.aload_n 0, 1) := by decide +kernel
theorem dX2_after_1 : decode cX2_after 1 = .ok (.getfield 27, 3) := by decide +kernel
theorem dX2_after_4 : decode cX2_after 4 = .ok (.iload_n 1, 1) := by decide +kernel
theorem dX2_after_5 : decode cX2_after 5 = .ok (.iaload, 1) := by decide +kernel
theorem dX2_after_6 : decode cX2_after 6 = .ok (.istore_n 2, 1) := by decide +kernel
theorem dX2_after_7 : decode cX2_after 7 = .ok (.iload_n 2, 1) := by decide +kernel
theorem dX2_after_8 : decode cX2_after 8 = .ok (.bipush 8, 2) := by decide +kernel
theorem dX2_after_10 : decode cX2_after 10 = .ok (.if_icmp .lt 17, 3) := by decide +kernel
theorem dX2_after_13 : decode cX2_after 13 = .ok (.iload_n 1, 1) := by decide +kernel
theorem dX2_after_14 : decode cX2_after 14 = .ok (.aload_n 0, 1) := by decide +kernel
theorem dX2_after_15 : decode cX2_after 15 = .ok (.getfield 11, 3) := by decide +kernel
theorem dX2_after_18 : decode cX2_after 18 = .ok (.iload_n 2, 1) := by decide +kernel
theorem dX2_after_19 : decode cX2_after 19 = .ok (.bipush 8, 2) := by decide +kernel
theorem dX2_after_21 : decode cX2_after 21 = .ok (.isub, 1) := by decide +kernel
theorem dX2_after_22 : decode cX2_after 22 = .ok (.iaload, 1) := by decide +kernel
theorem dX2_after_23 : decode cX2_after 23 = .ok (.isub, 1) := by decide +kernel
theorem dX2_after_24 : decode cX2_after 24 = .ok (.goto 11, 3) := by decide +kernel
theorem dX2_after_27 : decode cX2_after 27 = .ok (.iload_n 1, 1) := by decide +kernel
theorem dX2_after_28 : decode cX2_after 28 = .ok (.aload_n 0, 1) := by decide +kernel
theorem dX2_after_29 : decode cX2_after 29 = .ok (.getfield 11, 3) := by decide +kernel
theorem dX2_after_32 : decode cX2_after 32 = .ok (.iload_n 2, 1) := by decide +kernel
theorem dX2_after_33 : decode cX2_after 33 = .ok (.iaload, 1) := by decide +kernel
theorem dX2_after_34 : decode cX2_after 34 = .ok (.iadd, 1) := by decide +kernel
theorem dX2_after_35 : decode cX2_after 35 = .ok (.ireturn, 1) := by decide +kernel
theorem dX2_roomOnPath_0 : decode cX2_roomOnPath 0 = .ok (.iload_n 3, 1) := by decide +kernel
theorem dX2_roomOnPath_1 : decode cX2_roomOnPath 1 = .ok (.istore 4, 2) := by decide +kernel
theorem dX2_roomOnPath_3 : decode cX2_roomOnPath 3 = .ok (.iload_n 1, 1) := by decide +kernel
theorem dX2_roomOnPath_4 : decode cX2_roomOnPath 4 = .ok (.istore 5, 2) := by decide +kernel
theorem dX2_roomOnPath_6 : decode cX2_roomOnPath 6 = .ok (.iconst 0, 1) := by decide +kernel
theorem dX2_roomOnPath_7 : decode cX2_roomOnPath 7 = .ok (.istore 6, 2) := by decide +kernel
theorem dX2_roomOnPath_9 : decode cX2_roomOnPath 9 = .ok (.iload 6, 2) := by decide +kernel
theorem dX2_roomOnPath_11 : decode cX2_roomOnPath 11 = .ok (.aload_n 0, 1) := by decide +kernel
theorem dX2_roomOnPath_12 : decode cX2_roomOnPath 12 = .ok (.getfield 44, 3) := by decide +kernel
theorem dX2_roomOnPath_15 : decode cX2_roomOnPath 15 = .ok (.if_icmp .ge 64, 3) := by decide +kernel
theorem dX2_roomOnPath_18 : decode cX2_roomOnPath 18 = .ok (.iload 5, 2) := by decide +kernel
theorem dX2_roomOnPath_20 : decode cX2_roomOnPath 20 = .ok (.iload_n 2, 1) := by decide +kernel
theorem dX2_roomOnPath_21 : decode cX2_roomOnPath 21 = .ok (.if_icmp .eq 58, 3) := by decide +kernel
theorem dX2_roomOnPath_24 : decode cX2_roomOnPath 24 = .ok (.aload_n 0, 1) := by decide +kernel
theorem dX2_roomOnPath_25 : decode cX2_roomOnPath 25 = .ok (.iload 5, 2) := by decide +kernel
theorem dX2_roomOnPath_27 : decode cX2_roomOnPath 27 = .ok (.invokevirtual 116, 3) := by decide +kernel
theorem dX2_roomOnPath_30 : decode cX2_roomOnPath 30 = .ok (.istore 7, 2) := by decide +kernel
theorem dX2_roomOnPath_32 : decode cX2_roomOnPath 32 = .ok (.aload_n 0, 1) := by decide +kernel
theorem dX2_roomOnPath_33 : decode cX2_roomOnPath 33 = .ok (.iload 5, 2) := by decide +kernel
theorem dX2_roomOnPath_35 : decode cX2_roomOnPath 35 = .ok (.invokevirtual 120, 3) := by decide +kernel
theorem dX2_roomOnPath_38 : decode cX2_roomOnPath 38 = .ok (.ifCond .eq 31, 3) := by decide +kernel
theorem dX2_roomOnPath_41 : decode cX2_roomOnPath 41 = .ok (.iload 4, 2) := by decide +kernel
theorem dX2_roomOnPath_43 : decode cX2_roomOnPath 43 = .ok (.aload_n 0, 1) := by decide +kernel
theorem dX2_roomOnPath_44 : decode cX2_roomOnPath 44 = .ok (.getfield 18, 3) := by decide +kernel
theorem dX2_roomOnPath_47 : decode cX2_roomOnPath 47 = .ok (.aload_n 0, 1) := by decide +kernel
theorem dX2_roomOnPath_48 : decode cX2_roomOnPath 48 = .ok (.getfield 27, 3) := by decide +kernel
theorem dX2_roomOnPath_51 : decode cX2_roomOnPath 51 = .ok (.iload 5, 2) := by decide +kernel
theorem dX2_roomOnPath_53 : decode cX2_roomOnPath 53 = .ok (.iaload, 1) := by decide +kernel
theorem dX2_roomOnPath_54 : decode cX2_roomOnPath 54 = .ok (.bipush 8, 2) := by decide +kernel
theorem dX2_roomOnPath_56 : decode cX2_roomOnPath 56 = .ok (.isub, 1) := by decide +kernel
theorem dX2_roomOnPath_57 : decode cX2_roomOnPath 57 = .ok (.bipush 41, 2) := by decide +kernel
theorem dX2_roomOnPath_59 : decode cX2_roomOnPath 59 = .ok (.imul, 1) := by decide +kernel
theorem dX2_roomOnPath_60 : decode cX2_roomOnPath 60 = .ok (.iload 7, 2) := by decide +kernel
theorem dX2_roomOnPath_62 : decode cX2_roomOnPath 62 = .ok (.iadd, 1) := by decide +kernel
theorem dX2_roomOnPath_63 : decode cX2_roomOnPath 63 = .ok (.iaload, 1) := by decide +kernel
theorem dX2_roomOnPath_64 : decode cX2_roomOnPath 64 = .ok (.invokestatic 84, 3) := by decide +kernel
theorem dX2_roomOnPath_67 : decode cX2_roomOnPath 67 = .ok (.istore 4, 2) := by decide +kernel
theorem dX2_roomOnPath_69 : decode cX2_roomOnPath 69 = .ok (.iload 7, 2) := by decide +kernel
theorem dX2_roomOnPath_71 : decode cX2_roomOnPath 71 = .ok (.istore 5, 2) := by decide +kernel
theorem dX2_roomOnPath_73 : decode cX2_roomOnPath 73 = .ok (.iinc 6 1, 3) := by decide +kernel
theorem dX2_roomOnPath_76 : decode cX2_roomOnPath 76 = .ok (.goto (-67), 3) := by decide +kernel
theorem dX2_roomOnPath_79 : decode cX2_roomOnPath 79 = .ok (.iload 4, 2) := by decide +kernel
theorem dX2_roomOnPath_81 : decode cX2_roomOnPath 81 = .ok (.ireturn, 1) := by decide +kernel
theorem dX2_sendOnPath_0 : decode cX2_sendOnPath 0 = .ok (.iload_n 1, 1) := by decide +kernel
theorem dX2_sendOnPath_1 : decode cX2_sendOnPath 1 = .ok (.istore 4, 2) := by decide +kernel
theorem dX2_sendOnPath_3 : decode cX2_sendOnPath 3 = .ok (.iconst 0, 1) := by decide +kernel
theorem dX2_sendOnPath_4 : decode cX2_sendOnPath 4 = .ok (.istore 5, 2) := by decide +kernel
theorem dX2_sendOnPath_6 : decode cX2_sendOnPath 6 = .ok (.iload 5, 2) := by decide +kernel
theorem dX2_sendOnPath_8 : decode cX2_sendOnPath 8 = .ok (.aload_n 0, 1) := by decide +kernel
theorem dX2_sendOnPath_9 : decode cX2_sendOnPath 9 = .ok (.getfield 44, 3) := by decide +kernel
theorem dX2_sendOnPath_12 : decode cX2_sendOnPath 12 = .ok (.if_icmp .ge 86, 3) := by decide +kernel
theorem dX2_sendOnPath_15 : decode cX2_sendOnPath 15 = .ok (.iload 4, 2) := by decide +kernel
theorem dX2_sendOnPath_17 : decode cX2_sendOnPath 17 = .ok (.iload_n 2, 1) := by decide +kernel
theorem dX2_sendOnPath_18 : decode cX2_sendOnPath 18 = .ok (.if_icmp .eq 80, 3) := by decide +kernel
theorem dX2_sendOnPath_21 : decode cX2_sendOnPath 21 = .ok (.aload_n 0, 1) := by decide +kernel
theorem dX2_sendOnPath_22 : decode cX2_sendOnPath 22 = .ok (.iload 4, 2) := by decide +kernel
theorem dX2_sendOnPath_24 : decode cX2_sendOnPath 24 = .ok (.invokevirtual 116, 3) := by decide +kernel
theorem dX2_sendOnPath_27 : decode cX2_sendOnPath 27 = .ok (.istore 6, 2) := by decide +kernel
theorem dX2_sendOnPath_29 : decode cX2_sendOnPath 29 = .ok (.aload_n 0, 1) := by decide +kernel
theorem dX2_sendOnPath_30 : decode cX2_sendOnPath 30 = .ok (.iload 4, 2) := by decide +kernel
theorem dX2_sendOnPath_32 : decode cX2_sendOnPath 32 = .ok (.invokevirtual 120, 3) := by decide +kernel
theorem dX2_sendOnPath_35 : decode cX2_sendOnPath 35 = .ok (.ifCond .eq 31, 3) := by decide +kernel
theorem dX2_sendOnPath_38 : decode cX2_sendOnPath 38 = .ok (.aload_n 0, 1) := by decide +kernel
theorem dX2_sendOnPath_39 : decode cX2_sendOnPath 39 = .ok (.getfield 18, 3) := by decide +kernel
theorem dX2_sendOnPath_42 : decode cX2_sendOnPath 42 = .ok (.aload_n 0, 1) := by decide +kernel
theorem dX2_sendOnPath_43 : decode cX2_sendOnPath 43 = .ok (.getfield 27, 3) := by decide +kernel
theorem dX2_sendOnPath_46 : decode cX2_sendOnPath 46 = .ok (.iload 4, 2) := by decide +kernel
theorem dX2_sendOnPath_48 : decode cX2_sendOnPath 48 = .ok (.iaload, 1) := by decide +kernel
theorem dX2_sendOnPath_49 : decode cX2_sendOnPath 49 = .ok (.bipush 8, 2) := by decide +kernel
theorem dX2_sendOnPath_51 : decode cX2_sendOnPath 51 = .ok (.isub, 1) := by decide +kernel
theorem dX2_sendOnPath_52 : decode cX2_sendOnPath 52 = .ok (.bipush 41, 2) := by decide +kernel
theorem dX2_sendOnPath_54 : decode cX2_sendOnPath 54 = .ok (.imul, 1) := by decide +kernel
theorem dX2_sendOnPath_55 : decode cX2_sendOnPath 55 = .ok (.iload 6, 2) := by decide +kernel
theorem dX2_sendOnPath_57 : decode cX2_sendOnPath 57 = .ok (.iadd, 1) := by decide +kernel
theorem dX2_sendOnPath_58 : decode cX2_sendOnPath 58 = .ok (.dup2, 1) := by decide +kernel
theorem dX2_sendOnPath_59 : decode cX2_sendOnPath 59 = .ok (.iaload, 1) := by decide +kernel
theorem dX2_sendOnPath_60 : decode cX2_sendOnPath 60 = .ok (.iload_n 3, 1) := by decide +kernel
theorem dX2_sendOnPath_61 : decode cX2_sendOnPath 61 = .ok (.isub, 1) := by decide +kernel
theorem dX2_sendOnPath_62 : decode cX2_sendOnPath 62 = .ok (.iastore, 1) := by decide +kernel
theorem dX2_sendOnPath_63 : decode cX2_sendOnPath 63 = .ok (.goto 25, 3) := by decide +kernel
theorem dX2_sendOnPath_66 : decode cX2_sendOnPath 66 = .ok (.aload_n 0, 1) := by decide +kernel
theorem dX2_sendOnPath_67 : decode cX2_sendOnPath 67 = .ok (.getfield 18, 3) := by decide +kernel
theorem dX2_sendOnPath_70 : decode cX2_sendOnPath 70 = .ok (.aload_n 0, 1) := by decide +kernel
theorem dX2_sendOnPath_71 : decode cX2_sendOnPath 71 = .ok (.getfield 27, 3) := by decide +kernel
theorem dX2_sendOnPath_74 : decode cX2_sendOnPath 74 = .ok (.iload 4, 2) := by decide +kernel
theorem dX2_sendOnPath_76 : decode cX2_sendOnPath 76 = .ok (.iaload, 1) := by decide +kernel
theorem dX2_sendOnPath_77 : decode cX2_sendOnPath 77 = .ok (.bipush 41, 2) := by decide +kernel
theorem dX2_sendOnPath_79 : decode cX2_sendOnPath 79 = .ok (.imul, 1) := by decide +kernel
theorem dX2_sendOnPath_80 : decode cX2_sendOnPath 80 = .ok (.iload 4, 2) := by decide +kernel
theorem dX2_sendOnPath_82 : decode cX2_sendOnPath 82 = .ok (.iadd, 1) := by decide +kernel
theorem dX2_sendOnPath_83 : decode cX2_sendOnPath 83 = .ok (.dup2, 1) := by decide +kernel
theorem dX2_sendOnPath_84 : decode cX2_sendOnPath 84 = .ok (.iaload, 1) := by decide +kernel
theorem dX2_sendOnPath_85 : decode cX2_sendOnPath 85 = .ok (.iload_n 3, 1) := by decide +kernel
theorem dX2_sendOnPath_86 : decode cX2_sendOnPath 86 = .ok (.iadd, 1) := by decide +kernel
theorem dX2_sendOnPath_87 : decode cX2_sendOnPath 87 = .ok (.iastore, 1) := by decide +kernel
theorem dX2_sendOnPath_88 : decode cX2_sendOnPath 88 = .ok (.iload 6, 2) := by decide +kernel
theorem dX2_sendOnPath_90 : decode cX2_sendOnPath 90 = .ok (.istore 4, 2) := by decide +kernel
theorem dX2_sendOnPath_92 : decode cX2_sendOnPath 92 = .ok (.iinc 5 1, 3) := by decide +kernel
theorem dX2_sendOnPath_95 : decode cX2_sendOnPath 95 = .ok (.goto (-89), 3) := by decide +kernel
theorem dX2_sendOnPath_98 : decode cX2_sendOnPath 98 = .ok (.return_, 1) := by decide +kernel
theorem dX3_init_0 : decode cX3_init 0 = .ok (.aload_n 0, 1) := by decide +kernel
theorem dX3_init_1 : decode cX3_init 1 = .ok (.invokespecial 3, 3) := by decide +kernel
theorem dX3_init_4 : decode cX3_init 4 = .ok (.aload_n 0, 1) := by decide +kernel
theorem dX3_init_5 : decode cX3_init 5 = .ok (.iconst 4, 1) := by decide +kernel
theorem dX3_init_6 : decode cX3_init 6 = .ok (.newarray .int, 2) := by decide +kernel
theorem dX3_init_8 : decode cX3_init 8 = .ok (.putfield 9, 3) := by decide +kernel
theorem dX3_init_11 : decode cX3_init 11 = .ok (.aload_n 0, 1) := by decide +kernel
theorem dX3_init_12 : decode cX3_init 12 = .ok (.iconst 4, 1) := by decide +kernel
theorem dX3_init_13 : decode cX3_init 13 = .ok (.newarray .int, 2) := by decide +kernel
theorem dX3_init_15 : decode cX3_init 15 = .ok (.putfield 15, 3) := by decide +kernel
theorem dX3_init_18 : decode cX3_init 18 = .ok (.aload_n 0, 1) := by decide +kernel
theorem dX3_init_19 : decode cX3_init 19 = .ok (.iconst 4, 1) := by decide +kernel
theorem dX3_init_20 : decode cX3_init 20 = .ok (.newarray .int, 2) := by decide +kernel
theorem dX3_init_22 : decode cX3_init 22 = .ok (.putfield 18, 3) := by decide +kernel
theorem dX3_init_25 : decode cX3_init 25 = .ok (.return_, 1) := by decide +kernel
theorem dX3_shareOf_0 : decode cX3_shareOf 0 = .ok (.aload_n 0, 1) := by decide +kernel
theorem dX3_shareOf_1 : decode cX3_shareOf 1 = .ok (.getfield 15, 3) := by decide +kernel
theorem dX3_shareOf_4 : decode cX3_shareOf 4 = .ok (.iconst 0, 1) := by decide +kernel
theorem dX3_shareOf_5 : decode cX3_shareOf 5 = .ok (.invokestatic 21, 3) := by decide +kernel
theorem dX3_shareOf_8 : decode cX3_shareOf 8 = .ok (.aload_n 0, 1) := by decide +kernel
theorem dX3_shareOf_9 : decode cX3_shareOf 9 = .ok (.getfield 18, 3) := by decide +kernel
theorem dX3_shareOf_12 : decode cX3_shareOf 12 = .ok (.iconst 0, 1) := by decide +kernel
theorem dX3_shareOf_13 : decode cX3_shareOf 13 = .ok (.invokestatic 21, 3) := by decide +kernel
theorem dX3_shareOf_16 : decode cX3_shareOf 16 = .ok (.iconst 0, 1) := by decide +kernel
theorem dX3_shareOf_17 : decode cX3_shareOf 17 = .ok (.istore 4, 2) := by decide +kernel
theorem dX3_shareOf_19 : decode cX3_shareOf 19 = .ok (.iload 4, 2) := by decide +kernel
theorem dX3_shareOf_21 : decode cX3_shareOf 21 = .ok (.aload_n 1, 1) := by decide +kernel
theorem dX3_shareOf_22 : decode cX3_shareOf 22 = .ok (.getfield 27, 3) := by decide +kernel
theorem dX3_shareOf_25 : decode cX3_shareOf 25 = .ok (.if_icmp .ge 17, 3) := by decide +kernel
theorem dX3_shareOf_28 : decode cX3_shareOf 28 = .ok (.aload_n 0, 1) := by decide +kernel
theorem dX3_shareOf_29 : decode cX3_shareOf 29 = .ok (.aload_n 1, 1) := by decide +kernel
theorem dX3_shareOf_30 : decode cX3_shareOf 30 = .ok (.iload_n 2, 1) := by decide +kernel
theorem dX3_shareOf_31 : decode cX3_shareOf 31 = .ok (.iload 4, 2) := by decide +kernel
theorem dX3_shareOf_33 : decode cX3_shareOf 33 = .ok (.invokevirtual 33, 3) := by decide +kernel
theorem dX3_shareOf_36 : decode cX3_shareOf 36 = .ok (.iinc 4 1, 3) := by decide +kernel
theorem dX3_shareOf_39 : decode cX3_shareOf 39 = .ok (.goto (-20), 3) := by decide +kernel
theorem dX3_shareOf_42 : decode cX3_shareOf 42 = .ok (.aload_n 0, 1) := by decide +kernel
theorem dX3_shareOf_43 : decode cX3_shareOf 43 = .ok (.getfield 18, 3) := by decide +kernel
theorem dX3_shareOf_46 : decode cX3_shareOf 46 = .ok (.iload_n 3, 1) := by decide +kernel
theorem dX3_shareOf_47 : decode cX3_shareOf 47 = .ok (.iaload, 1) := by decide +kernel
theorem dX3_shareOf_48 : decode cX3_shareOf 48 = .ok (.i2l, 1) := by decide +kernel
theorem dX3_shareOf_49 : decode cX3_shareOf 49 = .ok (.aload_n 1, 1) := by decide +kernel
theorem dX3_shareOf_50 : decode cX3_shareOf 50 = .ok (.getfield 37, 3) := by decide +kernel
theorem dX3_shareOf_53 : decode cX3_shareOf 53 = .ok (.iload_n 2, 1) := by decide +kernel
theorem dX3_shareOf_54 : decode cX3_shareOf 54 = .ok (.iaload, 1) := by decide +kernel
theorem dX3_shareOf_55 : decode cX3_shareOf 55 = .ok (.i2l, 1) := by decide +kernel
theorem dX3_shareOf_56 : decode cX3_shareOf 56 = .ok (.lmul, 1) := by decide +kernel
theorem dX3_shareOf_57 : decode cX3_shareOf 57 = .ok (.aload_n 0, 1) := by decide +kernel
theorem dX3_shareOf_58 : decode cX3_shareOf 58 = .ok (.aload_n 1, 1) := by decide +kernel
theorem dX3_shareOf_59 : decode cX3_shareOf 59 = .ok (.iload_n 2, 1) := by decide +kernel
theorem dX3_shareOf_60 : decode cX3_shareOf 60 = .ok (.invokevirtual 40, 3) := by decide +kernel
theorem dX3_shareOf_63 : decode cX3_shareOf 63 = .ok (.iload_n 3, 1) := by decide +kernel
theorem dX3_shareOf_64 : decode cX3_shareOf 64 = .ok (.invokevirtual 44, 3) := by decide +kernel
theorem dX3_shareOf_67 : decode cX3_shareOf 67 = .ok (.ladd, 1) := by decide +kernel
theorem dX3_shareOf_68 : decode cX3_shareOf 68 = .ok (.lreturn, 1) := by decide +kernel
theorem dX3_handOut_0 : decode cX3_handOut 0 = .ok (.iconst 0, 1) := by decide +kernel
theorem dX3_handOut_1 : decode cX3_handOut 1 = .ok (.istore 4, 2) := by decide +kernel
theorem dX3_handOut_3 : decode cX3_handOut 3 = .ok (.iload 4, 2) := by decide +kernel
theorem dX3_handOut_5 : decode cX3_handOut 5 = .ok (.iconst 4, 1) := by decide +kernel
theorem dX3_handOut_6 : decode cX3_handOut 6 = .ok (.if_icmp .ge 24, 3) := by decide +kernel
theorem dX3_handOut_9 : decode cX3_handOut 9 = .ok (.aload_n 0, 1) := by decide +kernel
theorem dX3_handOut_10 : decode cX3_handOut 10 = .ok (.getfield 9, 3) := by decide +kernel
theorem dX3_handOut_13 : decode cX3_handOut 13 = .ok (.iload 4, 2) := by decide +kernel
theorem dX3_handOut_15 : decode cX3_handOut 15 = .ok (.aload_n 1, 1) := by decide +kernel
theorem dX3_handOut_16 : decode cX3_handOut 16 = .ok (.iload 4, 2) := by decide +kernel
theorem dX3_handOut_18 : decode cX3_handOut 18 = .ok (.iload_n 2, 1) := by decide +kernel
theorem dX3_handOut_19 : decode cX3_handOut 19 = .ok (.iload_n 3, 1) := by decide +kernel
theorem dX3_handOut_20 : decode cX3_handOut 20 = .ok (.invokevirtual 48, 3) := by decide +kernel
theorem dX3_handOut_23 : decode cX3_handOut 23 = .ok (.iastore, 1) := by decide +kernel
theorem dX3_handOut_24 : decode cX3_handOut 24 = .ok (.iinc 4 1, 3) := by decide +kernel
theorem dX3_handOut_27 : decode cX3_handOut 27 = .ok (.goto (-24), 3) := by decide +kernel
theorem dX3_handOut_30 : decode cX3_handOut 30 = .ok (.aload_n 1, 1) := by decide +kernel
theorem dX3_handOut_31 : decode cX3_handOut 31 = .ok (.iload_n 2, 1) := by decide +kernel
theorem dX3_handOut_32 : decode cX3_handOut 32 = .ok (.iload_n 3, 1) := by decide +kernel
theorem dX3_handOut_33 : decode cX3_handOut 33 = .ok (.invokevirtual 52, 3) := by decide +kernel
theorem dX3_handOut_36 : decode cX3_handOut 36 = .ok (.aload_n 1, 1) := by decide +kernel
theorem dX3_handOut_37 : decode cX3_handOut 37 = .ok (.iload_n 2, 1) := by decide +kernel
theorem dX3_handOut_38 : decode cX3_handOut 38 = .ok (.iload_n 3, 1) := by decide +kernel
theorem dX3_handOut_39 : decode cX3_handOut 39 = .ok (.invokevirtual 56, 3) := by decide +kernel
theorem dX3_handOut_42 : decode cX3_handOut 42 = .ok (.invokestatic 59, 3) := by decide +kernel
theorem dX3_handOut_45 : decode cX3_handOut 45 = .ok (.istore 4, 2) := by decide +kernel
theorem dX3_handOut_47 : decode cX3_handOut 47 = .ok (.iconst 0, 1) := by decide +kernel
theorem dX3_handOut_48 : decode cX3_handOut 48 = .ok (.istore 5, 2) := by decide +kernel
theorem dX3_handOut_50 : decode cX3_handOut 50 = .ok (.iload 5, 2) := by decide +kernel
theorem dX3_handOut_52 : decode cX3_handOut 52 = .ok (.iload 4, 2) := by decide +kernel
theorem dX3_handOut_54 : decode cX3_handOut 54 = .ok (.if_icmp .ge 40, 3) := by decide +kernel
theorem dX3_handOut_57 : decode cX3_handOut 57 = .ok (.aload_n 0, 1) := by decide +kernel
theorem dX3_handOut_58 : decode cX3_handOut 58 = .ok (.getfield 9, 3) := by decide +kernel
theorem dX3_handOut_61 : decode cX3_handOut 61 = .ok (.invokestatic 64, 3) := by decide +kernel
theorem dX3_handOut_64 : decode cX3_handOut 64 = .ok (.istore 6, 2) := by decide +kernel
theorem dX3_handOut_66 : decode cX3_handOut 66 = .ok (.aload_n 0, 1) := by decide +kernel
theorem dX3_handOut_67 : decode cX3_handOut 67 = .ok (.getfield 9, 3) := by decide +kernel
theorem dX3_handOut_70 : decode cX3_handOut 70 = .ok (.iload 6, 2) := by decide +kernel
theorem dX3_handOut_72 : decode cX3_handOut 72 = .ok (.dup2, 1) := by decide +kernel
theorem dX3_handOut_73 : decode cX3_handOut 73 = .ok (.iaload, 1) := by decide +kernel
theorem dX3_handOut_74 : decode cX3_handOut 74 = .ok (.iconst 1, 1) := by decide +kernel
theorem dX3_handOut_75 : decode cX3_handOut 75 = .ok (.isub, 1) := by decide +kernel
theorem dX3_handOut_76 : decode cX3_handOut 76 = .ok (.iastore, 1) := by decide +kernel
theorem dX3_handOut_77 : decode cX3_handOut 77 = .ok (.aload_n 0, 1) := by decide +kernel
theorem dX3_handOut_78 : decode cX3_handOut 78 = .ok (.getfield 15, 3) := by decide +kernel
theorem dX3_handOut_81 : decode cX3_handOut 81 = .ok (.iload 6, 2) := by decide +kernel
theorem dX3_handOut_83 : decode cX3_handOut 83 = .ok (.dup2, 1) := by decide +kernel
theorem dX3_handOut_84 : decode cX3_handOut 84 = .ok (.iaload, 1) := by decide +kernel
theorem dX3_handOut_85 : decode cX3_handOut 85 = .ok (.iconst 1, 1) := by decide +kernel
theorem dX3_handOut_86 : decode cX3_handOut 86 = .ok (.iadd, 1) := by decide +kernel
theorem dX3_handOut_87 : decode cX3_handOut 87 = .ok (.iastore, 1) := by decide +kernel
theorem dX3_handOut_88 : decode cX3_handOut 88 = .ok (.iinc 5 1, 3) := by decide +kernel
theorem dX3_handOut_91 : decode cX3_handOut 91 = .ok (.goto (-41), 3) := by decide +kernel
theorem dX3_handOut_94 : decode cX3_handOut 94 = .ok (.iconst 0, 1) := by decide +kernel
theorem dX3_handOut_95 : decode cX3_handOut 95 = .ok (.istore 5, 2) := by decide +kernel
theorem dX3_handOut_97 : decode cX3_handOut 97 = .ok (.iload 5, 2) := by decide +kernel
theorem dX3_handOut_99 : decode cX3_handOut 99 = .ok (.iconst 4, 1) := by decide +kernel
theorem dX3_handOut_100 : decode cX3_handOut 100 = .ok (.if_icmp .ge 26, 3) := by decide +kernel
theorem dX3_handOut_103 : decode cX3_handOut 103 = .ok (.aload_n 0, 1) := by decide +kernel
theorem dX3_handOut_104 : decode cX3_handOut 104 = .ok (.getfield 18, 3) := by decide +kernel
theorem dX3_handOut_107 : decode cX3_handOut 107 = .ok (.iload 5, 2) := by decide +kernel
theorem dX3_handOut_109 : decode cX3_handOut 109 = .ok (.dup2, 1) := by decide +kernel
theorem dX3_handOut_110 : decode cX3_handOut 110 = .ok (.iaload, 1) := by decide +kernel
theorem dX3_handOut_111 : decode cX3_handOut 111 = .ok (.aload_n 0, 1) := by decide +kernel
theorem dX3_handOut_112 : decode cX3_handOut 112 = .ok (.getfield 9, 3) := by decide +kernel
theorem dX3_handOut_115 : decode cX3_handOut 115 = .ok (.iload 5, 2) := by decide +kernel
theorem dX3_handOut_117 : decode cX3_handOut 117 = .ok (.iaload, 1) := by decide +kernel
theorem dX3_handOut_118 : decode cX3_handOut 118 = .ok (.iadd, 1) := by decide +kernel
theorem dX3_handOut_119 : decode cX3_handOut 119 = .ok (.iastore, 1) := by decide +kernel
theorem dX3_handOut_120 : decode cX3_handOut 120 = .ok (.iinc 5 1, 3) := by decide +kernel
theorem dX3_handOut_123 : decode cX3_handOut 123 = .ok (.goto (-26), 3) := by decide +kernel
theorem dX3_handOut_126 : decode cX3_handOut 126 = .ok (.return_, 1) := by decide +kernel
theorem dX3_partOf_0 : decode cX3_partOf 0 = .ok (.lconst 0, 1) := by decide +kernel
theorem dX3_partOf_1 : decode cX3_partOf 1 = .ok (.lstore 4, 2) := by decide +kernel
theorem dX3_partOf_3 : decode cX3_partOf 3 = .ok (.iconst 0, 1) := by decide +kernel
theorem dX3_partOf_4 : decode cX3_partOf 4 = .ok (.istore 6, 2) := by decide +kernel
theorem dX3_partOf_6 : decode cX3_partOf 6 = .ok (.iload 6, 2) := by decide +kernel
theorem dX3_partOf_8 : decode cX3_partOf 8 = .ok (.iconst 4, 1) := by decide +kernel
theorem dX3_partOf_9 : decode cX3_partOf 9 = .ok (.if_icmp .ge 22, 3) := by decide +kernel
theorem dX3_partOf_12 : decode cX3_partOf 12 = .ok (.lload 4, 2) := by decide +kernel
theorem dX3_partOf_14 : decode cX3_partOf 14 = .ok (.aload_n 0, 1) := by decide +kernel
theorem dX3_partOf_15 : decode cX3_partOf 15 = .ok (.getfield 15, 3) := by decide +kernel
theorem dX3_partOf_18 : decode cX3_partOf 18 = .ok (.iload 6, 2) := by decide +kernel
theorem dX3_partOf_20 : decode cX3_partOf 20 = .ok (.iaload, 1) := by decide +kernel
theorem dX3_partOf_21 : decode cX3_partOf 21 = .ok (.i2l, 1) := by decide +kernel
theorem dX3_partOf_22 : decode cX3_partOf 22 = .ok (.ladd, 1) := by decide +kernel
theorem dX3_partOf_23 : decode cX3_partOf 23 = .ok (.lstore 4, 2) := by decide +kernel
theorem dX3_partOf_25 : decode cX3_partOf 25 = .ok (.iinc 6 1, 3) := by decide +kernel
theorem dX3_partOf_28 : decode cX3_partOf 28 = .ok (.goto (-22), 3) := by decide +kernel
theorem dX3_partOf_31 : decode cX3_partOf 31 = .ok (.lload_n 1, 1) := by decide +kernel
theorem dX3_partOf_32 : decode cX3_partOf 32 = .ok (.lstore 6, 2) := by decide +kernel
theorem dX3_partOf_34 : decode cX3_partOf 34 = .ok (.iconst 0, 1) := by decide +kernel
theorem dX3_partOf_35 : decode cX3_partOf 35 = .ok (.istore 8, 2) := by decide +kernel
theorem dX3_partOf_37 : decode cX3_partOf 37 = .ok (.iload 8, 2) := by decide +kernel
theorem dX3_partOf_39 : decode cX3_partOf 39 = .ok (.iconst 4, 1) := by decide +kernel
theorem dX3_partOf_40 : decode cX3_partOf 40 = .ok (.if_icmp .ge 27, 3) := by decide +kernel
theorem dX3_partOf_43 : decode cX3_partOf 43 = .ok (.lload 6, 2) := by decide +kernel
theorem dX3_partOf_45 : decode cX3_partOf 45 = .ok (.lload_n 1, 1) := by decide +kernel
theorem dX3_partOf_46 : decode cX3_partOf 46 = .ok (.aload_n 0, 1) := by decide +kernel
theorem dX3_partOf_47 : decode cX3_partOf 47 = .ok (.getfield 15, 3) := by decide +kernel
theorem dX3_partOf_50 : decode cX3_partOf 50 = .ok (.iload 8, 2) := by decide +kernel
theorem dX3_partOf_52 : decode cX3_partOf 52 = .ok (.iaload, 1) := by decide +kernel
theorem dX3_partOf_53 : decode cX3_partOf 53 = .ok (.lload 4, 2) := by decide +kernel
theorem dX3_partOf_55 : decode cX3_partOf 55 = .ok (.invokestatic 68, 3) := by decide +kernel
theorem dX3_partOf_58 : decode cX3_partOf 58 = .ok (.lsub, 1) := by decide +kernel
theorem dX3_partOf_59 : decode cX3_partOf 59 = .ok (.lstore 6, 2) := by decide +kernel
theorem dX3_partOf_61 : decode cX3_partOf 61 = .ok (.iinc 8 1, 3) := by decide +kernel
theorem dX3_partOf_64 : decode cX3_partOf 64 = .ok (.goto (-27), 3) := by decide +kernel
theorem dX3_partOf_67 : decode cX3_partOf 67 = .ok (.lload_n 1, 1) := by decide +kernel
theorem dX3_partOf_68 : decode cX3_partOf 68 = .ok (.aload_n 0, 1) := by decide +kernel
theorem dX3_partOf_69 : decode cX3_partOf 69 = .ok (.getfield 15, 3) := by decide +kernel
theorem dX3_partOf_72 : decode cX3_partOf 72 = .ok (.iload_n 3, 1) := by decide +kernel
theorem dX3_partOf_73 : decode cX3_partOf 73 = .ok (.iaload, 1) := by decide +kernel
theorem dX3_partOf_74 : decode cX3_partOf 74 = .ok (.lload 4, 2) := by decide +kernel
theorem dX3_partOf_76 : decode cX3_partOf 76 = .ok (.invokestatic 68, 3) := by decide +kernel
theorem dX3_partOf_79 : decode cX3_partOf 79 = .ok (.iload_n 3, 1) := by decide +kernel
theorem dX3_partOf_80 : decode cX3_partOf 80 = .ok (.aload_n 0, 1) := by decide +kernel
theorem dX3_partOf_81 : decode cX3_partOf 81 = .ok (.getfield 15, 3) := by decide +kernel
theorem dX3_partOf_84 : decode cX3_partOf 84 = .ok (.invokestatic 64, 3) := by decide +kernel
theorem dX3_partOf_87 : decode cX3_partOf 87 = .ok (.if_icmp .ne 8, 3) := by decide +kernel
theorem dX3_partOf_90 : decode cX3_partOf 90 = .ok (.lload 6, 2) := by decide +kernel
theorem dX3_partOf_92 : decode cX3_partOf 92 = .ok (.goto 4, 3) := by decide +kernel
theorem dX3_partOf_95 : decode cX3_partOf 95 = .ok (.lconst 0, 1) := by decide +kernel
theorem dX3_partOf_96 : decode cX3_partOf 96 = .ok (.ladd, 1) := by decide +kernel
theorem dX3_partOf_97 : decode cX3_partOf 97 = .ok (.lreturn, 1) := by decide +kernel
theorem dX3_cut_0 : decode cX3_cut 0 = .ok (.lload_n 3, 1) := by decide +kernel
theorem dX3_cut_1 : decode cX3_cut 1 = .ok (.lconst 0, 1) := by decide +kernel
theorem dX3_cut_2 : decode cX3_cut 2 = .ok (.lcmp, 1) := by decide +kernel
theorem dX3_cut_3 : decode cX3_cut 3 = .ok (.ifCond .le 12, 3) := by decide +kernel
theorem dX3_cut_6 : decode cX3_cut 6 = .ok (.lload_n 0, 1) := by decide +kernel
theorem dX3_cut_7 : decode cX3_cut 7 = .ok (.iload_n 2, 1) := by decide +kernel
theorem dX3_cut_8 : decode cX3_cut 8 = .ok (.i2l, 1) := by decide +kernel
theorem dX3_cut_9 : decode cX3_cut 9 = .ok (.lmul, 1) := by decide +kernel
theorem dX3_cut_10 : decode cX3_cut 10 = .ok (.lload_n 3, 1) := by decide +kernel
theorem dX3_cut_11 : decode cX3_cut 11 = .ok (.ldiv, 1) := by decide +kernel
theorem dX3_cut_12 : decode cX3_cut 12 = .ok (.goto 4, 3) := by decide +kernel
theorem dX3_cut_15 : decode cX3_cut 15 = .ok (.lconst 0, 1) := by decide +kernel
theorem dX3_cut_16 : decode cX3_cut 16 = .ok (.lreturn, 1) := by decide +kernel
theorem dX3_firstWithMost_0 : decode cX3_firstWithMost 0 = .ok (.iconst 0, 1) := by decide +kernel
theorem dX3_firstWithMost_1 : decode cX3_firstWithMost 1 = .ok (.istore_n 1, 1) := by decide +kernel
theorem dX3_firstWithMost_2 : decode cX3_firstWithMost 2 = .ok (.iconst 1, 1) := by decide +kernel
theorem dX3_firstWithMost_3 : decode cX3_firstWithMost 3 = .ok (.istore_n 2, 1) := by decide +kernel
theorem dX3_firstWithMost_4 : decode cX3_firstWithMost 4 = .ok (.iload_n 2, 1) := by decide +kernel
theorem dX3_firstWithMost_5 : decode cX3_firstWithMost 5 = .ok (.iconst 4, 1) := by decide +kernel
theorem dX3_firstWithMost_6 : decode cX3_firstWithMost 6 = .ok (.if_icmp .ge 20, 3) := by decide +kernel
theorem dX3_firstWithMost_9 : decode cX3_firstWithMost 9 = .ok (.aload_n 0, 1) := by decide +kernel
theorem dX3_firstWithMost_10 : decode cX3_firstWithMost 10 = .ok (.iload_n 2, 1) := by decide +kernel
theorem dX3_firstWithMost_11 : decode cX3_firstWithMost 11 = .ok (.iaload, 1) := by decide +kernel
theorem dX3_firstWithMost_12 : decode cX3_firstWithMost 12 = .ok (.aload_n 0, 1) := by decide +kernel
theorem dX3_firstWithMost_13 : decode cX3_firstWithMost 13 = .ok (.iload_n 1, 1) := by decide +kernel
theorem dX3_firstWithMost_14 : decode cX3_firstWithMost 14 = .ok (.iaload, 1) := by decide +kernel
theorem dX3_firstWithMost_15 : decode cX3_firstWithMost 15 = .ok (.if_icmp .le 5, 3) := by decide +kernel
theorem dX3_firstWithMost_18 : decode cX3_firstWithMost 18 = .ok (.iload_n 2, 1) := by decide +kernel
theorem dX3_firstWithMost_19 : decode cX3_firstWithMost 19 = .ok (.istore_n 1, 1) := by decide +kernel
theorem dX3_firstWithMost_20 : decode cX3_firstWithMost 20 = .ok (.iinc 2 1, 3) := by decide +kernel
theorem dX3_firstWithMost_23 : decode cX3_firstWithMost 23 = .ok (.goto (-19), 3) := by decide +kernel
theorem dX3_firstWithMost_26 : decode cX3_firstWithMost 26 = .ok (.iload_n 1, 1) := by decide +kernel
theorem dX3_firstWithMost_27 : decode cX3_firstWithMost 27 = .ok (.ireturn, 1) := by decide +kernel
theorem dJ7_rangeCheck_23922_0 : decode cJ7_rangeCheck_23922 0 = .ok (.iload_n 1, 1) := by decide +kernel
theorem dJ7_rangeCheck_23922_1 : decode cJ7_rangeCheck_23922 1 = .ok (.iload_n 2, 1) := by decide +kernel
theorem dJ7_rangeCheck_23922_2 : decode cJ7_rangeCheck_23922 2 = .ok (.if_icmp .le 44, 3) := by decide +kernel
theorem dJ7_rangeCheck_23922_5 : decode cJ7_rangeCheck_23922 5 = .ok (.new 43, 3) := by decide +kernel
theorem dJ7_rangeCheck_23922_8 : decode cJ7_rangeCheck_23922 8 = .ok (.dup, 1) := by decide +kernel
theorem dJ7_rangeCheck_23922_9 : decode cJ7_rangeCheck_23922 9 = .ok (.new 45, 3) := by decide +kernel
theorem dJ7_rangeCheck_23922_12 : decode cJ7_rangeCheck_23922 12 = .ok (.dup, 1) := by decide +kernel
theorem dJ7_rangeCheck_23922_13 : decode cJ7_rangeCheck_23922 13 = .ok (.invokespecial 47, 3) := by decide +kernel
theorem dJ7_rangeCheck_23922_16 : decode cJ7_rangeCheck_23922 16 = .ok (.ldc 48, 2) := by decide +kernel
theorem dJ7_rangeCheck_23922_18 : decode cJ7_rangeCheck_23922 18 = .ok (.invokevirtual 50, 3) := by decide +kernel
theorem dJ7_rangeCheck_23922_21 : decode cJ7_rangeCheck_23922 21 = .ok (.iload_n 1, 1) := by decide +kernel
theorem dJ7_rangeCheck_23922_22 : decode cJ7_rangeCheck_23922 22 = .ok (.invokevirtual 54, 3) := by decide +kernel
theorem dJ7_rangeCheck_23922_25 : decode cJ7_rangeCheck_23922 25 = .ok (.ldc 57, 2) := by decide +kernel
theorem dJ7_rangeCheck_23922_27 : decode cJ7_rangeCheck_23922 27 = .ok (.invokevirtual 50, 3) := by decide +kernel
theorem dJ7_rangeCheck_23922_30 : decode cJ7_rangeCheck_23922 30 = .ok (.iload_n 2, 1) := by decide +kernel
theorem dJ7_rangeCheck_23922_31 : decode cJ7_rangeCheck_23922 31 = .ok (.invokevirtual 54, 3) := by decide +kernel
theorem dJ7_rangeCheck_23922_34 : decode cJ7_rangeCheck_23922 34 = .ok (.ldc 59, 2) := by decide +kernel
theorem dJ7_rangeCheck_23922_36 : decode cJ7_rangeCheck_23922 36 = .ok (.invokevirtual 50, 3) := by decide +kernel
theorem dJ7_rangeCheck_23922_39 : decode cJ7_rangeCheck_23922 39 = .ok (.invokevirtual 61, 3) := by decide +kernel
theorem dJ7_rangeCheck_23922_42 : decode cJ7_rangeCheck_23922 42 = .ok (.invokespecial 65, 3) := by decide +kernel
theorem dJ7_rangeCheck_23922_45 : decode cJ7_rangeCheck_23922 45 = .ok (.athrow, 1) := by decide +kernel
theorem dJ7_rangeCheck_23922_46 : decode cJ7_rangeCheck_23922 46 = .ok (.iload_n 1, 1) := by decide +kernel
theorem dJ7_rangeCheck_23922_47 : decode cJ7_rangeCheck_23922 47 = .ok (.ifCond .ge 12, 3) := by decide +kernel
theorem dJ7_rangeCheck_23922_50 : decode cJ7_rangeCheck_23922 50 = .ok (.new 68, 3) := by decide +kernel
theorem dJ7_rangeCheck_23922_53 : decode cJ7_rangeCheck_23922 53 = .ok (.dup, 1) := by decide +kernel
theorem dJ7_rangeCheck_23922_54 : decode cJ7_rangeCheck_23922 54 = .ok (.iload_n 1, 1) := by decide +kernel
theorem dJ7_rangeCheck_23922_55 : decode cJ7_rangeCheck_23922 55 = .ok (.invokespecial 70, 3) := by decide +kernel
theorem dJ7_rangeCheck_23922_58 : decode cJ7_rangeCheck_23922 58 = .ok (.athrow, 1) := by decide +kernel
theorem dJ7_rangeCheck_23922_59 : decode cJ7_rangeCheck_23922 59 = .ok (.iload_n 2, 1) := by decide +kernel
theorem dJ7_rangeCheck_23922_60 : decode cJ7_rangeCheck_23922 60 = .ok (.iload_n 0, 1) := by decide +kernel
theorem dJ7_rangeCheck_23922_61 : decode cJ7_rangeCheck_23922 61 = .ok (.if_icmp .le 12, 3) := by decide +kernel
theorem dJ7_rangeCheck_23922_64 : decode cJ7_rangeCheck_23922 64 = .ok (.new 68, 3) := by decide +kernel
theorem dJ7_rangeCheck_23922_67 : decode cJ7_rangeCheck_23922 67 = .ok (.dup, 1) := by decide +kernel
theorem dJ7_rangeCheck_23922_68 : decode cJ7_rangeCheck_23922 68 = .ok (.iload_n 2, 1) := by decide +kernel
theorem dJ7_rangeCheck_23922_69 : decode cJ7_rangeCheck_23922 69 = .ok (.invokespecial 70, 3) := by decide +kernel
theorem dJ7_rangeCheck_23922_72 : decode cJ7_rangeCheck_23922 72 = .ok (.athrow, 1) := by decide +kernel
theorem dJ7_rangeCheck_23922_73 : decode cJ7_rangeCheck_23922 73 = .ok (.return_, 1) := by decide +kernel
theorem dJ7_fill_53178_0 : decode cJ7_fill_53178 0 = .ok (.iconst 0, 1) := by decide +kernel
theorem dJ7_fill_53178_1 : decode cJ7_fill_53178 1 = .ok (.istore_n 2, 1) := by decide +kernel
theorem dJ7_fill_53178_2 : decode cJ7_fill_53178 2 = .ok (.aload_n 0, 1) := by decide +kernel
theorem dJ7_fill_53178_3 : decode cJ7_fill_53178 3 = .ok (.arraylength, 1) := by decide +kernel
theorem dJ7_fill_53178_4 : decode cJ7_fill_53178 4 = .ok (.istore_n 3, 1) := by decide +kernel
theorem dJ7_fill_53178_5 : decode cJ7_fill_53178 5 = .ok (.iload_n 2, 1) := by decide +kernel
theorem dJ7_fill_53178_6 : decode cJ7_fill_53178 6 = .ok (.iload_n 3, 1) := by decide +kernel
theorem dJ7_fill_53178_7 : decode cJ7_fill_53178 7 = .ok (.if_icmp .ge 13, 3) := by decide +kernel
theorem dJ7_fill_53178_10 : decode cJ7_fill_53178 10 = .ok (.aload_n 0, 1) := by decide +kernel
theorem dJ7_fill_53178_11 : decode cJ7_fill_53178 11 = .ok (.iload_n 2, 1) := by decide +kernel
theorem dJ7_fill_53178_12 : decode cJ7_fill_53178 12 = .ok (.iload_n 1, 1) := by decide +kernel
theorem dJ7_fill_53178_13 : decode cJ7_fill_53178 13 = .ok (.iastore, 1) := by decide +kernel
theorem dJ7_fill_53178_14 : decode cJ7_fill_53178 14 = .ok (.iinc 2 1, 3) := by decide +kernel
theorem dJ7_fill_53178_17 : decode cJ7_fill_53178 17 = .ok (.goto (-12), 3) := by decide +kernel
theorem dJ7_fill_53178_20 : decode cJ7_fill_53178 20 = .ok (.return_, 1) := by decide +kernel
theorem dJ7_fill_fda19_0 : decode cJ7_fill_fda19 0 = .ok (.aload_n 0, 1) := by decide +kernel
theorem dJ7_fill_fda19_1 : decode cJ7_fill_fda19 1 = .ok (.arraylength, 1) := by decide +kernel
theorem dJ7_fill_fda19_2 : decode cJ7_fill_fda19 2 = .ok (.iload_n 1, 1) := by decide +kernel
theorem dJ7_fill_fda19_3 : decode cJ7_fill_fda19 3 = .ok (.iload_n 2, 1) := by decide +kernel
theorem dJ7_fill_fda19_4 : decode cJ7_fill_fda19 4 = .ok (.invokestatic 13, 3) := by decide +kernel
theorem dJ7_fill_fda19_7 : decode cJ7_fill_fda19 7 = .ok (.iload_n 1, 1) := by decide +kernel
theorem dJ7_fill_fda19_8 : decode cJ7_fill_fda19 8 = .ok (.istore 4, 2) := by decide +kernel
theorem dJ7_fill_fda19_10 : decode cJ7_fill_fda19 10 = .ok (.iload 4, 2) := by decide +kernel
theorem dJ7_fill_fda19_12 : decode cJ7_fill_fda19 12 = .ok (.iload_n 2, 1) := by decide +kernel
theorem dJ7_fill_fda19_13 : decode cJ7_fill_fda19 13 = .ok (.if_icmp .ge 14, 3) := by decide +kernel
theorem dJ7_fill_fda19_16 : decode cJ7_fill_fda19 16 = .ok (.aload_n 0, 1) := by decide +kernel
theorem dJ7_fill_fda19_17 : decode cJ7_fill_fda19 17 = .ok (.iload 4, 2) := by decide +kernel
theorem dJ7_fill_fda19_19 : decode cJ7_fill_fda19 19 = .ok (.iload_n 3, 1) := by decide +kernel
theorem dJ7_fill_fda19_20 : decode cJ7_fill_fda19 20 = .ok (.iastore, 1) := by decide +kernel
theorem dJ7_fill_fda19_21 : decode cJ7_fill_fda19 21 = .ok (.iinc 4 1, 3) := by decide +kernel
theorem dJ7_fill_fda19_24 : decode cJ7_fill_fda19 24 = .ok (.goto (-14), 3) := by decide +kernel
theorem dJ7_fill_fda19_27 : decode cJ7_fill_fda19 27 = .ok (.return_, 1) := by decide +kernel
theorem dJ9_max_7cf53_0 : decode cJ9_max_7cf53 0 = .ok (.iload_n 0, 1) := by decide +kernel
theorem dJ9_max_7cf53_1 : decode cJ9_max_7cf53 1 = .ok (.iload_n 1, 1) := by decide +kernel
theorem dJ9_max_7cf53_2 : decode cJ9_max_7cf53 2 = .ok (.if_icmp .lt 7, 3) := by decide +kernel
theorem dJ9_max_7cf53_5 : decode cJ9_max_7cf53 5 = .ok (.iload_n 0, 1) := by decide +kernel
theorem dJ9_max_7cf53_6 : decode cJ9_max_7cf53 6 = .ok (.goto 4, 3) := by decide +kernel
theorem dJ9_max_7cf53_9 : decode cJ9_max_7cf53 9 = .ok (.iload_n 1, 1) := by decide +kernel
theorem dJ9_max_7cf53_10 : decode cJ9_max_7cf53 10 = .ok (.ireturn, 1) := by decide +kernel
theorem dJ9_min_7cf53_0 : decode cJ9_min_7cf53 0 = .ok (.iload_n 0, 1) := by decide +kernel
theorem dJ9_min_7cf53_1 : decode cJ9_min_7cf53 1 = .ok (.iload_n 1, 1) := by decide +kernel
theorem dJ9_min_7cf53_2 : decode cJ9_min_7cf53 2 = .ok (.if_icmp .gt 7, 3) := by decide +kernel
theorem dJ9_min_7cf53_5 : decode cJ9_min_7cf53 5 = .ok (.iload_n 0, 1) := by decide +kernel
theorem dJ9_min_7cf53_6 : decode cJ9_min_7cf53 6 = .ok (.goto 4, 3) := by decide +kernel
theorem dJ9_min_7cf53_9 : decode cJ9_min_7cf53 9 = .ok (.iload_n 1, 1) := by decide +kernel
theorem dJ9_min_7cf53_10 : decode cJ9_min_7cf53 10 = .ok (.ireturn, 1) := by decide +kernel

theorem dX4_init_0 : decode cX4_init 0 = .ok (.aload_n 0, 1) := by decide +kernel
theorem dX4_init_1 : decode cX4_init 1 = .ok (.invokespecial 1, 3) := by decide +kernel
theorem dX4_init_4 : decode cX4_init 4 = .ok (.aload_n 0, 1) := by decide +kernel
theorem dX4_init_5 : decode cX4_init 5 = .ok (.new 7, 3) := by decide +kernel
theorem dX4_init_8 : decode cX4_init 8 = .ok (.dup, 1) := by decide +kernel
theorem dX4_init_9 : decode cX4_init 9 = .ok (.invokespecial 9, 3) := by decide +kernel
theorem dX4_init_12 : decode cX4_init 12 = .ok (.putfield 10, 3) := by decide +kernel
theorem dX4_init_15 : decode cX4_init 15 = .ok (.aload_n 0, 1) := by decide +kernel
theorem dX4_init_16 : decode cX4_init 16 = .ok (.iconst 3, 1) := by decide +kernel
theorem dX4_init_17 : decode cX4_init 17 = .ok (.anewarray 7, 3) := by decide +kernel
theorem dX4_init_20 : decode cX4_init 20 = .ok (.putfield 16, 3) := by decide +kernel
theorem dX4_init_23 : decode cX4_init 23 = .ok (.aload_n 0, 1) := by decide +kernel
theorem dX4_init_24 : decode cX4_init 24 = .ok (.new 20, 3) := by decide +kernel
theorem dX4_init_27 : decode cX4_init 27 = .ok (.dup, 1) := by decide +kernel
theorem dX4_init_28 : decode cX4_init 28 = .ok (.invokespecial 22, 3) := by decide +kernel
theorem dX4_init_31 : decode cX4_init 31 = .ok (.putfield 23, 3) := by decide +kernel
theorem dX4_init_34 : decode cX4_init 34 = .ok (.aload_n 0, 1) := by decide +kernel
theorem dX4_init_35 : decode cX4_init 35 = .ok (.new 27, 3) := by decide +kernel
theorem dX4_init_38 : decode cX4_init 38 = .ok (.dup, 1) := by decide +kernel
theorem dX4_init_39 : decode cX4_init 39 = .ok (.invokespecial 29, 3) := by decide +kernel
theorem dX4_init_42 : decode cX4_init 42 = .ok (.putfield 30, 3) := by decide +kernel
theorem dX4_init_45 : decode cX4_init 45 = .ok (.aload_n 0, 1) := by decide +kernel
theorem dX4_init_46 : decode cX4_init 46 = .ok (.new 34, 3) := by decide +kernel
theorem dX4_init_49 : decode cX4_init 49 = .ok (.dup, 1) := by decide +kernel
theorem dX4_init_50 : decode cX4_init 50 = .ok (.invokespecial 36, 3) := by decide +kernel
theorem dX4_init_53 : decode cX4_init 53 = .ok (.putfield 37, 3) := by decide +kernel
theorem dX4_init_56 : decode cX4_init 56 = .ok (.return_, 1) := by decide +kernel
theorem dX4_hours_0 : decode cX4_hours 0 = .ok (.iload_n 1, 1) := by decide +kernel
theorem dX4_hours_1 : decode cX4_hours 1 = .ok (.iconst 1, 1) := by decide +kernel
theorem dX4_hours_2 : decode cX4_hours 2 = .ok (.if_icmp .lt 9, 3) := by decide +kernel
theorem dX4_hours_5 : decode cX4_hours 5 = .ok (.iload_n 1, 1) := by decide +kernel
theorem dX4_hours_6 : decode cX4_hours 6 = .ok (.bipush 40, 2) := by decide +kernel
theorem dX4_hours_8 : decode cX4_hours 8 = .ok (.if_icmp .le 5, 3) := by decide +kernel
theorem dX4_hours_11 : decode cX4_hours 11 = .ok (.iconst 0, 1) := by decide +kernel
theorem dX4_hours_12 : decode cX4_hours 12 = .ok (.ireturn, 1) := by decide +kernel
theorem dX4_hours_13 : decode cX4_hours 13 = .ok (.aload_n 0, 1) := by decide +kernel
theorem dX4_hours_14 : decode cX4_hours 14 = .ok (.getfield 10, 3) := by decide +kernel
theorem dX4_hours_17 : decode cX4_hours 17 = .ok (.iload_n 1, 1) := by decide +kernel
theorem dX4_hours_18 : decode cX4_hours 18 = .ok (.invokevirtual 41, 3) := by decide +kernel
theorem dX4_hours_21 : decode cX4_hours 21 = .ok (.iconst 1, 1) := by decide +kernel
theorem dX4_hours_22 : decode cX4_hours 22 = .ok (.ireturn, 1) := by decide +kernel
theorem dX4_kind_0 : decode cX4_kind 0 = .ok (.aload_n 0, 1) := by decide +kernel
theorem dX4_kind_1 : decode cX4_kind 1 = .ok (.getfield 10, 3) := by decide +kernel
theorem dX4_kind_4 : decode cX4_kind 4 = .ok (.getfield 45, 3) := by decide +kernel
theorem dX4_kind_7 : decode cX4_kind 7 = .ok (.iconst 3, 1) := by decide +kernel
theorem dX4_kind_8 : decode cX4_kind 8 = .ok (.if_icmp .ge 15, 3) := by decide +kernel
theorem dX4_kind_11 : decode cX4_kind 11 = .ok (.iload_n 1, 1) := by decide +kernel
theorem dX4_kind_12 : decode cX4_kind 12 = .ok (.iconst 1, 1) := by decide +kernel
theorem dX4_kind_13 : decode cX4_kind 13 = .ok (.if_icmp .lt 10, 3) := by decide +kernel
theorem dX4_kind_16 : decode cX4_kind 16 = .ok (.iload_n 1, 1) := by decide +kernel
theorem dX4_kind_17 : decode cX4_kind 17 = .ok (.sipush 1000, 3) := by decide +kernel
theorem dX4_kind_20 : decode cX4_kind 20 = .ok (.if_icmp .le 5, 3) := by decide +kernel
theorem dX4_kind_23 : decode cX4_kind 23 = .ok (.iconst (-1), 1) := by decide +kernel
theorem dX4_kind_24 : decode cX4_kind 24 = .ok (.ireturn, 1) := by decide +kernel
theorem dX4_kind_25 : decode cX4_kind 25 = .ok (.aload_n 0, 1) := by decide +kernel
theorem dX4_kind_26 : decode cX4_kind 26 = .ok (.getfield 10, 3) := by decide +kernel
theorem dX4_kind_29 : decode cX4_kind 29 = .ok (.iload_n 1, 1) := by decide +kernel
theorem dX4_kind_30 : decode cX4_kind 30 = .ok (.invokevirtual 49, 3) := by decide +kernel
theorem dX4_kind_33 : decode cX4_kind 33 = .ok (.ireturn, 1) := by decide +kernel
theorem dX4_offer_0 : decode cX4_offer 0 = .ok (.aload_n 0, 1) := by decide +kernel
theorem dX4_offer_1 : decode cX4_offer 1 = .ok (.getfield 10, 3) := by decide +kernel
theorem dX4_offer_4 : decode cX4_offer 4 = .ok (.getfield 53, 3) := by decide +kernel
theorem dX4_offer_7 : decode cX4_offer 7 = .ok (.bipush 6, 2) := by decide +kernel
theorem dX4_offer_9 : decode cX4_offer 9 = .ok (.if_icmp .ge 14, 3) := by decide +kernel
theorem dX4_offer_12 : decode cX4_offer 12 = .ok (.aload_n 0, 1) := by decide +kernel
theorem dX4_offer_13 : decode cX4_offer 13 = .ok (.getfield 10, 3) := by decide +kernel
theorem dX4_offer_16 : decode cX4_offer 16 = .ok (.iload_n 1, 1) := by decide +kernel
theorem dX4_offer_17 : decode cX4_offer 17 = .ok (.invokevirtual 56, 3) := by decide +kernel
theorem dX4_offer_20 : decode cX4_offer 20 = .ok (.ifCond .ne 5, 3) := by decide +kernel
theorem dX4_offer_23 : decode cX4_offer 23 = .ok (.iconst (-1), 1) := by decide +kernel
theorem dX4_offer_24 : decode cX4_offer 24 = .ok (.ireturn, 1) := by decide +kernel
theorem dX4_offer_25 : decode cX4_offer 25 = .ok (.iload_n 2, 1) := by decide +kernel
theorem dX4_offer_26 : decode cX4_offer 26 = .ok (.iconst 1, 1) := by decide +kernel
theorem dX4_offer_27 : decode cX4_offer 27 = .ok (.if_icmp .lt 16, 3) := by decide +kernel
theorem dX4_offer_30 : decode cX4_offer 30 = .ok (.iload_n 2, 1) := by decide +kernel
theorem dX4_offer_31 : decode cX4_offer 31 = .ok (.bipush 40, 2) := by decide +kernel
theorem dX4_offer_33 : decode cX4_offer 33 = .ok (.if_icmp .gt 10, 3) := by decide +kernel
theorem dX4_offer_36 : decode cX4_offer 36 = .ok (.iload_n 3, 1) := by decide +kernel
theorem dX4_offer_37 : decode cX4_offer 37 = .ok (.invokestatic 60, 3) := by decide +kernel
theorem dX4_offer_40 : decode cX4_offer 40 = .ok (.ifCond .ne 5, 3) := by decide +kernel
theorem dX4_offer_43 : decode cX4_offer 43 = .ok (.iconst (-1), 1) := by decide +kernel
theorem dX4_offer_44 : decode cX4_offer 44 = .ok (.ireturn, 1) := by decide +kernel
theorem dX4_offer_45 : decode cX4_offer 45 = .ok (.aload_n 0, 1) := by decide +kernel
theorem dX4_offer_46 : decode cX4_offer 46 = .ok (.getfield 10, 3) := by decide +kernel
theorem dX4_offer_49 : decode cX4_offer 49 = .ok (.iload_n 1, 1) := by decide +kernel
theorem dX4_offer_50 : decode cX4_offer 50 = .ok (.iload_n 2, 1) := by decide +kernel
theorem dX4_offer_51 : decode cX4_offer 51 = .ok (.iload_n 3, 1) := by decide +kernel
theorem dX4_offer_52 : decode cX4_offer 52 = .ok (.invokevirtual 63, 3) := by decide +kernel
theorem dX4_offer_55 : decode cX4_offer 55 = .ok (.ireturn, 1) := by decide +kernel
theorem dX4_reprice_0 : decode cX4_reprice 0 = .ok (.aload_n 0, 1) := by decide +kernel
theorem dX4_reprice_1 : decode cX4_reprice 1 = .ok (.getfield 10, 3) := by decide +kernel
theorem dX4_reprice_4 : decode cX4_reprice 4 = .ok (.iload_n 1, 1) := by decide +kernel
theorem dX4_reprice_5 : decode cX4_reprice 5 = .ok (.invokevirtual 67, 3) := by decide +kernel
theorem dX4_reprice_8 : decode cX4_reprice 8 = .ok (.ifCond .eq 10, 3) := by decide +kernel
theorem dX4_reprice_11 : decode cX4_reprice 11 = .ok (.iload_n 2, 1) := by decide +kernel
theorem dX4_reprice_12 : decode cX4_reprice 12 = .ok (.invokestatic 60, 3) := by decide +kernel
theorem dX4_reprice_15 : decode cX4_reprice 15 = .ok (.ifCond .ne 5, 3) := by decide +kernel
theorem dX4_reprice_18 : decode cX4_reprice 18 = .ok (.iconst 0, 1) := by decide +kernel
theorem dX4_reprice_19 : decode cX4_reprice 19 = .ok (.ireturn, 1) := by decide +kernel
theorem dX4_reprice_20 : decode cX4_reprice 20 = .ok (.aload_n 0, 1) := by decide +kernel
theorem dX4_reprice_21 : decode cX4_reprice 21 = .ok (.getfield 10, 3) := by decide +kernel
theorem dX4_reprice_24 : decode cX4_reprice 24 = .ok (.getfield 70, 3) := by decide +kernel
theorem dX4_reprice_27 : decode cX4_reprice 27 = .ok (.iload_n 1, 1) := by decide +kernel
theorem dX4_reprice_28 : decode cX4_reprice 28 = .ok (.iload_n 2, 1) := by decide +kernel
theorem dX4_reprice_29 : decode cX4_reprice 29 = .ok (.iastore, 1) := by decide +kernel
theorem dX4_reprice_30 : decode cX4_reprice 30 = .ok (.iconst 1, 1) := by decide +kernel
theorem dX4_reprice_31 : decode cX4_reprice 31 = .ok (.ireturn, 1) := by decide +kernel
theorem dX4_need_0 : decode cX4_need 0 = .ok (.iload_n 1, 1) := by decide +kernel
theorem dX4_need_1 : decode cX4_need 1 = .ok (.invokestatic 74, 3) := by decide +kernel
theorem dX4_need_4 : decode cX4_need 4 = .ok (.ifCond .eq 25, 3) := by decide +kernel
theorem dX4_need_7 : decode cX4_need 7 = .ok (.aload_n 0, 1) := by decide +kernel
theorem dX4_need_8 : decode cX4_need 8 = .ok (.getfield 10, 3) := by decide +kernel
theorem dX4_need_11 : decode cX4_need 11 = .ok (.iload_n 2, 1) := by decide +kernel
theorem dX4_need_12 : decode cX4_need 12 = .ok (.invokevirtual 56, 3) := by decide +kernel
theorem dX4_need_15 : decode cX4_need 15 = .ok (.ifCond .eq 14, 3) := by decide +kernel
theorem dX4_need_18 : decode cX4_need 18 = .ok (.aload_n 0, 1) := by decide +kernel
theorem dX4_need_19 : decode cX4_need 19 = .ok (.getfield 10, 3) := by decide +kernel
theorem dX4_need_22 : decode cX4_need 22 = .ok (.iload_n 3, 1) := by decide +kernel
theorem dX4_need_23 : decode cX4_need 23 = .ok (.invokevirtual 77, 3) := by decide +kernel
theorem dX4_need_26 : decode cX4_need 26 = .ok (.ifCond .ne 5, 3) := by decide +kernel
theorem dX4_need_29 : decode cX4_need 29 = .ok (.iconst 0, 1) := by decide +kernel
theorem dX4_need_30 : decode cX4_need 30 = .ok (.ireturn, 1) := by decide +kernel
theorem dX4_need_31 : decode cX4_need 31 = .ok (.iload 4, 2) := by decide +kernel
theorem dX4_need_33 : decode cX4_need 33 = .ok (.ifCond .lt 10, 3) := by decide +kernel
theorem dX4_need_36 : decode cX4_need 36 = .ok (.iload 4, 2) := by decide +kernel
theorem dX4_need_38 : decode cX4_need 38 = .ok (.bipush 9, 2) := by decide +kernel
theorem dX4_need_40 : decode cX4_need 40 = .ok (.if_icmp .le 5, 3) := by decide +kernel
theorem dX4_need_43 : decode cX4_need 43 = .ok (.iconst 0, 1) := by decide +kernel
theorem dX4_need_44 : decode cX4_need 44 = .ok (.ireturn, 1) := by decide +kernel
theorem dX4_need_45 : decode cX4_need 45 = .ok (.aload_n 0, 1) := by decide +kernel
theorem dX4_need_46 : decode cX4_need 46 = .ok (.getfield 10, 3) := by decide +kernel
theorem dX4_need_49 : decode cX4_need 49 = .ok (.iload_n 1, 1) := by decide +kernel
theorem dX4_need_50 : decode cX4_need 50 = .ok (.iload_n 2, 1) := by decide +kernel
theorem dX4_need_51 : decode cX4_need 51 = .ok (.iload_n 3, 1) := by decide +kernel
theorem dX4_need_52 : decode cX4_need 52 = .ok (.iload 4, 2) := by decide +kernel
theorem dX4_need_54 : decode cX4_need 54 = .ok (.invokevirtual 80, 3) := by decide +kernel
theorem dX4_need_57 : decode cX4_need 57 = .ok (.iconst 1, 1) := by decide +kernel
theorem dX4_need_58 : decode cX4_need 58 = .ok (.ireturn, 1) := by decide +kernel
theorem dX4_needs_0 : decode cX4_needs 0 = .ok (.iload_n 1, 1) := by decide +kernel
theorem dX4_needs_1 : decode cX4_needs 1 = .ok (.invokestatic 74, 3) := by decide +kernel
theorem dX4_needs_4 : decode cX4_needs 4 = .ok (.ifCond .eq 14, 3) := by decide +kernel
theorem dX4_needs_7 : decode cX4_needs 7 = .ok (.aload_n 0, 1) := by decide +kernel
theorem dX4_needs_8 : decode cX4_needs 8 = .ok (.getfield 10, 3) := by decide +kernel
theorem dX4_needs_11 : decode cX4_needs 11 = .ok (.iload_n 2, 1) := by decide +kernel
theorem dX4_needs_12 : decode cX4_needs 12 = .ok (.invokevirtual 56, 3) := by decide +kernel
theorem dX4_needs_15 : decode cX4_needs 15 = .ok (.ifCond .ne 5, 3) := by decide +kernel
theorem dX4_needs_18 : decode cX4_needs 18 = .ok (.iconst 0, 1) := by decide +kernel
theorem dX4_needs_19 : decode cX4_needs 19 = .ok (.ireturn, 1) := by decide +kernel
theorem dX4_needs_20 : decode cX4_needs 20 = .ok (.iload_n 3, 1) := by decide +kernel
theorem dX4_needs_21 : decode cX4_needs 21 = .ok (.ifCond .lt 25, 3) := by decide +kernel
theorem dX4_needs_24 : decode cX4_needs 24 = .ok (.iload_n 3, 1) := by decide +kernel
theorem dX4_needs_25 : decode cX4_needs 25 = .ok (.aload_n 0, 1) := by decide +kernel
theorem dX4_needs_26 : decode cX4_needs 26 = .ok (.getfield 10, 3) := by decide +kernel
theorem dX4_needs_29 : decode cX4_needs 29 = .ok (.getfield 84, 3) := by decide +kernel
theorem dX4_needs_32 : decode cX4_needs 32 = .ok (.bipush 8, 2) := by decide +kernel
theorem dX4_needs_34 : decode cX4_needs 34 = .ok (.isub, 1) := by decide +kernel
theorem dX4_needs_35 : decode cX4_needs 35 = .ok (.if_icmp .gt 11, 3) := by decide +kernel
theorem dX4_needs_38 : decode cX4_needs 38 = .ok (.iload 4, 2) := by decide +kernel
theorem dX4_needs_40 : decode cX4_needs 40 = .ok (.invokestatic 87, 3) := by decide +kernel
theorem dX4_needs_43 : decode cX4_needs 43 = .ok (.ifCond .ne 5, 3) := by decide +kernel
theorem dX4_needs_46 : decode cX4_needs 46 = .ok (.iconst 0, 1) := by decide +kernel
theorem dX4_needs_47 : decode cX4_needs 47 = .ok (.ireturn, 1) := by decide +kernel
theorem dX4_needs_48 : decode cX4_needs 48 = .ok (.iconst 0, 1) := by decide +kernel
theorem dX4_needs_49 : decode cX4_needs 49 = .ok (.istore 5, 2) := by decide +kernel
theorem dX4_needs_51 : decode cX4_needs 51 = .ok (.iload 5, 2) := by decide +kernel
theorem dX4_needs_53 : decode cX4_needs 53 = .ok (.bipush 8, 2) := by decide +kernel
theorem dX4_needs_55 : decode cX4_needs 55 = .ok (.if_icmp .ge 29, 3) := by decide +kernel
theorem dX4_needs_58 : decode cX4_needs 58 = .ok (.aload_n 0, 1) := by decide +kernel
theorem dX4_needs_59 : decode cX4_needs 59 = .ok (.getfield 10, 3) := by decide +kernel
theorem dX4_needs_62 : decode cX4_needs 62 = .ok (.iload_n 1, 1) := by decide +kernel
theorem dX4_needs_63 : decode cX4_needs 63 = .ok (.iload_n 2, 1) := by decide +kernel
theorem dX4_needs_64 : decode cX4_needs 64 = .ok (.iload_n 3, 1) := by decide +kernel
theorem dX4_needs_65 : decode cX4_needs 65 = .ok (.iload 5, 2) := by decide +kernel
theorem dX4_needs_67 : decode cX4_needs 67 = .ok (.iadd, 1) := by decide +kernel
theorem dX4_needs_68 : decode cX4_needs 68 = .ok (.iload 4, 2) := by decide +kernel
theorem dX4_needs_70 : decode cX4_needs 70 = .ok (.iload 5, 2) := by decide +kernel
theorem dX4_needs_72 : decode cX4_needs 72 = .ok (.invokestatic 90, 3) := by decide +kernel
theorem dX4_needs_75 : decode cX4_needs 75 = .ok (.invokevirtual 80, 3) := by decide +kernel
theorem dX4_needs_78 : decode cX4_needs 78 = .ok (.iinc 5 1, 3) := by decide +kernel
theorem dX4_needs_81 : decode cX4_needs 81 = .ok (.goto (-30), 3) := by decide +kernel
theorem dX4_needs_84 : decode cX4_needs 84 = .ok (.iconst 1, 1) := by decide +kernel
theorem dX4_needs_85 : decode cX4_needs 85 = .ok (.ireturn, 1) := by decide +kernel
theorem dX4_buy_0 : decode cX4_buy 0 = .ok (.aload_n 0, 1) := by decide +kernel
theorem dX4_buy_1 : decode cX4_buy 1 = .ok (.getfield 10, 3) := by decide +kernel
theorem dX4_buy_4 : decode cX4_buy 4 = .ok (.iload_n 1, 1) := by decide +kernel
theorem dX4_buy_5 : decode cX4_buy 5 = .ok (.invokevirtual 67, 3) := by decide +kernel
theorem dX4_buy_8 : decode cX4_buy 8 = .ok (.ifCond .eq 24, 3) := by decide +kernel
theorem dX4_buy_11 : decode cX4_buy 11 = .ok (.aload_n 0, 1) := by decide +kernel
theorem dX4_buy_12 : decode cX4_buy 12 = .ok (.getfield 10, 3) := by decide +kernel
theorem dX4_buy_15 : decode cX4_buy 15 = .ok (.iload_n 2, 1) := by decide +kernel
theorem dX4_buy_16 : decode cX4_buy 16 = .ok (.invokevirtual 77, 3) := by decide +kernel
theorem dX4_buy_19 : decode cX4_buy 19 = .ok (.ifCond .eq 13, 3) := by decide +kernel
theorem dX4_buy_22 : decode cX4_buy 22 = .ok (.iload_n 3, 1) := by decide +kernel
theorem dX4_buy_23 : decode cX4_buy 23 = .ok (.ifCond .lt 9, 3) := by decide +kernel
theorem dX4_buy_26 : decode cX4_buy 26 = .ok (.iload_n 3, 1) := by decide +kernel
theorem dX4_buy_27 : decode cX4_buy 27 = .ok (.bipush 60, 2) := by decide +kernel
theorem dX4_buy_29 : decode cX4_buy 29 = .ok (.if_icmp .le 5, 3) := by decide +kernel
theorem dX4_buy_32 : decode cX4_buy 32 = .ok (.iconst 0, 1) := by decide +kernel
theorem dX4_buy_33 : decode cX4_buy 33 = .ok (.ireturn, 1) := by decide +kernel
theorem dX4_buy_34 : decode cX4_buy 34 = .ok (.aload_n 0, 1) := by decide +kernel
theorem dX4_buy_35 : decode cX4_buy 35 = .ok (.getfield 10, 3) := by decide +kernel
theorem dX4_buy_38 : decode cX4_buy 38 = .ok (.iload_n 1, 1) := by decide +kernel
theorem dX4_buy_39 : decode cX4_buy 39 = .ok (.iload_n 2, 1) := by decide +kernel
theorem dX4_buy_40 : decode cX4_buy 40 = .ok (.iload_n 3, 1) := by decide +kernel
theorem dX4_buy_41 : decode cX4_buy 41 = .ok (.invokevirtual 94, 3) := by decide +kernel
theorem dX4_buy_44 : decode cX4_buy 44 = .ok (.iconst 1, 1) := by decide +kernel
theorem dX4_buy_45 : decode cX4_buy 45 = .ok (.ireturn, 1) := by decide +kernel
theorem dX4_clear_0 : decode cX4_clear 0 = .ok (.aload_n 0, 1) := by decide +kernel
theorem dX4_clear_1 : decode cX4_clear 1 = .ok (.getfield 10, 3) := by decide +kernel
theorem dX4_clear_4 : decode cX4_clear 4 = .ok (.iload_n 1, 1) := by decide +kernel
theorem dX4_clear_5 : decode cX4_clear 5 = .ok (.invokevirtual 56, 3) := by decide +kernel
theorem dX4_clear_8 : decode cX4_clear 8 = .ok (.ifCond .ne 5, 3) := by decide +kernel
theorem dX4_clear_11 : decode cX4_clear 11 = .ok (.iconst 0, 1) := by decide +kernel
theorem dX4_clear_12 : decode cX4_clear 12 = .ok (.ireturn, 1) := by decide +kernel
theorem dX4_clear_13 : decode cX4_clear 13 = .ok (.aload_n 0, 1) := by decide +kernel
theorem dX4_clear_14 : decode cX4_clear 14 = .ok (.getfield 10, 3) := by decide +kernel
theorem dX4_clear_17 : decode cX4_clear 17 = .ok (.iload_n 1, 1) := by decide +kernel
theorem dX4_clear_18 : decode cX4_clear 18 = .ok (.invokevirtual 98, 3) := by decide +kernel
theorem dX4_clear_21 : decode cX4_clear 21 = .ok (.iconst 1, 1) := by decide +kernel
theorem dX4_clear_22 : decode cX4_clear 22 = .ok (.ireturn, 1) := by decide +kernel
theorem dX4_tell_0 : decode cX4_tell 0 = .ok (.aload_n 0, 1) := by decide +kernel
theorem dX4_tell_1 : decode cX4_tell 1 = .ok (.getfield 10, 3) := by decide +kernel
theorem dX4_tell_4 : decode cX4_tell 4 = .ok (.iload_n 1, 1) := by decide +kernel
theorem dX4_tell_5 : decode cX4_tell 5 = .ok (.invokevirtual 56, 3) := by decide +kernel
theorem dX4_tell_8 : decode cX4_tell 8 = .ok (.ifCond .eq 14, 3) := by decide +kernel
theorem dX4_tell_11 : decode cX4_tell 11 = .ok (.aload_n 0, 1) := by decide +kernel
theorem dX4_tell_12 : decode cX4_tell 12 = .ok (.getfield 10, 3) := by decide +kernel
theorem dX4_tell_15 : decode cX4_tell 15 = .ok (.iload_n 2, 1) := by decide +kernel
theorem dX4_tell_16 : decode cX4_tell 16 = .ok (.invokevirtual 77, 3) := by decide +kernel
theorem dX4_tell_19 : decode cX4_tell 19 = .ok (.ifCond .ne 5, 3) := by decide +kernel
theorem dX4_tell_22 : decode cX4_tell 22 = .ok (.iconst (-1), 1) := by decide +kernel
theorem dX4_tell_23 : decode cX4_tell 23 = .ok (.ireturn, 1) := by decide +kernel
theorem dX4_tell_24 : decode cX4_tell 24 = .ok (.iload_n 3, 1) := by decide +kernel
theorem dX4_tell_25 : decode cX4_tell 25 = .ok (.tableswitch 85 0 3 #[31, 41, 51, 61], 31) := by decide +kernel
theorem dX4_tell_56 : decode cX4_tell 56 = .ok (.aload_n 0, 1) := by decide +kernel
theorem dX4_tell_57 : decode cX4_tell 57 = .ok (.getfield 10, 3) := by decide +kernel
theorem dX4_tell_60 : decode cX4_tell 60 = .ok (.iload_n 1, 1) := by decide +kernel
theorem dX4_tell_61 : decode cX4_tell 61 = .ok (.iload_n 2, 1) := by decide +kernel
theorem dX4_tell_62 : decode cX4_tell 62 = .ok (.invokevirtual 101, 3) := by decide +kernel
theorem dX4_tell_65 : decode cX4_tell 65 = .ok (.ireturn, 1) := by decide +kernel
theorem dX4_tell_66 : decode cX4_tell 66 = .ok (.aload_n 0, 1) := by decide +kernel
theorem dX4_tell_67 : decode cX4_tell 67 = .ok (.getfield 10, 3) := by decide +kernel
theorem dX4_tell_70 : decode cX4_tell 70 = .ok (.iload_n 1, 1) := by decide +kernel
theorem dX4_tell_71 : decode cX4_tell 71 = .ok (.iload_n 2, 1) := by decide +kernel
theorem dX4_tell_72 : decode cX4_tell 72 = .ok (.invokevirtual 104, 3) := by decide +kernel
theorem dX4_tell_75 : decode cX4_tell 75 = .ok (.ireturn, 1) := by decide +kernel
theorem dX4_tell_76 : decode cX4_tell 76 = .ok (.aload_n 0, 1) := by decide +kernel
theorem dX4_tell_77 : decode cX4_tell 77 = .ok (.getfield 10, 3) := by decide +kernel
theorem dX4_tell_80 : decode cX4_tell 80 = .ok (.iload_n 1, 1) := by decide +kernel
theorem dX4_tell_81 : decode cX4_tell 81 = .ok (.iload_n 2, 1) := by decide +kernel
theorem dX4_tell_82 : decode cX4_tell 82 = .ok (.invokevirtual 107, 3) := by decide +kernel
theorem dX4_tell_85 : decode cX4_tell 85 = .ok (.ireturn, 1) := by decide +kernel
theorem dX4_tell_86 : decode cX4_tell 86 = .ok (.iconst 0, 1) := by decide +kernel
theorem dX4_tell_87 : decode cX4_tell 87 = .ok (.aload_n 0, 1) := by decide +kernel
theorem dX4_tell_88 : decode cX4_tell 88 = .ok (.getfield 10, 3) := by decide +kernel
theorem dX4_tell_91 : decode cX4_tell 91 = .ok (.iload_n 1, 1) := by decide +kernel
theorem dX4_tell_92 : decode cX4_tell 92 = .ok (.iload_n 2, 1) := by decide +kernel
theorem dX4_tell_93 : decode cX4_tell 93 = .ok (.invokevirtual 104, 3) := by decide +kernel
theorem dX4_tell_96 : decode cX4_tell 96 = .ok (.aload_n 0, 1) := by decide +kernel
theorem dX4_tell_97 : decode cX4_tell 97 = .ok (.getfield 10, 3) := by decide +kernel
theorem dX4_tell_100 : decode cX4_tell 100 = .ok (.iload_n 1, 1) := by decide +kernel
theorem dX4_tell_101 : decode cX4_tell 101 = .ok (.iload_n 2, 1) := by decide +kernel
theorem dX4_tell_102 : decode cX4_tell 102 = .ok (.invokevirtual 101, 3) := by decide +kernel
theorem dX4_tell_105 : decode cX4_tell 105 = .ok (.isub, 1) := by decide +kernel
theorem dX4_tell_106 : decode cX4_tell 106 = .ok (.invokestatic 110, 3) := by decide +kernel
theorem dX4_tell_109 : decode cX4_tell 109 = .ok (.ireturn, 1) := by decide +kernel
theorem dX4_tell_110 : decode cX4_tell 110 = .ok (.aload_n 0, 1) := by decide +kernel
theorem dX4_tell_111 : decode cX4_tell 111 = .ok (.iload_n 1, 1) := by decide +kernel
theorem dX4_tell_112 : decode cX4_tell 112 = .ok (.iload_n 2, 1) := by decide +kernel
theorem dX4_tell_113 : decode cX4_tell 113 = .ok (.iload_n 3, 1) := by decide +kernel
theorem dX4_tell_114 : decode cX4_tell 114 = .ok (.invokevirtual 115, 3) := by decide +kernel
theorem dX4_tell_117 : decode cX4_tell 117 = .ok (.ireturn, 1) := by decide +kernel
theorem dX4_cost_0 : decode cX4_cost 0 = .ok (.aload_n 0, 1) := by decide +kernel
theorem dX4_cost_1 : decode cX4_cost 1 = .ok (.getfield 10, 3) := by decide +kernel
theorem dX4_cost_4 : decode cX4_cost 4 = .ok (.iload_n 1, 1) := by decide +kernel
theorem dX4_cost_5 : decode cX4_cost 5 = .ok (.invokevirtual 56, 3) := by decide +kernel
theorem dX4_cost_8 : decode cX4_cost 8 = .ok (.ifCond .eq 14, 3) := by decide +kernel
theorem dX4_cost_11 : decode cX4_cost 11 = .ok (.aload_n 0, 1) := by decide +kernel
theorem dX4_cost_12 : decode cX4_cost 12 = .ok (.getfield 10, 3) := by decide +kernel
theorem dX4_cost_15 : decode cX4_cost 15 = .ok (.iload_n 1, 1) := by decide +kernel
theorem dX4_cost_16 : decode cX4_cost 16 = .ok (.invokevirtual 118, 3) := by decide +kernel
theorem dX4_cost_19 : decode cX4_cost 19 = .ok (.goto 6, 3) := by decide +kernel
theorem dX4_cost_22 : decode cX4_cost 22 = .ok (.ldc2_w 122, 3) := by decide +kernel
theorem dX4_cost_25 : decode cX4_cost 25 = .ok (.lreturn, 1) := by decide +kernel
theorem dX4_best_0 : decode cX4_best 0 = .ok (.aload_n 0, 1) := by decide +kernel
theorem dX4_best_1 : decode cX4_best 1 = .ok (.getfield 10, 3) := by decide +kernel
theorem dX4_best_4 : decode cX4_best 4 = .ok (.iload_n 1, 1) := by decide +kernel
theorem dX4_best_5 : decode cX4_best 5 = .ok (.invokevirtual 56, 3) := by decide +kernel
theorem dX4_best_8 : decode cX4_best 8 = .ok (.ifCond .eq 18, 3) := by decide +kernel
theorem dX4_best_11 : decode cX4_best 11 = .ok (.aload_n 0, 1) := by decide +kernel
theorem dX4_best_12 : decode cX4_best 12 = .ok (.getfield 23, 3) := by decide +kernel
theorem dX4_best_15 : decode cX4_best 15 = .ok (.aload_n 0, 1) := by decide +kernel
theorem dX4_best_16 : decode cX4_best 16 = .ok (.getfield 10, 3) := by decide +kernel
theorem dX4_best_19 : decode cX4_best 19 = .ok (.iload_n 1, 1) := by decide +kernel
theorem dX4_best_20 : decode cX4_best 20 = .ok (.invokevirtual 124, 3) := by decide +kernel
theorem dX4_best_23 : decode cX4_best 23 = .ok (.goto 6, 3) := by decide +kernel
theorem dX4_best_26 : decode cX4_best 26 = .ok (.ldc2_w 122, 3) := by decide +kernel
theorem dX4_best_29 : decode cX4_best 29 = .ok (.lreturn, 1) := by decide +kernel
theorem dX4_price_0 : decode cX4_price 0 = .ok (.aload_n 0, 1) := by decide +kernel
theorem dX4_price_1 : decode cX4_price 1 = .ok (.getfield 10, 3) := by decide +kernel
theorem dX4_price_4 : decode cX4_price 4 = .ok (.iload_n 1, 1) := by decide +kernel
theorem dX4_price_5 : decode cX4_price 5 = .ok (.invokevirtual 56, 3) := by decide +kernel
theorem dX4_price_8 : decode cX4_price 8 = .ok (.ifCond .eq 14, 3) := by decide +kernel
theorem dX4_price_11 : decode cX4_price 11 = .ok (.aload_n 0, 1) := by decide +kernel
theorem dX4_price_12 : decode cX4_price 12 = .ok (.getfield 10, 3) := by decide +kernel
theorem dX4_price_15 : decode cX4_price 15 = .ok (.iload_n 2, 1) := by decide +kernel
theorem dX4_price_16 : decode cX4_price 16 = .ok (.invokevirtual 77, 3) := by decide +kernel
theorem dX4_price_19 : decode cX4_price 19 = .ok (.ifCond .ne 5, 3) := by decide +kernel
theorem dX4_price_22 : decode cX4_price 22 = .ok (.iconst (-1), 1) := by decide +kernel
theorem dX4_price_23 : decode cX4_price 23 = .ok (.ireturn, 1) := by decide +kernel
theorem dX4_price_24 : decode cX4_price 24 = .ok (.aload_n 0, 1) := by decide +kernel
theorem dX4_price_25 : decode cX4_price 25 = .ok (.getfield 23, 3) := by decide +kernel
theorem dX4_price_28 : decode cX4_price 28 = .ok (.aload_n 0, 1) := by decide +kernel
theorem dX4_price_29 : decode cX4_price 29 = .ok (.getfield 10, 3) := by decide +kernel
theorem dX4_price_32 : decode cX4_price 32 = .ok (.iload_n 1, 1) := by decide +kernel
theorem dX4_price_33 : decode cX4_price 33 = .ok (.invokevirtual 124, 3) := by decide +kernel
theorem dX4_price_36 : decode cX4_price 36 = .ok (.pop2, 1) := by decide +kernel
theorem dX4_price_37 : decode cX4_price 37 = .ok (.aload_n 0, 1) := by decide +kernel
theorem dX4_price_38 : decode cX4_price 38 = .ok (.getfield 23, 3) := by decide +kernel
theorem dX4_price_41 : decode cX4_price 41 = .ok (.iload_n 2, 1) := by decide +kernel
theorem dX4_price_42 : decode cX4_price 42 = .ok (.invokevirtual 128, 3) := by decide +kernel
theorem dX4_price_45 : decode cX4_price 45 = .ok (.ireturn, 1) := by decide +kernel
theorem dX4_more_0 : decode cX4_more 0 = .ok (.aload_n 0, 1) := by decide +kernel
theorem dX4_more_1 : decode cX4_more 1 = .ok (.getfield 10, 3) := by decide +kernel
theorem dX4_more_4 : decode cX4_more 4 = .ok (.iload_n 1, 1) := by decide +kernel
theorem dX4_more_5 : decode cX4_more 5 = .ok (.invokevirtual 56, 3) := by decide +kernel
theorem dX4_more_8 : decode cX4_more 8 = .ok (.ifCond .eq 26, 3) := by decide +kernel
theorem dX4_more_11 : decode cX4_more 11 = .ok (.aload_n 0, 1) := by decide +kernel
theorem dX4_more_12 : decode cX4_more 12 = .ok (.getfield 10, 3) := by decide +kernel
theorem dX4_more_15 : decode cX4_more 15 = .ok (.iload_n 2, 1) := by decide +kernel
theorem dX4_more_16 : decode cX4_more 16 = .ok (.invokevirtual 77, 3) := by decide +kernel
theorem dX4_more_19 : decode cX4_more 19 = .ok (.ifCond .eq 15, 3) := by decide +kernel
theorem dX4_more_22 : decode cX4_more 22 = .ok (.iload_n 3, 1) := by decide +kernel
theorem dX4_more_23 : decode cX4_more 23 = .ok (.bipush (-60), 2) := by decide +kernel
theorem dX4_more_25 : decode cX4_more 25 = .ok (.if_icmp .lt 9, 3) := by decide +kernel
theorem dX4_more_28 : decode cX4_more 28 = .ok (.iload_n 3, 1) := by decide +kernel
theorem dX4_more_29 : decode cX4_more 29 = .ok (.bipush 60, 2) := by decide +kernel
theorem dX4_more_31 : decode cX4_more 31 = .ok (.if_icmp .le 6, 3) := by decide +kernel
theorem dX4_more_34 : decode cX4_more 34 = .ok (.ldc 131, 2) := by decide +kernel
theorem dX4_more_36 : decode cX4_more 36 = .ok (.ireturn, 1) := by decide +kernel
theorem dX4_more_37 : decode cX4_more 37 = .ok (.aload_n 0, 1) := by decide +kernel
theorem dX4_more_38 : decode cX4_more 38 = .ok (.getfield 23, 3) := by decide +kernel
theorem dX4_more_41 : decode cX4_more 41 = .ok (.aload_n 0, 1) := by decide +kernel
theorem dX4_more_42 : decode cX4_more 42 = .ok (.getfield 10, 3) := by decide +kernel
theorem dX4_more_45 : decode cX4_more 45 = .ok (.iload_n 1, 1) := by decide +kernel
theorem dX4_more_46 : decode cX4_more 46 = .ok (.invokevirtual 124, 3) := by decide +kernel
theorem dX4_more_49 : decode cX4_more 49 = .ok (.pop2, 1) := by decide +kernel
theorem dX4_more_50 : decode cX4_more 50 = .ok (.aload_n 0, 1) := by decide +kernel
theorem dX4_more_51 : decode cX4_more 51 = .ok (.getfield 10, 3) := by decide +kernel
theorem dX4_more_54 : decode cX4_more 54 = .ok (.iload_n 1, 1) := by decide +kernel
theorem dX4_more_55 : decode cX4_more 55 = .ok (.iload_n 2, 1) := by decide +kernel
theorem dX4_more_56 : decode cX4_more 56 = .ok (.invokevirtual 101, 3) := by decide +kernel
theorem dX4_more_59 : decode cX4_more 59 = .ok (.istore 4, 2) := by decide +kernel
theorem dX4_more_61 : decode cX4_more 61 = .ok (.aload_n 0, 1) := by decide +kernel
theorem dX4_more_62 : decode cX4_more 62 = .ok (.getfield 23, 3) := by decide +kernel
theorem dX4_more_65 : decode cX4_more 65 = .ok (.iload_n 2, 1) := by decide +kernel
theorem dX4_more_66 : decode cX4_more 66 = .ok (.iload_n 3, 1) := by decide +kernel
theorem dX4_more_67 : decode cX4_more 67 = .ok (.iload 4, 2) := by decide +kernel
theorem dX4_more_69 : decode cX4_more 69 = .ok (.ineg, 1) := by decide +kernel
theorem dX4_more_70 : decode cX4_more 70 = .ok (.invokestatic 110, 3) := by decide +kernel
theorem dX4_more_73 : decode cX4_more 73 = .ok (.invokevirtual 132, 3) := by decide +kernel
theorem dX4_more_76 : decode cX4_more 76 = .ok (.l2i, 1) := by decide +kernel
theorem dX4_more_77 : decode cX4_more 77 = .ok (.ireturn, 1) := by decide +kernel
theorem dX4_blind_0 : decode cX4_blind 0 = .ok (.aload_n 0, 1) := by decide +kernel
theorem dX4_blind_1 : decode cX4_blind 1 = .ok (.getfield 10, 3) := by decide +kernel
theorem dX4_blind_4 : decode cX4_blind 4 = .ok (.iload_n 1, 1) := by decide +kernel
theorem dX4_blind_5 : decode cX4_blind 5 = .ok (.invokevirtual 67, 3) := by decide +kernel
theorem dX4_blind_8 : decode cX4_blind 8 = .ok (.ifCond .ne 7, 3) := by decide +kernel
theorem dX4_blind_11 : decode cX4_blind 11 = .ok (.ldc2_w 122, 3) := by decide +kernel
theorem dX4_blind_14 : decode cX4_blind 14 = .ok (.lreturn, 1) := by decide +kernel
theorem dX4_blind_15 : decode cX4_blind 15 = .ok (.aload_n 0, 1) := by decide +kernel
theorem dX4_blind_16 : decode cX4_blind 16 = .ok (.getfield 10, 3) := by decide +kernel
theorem dX4_blind_19 : decode cX4_blind 19 = .ok (.getfield 136, 3) := by decide +kernel
theorem dX4_blind_22 : decode cX4_blind 22 = .ok (.iload_n 1, 1) := by decide +kernel
theorem dX4_blind_23 : decode cX4_blind 23 = .ok (.iaload, 1) := by decide +kernel
theorem dX4_blind_24 : decode cX4_blind 24 = .ok (.istore_n 2, 1) := by decide +kernel
theorem dX4_blind_25 : decode cX4_blind 25 = .ok (.aload_n 0, 1) := by decide +kernel
theorem dX4_blind_26 : decode cX4_blind 26 = .ok (.getfield 10, 3) := by decide +kernel
theorem dX4_blind_29 : decode cX4_blind 29 = .ok (.iload_n 2, 1) := by decide +kernel
theorem dX4_blind_30 : decode cX4_blind 30 = .ok (.invokevirtual 98, 3) := by decide +kernel
theorem dX4_blind_33 : decode cX4_blind 33 = .ok (.aload_n 0, 1) := by decide +kernel
theorem dX4_blind_34 : decode cX4_blind 34 = .ok (.getfield 30, 3) := by decide +kernel
theorem dX4_blind_37 : decode cX4_blind 37 = .ok (.aload_n 0, 1) := by decide +kernel
theorem dX4_blind_38 : decode cX4_blind 38 = .ok (.getfield 10, 3) := by decide +kernel
theorem dX4_blind_41 : decode cX4_blind 41 = .ok (.iload_n 1, 1) := by decide +kernel
theorem dX4_blind_42 : decode cX4_blind 42 = .ok (.invokevirtual 139, 3) := by decide +kernel
theorem dX4_blind_45 : decode cX4_blind 45 = .ok (.aload_n 0, 1) := by decide +kernel
theorem dX4_blind_46 : decode cX4_blind 46 = .ok (.getfield 10, 3) := by decide +kernel
theorem dX4_blind_49 : decode cX4_blind 49 = .ok (.iload_n 2, 1) := by decide +kernel
theorem dX4_blind_50 : decode cX4_blind 50 = .ok (.invokevirtual 118, 3) := by decide +kernel
theorem dX4_blind_53 : decode cX4_blind 53 = .ok (.lreturn, 1) := by decide +kernel
theorem dX4_pays_0 : decode cX4_pays 0 = .ok (.iload_n 1, 1) := by decide +kernel
theorem dX4_pays_1 : decode cX4_pays 1 = .ok (.invokestatic 74, 3) := by decide +kernel
theorem dX4_pays_4 : decode cX4_pays 4 = .ok (.ifCond .eq 14, 3) := by decide +kernel
theorem dX4_pays_7 : decode cX4_pays 7 = .ok (.aload_n 0, 1) := by decide +kernel
theorem dX4_pays_8 : decode cX4_pays 8 = .ok (.getfield 10, 3) := by decide +kernel
theorem dX4_pays_11 : decode cX4_pays 11 = .ok (.iload_n 2, 1) := by decide +kernel
theorem dX4_pays_12 : decode cX4_pays 12 = .ok (.invokevirtual 56, 3) := by decide +kernel
theorem dX4_pays_15 : decode cX4_pays 15 = .ok (.ifCond .ne 7, 3) := by decide +kernel
theorem dX4_pays_18 : decode cX4_pays 18 = .ok (.ldc2_w 122, 3) := by decide +kernel
theorem dX4_pays_21 : decode cX4_pays 21 = .ok (.lreturn, 1) := by decide +kernel
theorem dX4_pays_22 : decode cX4_pays 22 = .ok (.aload_n 0, 1) := by decide +kernel
theorem dX4_pays_23 : decode cX4_pays 23 = .ok (.getfield 37, 3) := by decide +kernel
theorem dX4_pays_26 : decode cX4_pays 26 = .ok (.aload_n 0, 1) := by decide +kernel
theorem dX4_pays_27 : decode cX4_pays 27 = .ok (.getfield 10, 3) := by decide +kernel
theorem dX4_pays_30 : decode cX4_pays 30 = .ok (.iload_n 2, 1) := by decide +kernel
theorem dX4_pays_31 : decode cX4_pays 31 = .ok (.iload_n 1, 1) := by decide +kernel
theorem dX4_pays_32 : decode cX4_pays 32 = .ok (.invokevirtual 143, 3) := by decide +kernel
theorem dX4_pays_35 : decode cX4_pays 35 = .ok (.lreturn, 1) := by decide +kernel
theorem dX4_about_0 : decode cX4_about 0 = .ok (.iload_n 2, 1) := by decide +kernel
theorem dX4_about_1 : decode cX4_about 1 = .ok (.bipush 10, 2) := by decide +kernel
theorem dX4_about_3 : decode cX4_about 3 = .ok (.if_icmp .lt 25, 3) := by decide +kernel
theorem dX4_about_6 : decode cX4_about 6 = .ok (.aload_n 0, 1) := by decide +kernel
theorem dX4_about_7 : decode cX4_about 7 = .ok (.getfield 10, 3) := by decide +kernel
theorem dX4_about_10 : decode cX4_about 10 = .ok (.iload_n 1, 1) := by decide +kernel
theorem dX4_about_11 : decode cX4_about 11 = .ok (.invokevirtual 56, 3) := by decide +kernel
theorem dX4_about_14 : decode cX4_about 14 = .ok (.ifCond .eq 12, 3) := by decide +kernel
theorem dX4_about_17 : decode cX4_about 17 = .ok (.aload_n 0, 1) := by decide +kernel
theorem dX4_about_18 : decode cX4_about 18 = .ok (.iload_n 1, 1) := by decide +kernel
theorem dX4_about_19 : decode cX4_about 19 = .ok (.iload_n 2, 1) := by decide +kernel
theorem dX4_about_20 : decode cX4_about 20 = .ok (.invokevirtual 147, 3) := by decide +kernel
theorem dX4_about_23 : decode cX4_about 23 = .ok (.goto 4, 3) := by decide +kernel
theorem dX4_about_26 : decode cX4_about 26 = .ok (.iconst (-1), 1) := by decide +kernel
theorem dX4_about_27 : decode cX4_about 27 = .ok (.ireturn, 1) := by decide +kernel
theorem dX4_about_28 : decode cX4_about 28 = .ok (.aload_n 0, 1) := by decide +kernel
theorem dX4_about_29 : decode cX4_about 29 = .ok (.getfield 10, 3) := by decide +kernel
theorem dX4_about_32 : decode cX4_about 32 = .ok (.iload_n 1, 1) := by decide +kernel
theorem dX4_about_33 : decode cX4_about 33 = .ok (.invokevirtual 67, 3) := by decide +kernel
theorem dX4_about_36 : decode cX4_about 36 = .ok (.ifCond .eq 12, 3) := by decide +kernel
theorem dX4_about_39 : decode cX4_about 39 = .ok (.aload_n 0, 1) := by decide +kernel
theorem dX4_about_40 : decode cX4_about 40 = .ok (.iload_n 1, 1) := by decide +kernel
theorem dX4_about_41 : decode cX4_about 41 = .ok (.iload_n 2, 1) := by decide +kernel
theorem dX4_about_42 : decode cX4_about 42 = .ok (.invokevirtual 150, 3) := by decide +kernel
theorem dX4_about_45 : decode cX4_about 45 = .ok (.goto 4, 3) := by decide +kernel
theorem dX4_about_48 : decode cX4_about 48 = .ok (.iconst (-1), 1) := by decide +kernel
theorem dX4_about_49 : decode cX4_about 49 = .ok (.ireturn, 1) := by decide +kernel
theorem dX4_count_0 : decode cX4_count 0 = .ok (.iload_n 1, 1) := by decide +kernel
theorem dX4_count_1 : decode cX4_count 1 = .ok (.tableswitch 51 0 2 #[27, 35, 43], 27) := by decide +kernel
theorem dX4_count_28 : decode cX4_count 28 = .ok (.aload_n 0, 1) := by decide +kernel
theorem dX4_count_29 : decode cX4_count 29 = .ok (.getfield 10, 3) := by decide +kernel
theorem dX4_count_32 : decode cX4_count 32 = .ok (.getfield 84, 3) := by decide +kernel
theorem dX4_count_35 : decode cX4_count 35 = .ok (.ireturn, 1) := by decide +kernel
theorem dX4_count_36 : decode cX4_count 36 = .ok (.aload_n 0, 1) := by decide +kernel
theorem dX4_count_37 : decode cX4_count 37 = .ok (.getfield 10, 3) := by decide +kernel
theorem dX4_count_40 : decode cX4_count 40 = .ok (.getfield 45, 3) := by decide +kernel
theorem dX4_count_43 : decode cX4_count 43 = .ok (.ireturn, 1) := by decide +kernel
theorem dX4_count_44 : decode cX4_count 44 = .ok (.aload_n 0, 1) := by decide +kernel
theorem dX4_count_45 : decode cX4_count 45 = .ok (.getfield 10, 3) := by decide +kernel
theorem dX4_count_48 : decode cX4_count 48 = .ok (.getfield 53, 3) := by decide +kernel
theorem dX4_count_51 : decode cX4_count 51 = .ok (.ireturn, 1) := by decide +kernel
theorem dX4_count_52 : decode cX4_count 52 = .ok (.iconst (-1), 1) := by decide +kernel
theorem dX4_count_53 : decode cX4_count 53 = .ok (.ireturn, 1) := by decide +kernel
theorem dX4_image_0 : decode cX4_image 0 = .ok (.iload_n 1, 1) := by decide +kernel
theorem dX4_image_1 : decode cX4_image 1 = .ok (.ifCond .lt 8, 3) := by decide +kernel
theorem dX4_image_4 : decode cX4_image 4 = .ok (.iload_n 1, 1) := by decide +kernel
theorem dX4_image_5 : decode cX4_image 5 = .ok (.iconst 3, 1) := by decide +kernel
theorem dX4_image_6 : decode cX4_image 6 = .ok (.if_icmp .lt 5, 3) := by decide +kernel
theorem dX4_image_9 : decode cX4_image 9 = .ok (.iconst 0, 1) := by decide +kernel
theorem dX4_image_10 : decode cX4_image 10 = .ok (.ireturn, 1) := by decide +kernel
theorem dX4_image_11 : decode cX4_image 11 = .ok (.aload_n 0, 1) := by decide +kernel
theorem dX4_image_12 : decode cX4_image 12 = .ok (.getfield 16, 3) := by decide +kernel
theorem dX4_image_15 : decode cX4_image 15 = .ok (.iload_n 1, 1) := by decide +kernel
theorem dX4_image_16 : decode cX4_image 16 = .ok (.aaload, 1) := by decide +kernel
theorem dX4_image_17 : decode cX4_image 17 = .ok (.ifnonnull 16, 3) := by decide +kernel
theorem dX4_image_20 : decode cX4_image 20 = .ok (.aload_n 0, 1) := by decide +kernel
theorem dX4_image_21 : decode cX4_image 21 = .ok (.getfield 16, 3) := by decide +kernel
theorem dX4_image_24 : decode cX4_image 24 = .ok (.iload_n 1, 1) := by decide +kernel
theorem dX4_image_25 : decode cX4_image 25 = .ok (.new 7, 3) := by decide +kernel
theorem dX4_image_28 : decode cX4_image 28 = .ok (.dup, 1) := by decide +kernel
theorem dX4_image_29 : decode cX4_image 29 = .ok (.invokespecial 9, 3) := by decide +kernel
theorem dX4_image_32 : decode cX4_image 32 = .ok (.aastore, 1) := by decide +kernel
theorem dX4_image_33 : decode cX4_image 33 = .ok (.aload_n 0, 1) := by decide +kernel
theorem dX4_image_34 : decode cX4_image 34 = .ok (.getfield 16, 3) := by decide +kernel
theorem dX4_image_37 : decode cX4_image 37 = .ok (.iload_n 1, 1) := by decide +kernel
theorem dX4_image_38 : decode cX4_image 38 = .ok (.aaload, 1) := by decide +kernel
theorem dX4_image_39 : decode cX4_image 39 = .ok (.aload_n 0, 1) := by decide +kernel
theorem dX4_image_40 : decode cX4_image 40 = .ok (.getfield 10, 3) := by decide +kernel
theorem dX4_image_43 : decode cX4_image 43 = .ok (.invokevirtual 153, 3) := by decide +kernel
theorem dX4_image_46 : decode cX4_image 46 = .ok (.iconst 1, 1) := by decide +kernel
theorem dX4_image_47 : decode cX4_image 47 = .ok (.ireturn, 1) := by decide +kernel
theorem dX4_again_0 : decode cX4_again 0 = .ok (.iload_n 1, 1) := by decide +kernel
theorem dX4_again_1 : decode cX4_again 1 = .ok (.ifCond .lt 17, 3) := by decide +kernel
theorem dX4_again_4 : decode cX4_again 4 = .ok (.iload_n 1, 1) := by decide +kernel
theorem dX4_again_5 : decode cX4_again 5 = .ok (.iconst 3, 1) := by decide +kernel
theorem dX4_again_6 : decode cX4_again 6 = .ok (.if_icmp .ge 12, 3) := by decide +kernel
theorem dX4_again_9 : decode cX4_again 9 = .ok (.aload_n 0, 1) := by decide +kernel
theorem dX4_again_10 : decode cX4_again 10 = .ok (.getfield 16, 3) := by decide +kernel
theorem dX4_again_13 : decode cX4_again 13 = .ok (.iload_n 1, 1) := by decide +kernel
theorem dX4_again_14 : decode cX4_again 14 = .ok (.aaload, 1) := by decide +kernel
theorem dX4_again_15 : decode cX4_again 15 = .ok (.ifnonnull 5, 3) := by decide +kernel
theorem dX4_again_18 : decode cX4_again 18 = .ok (.iconst 0, 1) := by decide +kernel
theorem dX4_again_19 : decode cX4_again 19 = .ok (.ireturn, 1) := by decide +kernel
theorem dX4_again_20 : decode cX4_again 20 = .ok (.aload_n 0, 1) := by decide +kernel
theorem dX4_again_21 : decode cX4_again 21 = .ok (.getfield 10, 3) := by decide +kernel
theorem dX4_again_24 : decode cX4_again 24 = .ok (.aload_n 0, 1) := by decide +kernel
theorem dX4_again_25 : decode cX4_again 25 = .ok (.getfield 16, 3) := by decide +kernel
theorem dX4_again_28 : decode cX4_again 28 = .ok (.iload_n 1, 1) := by decide +kernel
theorem dX4_again_29 : decode cX4_again 29 = .ok (.aaload, 1) := by decide +kernel
theorem dX4_again_30 : decode cX4_again 30 = .ok (.invokevirtual 153, 3) := by decide +kernel
theorem dX4_again_33 : decode cX4_again 33 = .ok (.iconst 1, 1) := by decide +kernel
theorem dX4_again_34 : decode cX4_again 34 = .ok (.ireturn, 1) := by decide +kernel
theorem dX4_tellOfOne_0 : decode cX4_tellOfOne 0 = .ok (.iload_n 3, 1) := by decide +kernel
theorem dX4_tellOfOne_1 : decode cX4_tellOfOne 1 = .ok (.bipush 10, 2) := by decide +kernel
theorem dX4_tellOfOne_3 : decode cX4_tellOfOne 3 = .ok (.if_icmp .lt 23, 3) := by decide +kernel
theorem dX4_tellOfOne_6 : decode cX4_tellOfOne 6 = .ok (.iload_n 3, 1) := by decide +kernel
theorem dX4_tellOfOne_7 : decode cX4_tellOfOne 7 = .ok (.bipush 14, 2) := by decide +kernel
theorem dX4_tellOfOne_9 : decode cX4_tellOfOne 9 = .ok (.if_icmp .ge 17, 3) := by decide +kernel
theorem dX4_tellOfOne_12 : decode cX4_tellOfOne 12 = .ok (.aload_n 0, 1) := by decide +kernel
theorem dX4_tellOfOne_13 : decode cX4_tellOfOne 13 = .ok (.getfield 10, 3) := by decide +kernel
theorem dX4_tellOfOne_16 : decode cX4_tellOfOne 16 = .ok (.iload_n 3, 1) := by decide +kernel
theorem dX4_tellOfOne_17 : decode cX4_tellOfOne 17 = .ok (.bipush 10, 2) := by decide +kernel
theorem dX4_tellOfOne_19 : decode cX4_tellOfOne 19 = .ok (.isub, 1) := by decide +kernel
theorem dX4_tellOfOne_20 : decode cX4_tellOfOne 20 = .ok (.iload_n 1, 1) := by decide +kernel
theorem dX4_tellOfOne_21 : decode cX4_tellOfOne 21 = .ok (.iload_n 2, 1) := by decide +kernel
theorem dX4_tellOfOne_22 : decode cX4_tellOfOne 22 = .ok (.invokevirtual 157, 3) := by decide +kernel
theorem dX4_tellOfOne_25 : decode cX4_tellOfOne 25 = .ok (.ireturn, 1) := by decide +kernel
theorem dX4_tellOfOne_26 : decode cX4_tellOfOne 26 = .ok (.iload_n 3, 1) := by decide +kernel
theorem dX4_tellOfOne_27 : decode cX4_tellOfOne 27 = .ok (.bipush 20, 2) := by decide +kernel
theorem dX4_tellOfOne_29 : decode cX4_tellOfOne 29 = .ok (.if_icmp .lt 37, 3) := by decide +kernel
theorem dX4_tellOfOne_32 : decode cX4_tellOfOne 32 = .ok (.iload_n 3, 1) := by decide +kernel
theorem dX4_tellOfOne_33 : decode cX4_tellOfOne 33 = .ok (.bipush 26, 2) := by decide +kernel
theorem dX4_tellOfOne_35 : decode cX4_tellOfOne 35 = .ok (.if_icmp .ge 31, 3) := by decide +kernel
theorem dX4_tellOfOne_38 : decode cX4_tellOfOne 38 = .ok (.aload_n 0, 1) := by decide +kernel
theorem dX4_tellOfOne_39 : decode cX4_tellOfOne 39 = .ok (.getfield 10, 3) := by decide +kernel
theorem dX4_tellOfOne_42 : decode cX4_tellOfOne 42 = .ok (.iload_n 3, 1) := by decide +kernel
theorem dX4_tellOfOne_43 : decode cX4_tellOfOne 43 = .ok (.bipush 20, 2) := by decide +kernel
theorem dX4_tellOfOne_45 : decode cX4_tellOfOne 45 = .ok (.isub, 1) := by decide +kernel
theorem dX4_tellOfOne_46 : decode cX4_tellOfOne 46 = .ok (.iload_n 1, 1) := by decide +kernel
theorem dX4_tellOfOne_47 : decode cX4_tellOfOne 47 = .ok (.invokevirtual 160, 3) := by decide +kernel
theorem dX4_tellOfOne_50 : decode cX4_tellOfOne 50 = .ok (.ifCond .eq 16, 3) := by decide +kernel
theorem dX4_tellOfOne_53 : decode cX4_tellOfOne 53 = .ok (.aload_n 0, 1) := by decide +kernel
theorem dX4_tellOfOne_54 : decode cX4_tellOfOne 54 = .ok (.getfield 10, 3) := by decide +kernel
theorem dX4_tellOfOne_57 : decode cX4_tellOfOne 57 = .ok (.iload_n 3, 1) := by decide +kernel
theorem dX4_tellOfOne_58 : decode cX4_tellOfOne 58 = .ok (.bipush 20, 2) := by decide +kernel
theorem dX4_tellOfOne_60 : decode cX4_tellOfOne 60 = .ok (.isub, 1) := by decide +kernel
theorem dX4_tellOfOne_61 : decode cX4_tellOfOne 61 = .ok (.iload_n 2, 1) := by decide +kernel
theorem dX4_tellOfOne_62 : decode cX4_tellOfOne 62 = .ok (.invokevirtual 164, 3) := by decide +kernel
theorem dX4_tellOfOne_65 : decode cX4_tellOfOne 65 = .ok (.ireturn, 1) := by decide +kernel
theorem dX4_tellOfOne_66 : decode cX4_tellOfOne 66 = .ok (.iconst (-1), 1) := by decide +kernel
theorem dX4_tellOfOne_67 : decode cX4_tellOfOne 67 = .ok (.ireturn, 1) := by decide +kernel
theorem dX4_aboutOffer_0 : decode cX4_aboutOffer 0 = .ok (.iload_n 2, 1) := by decide +kernel
theorem dX4_aboutOffer_1 : decode cX4_aboutOffer 1 = .ok (.tableswitch 70 0 3 #[31, 41, 51, 61], 31) := by decide +kernel
theorem dX4_aboutOffer_32 : decode cX4_aboutOffer 32 = .ok (.aload_n 0, 1) := by decide +kernel
theorem dX4_aboutOffer_33 : decode cX4_aboutOffer 33 = .ok (.getfield 10, 3) := by decide +kernel
theorem dX4_aboutOffer_36 : decode cX4_aboutOffer 36 = .ok (.getfield 136, 3) := by decide +kernel
theorem dX4_aboutOffer_39 : decode cX4_aboutOffer 39 = .ok (.iload_n 1, 1) := by decide +kernel
theorem dX4_aboutOffer_40 : decode cX4_aboutOffer 40 = .ok (.iaload, 1) := by decide +kernel
theorem dX4_aboutOffer_41 : decode cX4_aboutOffer 41 = .ok (.ireturn, 1) := by decide +kernel
theorem dX4_aboutOffer_42 : decode cX4_aboutOffer 42 = .ok (.aload_n 0, 1) := by decide +kernel
theorem dX4_aboutOffer_43 : decode cX4_aboutOffer 43 = .ok (.getfield 10, 3) := by decide +kernel
theorem dX4_aboutOffer_46 : decode cX4_aboutOffer 46 = .ok (.getfield 167, 3) := by decide +kernel
theorem dX4_aboutOffer_49 : decode cX4_aboutOffer 49 = .ok (.iload_n 1, 1) := by decide +kernel
theorem dX4_aboutOffer_50 : decode cX4_aboutOffer 50 = .ok (.iaload, 1) := by decide +kernel
theorem dX4_aboutOffer_51 : decode cX4_aboutOffer 51 = .ok (.ireturn, 1) := by decide +kernel
theorem dX4_aboutOffer_52 : decode cX4_aboutOffer 52 = .ok (.aload_n 0, 1) := by decide +kernel
theorem dX4_aboutOffer_53 : decode cX4_aboutOffer 53 = .ok (.getfield 10, 3) := by decide +kernel
theorem dX4_aboutOffer_56 : decode cX4_aboutOffer 56 = .ok (.getfield 70, 3) := by decide +kernel
theorem dX4_aboutOffer_59 : decode cX4_aboutOffer 59 = .ok (.iload_n 1, 1) := by decide +kernel
theorem dX4_aboutOffer_60 : decode cX4_aboutOffer 60 = .ok (.iaload, 1) := by decide +kernel
theorem dX4_aboutOffer_61 : decode cX4_aboutOffer 61 = .ok (.ireturn, 1) := by decide +kernel
theorem dX4_aboutOffer_62 : decode cX4_aboutOffer 62 = .ok (.aload_n 0, 1) := by decide +kernel
theorem dX4_aboutOffer_63 : decode cX4_aboutOffer 63 = .ok (.getfield 10, 3) := by decide +kernel
theorem dX4_aboutOffer_66 : decode cX4_aboutOffer 66 = .ok (.iload_n 1, 1) := by decide +kernel
theorem dX4_aboutOffer_67 : decode cX4_aboutOffer 67 = .ok (.invokevirtual 170, 3) := by decide +kernel
theorem dX4_aboutOffer_70 : decode cX4_aboutOffer 70 = .ok (.ireturn, 1) := by decide +kernel
theorem dX4_aboutOffer_71 : decode cX4_aboutOffer 71 = .ok (.iconst (-1), 1) := by decide +kernel
theorem dX4_aboutOffer_72 : decode cX4_aboutOffer 72 = .ok (.ireturn, 1) := by decide +kernel
theorem dX4_aboutKind_0 : decode cX4_aboutKind 0 = .ok (.iload_n 2, 1) := by decide +kernel
theorem dX4_aboutKind_1 : decode cX4_aboutKind 1 = .ok (.tableswitch 68 10 13 #[31, 41, 50, 59], 31) := by decide +kernel
theorem dX4_aboutKind_32 : decode cX4_aboutKind 32 = .ok (.aload_n 0, 1) := by decide +kernel
theorem dX4_aboutKind_33 : decode cX4_aboutKind 33 = .ok (.getfield 10, 3) := by decide +kernel
theorem dX4_aboutKind_36 : decode cX4_aboutKind 36 = .ok (.getfield 173, 3) := by decide +kernel
theorem dX4_aboutKind_39 : decode cX4_aboutKind 39 = .ok (.iload_n 1, 1) := by decide +kernel
theorem dX4_aboutKind_40 : decode cX4_aboutKind 40 = .ok (.iaload, 1) := by decide +kernel
theorem dX4_aboutKind_41 : decode cX4_aboutKind 41 = .ok (.ireturn, 1) := by decide +kernel
theorem dX4_aboutKind_42 : decode cX4_aboutKind 42 = .ok (.aload_n 0, 1) := by decide +kernel
theorem dX4_aboutKind_43 : decode cX4_aboutKind 43 = .ok (.getfield 10, 3) := by decide +kernel
theorem dX4_aboutKind_46 : decode cX4_aboutKind 46 = .ok (.iload_n 1, 1) := by decide +kernel
theorem dX4_aboutKind_47 : decode cX4_aboutKind 47 = .ok (.invokevirtual 176, 3) := by decide +kernel
theorem dX4_aboutKind_50 : decode cX4_aboutKind 50 = .ok (.ireturn, 1) := by decide +kernel
theorem dX4_aboutKind_51 : decode cX4_aboutKind 51 = .ok (.aload_n 0, 1) := by decide +kernel
theorem dX4_aboutKind_52 : decode cX4_aboutKind 52 = .ok (.getfield 10, 3) := by decide +kernel
theorem dX4_aboutKind_55 : decode cX4_aboutKind 55 = .ok (.iload_n 1, 1) := by decide +kernel
theorem dX4_aboutKind_56 : decode cX4_aboutKind 56 = .ok (.invokevirtual 179, 3) := by decide +kernel
theorem dX4_aboutKind_59 : decode cX4_aboutKind 59 = .ok (.ireturn, 1) := by decide +kernel
theorem dX4_aboutKind_60 : decode cX4_aboutKind 60 = .ok (.aload_n 0, 1) := by decide +kernel
theorem dX4_aboutKind_61 : decode cX4_aboutKind 61 = .ok (.getfield 10, 3) := by decide +kernel
theorem dX4_aboutKind_64 : decode cX4_aboutKind 64 = .ok (.iload_n 1, 1) := by decide +kernel
theorem dX4_aboutKind_65 : decode cX4_aboutKind 65 = .ok (.invokevirtual 182, 3) := by decide +kernel
theorem dX4_aboutKind_68 : decode cX4_aboutKind 68 = .ok (.ireturn, 1) := by decide +kernel
theorem dX4_aboutKind_69 : decode cX4_aboutKind 69 = .ok (.iconst (-1), 1) := by decide +kernel
theorem dX4_aboutKind_70 : decode cX4_aboutKind 70 = .ok (.ireturn, 1) := by decide +kernel
theorem dX4_isOwner_0 : decode cX4_isOwner 0 = .ok (.iload_n 0, 1) := by decide +kernel
theorem dX4_isOwner_1 : decode cX4_isOwner 1 = .ok (.ifCond .lt 12, 3) := by decide +kernel
theorem dX4_isOwner_4 : decode cX4_isOwner 4 = .ok (.iload_n 0, 1) := by decide +kernel
theorem dX4_isOwner_5 : decode cX4_isOwner 5 = .ok (.iconst 4, 1) := by decide +kernel
theorem dX4_isOwner_6 : decode cX4_isOwner 6 = .ok (.if_icmp .ge 7, 3) := by decide +kernel
theorem dX4_isOwner_9 : decode cX4_isOwner 9 = .ok (.iconst 1, 1) := by decide +kernel
theorem dX4_isOwner_10 : decode cX4_isOwner 10 = .ok (.goto 4, 3) := by decide +kernel
theorem dX4_isOwner_13 : decode cX4_isOwner 13 = .ok (.iconst 0, 1) := by decide +kernel
theorem dX4_isOwner_14 : decode cX4_isOwner 14 = .ok (.ireturn, 1) := by decide +kernel
theorem dX4_isCost_0 : decode cX4_isCost 0 = .ok (.iload_n 0, 1) := by decide +kernel
theorem dX4_isCost_1 : decode cX4_isCost 1 = .ok (.ifCond .lt 13, 3) := by decide +kernel
theorem dX4_isCost_4 : decode cX4_isCost 4 = .ok (.iload_n 0, 1) := by decide +kernel
theorem dX4_isCost_5 : decode cX4_isCost 5 = .ok (.ldc 185, 2) := by decide +kernel
theorem dX4_isCost_7 : decode cX4_isCost 7 = .ok (.if_icmp .gt 7, 3) := by decide +kernel
theorem dX4_isCost_10 : decode cX4_isCost 10 = .ok (.iconst 1, 1) := by decide +kernel
theorem dX4_isCost_11 : decode cX4_isCost 11 = .ok (.goto 4, 3) := by decide +kernel
theorem dX4_isCost_14 : decode cX4_isCost 14 = .ok (.iconst 0, 1) := by decide +kernel
theorem dX4_isCost_15 : decode cX4_isCost 15 = .ok (.ireturn, 1) := by decide +kernel
theorem dX4_areNeeds_0 : decode cX4_areNeeds 0 = .ok (.iconst 0, 1) := by decide +kernel
theorem dX4_areNeeds_1 : decode cX4_areNeeds 1 = .ok (.istore_n 1, 1) := by decide +kernel
theorem dX4_areNeeds_2 : decode cX4_areNeeds 2 = .ok (.iload_n 1, 1) := by decide +kernel
theorem dX4_areNeeds_3 : decode cX4_areNeeds 3 = .ok (.bipush 8, 2) := by decide +kernel
theorem dX4_areNeeds_5 : decode cX4_areNeeds 5 = .ok (.if_icmp .ge 21, 3) := by decide +kernel
theorem dX4_areNeeds_8 : decode cX4_areNeeds 8 = .ok (.iload_n 0, 1) := by decide +kernel
theorem dX4_areNeeds_9 : decode cX4_areNeeds 9 = .ok (.iload_n 1, 1) := by decide +kernel
theorem dX4_areNeeds_10 : decode cX4_areNeeds 10 = .ok (.invokestatic 90, 3) := by decide +kernel
theorem dX4_areNeeds_13 : decode cX4_areNeeds 13 = .ok (.bipush 9, 2) := by decide +kernel
theorem dX4_areNeeds_15 : decode cX4_areNeeds 15 = .ok (.if_icmp .le 5, 3) := by decide +kernel
theorem dX4_areNeeds_18 : decode cX4_areNeeds 18 = .ok (.iconst 0, 1) := by decide +kernel
theorem dX4_areNeeds_19 : decode cX4_areNeeds 19 = .ok (.ireturn, 1) := by decide +kernel
theorem dX4_areNeeds_20 : decode cX4_areNeeds 20 = .ok (.iinc 1 1, 3) := by decide +kernel
theorem dX4_areNeeds_23 : decode cX4_areNeeds 23 = .ok (.goto (-21), 3) := by decide +kernel
theorem dX4_areNeeds_26 : decode cX4_areNeeds 26 = .ok (.iconst 1, 1) := by decide +kernel
theorem dX4_areNeeds_27 : decode cX4_areNeeds 27 = .ok (.ireturn, 1) := by decide +kernel
theorem dX4_halfByte_0 : decode cX4_halfByte 0 = .ok (.iload_n 0, 1) := by decide +kernel
theorem dX4_halfByte_1 : decode cX4_halfByte 1 = .ok (.bipush 28, 2) := by decide +kernel
theorem dX4_halfByte_3 : decode cX4_halfByte 3 = .ok (.iconst 4, 1) := by decide +kernel
theorem dX4_halfByte_4 : decode cX4_halfByte 4 = .ok (.iload_n 1, 1) := by decide +kernel
theorem dX4_halfByte_5 : decode cX4_halfByte 5 = .ok (.imul, 1) := by decide +kernel
theorem dX4_halfByte_6 : decode cX4_halfByte 6 = .ok (.isub, 1) := by decide +kernel
theorem dX4_halfByte_7 : decode cX4_halfByte 7 = .ok (.iushr, 1) := by decide +kernel
theorem dX4_halfByte_8 : decode cX4_halfByte 8 = .ok (.bipush 15, 2) := by decide +kernel
theorem dX4_halfByte_10 : decode cX4_halfByte 10 = .ok (.iand, 1) := by decide +kernel
theorem dX4_halfByte_11 : decode cX4_halfByte 11 = .ok (.ireturn, 1) := by decide +kernel

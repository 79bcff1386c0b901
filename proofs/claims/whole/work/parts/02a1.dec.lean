/-! DECODE rows (printed) -/
theorem dX0_init_0 : decode cX0_init 0 = .ok (.aload_n 0, 1) := by decide +kernel
theorem dX0_init_1 : decode cX0_init 1 = .ok (.invokespecial 1, 3) := by decide +kernel
theorem dX0_init_4 : decode cX0_init 4 = .ok (.aload_n 0, 1) := by decide +kernel
theorem dX0_init_5 : decode cX0_init 5 = .ok (.iload_n 1, 1) := by decide +kernel
theorem dX0_init_6 : decode cX0_init 6 = .ok (.putfield 7, 3) := by decide +kernel
theorem dX0_init_9 : decode cX0_init 9 = .ok (.aload_n 0, 1) := by decide +kernel
theorem dX0_init_10 : decode cX0_init 10 = .ok (.iload_n 2, 1) := by decide +kernel
theorem dX0_init_11 : decode cX0_init 11 = .ok (.putfield 13, 3) := by decide +kernel
theorem dX0_init_14 : decode cX0_init 14 = .ok (.aload_n 0, 1) := by decide +kernel
theorem dX0_init_15 : decode cX0_init 15 = .ok (.iload_n 3, 1) := by decide +kernel
theorem dX0_init_16 : decode cX0_init 16 = .ok (.putfield 16, 3) := by decide +kernel
theorem dX0_init_19 : decode cX0_init 19 = .ok (.aload_n 0, 1) := by decide +kernel
theorem dX0_init_20 : decode cX0_init 20 = .ok (.iload 4, 2) := by decide +kernel
theorem dX0_init_22 : decode cX0_init 22 = .ok (.putfield 19, 3) := by decide +kernel
theorem dX0_init_25 : decode cX0_init 25 = .ok (.aload_n 0, 1) := by decide +kernel
theorem dX0_init_26 : decode cX0_init 26 = .ok (.iload 5, 2) := by decide +kernel
theorem dX0_init_28 : decode cX0_init 28 = .ok (.putfield 22, 3) := by decide +kernel
theorem dX0_init_31 : decode cX0_init 31 = .ok (.aload_n 0, 1) := by decide +kernel
theorem dX0_init_32 : decode cX0_init 32 = .ok (.iload 6, 2) := by decide +kernel
theorem dX0_init_34 : decode cX0_init 34 = .ok (.putfield 25, 3) := by decide +kernel
theorem dX0_init_37 : decode cX0_init 37 = .ok (.aload_n 0, 1) := by decide +kernel
theorem dX0_init_38 : decode cX0_init 38 = .ok (.iconst 1, 1) := by decide +kernel
theorem dX0_init_39 : decode cX0_init 39 = .ok (.iload_n 1, 1) := by decide +kernel
theorem dX0_init_40 : decode cX0_init 40 = .ok (.ishl, 1) := by decide +kernel
theorem dX0_init_41 : decode cX0_init 41 = .ok (.putfield 29, 3) := by decide +kernel
theorem dX0_init_44 : decode cX0_init 44 = .ok (.return_, 1) := by decide +kernel
theorem dX0_isUnlawfulFire_0 : decode cX0_isUnlawfulFire 0 = .ok (.aload_n 0, 1) := by decide +kernel
theorem dX0_isUnlawfulFire_1 : decode cX0_isUnlawfulFire 1 = .ok (.getfield 25, 3) := by decide +kernel
theorem dX0_isUnlawfulFire_4 : decode cX0_isUnlawfulFire 4 = .ok (.ifCond .eq 14, 3) := by decide +kernel
theorem dX0_isUnlawfulFire_7 : decode cX0_isUnlawfulFire 7 = .ok (.aload_n 0, 1) := by decide +kernel
theorem dX0_isUnlawfulFire_8 : decode cX0_isUnlawfulFire 8 = .ok (.getfield 32, 3) := by decide +kernel
theorem dX0_isUnlawfulFire_11 : decode cX0_isUnlawfulFire 11 = .ok (.ifCond .ne 7, 3) := by decide +kernel
theorem dX0_isUnlawfulFire_14 : decode cX0_isUnlawfulFire 14 = .ok (.iconst 1, 1) := by decide +kernel
theorem dX0_isUnlawfulFire_15 : decode cX0_isUnlawfulFire 15 = .ok (.goto 4, 3) := by decide +kernel
theorem dX0_isUnlawfulFire_18 : decode cX0_isUnlawfulFire 18 = .ok (.iconst 0, 1) := by decide +kernel
theorem dX0_isUnlawfulFire_19 : decode cX0_isUnlawfulFire 19 = .ok (.ireturn, 1) := by decide +kernel
theorem dX1_init_0 : decode cX1_init 0 = .ok (.aload_n 0, 1) := by decide +kernel
theorem dX1_init_1 : decode cX1_init 1 = .ok (.invokespecial 3, 3) := by decide +kernel
theorem dX1_init_4 : decode cX1_init 4 = .ok (.aload_n 0, 1) := by decide +kernel
theorem dX1_init_5 : decode cX1_init 5 = .ok (.bipush 8, 2) := by decide +kernel
theorem dX1_init_7 : decode cX1_init 7 = .ok (.newarray .int, 2) := by decide +kernel
theorem dX1_init_9 : decode cX1_init 9 = .ok (.putfield 9, 3) := by decide +kernel
theorem dX1_init_12 : decode cX1_init 12 = .ok (.aload_n 0, 1) := by decide +kernel
theorem dX1_init_13 : decode cX1_init 13 = .ok (.sipush 256, 3) := by decide +kernel
theorem dX1_init_16 : decode cX1_init 16 = .ok (.newarray .int, 2) := by decide +kernel
theorem dX1_init_18 : decode cX1_init 18 = .ok (.putfield 15, 3) := by decide +kernel
theorem dX1_init_21 : decode cX1_init 21 = .ok (.return_, 1) := by decide +kernel
theorem dX1_has_0 : decode cX1_has 0 = .ok (.aload_n 0, 1) := by decide +kernel
theorem dX1_has_1 : decode cX1_has 1 = .ok (.getfield 9, 3) := by decide +kernel
theorem dX1_has_4 : decode cX1_has 4 = .ok (.iload_n 2, 1) := by decide +kernel
theorem dX1_has_5 : decode cX1_has 5 = .ok (.iaload, 1) := by decide +kernel
theorem dX1_has_6 : decode cX1_has 6 = .ok (.iconst 1, 1) := by decide +kernel
theorem dX1_has_7 : decode cX1_has 7 = .ok (.iload_n 1, 1) := by decide +kernel
theorem dX1_has_8 : decode cX1_has 8 = .ok (.ishl, 1) := by decide +kernel
theorem dX1_has_9 : decode cX1_has 9 = .ok (.iand, 1) := by decide +kernel
theorem dX1_has_10 : decode cX1_has 10 = .ok (.ifCond .eq 7, 3) := by decide +kernel
theorem dX1_has_13 : decode cX1_has 13 = .ok (.iconst 1, 1) := by decide +kernel
theorem dX1_has_14 : decode cX1_has 14 = .ok (.goto 4, 3) := by decide +kernel
theorem dX1_has_17 : decode cX1_has 17 = .ok (.iconst 0, 1) := by decide +kernel
theorem dX1_has_18 : decode cX1_has 18 = .ok (.ireturn, 1) := by decide +kernel
theorem dX1_put_0 : decode cX1_put 0 = .ok (.aload_n 0, 1) := by decide +kernel
theorem dX1_put_1 : decode cX1_put 1 = .ok (.getfield 9, 3) := by decide +kernel
theorem dX1_put_4 : decode cX1_put 4 = .ok (.iload_n 2, 1) := by decide +kernel
theorem dX1_put_5 : decode cX1_put 5 = .ok (.dup2, 1) := by decide +kernel
theorem dX1_put_6 : decode cX1_put 6 = .ok (.iaload, 1) := by decide +kernel
theorem dX1_put_7 : decode cX1_put 7 = .ok (.iconst 1, 1) := by decide +kernel
theorem dX1_put_8 : decode cX1_put 8 = .ok (.iload_n 1, 1) := by decide +kernel
theorem dX1_put_9 : decode cX1_put 9 = .ok (.ishl, 1) := by decide +kernel
theorem dX1_put_10 : decode cX1_put 10 = .ok (.ior, 1) := by decide +kernel
theorem dX1_put_11 : decode cX1_put 11 = .ok (.iastore, 1) := by decide +kernel
theorem dX1_put_12 : decode cX1_put 12 = .ok (.return_, 1) := by decide +kernel
theorem dX1_take_0 : decode cX1_take 0 = .ok (.aload_n 0, 1) := by decide +kernel
theorem dX1_take_1 : decode cX1_take 1 = .ok (.getfield 9, 3) := by decide +kernel
theorem dX1_take_4 : decode cX1_take 4 = .ok (.iload_n 2, 1) := by decide +kernel
theorem dX1_take_5 : decode cX1_take 5 = .ok (.dup2, 1) := by decide +kernel
theorem dX1_take_6 : decode cX1_take 6 = .ok (.iaload, 1) := by decide +kernel
theorem dX1_take_7 : decode cX1_take 7 = .ok (.iconst 1, 1) := by decide +kernel
theorem dX1_take_8 : decode cX1_take 8 = .ok (.iload_n 1, 1) := by decide +kernel
theorem dX1_take_9 : decode cX1_take 9 = .ok (.ishl, 1) := by decide +kernel
theorem dX1_take_10 : decode cX1_take 10 = .ok (.iconst (-1), 1) := by decide +kernel
theorem dX1_take_11 : decode cX1_take 11 = .ok (.ixor, 1) := by decide +kernel
theorem dX1_take_12 : decode cX1_take 12 = .ok (.iand, 1) := by decide +kernel
theorem dX1_take_13 : decode cX1_take 13 = .ok (.iastore, 1) := by decide +kernel
theorem dX1_take_14 : decode cX1_take 14 = .ok (.return_, 1) := by decide +kernel
theorem dX1_leads_0 : decode cX1_leads 0 = .ok (.aload_n 0, 1) := by decide +kernel
theorem dX1_leads_1 : decode cX1_leads 1 = .ok (.getfield 9, 3) := by decide +kernel
theorem dX1_leads_4 : decode cX1_leads 4 = .ok (.iload_n 2, 1) := by decide +kernel
theorem dX1_leads_5 : decode cX1_leads 5 = .ok (.iaload, 1) := by decide +kernel
theorem dX1_leads_6 : decode cX1_leads 6 = .ok (.istore_n 3, 1) := by decide +kernel
theorem dX1_leads_7 : decode cX1_leads 7 = .ok (.iconst 0, 1) := by decide +kernel
theorem dX1_leads_8 : decode cX1_leads 8 = .ok (.istore 4, 2) := by decide +kernel
theorem dX1_leads_10 : decode cX1_leads 10 = .ok (.iload 4, 2) := by decide +kernel
theorem dX1_leads_12 : decode cX1_leads 12 = .ok (.bipush 8, 2) := by decide +kernel
theorem dX1_leads_14 : decode cX1_leads 14 = .ok (.if_icmp .ge 48, 3) := by decide +kernel
theorem dX1_leads_17 : decode cX1_leads 17 = .ok (.iconst 0, 1) := by decide +kernel
theorem dX1_leads_18 : decode cX1_leads 18 = .ok (.istore 5, 2) := by decide +kernel
theorem dX1_leads_20 : decode cX1_leads 20 = .ok (.iload 5, 2) := by decide +kernel
theorem dX1_leads_22 : decode cX1_leads 22 = .ok (.bipush 8, 2) := by decide +kernel
theorem dX1_leads_24 : decode cX1_leads 24 = .ok (.if_icmp .ge 32, 3) := by decide +kernel
theorem dX1_leads_27 : decode cX1_leads 27 = .ok (.iload_n 3, 1) := by decide +kernel
theorem dX1_leads_28 : decode cX1_leads 28 = .ok (.iload_n 3, 1) := by decide +kernel
theorem dX1_leads_29 : decode cX1_leads 29 = .ok (.iconst 1, 1) := by decide +kernel
theorem dX1_leads_30 : decode cX1_leads 30 = .ok (.iload 5, 2) := by decide +kernel
theorem dX1_leads_32 : decode cX1_leads 32 = .ok (.ishl, 1) := by decide +kernel
theorem dX1_leads_33 : decode cX1_leads 33 = .ok (.iand, 1) := by decide +kernel
theorem dX1_leads_34 : decode cX1_leads 34 = .ok (.ifCond .eq 13, 3) := by decide +kernel
theorem dX1_leads_37 : decode cX1_leads 37 = .ok (.aload_n 0, 1) := by decide +kernel
theorem dX1_leads_38 : decode cX1_leads 38 = .ok (.getfield 9, 3) := by decide +kernel
theorem dX1_leads_41 : decode cX1_leads 41 = .ok (.iload 5, 2) := by decide +kernel
theorem dX1_leads_43 : decode cX1_leads 43 = .ok (.iaload, 1) := by decide +kernel
theorem dX1_leads_44 : decode cX1_leads 44 = .ok (.goto 4, 3) := by decide +kernel
theorem dX1_leads_47 : decode cX1_leads 47 = .ok (.iconst 0, 1) := by decide +kernel
theorem dX1_leads_48 : decode cX1_leads 48 = .ok (.ior, 1) := by decide +kernel
theorem dX1_leads_49 : decode cX1_leads 49 = .ok (.istore_n 3, 1) := by decide +kernel
theorem dX1_leads_50 : decode cX1_leads 50 = .ok (.iinc 5 1, 3) := by decide +kernel
theorem dX1_leads_53 : decode cX1_leads 53 = .ok (.goto (-33), 3) := by decide +kernel
theorem dX1_leads_56 : decode cX1_leads 56 = .ok (.iinc 4 1, 3) := by decide +kernel
theorem dX1_leads_59 : decode cX1_leads 59 = .ok (.goto (-49), 3) := by decide +kernel
theorem dX1_leads_62 : decode cX1_leads 62 = .ok (.iload_n 3, 1) := by decide +kernel
theorem dX1_leads_63 : decode cX1_leads 63 = .ok (.iconst 1, 1) := by decide +kernel
theorem dX1_leads_64 : decode cX1_leads 64 = .ok (.iload_n 1, 1) := by decide +kernel
theorem dX1_leads_65 : decode cX1_leads 65 = .ok (.ishl, 1) := by decide +kernel
theorem dX1_leads_66 : decode cX1_leads 66 = .ok (.iand, 1) := by decide +kernel
theorem dX1_leads_67 : decode cX1_leads 67 = .ok (.ifCond .eq 7, 3) := by decide +kernel
theorem dX1_leads_70 : decode cX1_leads 70 = .ok (.iconst 1, 1) := by decide +kernel
theorem dX1_leads_71 : decode cX1_leads 71 = .ok (.goto 4, 3) := by decide +kernel
theorem dX1_leads_74 : decode cX1_leads 74 = .ok (.iconst 0, 1) := by decide +kernel
theorem dX1_leads_75 : decode cX1_leads 75 = .ok (.ireturn, 1) := by decide +kernel
theorem dX1_countOrders_0 : decode cX1_countOrders 0 = .ok (.aload_n 0, 1) := by decide +kernel
theorem dX1_countOrders_1 : decode cX1_countOrders 1 = .ok (.iload_n 1, 1) := by decide +kernel
theorem dX1_countOrders_2 : decode cX1_countOrders 2 = .ok (.invokevirtual 18, 3) := by decide +kernel
theorem dX1_countOrders_5 : decode cX1_countOrders 5 = .ok (.aload_n 0, 1) := by decide +kernel
theorem dX1_countOrders_6 : decode cX1_countOrders 6 = .ok (.getfield 15, 3) := by decide +kernel
theorem dX1_countOrders_9 : decode cX1_countOrders 9 = .ok (.iconst 0, 1) := by decide +kernel
theorem dX1_countOrders_10 : decode cX1_countOrders 10 = .ok (.iaload, 1) := by decide +kernel
theorem dX1_countOrders_11 : decode cX1_countOrders 11 = .ok (.ireturn, 1) := by decide +kernel
theorem dX1_fillWays_0 : decode cX1_fillWays 0 = .ok (.iconst 1, 1) := by decide +kernel
theorem dX1_fillWays_1 : decode cX1_fillWays 1 = .ok (.iload_n 1, 1) := by decide +kernel
theorem dX1_fillWays_2 : decode cX1_fillWays 2 = .ok (.ishl, 1) := by decide +kernel
theorem dX1_fillWays_3 : decode cX1_fillWays 3 = .ok (.iconst 1, 1) := by decide +kernel
theorem dX1_fillWays_4 : decode cX1_fillWays 4 = .ok (.isub, 1) := by decide +kernel
theorem dX1_fillWays_5 : decode cX1_fillWays 5 = .ok (.istore_n 2, 1) := by decide +kernel
theorem dX1_fillWays_6 : decode cX1_fillWays 6 = .ok (.aload_n 0, 1) := by decide +kernel
theorem dX1_fillWays_7 : decode cX1_fillWays 7 = .ok (.getfield 15, 3) := by decide +kernel
theorem dX1_fillWays_10 : decode cX1_fillWays 10 = .ok (.iload_n 2, 1) := by decide +kernel
theorem dX1_fillWays_11 : decode cX1_fillWays 11 = .ok (.iconst 1, 1) := by decide +kernel
theorem dX1_fillWays_12 : decode cX1_fillWays 12 = .ok (.iastore, 1) := by decide +kernel
theorem dX1_fillWays_13 : decode cX1_fillWays 13 = .ok (.iload_n 2, 1) := by decide +kernel
theorem dX1_fillWays_14 : decode cX1_fillWays 14 = .ok (.iconst 1, 1) := by decide +kernel
theorem dX1_fillWays_15 : decode cX1_fillWays 15 = .ok (.isub, 1) := by decide +kernel
theorem dX1_fillWays_16 : decode cX1_fillWays 16 = .ok (.istore_n 3, 1) := by decide +kernel
theorem dX1_fillWays_17 : decode cX1_fillWays 17 = .ok (.iload_n 3, 1) := by decide +kernel
theorem dX1_fillWays_18 : decode cX1_fillWays 18 = .ok (.ifCond .lt 65, 3) := by decide +kernel
theorem dX1_fillWays_21 : decode cX1_fillWays 21 = .ok (.iconst 0, 1) := by decide +kernel
theorem dX1_fillWays_22 : decode cX1_fillWays 22 = .ok (.istore 4, 2) := by decide +kernel
theorem dX1_fillWays_24 : decode cX1_fillWays 24 = .ok (.iconst 0, 1) := by decide +kernel
theorem dX1_fillWays_25 : decode cX1_fillWays 25 = .ok (.istore 5, 2) := by decide +kernel
theorem dX1_fillWays_27 : decode cX1_fillWays 27 = .ok (.iload 5, 2) := by decide +kernel
theorem dX1_fillWays_29 : decode cX1_fillWays 29 = .ok (.iload_n 1, 1) := by decide +kernel
theorem dX1_fillWays_30 : decode cX1_fillWays 30 = .ok (.if_icmp .ge 39, 3) := by decide +kernel
theorem dX1_fillWays_33 : decode cX1_fillWays 33 = .ok (.iload 4, 2) := by decide +kernel
theorem dX1_fillWays_35 : decode cX1_fillWays 35 = .ok (.aload_n 0, 1) := by decide +kernel
theorem dX1_fillWays_36 : decode cX1_fillWays 36 = .ok (.iload 5, 2) := by decide +kernel
theorem dX1_fillWays_38 : decode cX1_fillWays 38 = .ok (.iload_n 3, 1) := by decide +kernel
theorem dX1_fillWays_39 : decode cX1_fillWays 39 = .ok (.invokevirtual 22, 3) := by decide +kernel
theorem dX1_fillWays_42 : decode cX1_fillWays 42 = .ok (.ifCond .eq 17, 3) := by decide +kernel
theorem dX1_fillWays_45 : decode cX1_fillWays 45 = .ok (.aload_n 0, 1) := by decide +kernel
theorem dX1_fillWays_46 : decode cX1_fillWays 46 = .ok (.getfield 15, 3) := by decide +kernel
theorem dX1_fillWays_49 : decode cX1_fillWays 49 = .ok (.iload_n 3, 1) := by decide +kernel
theorem dX1_fillWays_50 : decode cX1_fillWays 50 = .ok (.iconst 1, 1) := by decide +kernel
theorem dX1_fillWays_51 : decode cX1_fillWays 51 = .ok (.iload 5, 2) := by decide +kernel
theorem dX1_fillWays_53 : decode cX1_fillWays 53 = .ok (.ishl, 1) := by decide +kernel
theorem dX1_fillWays_54 : decode cX1_fillWays 54 = .ok (.ior, 1) := by decide +kernel
theorem dX1_fillWays_55 : decode cX1_fillWays 55 = .ok (.iaload, 1) := by decide +kernel
theorem dX1_fillWays_56 : decode cX1_fillWays 56 = .ok (.goto 4, 3) := by decide +kernel
theorem dX1_fillWays_59 : decode cX1_fillWays 59 = .ok (.iconst 0, 1) := by decide +kernel
theorem dX1_fillWays_60 : decode cX1_fillWays 60 = .ok (.iadd, 1) := by decide +kernel
theorem dX1_fillWays_61 : decode cX1_fillWays 61 = .ok (.istore 4, 2) := by decide +kernel
theorem dX1_fillWays_63 : decode cX1_fillWays 63 = .ok (.iinc 5 1, 3) := by decide +kernel
theorem dX1_fillWays_66 : decode cX1_fillWays 66 = .ok (.goto (-39), 3) := by decide +kernel
theorem dX1_fillWays_69 : decode cX1_fillWays 69 = .ok (.aload_n 0, 1) := by decide +kernel
theorem dX1_fillWays_70 : decode cX1_fillWays 70 = .ok (.getfield 15, 3) := by decide +kernel
theorem dX1_fillWays_73 : decode cX1_fillWays 73 = .ok (.iload_n 3, 1) := by decide +kernel
theorem dX1_fillWays_74 : decode cX1_fillWays 74 = .ok (.iload 4, 2) := by decide +kernel
theorem dX1_fillWays_76 : decode cX1_fillWays 76 = .ok (.iastore, 1) := by decide +kernel
theorem dX1_fillWays_77 : decode cX1_fillWays 77 = .ok (.iinc 3 (-1), 3) := by decide +kernel
theorem dX1_fillWays_80 : decode cX1_fillWays 80 = .ok (.goto (-63), 3) := by decide +kernel
theorem dX1_fillWays_83 : decode cX1_fillWays 83 = .ok (.return_, 1) := by decide +kernel
theorem dX1_isNext_0 : decode cX1_isNext 0 = .ok (.iload_n 2, 1) := by decide +kernel
theorem dX1_isNext_1 : decode cX1_isNext 1 = .ok (.iconst 1, 1) := by decide +kernel
theorem dX1_isNext_2 : decode cX1_isNext 2 = .ok (.iload_n 1, 1) := by decide +kernel
theorem dX1_isNext_3 : decode cX1_isNext 3 = .ok (.ishl, 1) := by decide +kernel
theorem dX1_isNext_4 : decode cX1_isNext 4 = .ok (.iand, 1) := by decide +kernel
theorem dX1_isNext_5 : decode cX1_isNext 5 = .ok (.ifCond .ne 20, 3) := by decide +kernel
theorem dX1_isNext_8 : decode cX1_isNext 8 = .ok (.aload_n 0, 1) := by decide +kernel
theorem dX1_isNext_9 : decode cX1_isNext 9 = .ok (.getfield 9, 3) := by decide +kernel
theorem dX1_isNext_12 : decode cX1_isNext 12 = .ok (.iload_n 1, 1) := by decide +kernel
theorem dX1_isNext_13 : decode cX1_isNext 13 = .ok (.iaload, 1) := by decide +kernel
theorem dX1_isNext_14 : decode cX1_isNext 14 = .ok (.iload_n 2, 1) := by decide +kernel
theorem dX1_isNext_15 : decode cX1_isNext 15 = .ok (.iconst (-1), 1) := by decide +kernel
theorem dX1_isNext_16 : decode cX1_isNext 16 = .ok (.ixor, 1) := by decide +kernel
theorem dX1_isNext_17 : decode cX1_isNext 17 = .ok (.iand, 1) := by decide +kernel
theorem dX1_isNext_18 : decode cX1_isNext 18 = .ok (.ifCond .ne 7, 3) := by decide +kernel
theorem dX1_isNext_21 : decode cX1_isNext 21 = .ok (.iconst 1, 1) := by decide +kernel
theorem dX1_isNext_22 : decode cX1_isNext 22 = .ok (.goto 4, 3) := by decide +kernel
theorem dX1_isNext_25 : decode cX1_isNext 25 = .ok (.iconst 0, 1) := by decide +kernel
theorem dX1_isNext_26 : decode cX1_isNext 26 = .ok (.ireturn, 1) := by decide +kernel
theorem dX1_actOfOrder_0 : decode cX1_actOfOrder 0 = .ok (.aload_n 0, 1) := by decide +kernel
theorem dX1_actOfOrder_1 : decode cX1_actOfOrder 1 = .ok (.iload_n 3, 1) := by decide +kernel
theorem dX1_actOfOrder_2 : decode cX1_actOfOrder 2 = .ok (.invokevirtual 18, 3) := by decide +kernel
theorem dX1_actOfOrder_5 : decode cX1_actOfOrder 5 = .ok (.iload_n 1, 1) := by decide +kernel
theorem dX1_actOfOrder_6 : decode cX1_actOfOrder 6 = .ok (.istore 4, 2) := by decide +kernel
theorem dX1_actOfOrder_8 : decode cX1_actOfOrder 8 = .ok (.iconst 0, 1) := by decide +kernel
theorem dX1_actOfOrder_9 : decode cX1_actOfOrder 9 = .ok (.istore 5, 2) := by decide +kernel
theorem dX1_actOfOrder_11 : decode cX1_actOfOrder 11 = .ok (.iconst 0, 1) := by decide +kernel
theorem dX1_actOfOrder_12 : decode cX1_actOfOrder 12 = .ok (.istore 6, 2) := by decide +kernel
theorem dX1_actOfOrder_14 : decode cX1_actOfOrder 14 = .ok (.iconst 0, 1) := by decide +kernel
theorem dX1_actOfOrder_15 : decode cX1_actOfOrder 15 = .ok (.istore 7, 2) := by decide +kernel
theorem dX1_actOfOrder_17 : decode cX1_actOfOrder 17 = .ok (.iload 7, 2) := by decide +kernel
theorem dX1_actOfOrder_19 : decode cX1_actOfOrder 19 = .ok (.iload_n 2, 1) := by decide +kernel
theorem dX1_actOfOrder_20 : decode cX1_actOfOrder 20 = .ok (.if_icmp .gt 95, 3) := by decide +kernel
theorem dX1_actOfOrder_23 : decode cX1_actOfOrder 23 = .ok (.iconst 0, 1) := by decide +kernel
theorem dX1_actOfOrder_24 : decode cX1_actOfOrder 24 = .ok (.istore 6, 2) := by decide +kernel
theorem dX1_actOfOrder_26 : decode cX1_actOfOrder 26 = .ok (.iload 6, 2) := by decide +kernel
theorem dX1_actOfOrder_28 : decode cX1_actOfOrder 28 = .ok (.iload_n 3, 1) := by decide +kernel
theorem dX1_actOfOrder_29 : decode cX1_actOfOrder 29 = .ok (.iconst 1, 1) := by decide +kernel
theorem dX1_actOfOrder_30 : decode cX1_actOfOrder 30 = .ok (.isub, 1) := by decide +kernel
theorem dX1_actOfOrder_31 : decode cX1_actOfOrder 31 = .ok (.if_icmp .ge 69, 3) := by decide +kernel
theorem dX1_actOfOrder_34 : decode cX1_actOfOrder 34 = .ok (.aload_n 0, 1) := by decide +kernel
theorem dX1_actOfOrder_35 : decode cX1_actOfOrder 35 = .ok (.iload 6, 2) := by decide +kernel
theorem dX1_actOfOrder_37 : decode cX1_actOfOrder 37 = .ok (.iload 5, 2) := by decide +kernel
theorem dX1_actOfOrder_39 : decode cX1_actOfOrder 39 = .ok (.invokevirtual 22, 3) := by decide +kernel
theorem dX1_actOfOrder_42 : decode cX1_actOfOrder 42 = .ok (.ifCond .eq 20, 3) := by decide +kernel
theorem dX1_actOfOrder_45 : decode cX1_actOfOrder 45 = .ok (.iload 4, 2) := by decide +kernel
theorem dX1_actOfOrder_47 : decode cX1_actOfOrder 47 = .ok (.aload_n 0, 1) := by decide +kernel
theorem dX1_actOfOrder_48 : decode cX1_actOfOrder 48 = .ok (.getfield 15, 3) := by decide +kernel
theorem dX1_actOfOrder_51 : decode cX1_actOfOrder 51 = .ok (.iload 5, 2) := by decide +kernel
theorem dX1_actOfOrder_53 : decode cX1_actOfOrder 53 = .ok (.iconst 1, 1) := by decide +kernel
theorem dX1_actOfOrder_54 : decode cX1_actOfOrder 54 = .ok (.iload 6, 2) := by decide +kernel
theorem dX1_actOfOrder_56 : decode cX1_actOfOrder 56 = .ok (.ishl, 1) := by decide +kernel
theorem dX1_actOfOrder_57 : decode cX1_actOfOrder 57 = .ok (.ior, 1) := by decide +kernel
theorem dX1_actOfOrder_58 : decode cX1_actOfOrder 58 = .ok (.iaload, 1) := by decide +kernel
theorem dX1_actOfOrder_59 : decode cX1_actOfOrder 59 = .ok (.if_icmp .lt 41, 3) := by decide +kernel
theorem dX1_actOfOrder_62 : decode cX1_actOfOrder 62 = .ok (.iload 4, 2) := by decide +kernel
theorem dX1_actOfOrder_64 : decode cX1_actOfOrder 64 = .ok (.aload_n 0, 1) := by decide +kernel
theorem dX1_actOfOrder_65 : decode cX1_actOfOrder 65 = .ok (.iload 6, 2) := by decide +kernel
theorem dX1_actOfOrder_67 : decode cX1_actOfOrder 67 = .ok (.iload 5, 2) := by decide +kernel
theorem dX1_actOfOrder_69 : decode cX1_actOfOrder 69 = .ok (.invokevirtual 22, 3) := by decide +kernel
theorem dX1_actOfOrder_72 : decode cX1_actOfOrder 72 = .ok (.ifCond .eq 18, 3) := by decide +kernel
theorem dX1_actOfOrder_75 : decode cX1_actOfOrder 75 = .ok (.aload_n 0, 1) := by decide +kernel
theorem dX1_actOfOrder_76 : decode cX1_actOfOrder 76 = .ok (.getfield 15, 3) := by decide +kernel
theorem dX1_actOfOrder_79 : decode cX1_actOfOrder 79 = .ok (.iload 5, 2) := by decide +kernel
theorem dX1_actOfOrder_81 : decode cX1_actOfOrder 81 = .ok (.iconst 1, 1) := by decide +kernel
theorem dX1_actOfOrder_82 : decode cX1_actOfOrder 82 = .ok (.iload 6, 2) := by decide +kernel
theorem dX1_actOfOrder_84 : decode cX1_actOfOrder 84 = .ok (.ishl, 1) := by decide +kernel
theorem dX1_actOfOrder_85 : decode cX1_actOfOrder 85 = .ok (.ior, 1) := by decide +kernel
theorem dX1_actOfOrder_86 : decode cX1_actOfOrder 86 = .ok (.iaload, 1) := by decide +kernel
theorem dX1_actOfOrder_87 : decode cX1_actOfOrder 87 = .ok (.goto 4, 3) := by decide +kernel
theorem dX1_actOfOrder_90 : decode cX1_actOfOrder 90 = .ok (.iconst 0, 1) := by decide +kernel
theorem dX1_actOfOrder_91 : decode cX1_actOfOrder 91 = .ok (.isub, 1) := by decide +kernel
theorem dX1_actOfOrder_92 : decode cX1_actOfOrder 92 = .ok (.istore 4, 2) := by decide +kernel
theorem dX1_actOfOrder_94 : decode cX1_actOfOrder 94 = .ok (.iinc 6 1, 3) := by decide +kernel
theorem dX1_actOfOrder_97 : decode cX1_actOfOrder 97 = .ok (.goto (-71), 3) := by decide +kernel
theorem dX1_actOfOrder_100 : decode cX1_actOfOrder 100 = .ok (.iload 5, 2) := by decide +kernel
theorem dX1_actOfOrder_102 : decode cX1_actOfOrder 102 = .ok (.iconst 1, 1) := by decide +kernel
theorem dX1_actOfOrder_103 : decode cX1_actOfOrder 103 = .ok (.iload 6, 2) := by decide +kernel
theorem dX1_actOfOrder_105 : decode cX1_actOfOrder 105 = .ok (.ishl, 1) := by decide +kernel
theorem dX1_actOfOrder_106 : decode cX1_actOfOrder 106 = .ok (.ior, 1) := by decide +kernel
theorem dX1_actOfOrder_107 : decode cX1_actOfOrder 107 = .ok (.istore 5, 2) := by decide +kernel
theorem dX1_actOfOrder_109 : decode cX1_actOfOrder 109 = .ok (.iinc 7 1, 3) := by decide +kernel
theorem dX1_actOfOrder_112 : decode cX1_actOfOrder 112 = .ok (.goto (-95), 3) := by decide +kernel
theorem dX1_actOfOrder_115 : decode cX1_actOfOrder 115 = .ok (.iload 6, 2) := by decide +kernel
theorem dX1_actOfOrder_117 : decode cX1_actOfOrder 117 = .ok (.ireturn, 1) := by decide +kernel
theorem dX2_init_0 : decode cX2_init 0 = .ok (.aload_n 0, 1) := by decide +kernel
theorem dX2_init_1 : decode cX2_init 1 = .ok (.invokespecial 3, 3) := by decide +kernel
theorem dX2_init_4 : decode cX2_init 4 = .ok (.aload_n 0, 1) := by decide +kernel
theorem dX2_init_5 : decode cX2_init 5 = .ok (.aload_n 1, 1) := by decide +kernel
theorem dX2_init_6 : decode cX2_init 6 = .ok (.putfield 9, 3) := by decide +kernel
theorem dX2_init_9 : decode cX2_init 9 = .ok (.aload_n 0, 1) := by decide +kernel
theorem dX2_init_10 : decode cX2_init 10 = .ok (.aload_n 2, 1) := by decide +kernel
theorem dX2_init_11 : decode cX2_init 11 = .ok (.putfield 15, 3) := by decide +kernel
theorem dX2_init_14 : decode cX2_init 14 = .ok (.aload_n 0, 1) := by decide +kernel
theorem dX2_init_15 : decode cX2_init 15 = .ok (.aload_n 3, 1) := by decide +kernel
theorem dX2_init_16 : decode cX2_init 16 = .ok (.putfield 19, 3) := by decide +kernel
theorem dX2_init_19 : decode cX2_init 19 = .ok (.aload_n 0, 1) := by decide +kernel
theorem dX2_init_20 : decode cX2_init 20 = .ok (.new 23, 3) := by decide +kernel
theorem dX2_init_23 : decode cX2_init 23 = .ok (.dup, 1) := by decide +kernel
theorem dX2_init_24 : decode cX2_init 24 = .ok (.invokespecial 25, 3) := by decide +kernel
theorem dX2_init_27 : decode cX2_init 27 = .ok (.putfield 26, 3) := by decide +kernel
theorem dX2_init_30 : decode cX2_init 30 = .ok (.return_, 1) := by decide +kernel
theorem dX2_begin_0 : decode cX2_begin 0 = .ok (.aload_n 0, 1) := by decide +kernel
theorem dX2_begin_1 : decode cX2_begin 1 = .ok (.getfield 26, 3) := by decide +kernel
theorem dX2_begin_4 : decode cX2_begin 4 = .ok (.invokevirtual 30, 3) := by decide +kernel
theorem dX2_begin_7 : decode cX2_begin 7 = .ok (.aload_n 0, 1) := by decide +kernel
theorem dX2_begin_8 : decode cX2_begin 8 = .ok (.iconst 0, 1) := by decide +kernel
theorem dX2_begin_9 : decode cX2_begin 9 = .ok (.putfield 33, 3) := by decide +kernel
theorem dX2_begin_12 : decode cX2_begin 12 = .ok (.aload_n 0, 1) := by decide +kernel
theorem dX2_begin_13 : decode cX2_begin 13 = .ok (.iconst 0, 1) := by decide +kernel
theorem dX2_begin_14 : decode cX2_begin 14 = .ok (.putfield 37, 3) := by decide +kernel
theorem dX2_begin_17 : decode cX2_begin 17 = .ok (.aload_n 0, 1) := by decide +kernel
theorem dX2_begin_18 : decode cX2_begin 18 = .ok (.dup, 1) := by decide +kernel
theorem dX2_begin_19 : decode cX2_begin 19 = .ok (.getfield 41, 3) := by decide +kernel
theorem dX2_begin_22 : decode cX2_begin 22 = .ok (.iconst 1, 1) := by decide +kernel
theorem dX2_begin_23 : decode cX2_begin 23 = .ok (.iadd, 1) := by decide +kernel
theorem dX2_begin_24 : decode cX2_begin 24 = .ok (.putfield 41, 3) := by decide +kernel
theorem dX2_begin_27 : decode cX2_begin 27 = .ok (.return_, 1) := by decide +kernel
theorem dX2_run_0 : decode cX2_run 0 = .ok (.aload_n 0, 1) := by decide +kernel
theorem dX2_run_1 : decode cX2_run 1 = .ok (.getfield 9, 3) := by decide +kernel
theorem dX2_run_4 : decode cX2_run 4 = .ok (.invokevirtual 44, 3) := by decide +kernel
theorem dX2_run_7 : decode cX2_run 7 = .ok (.sipush 600, 3) := by decide +kernel
theorem dX2_run_10 : decode cX2_run 10 = .ok (.istore_n 1, 1) := by decide +kernel
theorem dX2_run_11 : decode cX2_run 11 = .ok (.iload_n 1, 1) := by decide +kernel
theorem dX2_run_12 : decode cX2_run 12 = .ok (.sipush 1199, 3) := by decide +kernel
theorem dX2_run_15 : decode cX2_run 15 = .ok (.if_icmp .gt 37, 3) := by decide +kernel
theorem dX2_run_18 : decode cX2_run 18 = .ok (.aload_n 0, 1) := by decide +kernel
theorem dX2_run_19 : decode cX2_run 19 = .ok (.getfield 9, 3) := by decide +kernel
theorem dX2_run_22 : decode cX2_run 22 = .ok (.invokevirtual 49, 3) := by decide +kernel
theorem dX2_run_25 : decode cX2_run 25 = .ok (.ifCond .ne 27, 3) := by decide +kernel
theorem dX2_run_28 : decode cX2_run 28 = .ok (.aload_n 0, 1) := by decide +kernel
theorem dX2_run_29 : decode cX2_run 29 = .ok (.getfield 9, 3) := by decide +kernel
theorem dX2_run_32 : decode cX2_run 32 = .ok (.iload_n 1, 1) := by decide +kernel
theorem dX2_run_33 : decode cX2_run 33 = .ok (.invokevirtual 53, 3) := by decide +kernel
theorem dX2_run_36 : decode cX2_run 36 = .ok (.aload_n 0, 1) := by decide +kernel
theorem dX2_run_37 : decode cX2_run 37 = .ok (.iload_n 1, 1) := by decide +kernel
theorem dX2_run_38 : decode cX2_run 38 = .ok (.invokevirtual 57, 3) := by decide +kernel
theorem dX2_run_41 : decode cX2_run 41 = .ok (.aload_n 0, 1) := by decide +kernel
theorem dX2_run_42 : decode cX2_run 42 = .ok (.iload_n 1, 1) := by decide +kernel
theorem dX2_run_43 : decode cX2_run 43 = .ok (.invokevirtual 60, 3) := by decide +kernel
theorem dX2_run_46 : decode cX2_run 46 = .ok (.iinc 1 1, 3) := by decide +kernel
theorem dX2_run_49 : decode cX2_run 49 = .ok (.goto (-38), 3) := by decide +kernel
theorem dX2_run_52 : decode cX2_run 52 = .ok (.aload_n 0, 1) := by decide +kernel
theorem dX2_run_53 : decode cX2_run 53 = .ok (.iconst 1, 1) := by decide +kernel
theorem dX2_run_54 : decode cX2_run 54 = .ok (.putfield 33, 3) := by decide +kernel
theorem dX2_run_57 : decode cX2_run 57 = .ok (.return_, 1) := by decide +kernel
theorem dX2_payVisits_0 : decode cX2_payVisits 0 = .ok (.iconst 0, 1) := by decide +kernel
theorem dX2_payVisits_1 : decode cX2_payVisits 1 = .ok (.istore_n 2, 1) := by decide +kernel
theorem dX2_payVisits_2 : decode cX2_payVisits 2 = .ok (.iload_n 2, 1) := by decide +kernel
theorem dX2_payVisits_3 : decode cX2_payVisits 3 = .ok (.aload_n 0, 1) := by decide +kernel
theorem dX2_payVisits_4 : decode cX2_payVisits 4 = .ok (.getfield 26, 3) := by decide +kernel
theorem dX2_payVisits_7 : decode cX2_payVisits 7 = .ok (.invokevirtual 63, 3) := by decide +kernel
theorem dX2_payVisits_10 : decode cX2_payVisits 10 = .ok (.if_icmp .ge 53, 3) := by decide +kernel
theorem dX2_payVisits_13 : decode cX2_payVisits 13 = .ok (.aload_n 0, 1) := by decide +kernel
theorem dX2_payVisits_14 : decode cX2_payVisits 14 = .ok (.getfield 26, 3) := by decide +kernel
theorem dX2_payVisits_17 : decode cX2_payVisits 17 = .ok (.iload_n 2, 1) := by decide +kernel
theorem dX2_payVisits_18 : decode cX2_payVisits 18 = .ok (.invokevirtual 67, 3) := by decide +kernel
theorem dX2_payVisits_21 : decode cX2_payVisits 21 = .ok (.checkcast 71, 3) := by decide +kernel
theorem dX2_payVisits_24 : decode cX2_payVisits 24 = .ok (.astore_n 3, 1) := by decide +kernel
theorem dX2_payVisits_25 : decode cX2_payVisits 25 = .ok (.aload_n 3, 1) := by decide +kernel
theorem dX2_payVisits_26 : decode cX2_payVisits 26 = .ok (.getfield 73, 3) := by decide +kernel
theorem dX2_payVisits_29 : decode cX2_payVisits 29 = .ok (.getfield 77, 3) := by decide +kernel
theorem dX2_payVisits_32 : decode cX2_payVisits 32 = .ok (.astore 4, 2) := by decide +kernel
theorem dX2_payVisits_34 : decode cX2_payVisits 34 = .ok (.aload_n 3, 1) := by decide +kernel
theorem dX2_payVisits_35 : decode cX2_payVisits 35 = .ok (.getfield 83, 3) := by decide +kernel
theorem dX2_payVisits_38 : decode cX2_payVisits 38 = .ok (.iload_n 1, 1) := by decide +kernel
theorem dX2_payVisits_39 : decode cX2_payVisits 39 = .ok (.if_icmp .ne 18, 3) := by decide +kernel
theorem dX2_payVisits_42 : decode cX2_payVisits 42 = .ok (.aload 4, 2) := by decide +kernel
theorem dX2_payVisits_44 : decode cX2_payVisits 44 = .ok (.ifnull 13, 3) := by decide +kernel
theorem dX2_payVisits_47 : decode cX2_payVisits 47 = .ok (.aload_n 0, 1) := by decide +kernel
theorem dX2_payVisits_48 : decode cX2_payVisits 48 = .ok (.aload_n 3, 1) := by decide +kernel
theorem dX2_payVisits_49 : decode cX2_payVisits 49 = .ok (.aload 4, 2) := by decide +kernel
theorem dX2_payVisits_51 : decode cX2_payVisits 51 = .ok (.getfield 86, 3) := by decide +kernel
theorem dX2_payVisits_54 : decode cX2_payVisits 54 = .ok (.invokevirtual 92, 3) := by decide +kernel
theorem dX2_payVisits_57 : decode cX2_payVisits 57 = .ok (.iinc 2 1, 3) := by decide +kernel
theorem dX2_payVisits_60 : decode cX2_payVisits 60 = .ok (.goto (-58), 3) := by decide +kernel
theorem dX2_payVisits_63 : decode cX2_payVisits 63 = .ok (.return_, 1) := by decide +kernel
theorem dX2_judge_0 : decode cX2_judge 0 = .ok (.aload_n 2, 1) := by decide +kernel
theorem dX2_judge_1 : decode cX2_judge 1 = .ok (.invokevirtual 96, 3) := by decide +kernel
theorem dX2_judge_4 : decode cX2_judge 4 = .ok (.ifCond .eq 11, 3) := by decide +kernel
theorem dX2_judge_7 : decode cX2_judge 7 = .ok (.aload_n 1, 1) := by decide +kernel
theorem dX2_judge_8 : decode cX2_judge 8 = .ok (.bipush 102, 2) := by decide +kernel
theorem dX2_judge_10 : decode cX2_judge 10 = .ok (.bipush 20, 2) := by decide +kernel
theorem dX2_judge_12 : decode cX2_judge 12 = .ok (.invokevirtual 101, 3) := by decide +kernel
theorem dX2_judge_15 : decode cX2_judge 15 = .ok (.bipush 10, 2) := by decide +kernel
theorem dX2_judge_17 : decode cX2_judge 17 = .ok (.aload_n 2, 1) := by decide +kernel
theorem dX2_judge_18 : decode cX2_judge 18 = .ok (.getfield 105, 3) := by decide +kernel
theorem dX2_judge_21 : decode cX2_judge 21 = .ok (.imul, 1) := by decide +kernel
theorem dX2_judge_22 : decode cX2_judge 22 = .ok (.aload_n 1, 1) := by decide +kernel
theorem dX2_judge_23 : decode cX2_judge 23 = .ok (.getfield 73, 3) := by decide +kernel
theorem dX2_judge_26 : decode cX2_judge 26 = .ok (.getfield 108, 3) := by decide +kernel
theorem dX2_judge_29 : decode cX2_judge 29 = .ok (.iadd, 1) := by decide +kernel
theorem dX2_judge_30 : decode cX2_judge 30 = .ok (.aload_n 0, 1) := by decide +kernel
theorem dX2_judge_31 : decode cX2_judge 31 = .ok (.getfield 19, 3) := by decide +kernel
theorem dX2_judge_34 : decode cX2_judge 34 = .ok (.getfield 111, 3) := by decide +kernel
theorem dX2_judge_37 : decode cX2_judge 37 = .ok (.if_icmp .le 11, 3) := by decide +kernel
theorem dX2_judge_40 : decode cX2_judge 40 = .ok (.aload_n 1, 1) := by decide +kernel
theorem dX2_judge_41 : decode cX2_judge 41 = .ok (.bipush 110, 2) := by decide +kernel
theorem dX2_judge_43 : decode cX2_judge 43 = .ok (.bipush 10, 2) := by decide +kernel
theorem dX2_judge_45 : decode cX2_judge 45 = .ok (.invokevirtual 101, 3) := by decide +kernel
theorem dX2_judge_48 : decode cX2_judge 48 = .ok (.aload_n 0, 1) := by decide +kernel
theorem dX2_judge_49 : decode cX2_judge 49 = .ok (.getfield 9, 3) := by decide +kernel
theorem dX2_judge_52 : decode cX2_judge 52 = .ok (.aload_n 1, 1) := by decide +kernel
theorem dX2_judge_53 : decode cX2_judge 53 = .ok (.getfield 73, 3) := by decide +kernel
theorem dX2_judge_56 : decode cX2_judge 56 = .ok (.aload_n 0, 1) := by decide +kernel
theorem dX2_judge_57 : decode cX2_judge 57 = .ok (.getfield 19, 3) := by decide +kernel
theorem dX2_judge_60 : decode cX2_judge 60 = .ok (.getfield 116, 3) := by decide +kernel
theorem dX2_judge_63 : decode cX2_judge 63 = .ok (.invokevirtual 119, 3) := by decide +kernel
theorem dX2_judge_66 : decode cX2_judge 66 = .ok (.ifCond .eq 10, 3) := by decide +kernel
theorem dX2_judge_69 : decode cX2_judge 69 = .ok (.aload_n 1, 1) := by decide +kernel
theorem dX2_judge_70 : decode cX2_judge 70 = .ok (.bipush 100, 2) := by decide +kernel
theorem dX2_judge_72 : decode cX2_judge 72 = .ok (.iconst 5, 1) := by decide +kernel
theorem dX2_judge_73 : decode cX2_judge 73 = .ok (.invokevirtual 101, 3) := by decide +kernel
theorem dX2_judge_76 : decode cX2_judge 76 = .ok (.aload_n 2, 1) := by decide +kernel
theorem dX2_judge_77 : decode cX2_judge 77 = .ok (.dup, 1) := by decide +kernel
theorem dX2_judge_78 : decode cX2_judge 78 = .ok (.getfield 123, 3) := by decide +kernel
theorem dX2_judge_81 : decode cX2_judge 81 = .ok (.aload_n 1, 1) := by decide +kernel
theorem dX2_judge_82 : decode cX2_judge 82 = .ok (.getfield 126, 3) := by decide +kernel
theorem dX2_judge_85 : decode cX2_judge 85 = .ok (.isub, 1) := by decide +kernel
theorem dX2_judge_86 : decode cX2_judge 86 = .ok (.putfield 123, 3) := by decide +kernel
theorem dX2_judge_89 : decode cX2_judge 89 = .ok (.aload_n 0, 1) := by decide +kernel
theorem dX2_judge_90 : decode cX2_judge 90 = .ok (.dup, 1) := by decide +kernel
theorem dX2_judge_91 : decode cX2_judge 91 = .ok (.getfield 129, 3) := by decide +kernel
theorem dX2_judge_94 : decode cX2_judge 94 = .ok (.aload_n 1, 1) := by decide +kernel
theorem dX2_judge_95 : decode cX2_judge 95 = .ok (.getfield 126, 3) := by decide +kernel
theorem dX2_judge_98 : decode cX2_judge 98 = .ok (.iadd, 1) := by decide +kernel
theorem dX2_judge_99 : decode cX2_judge 99 = .ok (.putfield 129, 3) := by decide +kernel
theorem dX2_judge_102 : decode cX2_judge 102 = .ok (.return_, 1) := by decide +kernel
theorem dX2_playMinute_0 : decode cX2_playMinute 0 = .ok (.iconst 0, 1) := by decide +kernel
theorem dX2_playMinute_1 : decode cX2_playMinute 1 = .ok (.istore_n 2, 1) := by decide +kernel
theorem dX2_playMinute_2 : decode cX2_playMinute 2 = .ok (.iload_n 2, 1) := by decide +kernel
theorem dX2_playMinute_3 : decode cX2_playMinute 3 = .ok (.aload_n 0, 1) := by decide +kernel
theorem dX2_playMinute_4 : decode cX2_playMinute 4 = .ok (.getfield 9, 3) := by decide +kernel
theorem dX2_playMinute_7 : decode cX2_playMinute 7 = .ok (.getfield 132, 3) := by decide +kernel
theorem dX2_playMinute_10 : decode cX2_playMinute 10 = .ok (.invokevirtual 63, 3) := by decide +kernel
theorem dX2_playMinute_13 : decode cX2_playMinute 13 = .ok (.if_icmp .ge 50, 3) := by decide +kernel
theorem dX2_playMinute_16 : decode cX2_playMinute 16 = .ok (.aload_n 0, 1) := by decide +kernel
theorem dX2_playMinute_17 : decode cX2_playMinute 17 = .ok (.getfield 9, 3) := by decide +kernel
theorem dX2_playMinute_20 : decode cX2_playMinute 20 = .ok (.getfield 132, 3) := by decide +kernel
theorem dX2_playMinute_23 : decode cX2_playMinute 23 = .ok (.iload_n 2, 1) := by decide +kernel
theorem dX2_playMinute_24 : decode cX2_playMinute 24 = .ok (.invokevirtual 67, 3) := by decide +kernel
theorem dX2_playMinute_27 : decode cX2_playMinute 27 = .ok (.checkcast 78, 3) := by decide +kernel
theorem dX2_playMinute_30 : decode cX2_playMinute 30 = .ok (.astore_n 3, 1) := by decide +kernel
theorem dX2_playMinute_31 : decode cX2_playMinute 31 = .ok (.aload_n 3, 1) := by decide +kernel
theorem dX2_playMinute_32 : decode cX2_playMinute 32 = .ok (.getfield 77, 3) := by decide +kernel
theorem dX2_playMinute_35 : decode cX2_playMinute 35 = .ok (.astore 4, 2) := by decide +kernel
theorem dX2_playMinute_37 : decode cX2_playMinute 37 = .ok (.aload 4, 2) := by decide +kernel
theorem dX2_playMinute_39 : decode cX2_playMinute 39 = .ok (.ifnull 18, 3) := by decide +kernel
theorem dX2_playMinute_42 : decode cX2_playMinute 42 = .ok (.aload_n 0, 1) := by decide +kernel
theorem dX2_playMinute_43 : decode cX2_playMinute 43 = .ok (.aload_n 3, 1) := by decide +kernel
theorem dX2_playMinute_44 : decode cX2_playMinute 44 = .ok (.aload 4, 2) := by decide +kernel
theorem dX2_playMinute_46 : decode cX2_playMinute 46 = .ok (.iload_n 1, 1) := by decide +kernel
theorem dX2_playMinute_47 : decode cX2_playMinute 47 = .ok (.invokevirtual 135, 3) := by decide +kernel
theorem dX2_playMinute_50 : decode cX2_playMinute 50 = .ok (.aload_n 0, 1) := by decide +kernel
theorem dX2_playMinute_51 : decode cX2_playMinute 51 = .ok (.aload 4, 2) := by decide +kernel
theorem dX2_playMinute_53 : decode cX2_playMinute 53 = .ok (.iload_n 1, 1) := by decide +kernel
theorem dX2_playMinute_54 : decode cX2_playMinute 54 = .ok (.invokevirtual 139, 3) := by decide +kernel
theorem dX2_playMinute_57 : decode cX2_playMinute 57 = .ok (.iinc 2 1, 3) := by decide +kernel
theorem dX2_playMinute_60 : decode cX2_playMinute 60 = .ok (.goto (-58), 3) := by decide +kernel
theorem dX2_playMinute_63 : decode cX2_playMinute 63 = .ok (.return_, 1) := by decide +kernel
theorem dX2_gather_0 : decode cX2_gather 0 = .ok (.aload_n 0, 1) := by decide +kernel
theorem dX2_gather_1 : decode cX2_gather 1 = .ok (.getfield 15, 3) := by decide +kernel
theorem dX2_gather_4 : decode cX2_gather 4 = .ok (.iload_n 3, 1) := by decide +kernel
theorem dX2_gather_5 : decode cX2_gather 5 = .ok (.invokevirtual 143, 3) := by decide +kernel
theorem dX2_gather_8 : decode cX2_gather 8 = .ok (.ifCond .eq 14, 3) := by decide +kernel
theorem dX2_gather_11 : decode cX2_gather 11 = .ok (.aload_n 1, 1) := by decide +kernel
theorem dX2_gather_12 : decode cX2_gather 12 = .ok (.getfield 149, 3) := by decide +kernel
theorem dX2_gather_15 : decode cX2_gather 15 = .ok (.ifCond .ne 7, 3) := by decide +kernel
theorem dX2_gather_18 : decode cX2_gather 18 = .ok (.iconst 1, 1) := by decide +kernel
theorem dX2_gather_19 : decode cX2_gather 19 = .ok (.goto 4, 3) := by decide +kernel
theorem dX2_gather_22 : decode cX2_gather 22 = .ok (.iconst 0, 1) := by decide +kernel
theorem dX2_gather_23 : decode cX2_gather 23 = .ok (.istore 4, 2) := by decide +kernel
theorem dX2_gather_25 : decode cX2_gather 25 = .ok (.aload_n 0, 1) := by decide +kernel
theorem dX2_gather_26 : decode cX2_gather 26 = .ok (.getfield 9, 3) := by decide +kernel
theorem dX2_gather_29 : decode cX2_gather 29 = .ok (.aload_n 2, 1) := by decide +kernel
theorem dX2_gather_30 : decode cX2_gather 30 = .ok (.getfield 86, 3) := by decide +kernel
theorem dX2_gather_33 : decode cX2_gather 33 = .ok (.aload_n 1, 1) := by decide +kernel
theorem dX2_gather_34 : decode cX2_gather 34 = .ok (.invokevirtual 152, 3) := by decide +kernel
theorem dX2_gather_37 : decode cX2_gather 37 = .ok (.istore 5, 2) := by decide +kernel
theorem dX2_gather_39 : decode cX2_gather 39 = .ok (.bipush 10, 2) := by decide +kernel
theorem dX2_gather_41 : decode cX2_gather 41 = .ok (.aload_n 2, 1) := by decide +kernel
theorem dX2_gather_42 : decode cX2_gather 42 = .ok (.getfield 86, 3) := by decide +kernel
theorem dX2_gather_45 : decode cX2_gather 45 = .ok (.getfield 156, 3) := by decide +kernel
theorem dX2_gather_48 : decode cX2_gather 48 = .ok (.imul, 1) := by decide +kernel
theorem dX2_gather_49 : decode cX2_gather 49 = .ok (.aload_n 2, 1) := by decide +kernel
theorem dX2_gather_50 : decode cX2_gather 50 = .ok (.getfield 159, 3) := by decide +kernel
theorem dX2_gather_53 : decode cX2_gather 53 = .ok (.bipush 40, 2) := by decide +kernel
theorem dX2_gather_55 : decode cX2_gather 55 = .ok (.invokestatic 162, 3) := by decide +kernel
theorem dX2_gather_58 : decode cX2_gather 58 = .ok (.iadd, 1) := by decide +kernel
theorem dX2_gather_59 : decode cX2_gather 59 = .ok (.istore 6, 2) := by decide +kernel
theorem dX2_gather_61 : decode cX2_gather 61 = .ok (.aload_n 1, 1) := by decide +kernel
theorem dX2_gather_62 : decode cX2_gather 62 = .ok (.iload_n 3, 1) := by decide +kernel
theorem dX2_gather_63 : decode cX2_gather 63 = .ok (.invokevirtual 168, 3) := by decide +kernel
theorem dX2_gather_66 : decode cX2_gather 66 = .ok (.iload 6, 2) := by decide +kernel
theorem dX2_gather_68 : decode cX2_gather 68 = .ok (.imul, 1) := by decide +kernel
theorem dX2_gather_69 : decode cX2_gather 69 = .ok (.bipush 100, 2) := by decide +kernel
theorem dX2_gather_71 : decode cX2_gather 71 = .ok (.idiv, 1) := by decide +kernel
theorem dX2_gather_72 : decode cX2_gather 72 = .ok (.istore 7, 2) := by decide +kernel
theorem dX2_gather_74 : decode cX2_gather 74 = .ok (.aload_n 0, 1) := by decide +kernel
theorem dX2_gather_75 : decode cX2_gather 75 = .ok (.getfield 15, 3) := by decide +kernel
theorem dX2_gather_78 : decode cX2_gather 78 = .ok (.getfield 172, 3) := by decide +kernel
theorem dX2_gather_81 : decode cX2_gather 81 = .ok (.istore 8, 2) := by decide +kernel
theorem dX2_gather_83 : decode cX2_gather 83 = .ok (.iload 5, 2) := by decide +kernel
theorem dX2_gather_85 : decode cX2_gather 85 = .ok (.ifCond .eq 22, 3) := by decide +kernel
theorem dX2_gather_88 : decode cX2_gather 88 = .ok (.iload 7, 2) := by decide +kernel
theorem dX2_gather_90 : decode cX2_gather 90 = .ok (.iconst 2, 1) := by decide +kernel
theorem dX2_gather_91 : decode cX2_gather 91 = .ok (.idiv, 1) := by decide +kernel
theorem dX2_gather_92 : decode cX2_gather 92 = .ok (.istore 7, 2) := by decide +kernel
theorem dX2_gather_94 : decode cX2_gather 94 = .ok (.iinc 8 10, 3) := by decide +kernel
theorem dX2_gather_97 : decode cX2_gather 97 = .ok (.aload_n 2, 1) := by decide +kernel
theorem dX2_gather_98 : decode cX2_gather 98 = .ok (.dup, 1) := by decide +kernel
theorem dX2_gather_99 : decode cX2_gather 99 = .ok (.getfield 175, 3) := by decide +kernel
theorem dX2_gather_102 : decode cX2_gather 102 = .ok (.iconst 1, 1) := by decide +kernel
theorem dX2_gather_103 : decode cX2_gather 103 = .ok (.iadd, 1) := by decide +kernel
theorem dX2_gather_104 : decode cX2_gather 104 = .ok (.putfield 175, 3) := by decide +kernel
theorem dX2_gather_107 : decode cX2_gather 107 = .ok (.iload 4, 2) := by decide +kernel
theorem dX2_gather_109 : decode cX2_gather 109 = .ok (.ifCond .eq 9, 3) := by decide +kernel
theorem dX2_gather_112 : decode cX2_gather 112 = .ok (.iconst 0, 1) := by decide +kernel
theorem dX2_gather_113 : decode cX2_gather 113 = .ok (.istore 7, 2) := by decide +kernel
theorem dX2_gather_115 : decode cX2_gather 115 = .ok (.iinc 8 50, 3) := by decide +kernel
theorem dX2_gather_118 : decode cX2_gather 118 = .ok (.aload_n 2, 1) := by decide +kernel
theorem dX2_gather_119 : decode cX2_gather 119 = .ok (.iload 7, 2) := by decide +kernel
theorem dX2_gather_121 : decode cX2_gather 121 = .ok (.aload_n 2, 1) := by decide +kernel
theorem dX2_gather_122 : decode cX2_gather 122 = .ok (.getfield 159, 3) := by decide +kernel
theorem dX2_gather_125 : decode cX2_gather 125 = .ok (.iload 8, 2) := by decide +kernel
theorem dX2_gather_127 : decode cX2_gather 127 = .ok (.imul, 1) := by decide +kernel
theorem dX2_gather_128 : decode cX2_gather 128 = .ok (.bipush 100, 2) := by decide +kernel
theorem dX2_gather_130 : decode cX2_gather 130 = .ok (.idiv, 1) := by decide +kernel
theorem dX2_gather_131 : decode cX2_gather 131 = .ok (.invokevirtual 178, 3) := by decide +kernel
theorem dX2_gather_134 : decode cX2_gather 134 = .ok (.return_, 1) := by decide +kernel
theorem dX2_endIfDue_0 : decode cX2_endIfDue 0 = .ok (.aload_n 1, 1) := by decide +kernel
theorem dX2_endIfDue_1 : decode cX2_endIfDue 1 = .ok (.invokevirtual 182, 3) := by decide +kernel
theorem dX2_endIfDue_4 : decode cX2_endIfDue 4 = .ok (.ifCond .eq 11, 3) := by decide +kernel
theorem dX2_endIfDue_7 : decode cX2_endIfDue 7 = .ok (.aload_n 1, 1) := by decide +kernel
theorem dX2_endIfDue_8 : decode cX2_endIfDue 8 = .ok (.iload_n 2, 1) := by decide +kernel
theorem dX2_endIfDue_9 : decode cX2_endIfDue 9 = .ok (.invokevirtual 185, 3) := by decide +kernel
theorem dX2_endIfDue_12 : decode cX2_endIfDue 12 = .ok (.goto 64, 3) := by decide +kernel
theorem dX2_endIfDue_15 : decode cX2_endIfDue 15 = .ok (.iload_n 2, 1) := by decide +kernel
theorem dX2_endIfDue_16 : decode cX2_endIfDue 16 = .ok (.aload_n 1, 1) := by decide +kernel
theorem dX2_endIfDue_17 : decode cX2_endIfDue 17 = .ok (.getfield 188, 3) := by decide +kernel
theorem dX2_endIfDue_20 : decode cX2_endIfDue 20 = .ok (.if_icmp .ne 56, 3) := by decide +kernel
theorem dX2_endIfDue_23 : decode cX2_endIfDue 23 = .ok (.aload_n 1, 1) := by decide +kernel
theorem dX2_endIfDue_24 : decode cX2_endIfDue 24 = .ok (.aload_n 0, 1) := by decide +kernel
theorem dX2_endIfDue_25 : decode cX2_endIfDue 25 = .ok (.getfield 15, 3) := by decide +kernel
theorem dX2_endIfDue_28 : decode cX2_endIfDue 28 = .ok (.iload_n 2, 1) := by decide +kernel
theorem dX2_endIfDue_29 : decode cX2_endIfDue 29 = .ok (.invokevirtual 143, 3) := by decide +kernel
theorem dX2_endIfDue_32 : decode cX2_endIfDue 32 = .ok (.invokevirtual 191, 3) := by decide +kernel
theorem dX2_endIfDue_35 : decode cX2_endIfDue 35 = .ok (.aload_n 0, 1) := by decide +kernel
theorem dX2_endIfDue_36 : decode cX2_endIfDue 36 = .ok (.getfield 9, 3) := by decide +kernel
theorem dX2_endIfDue_39 : decode cX2_endIfDue 39 = .ok (.aload_n 1, 1) := by decide +kernel
theorem dX2_endIfDue_40 : decode cX2_endIfDue 40 = .ok (.getfield 195, 3) := by decide +kernel
theorem dX2_endIfDue_43 : decode cX2_endIfDue 43 = .ok (.aload_n 1, 1) := by decide +kernel
theorem dX2_endIfDue_44 : decode cX2_endIfDue 44 = .ok (.getfield 86, 3) := by decide +kernel
theorem dX2_endIfDue_47 : decode cX2_endIfDue 47 = .ok (.invokevirtual 196, 3) := by decide +kernel
theorem dX2_endIfDue_50 : decode cX2_endIfDue 50 = .ok (.aload_n 0, 1) := by decide +kernel
theorem dX2_endIfDue_51 : decode cX2_endIfDue 51 = .ok (.dup, 1) := by decide +kernel
theorem dX2_endIfDue_52 : decode cX2_endIfDue 52 = .ok (.getfield 37, 3) := by decide +kernel
theorem dX2_endIfDue_55 : decode cX2_endIfDue 55 = .ok (.aload_n 1, 1) := by decide +kernel
theorem dX2_endIfDue_56 : decode cX2_endIfDue 56 = .ok (.getfield 195, 3) := by decide +kernel
theorem dX2_endIfDue_59 : decode cX2_endIfDue 59 = .ok (.iadd, 1) := by decide +kernel
theorem dX2_endIfDue_60 : decode cX2_endIfDue 60 = .ok (.putfield 37, 3) := by decide +kernel
theorem dX2_endIfDue_63 : decode cX2_endIfDue 63 = .ok (.aload_n 0, 1) := by decide +kernel
theorem dX2_endIfDue_64 : decode cX2_endIfDue 64 = .ok (.dup, 1) := by decide +kernel
theorem dX2_endIfDue_65 : decode cX2_endIfDue 65 = .ok (.getfield 200, 3) := by decide +kernel
theorem dX2_endIfDue_68 : decode cX2_endIfDue 68 = .ok (.aload_n 1, 1) := by decide +kernel
theorem dX2_endIfDue_69 : decode cX2_endIfDue 69 = .ok (.getfield 195, 3) := by decide +kernel
theorem dX2_endIfDue_72 : decode cX2_endIfDue 72 = .ok (.iadd, 1) := by decide +kernel
theorem dX2_endIfDue_73 : decode cX2_endIfDue 73 = .ok (.putfield 200, 3) := by decide +kernel
theorem dX2_endIfDue_76 : decode cX2_endIfDue 76 = .ok (.return_, 1) := by decide +kernel
theorem dX3_init_0 : decode cX3_init 0 = .ok (.aload_n 0, 1) := by decide +kernel
theorem dX3_init_1 : decode cX3_init 1 = .ok (.invokespecial 3, 3) := by decide +kernel
theorem dX3_init_4 : decode cX3_init 4 = .ok (.aload_n 0, 1) := by decide +kernel
theorem dX3_init_5 : decode cX3_init 5 = .ok (.bipush 10, 2) := by decide +kernel
theorem dX3_init_7 : decode cX3_init 7 = .ok (.newarray .int, 2) := by decide +kernel
theorem dX3_init_9 : decode cX3_init 9 = .ok (.putfield 9, 3) := by decide +kernel
theorem dX3_init_12 : decode cX3_init 12 = .ok (.return_, 1) := by decide +kernel
theorem dX3_write_0 : decode cX3_write 0 = .ok (.aload_n 0, 1) := by decide +kernel
theorem dX3_write_1 : decode cX3_write 1 = .ok (.getfield 9, 3) := by decide +kernel
theorem dX3_write_4 : decode cX3_write 4 = .ok (.iconst 0, 1) := by decide +kernel
theorem dX3_write_5 : decode cX3_write 5 = .ok (.aload_n 0, 1) := by decide +kernel
theorem dX3_write_6 : decode cX3_write 6 = .ok (.getfield 9, 3) := by decide +kernel
theorem dX3_write_9 : decode cX3_write 9 = .ok (.iconst 1, 1) := by decide +kernel
theorem dX3_write_10 : decode cX3_write 10 = .ok (.bipush 9, 2) := by decide +kernel
theorem dX3_write_12 : decode cX3_write 12 = .ok (.invokestatic 15, 3) := by decide +kernel
theorem dX3_write_15 : decode cX3_write 15 = .ok (.aload_n 0, 1) := by decide +kernel
theorem dX3_write_16 : decode cX3_write 16 = .ok (.getfield 9, 3) := by decide +kernel
theorem dX3_write_19 : decode cX3_write 19 = .ok (.iconst 0, 1) := by decide +kernel
theorem dX3_write_20 : decode cX3_write 20 = .ok (.iload_n 1, 1) := by decide +kernel
theorem dX3_write_21 : decode cX3_write 21 = .ok (.iastore, 1) := by decide +kernel
theorem dX3_write_22 : decode cX3_write 22 = .ok (.aload_n 0, 1) := by decide +kernel
theorem dX3_write_23 : decode cX3_write 23 = .ok (.aload_n 0, 1) := by decide +kernel
theorem dX3_write_24 : decode cX3_write 24 = .ok (.getfield 21, 3) := by decide +kernel
theorem dX3_write_27 : decode cX3_write 27 = .ok (.iconst 1, 1) := by decide +kernel
theorem dX3_write_28 : decode cX3_write 28 = .ok (.iadd, 1) := by decide +kernel
theorem dX3_write_29 : decode cX3_write 29 = .ok (.bipush 10, 2) := by decide +kernel
theorem dX3_write_31 : decode cX3_write 31 = .ok (.invokestatic 25, 3) := by decide +kernel
theorem dX3_write_34 : decode cX3_write 34 = .ok (.putfield 21, 3) := by decide +kernel
theorem dX3_write_37 : decode cX3_write 37 = .ok (.return_, 1) := by decide +kernel
theorem dX4_init_0 : decode cX4_init 0 = .ok (.aload_n 0, 1) := by decide +kernel
theorem dX4_init_1 : decode cX4_init 1 = .ok (.invokespecial 3, 3) := by decide +kernel
theorem dX4_init_4 : decode cX4_init 4 = .ok (.aload_n 0, 1) := by decide +kernel
theorem dX4_init_5 : decode cX4_init 5 = .ok (.bipush 99, 2) := by decide +kernel
theorem dX4_init_7 : decode cX4_init 7 = .ok (.putfield 9, 3) := by decide +kernel
theorem dX4_init_10 : decode cX4_init 10 = .ok (.return_, 1) := by decide +kernel
theorem dX5_init_0 : decode cX5_init 0 = .ok (.aload_n 0, 1) := by decide +kernel
theorem dX5_init_1 : decode cX5_init 1 = .ok (.invokespecial 3, 3) := by decide +kernel
theorem dX5_init_4 : decode cX5_init 4 = .ok (.aload_n 0, 1) := by decide +kernel
theorem dX5_init_5 : decode cX5_init 5 = .ok (.bipush 8, 2) := by decide +kernel
theorem dX5_init_7 : decode cX5_init 7 = .ok (.newarray .int, 2) := by decide +kernel
theorem dX5_init_9 : decode cX5_init 9 = .ok (.putfield 9, 3) := by decide +kernel
theorem dX5_init_12 : decode cX5_init 12 = .ok (.aload_n 0, 1) := by decide +kernel
theorem dX5_init_13 : decode cX5_init 13 = .ok (.bipush 8, 2) := by decide +kernel
theorem dX5_init_15 : decode cX5_init 15 = .ok (.newarray .int, 2) := by decide +kernel
theorem dX5_init_17 : decode cX5_init 17 = .ok (.putfield 15, 3) := by decide +kernel
theorem dX5_init_20 : decode cX5_init 20 = .ok (.aload_n 0, 1) := by decide +kernel
theorem dX5_init_21 : decode cX5_init 21 = .ok (.bipush 8, 2) := by decide +kernel
theorem dX5_init_23 : decode cX5_init 23 = .ok (.newarray .int, 2) := by decide +kernel
theorem dX5_init_25 : decode cX5_init 25 = .ok (.putfield 18, 3) := by decide +kernel
theorem dX5_init_28 : decode cX5_init 28 = .ok (.aload_n 0, 1) := by decide +kernel
theorem dX5_init_29 : decode cX5_init 29 = .ok (.iconst 1, 1) := by decide +kernel
theorem dX5_init_30 : decode cX5_init 30 = .ok (.putfield 21, 3) := by decide +kernel
theorem dX5_init_33 : decode cX5_init 33 = .ok (.return_, 1) := by decide +kernel
theorem dX5_draw_0 : decode cX5_draw 0 = .ok (.aload_n 1, 1) := by decide +kernel
theorem dX5_draw_1 : decode cX5_draw 1 = .ok (.getfield 25, 3) := by decide +kernel
theorem dX5_draw_4 : decode cX5_draw 4 = .ok (.iconst 0, 1) := by decide +kernel
theorem dX5_draw_5 : decode cX5_draw 5 = .ok (.aload_n 0, 1) := by decide +kernel
theorem dX5_draw_6 : decode cX5_draw 6 = .ok (.getfield 15, 3) := by decide +kernel
theorem dX5_draw_9 : decode cX5_draw 9 = .ok (.iconst 0, 1) := by decide +kernel
theorem dX5_draw_10 : decode cX5_draw 10 = .ok (.bipush 8, 2) := by decide +kernel
theorem dX5_draw_12 : decode cX5_draw 12 = .ok (.invokestatic 30, 3) := by decide +kernel
theorem dX5_draw_15 : decode cX5_draw 15 = .ok (.iconst 1, 1) := by decide +kernel
theorem dX5_draw_16 : decode cX5_draw 16 = .ok (.iload_n 2, 1) := by decide +kernel
theorem dX5_draw_17 : decode cX5_draw 17 = .ok (.ishl, 1) := by decide +kernel
theorem dX5_draw_18 : decode cX5_draw 18 = .ok (.iconst 1, 1) := by decide +kernel
theorem dX5_draw_19 : decode cX5_draw 19 = .ok (.isub, 1) := by decide +kernel
theorem dX5_draw_20 : decode cX5_draw 20 = .ok (.istore_n 3, 1) := by decide +kernel
theorem dX5_draw_21 : decode cX5_draw 21 = .ok (.iconst 0, 1) := by decide +kernel
theorem dX5_draw_22 : decode cX5_draw 22 = .ok (.istore 4, 2) := by decide +kernel
theorem dX5_draw_24 : decode cX5_draw 24 = .ok (.iload 4, 2) := by decide +kernel
theorem dX5_draw_26 : decode cX5_draw 26 = .ok (.iload_n 2, 1) := by decide +kernel
theorem dX5_draw_27 : decode cX5_draw 27 = .ok (.if_icmp .ge 36, 3) := by decide +kernel
theorem dX5_draw_30 : decode cX5_draw 30 = .ok (.aload_n 0, 1) := by decide +kernel
theorem dX5_draw_31 : decode cX5_draw 31 = .ok (.getfield 9, 3) := by decide +kernel
theorem dX5_draw_34 : decode cX5_draw 34 = .ok (.iload 4, 2) := by decide +kernel
theorem dX5_draw_36 : decode cX5_draw 36 = .ok (.aload_n 0, 1) := by decide +kernel
theorem dX5_draw_37 : decode cX5_draw 37 = .ok (.iload_n 3, 1) := by decide +kernel
theorem dX5_draw_38 : decode cX5_draw 38 = .ok (.iload_n 2, 1) := by decide +kernel
theorem dX5_draw_39 : decode cX5_draw 39 = .ok (.invokevirtual 36, 3) := by decide +kernel
theorem dX5_draw_42 : decode cX5_draw 42 = .ok (.iastore, 1) := by decide +kernel
theorem dX5_draw_43 : decode cX5_draw 43 = .ok (.iload_n 3, 1) := by decide +kernel
theorem dX5_draw_44 : decode cX5_draw 44 = .ok (.iconst 1, 1) := by decide +kernel
theorem dX5_draw_45 : decode cX5_draw 45 = .ok (.aload_n 0, 1) := by decide +kernel
theorem dX5_draw_46 : decode cX5_draw 46 = .ok (.getfield 9, 3) := by decide +kernel
theorem dX5_draw_49 : decode cX5_draw 49 = .ok (.iload 4, 2) := by decide +kernel
theorem dX5_draw_51 : decode cX5_draw 51 = .ok (.iaload, 1) := by decide +kernel
theorem dX5_draw_52 : decode cX5_draw 52 = .ok (.ishl, 1) := by decide +kernel
theorem dX5_draw_53 : decode cX5_draw 53 = .ok (.iconst (-1), 1) := by decide +kernel
theorem dX5_draw_54 : decode cX5_draw 54 = .ok (.ixor, 1) := by decide +kernel
theorem dX5_draw_55 : decode cX5_draw 55 = .ok (.iand, 1) := by decide +kernel
theorem dX5_draw_56 : decode cX5_draw 56 = .ok (.istore_n 3, 1) := by decide +kernel
theorem dX5_draw_57 : decode cX5_draw 57 = .ok (.iinc 4 1, 3) := by decide +kernel
theorem dX5_draw_60 : decode cX5_draw 60 = .ok (.goto (-36), 3) := by decide +kernel
theorem dX5_draw_63 : decode cX5_draw 63 = .ok (.aload_n 0, 1) := by decide +kernel
theorem dX5_draw_64 : decode cX5_draw 64 = .ok (.iload_n 2, 1) := by decide +kernel
theorem dX5_draw_65 : decode cX5_draw 65 = .ok (.putfield 40, 3) := by decide +kernel
theorem dX5_draw_68 : decode cX5_draw 68 = .ok (.aload_n 0, 1) := by decide +kernel
theorem dX5_draw_69 : decode cX5_draw 69 = .ok (.iconst 1, 1) := by decide +kernel
theorem dX5_draw_70 : decode cX5_draw 70 = .ok (.putfield 43, 3) := by decide +kernel
theorem dX5_draw_73 : decode cX5_draw 73 = .ok (.return_, 1) := by decide +kernel
theorem dX5_drawOne_0 : decode cX5_drawOne 0 = .ok (.aload_n 0, 1) := by decide +kernel
theorem dX5_drawOne_1 : decode cX5_drawOne 1 = .ok (.aload_n 0, 1) := by decide +kernel
theorem dX5_drawOne_2 : decode cX5_drawOne 2 = .ok (.getfield 21, 3) := by decide +kernel
theorem dX5_drawOne_5 : decode cX5_drawOne 5 = .ok (.i2l, 1) := by decide +kernel
theorem dX5_drawOne_6 : decode cX5_drawOne 6 = .ok (.ldc2_w 47, 3) := by decide +kernel
theorem dX5_drawOne_9 : decode cX5_drawOne 9 = .ok (.lmul, 1) := by decide +kernel
theorem dX5_drawOne_10 : decode cX5_drawOne 10 = .ok (.ldc2_w 49, 3) := by decide +kernel
theorem dX5_drawOne_13 : decode cX5_drawOne 13 = .ok (.lrem, 1) := by decide +kernel
theorem dX5_drawOne_14 : decode cX5_drawOne 14 = .ok (.l2i, 1) := by decide +kernel
theorem dX5_drawOne_15 : decode cX5_drawOne 15 = .ok (.putfield 21, 3) := by decide +kernel
theorem dX5_drawOne_18 : decode cX5_drawOne 18 = .ok (.iconst 0, 1) := by decide +kernel
theorem dX5_drawOne_19 : decode cX5_drawOne 19 = .ok (.istore_n 3, 1) := by decide +kernel
theorem dX5_drawOne_20 : decode cX5_drawOne 20 = .ok (.iconst 0, 1) := by decide +kernel
theorem dX5_drawOne_21 : decode cX5_drawOne 21 = .ok (.istore 4, 2) := by decide +kernel
theorem dX5_drawOne_23 : decode cX5_drawOne 23 = .ok (.iload 4, 2) := by decide +kernel
theorem dX5_drawOne_25 : decode cX5_drawOne 25 = .ok (.iload_n 2, 1) := by decide +kernel
theorem dX5_drawOne_26 : decode cX5_drawOne 26 = .ok (.if_icmp .ge 30, 3) := by decide +kernel
theorem dX5_drawOne_29 : decode cX5_drawOne 29 = .ok (.aload_n 0, 1) := by decide +kernel
theorem dX5_drawOne_30 : decode cX5_drawOne 30 = .ok (.iload 4, 2) := by decide +kernel
theorem dX5_drawOne_32 : decode cX5_drawOne 32 = .ok (.iload_n 1, 1) := by decide +kernel
theorem dX5_drawOne_33 : decode cX5_drawOne 33 = .ok (.invokevirtual 51, 3) := by decide +kernel
theorem dX5_drawOne_36 : decode cX5_drawOne 36 = .ok (.ifCond .eq 14, 3) := by decide +kernel
theorem dX5_drawOne_39 : decode cX5_drawOne 39 = .ok (.aload_n 0, 1) := by decide +kernel
theorem dX5_drawOne_40 : decode cX5_drawOne 40 = .ok (.getfield 18, 3) := by decide +kernel
theorem dX5_drawOne_43 : decode cX5_drawOne 43 = .ok (.iload_n 3, 1) := by decide +kernel
theorem dX5_drawOne_44 : decode cX5_drawOne 44 = .ok (.iload 4, 2) := by decide +kernel
theorem dX5_drawOne_46 : decode cX5_drawOne 46 = .ok (.iastore, 1) := by decide +kernel
theorem dX5_drawOne_47 : decode cX5_drawOne 47 = .ok (.iinc 3 1, 3) := by decide +kernel
theorem dX5_drawOne_50 : decode cX5_drawOne 50 = .ok (.iinc 4 1, 3) := by decide +kernel
theorem dX5_drawOne_53 : decode cX5_drawOne 53 = .ok (.goto (-30), 3) := by decide +kernel
theorem dX5_drawOne_56 : decode cX5_drawOne 56 = .ok (.iload_n 3, 1) := by decide +kernel
theorem dX5_drawOne_57 : decode cX5_drawOne 57 = .ok (.ifCond .le 17, 3) := by decide +kernel
theorem dX5_drawOne_60 : decode cX5_drawOne 60 = .ok (.aload_n 0, 1) := by decide +kernel
theorem dX5_drawOne_61 : decode cX5_drawOne 61 = .ok (.getfield 18, 3) := by decide +kernel
theorem dX5_drawOne_64 : decode cX5_drawOne 64 = .ok (.aload_n 0, 1) := by decide +kernel
theorem dX5_drawOne_65 : decode cX5_drawOne 65 = .ok (.getfield 21, 3) := by decide +kernel
theorem dX5_drawOne_68 : decode cX5_drawOne 68 = .ok (.iload_n 3, 1) := by decide +kernel
theorem dX5_drawOne_69 : decode cX5_drawOne 69 = .ok (.irem, 1) := by decide +kernel
theorem dX5_drawOne_70 : decode cX5_drawOne 70 = .ok (.iaload, 1) := by decide +kernel
theorem dX5_drawOne_71 : decode cX5_drawOne 71 = .ok (.goto 4, 3) := by decide +kernel
theorem dX5_drawOne_74 : decode cX5_drawOne 74 = .ok (.iconst 0, 1) := by decide +kernel
theorem dX5_drawOne_75 : decode cX5_drawOne 75 = .ok (.ireturn, 1) := by decide +kernel
theorem dX5_isFree_0 : decode cX5_isFree 0 = .ok (.iload_n 2, 1) := by decide +kernel
theorem dX5_isFree_1 : decode cX5_isFree 1 = .ok (.iconst 1, 1) := by decide +kernel
theorem dX5_isFree_2 : decode cX5_isFree 2 = .ok (.iload_n 1, 1) := by decide +kernel
theorem dX5_isFree_3 : decode cX5_isFree 3 = .ok (.ishl, 1) := by decide +kernel
theorem dX5_isFree_4 : decode cX5_isFree 4 = .ok (.iand, 1) := by decide +kernel
theorem dX5_isFree_5 : decode cX5_isFree 5 = .ok (.ifCond .eq 18, 3) := by decide +kernel
theorem dX5_isFree_8 : decode cX5_isFree 8 = .ok (.aload_n 0, 1) := by decide +kernel
theorem dX5_isFree_9 : decode cX5_isFree 9 = .ok (.getfield 15, 3) := by decide +kernel
theorem dX5_isFree_12 : decode cX5_isFree 12 = .ok (.iload_n 1, 1) := by decide +kernel
theorem dX5_isFree_13 : decode cX5_isFree 13 = .ok (.iaload, 1) := by decide +kernel
theorem dX5_isFree_14 : decode cX5_isFree 14 = .ok (.iload_n 2, 1) := by decide +kernel
theorem dX5_isFree_15 : decode cX5_isFree 15 = .ok (.iand, 1) := by decide +kernel
theorem dX5_isFree_16 : decode cX5_isFree 16 = .ok (.ifCond .ne 7, 3) := by decide +kernel
theorem dX5_isFree_19 : decode cX5_isFree 19 = .ok (.iconst 1, 1) := by decide +kernel
theorem dX5_isFree_20 : decode cX5_isFree 20 = .ok (.goto 4, 3) := by decide +kernel
theorem dX5_isFree_23 : decode cX5_isFree 23 = .ok (.iconst 0, 1) := by decide +kernel
theorem dX5_isFree_24 : decode cX5_isFree 24 = .ok (.ireturn, 1) := by decide +kernel
theorem dX5_isAllowed_0 : decode cX5_isAllowed 0 = .ok (.iconst 0, 1) := by decide +kernel
theorem dX5_isAllowed_1 : decode cX5_isAllowed 1 = .ok (.istore_n 1, 1) := by decide +kernel
theorem dX5_isAllowed_2 : decode cX5_isAllowed 2 = .ok (.iconst 0, 1) := by decide +kernel
theorem dX5_isAllowed_3 : decode cX5_isAllowed 3 = .ok (.istore_n 2, 1) := by decide +kernel
theorem dX5_isAllowed_4 : decode cX5_isAllowed 4 = .ok (.iload_n 2, 1) := by decide +kernel
theorem dX5_isAllowed_5 : decode cX5_isAllowed 5 = .ok (.aload_n 0, 1) := by decide +kernel
theorem dX5_isAllowed_6 : decode cX5_isAllowed 6 = .ok (.getfield 40, 3) := by decide +kernel
theorem dX5_isAllowed_9 : decode cX5_isAllowed 9 = .ok (.if_icmp .ge 56, 3) := by decide +kernel
theorem dX5_isAllowed_12 : decode cX5_isAllowed 12 = .ok (.aload_n 0, 1) := by decide +kernel
theorem dX5_isAllowed_13 : decode cX5_isAllowed 13 = .ok (.getfield 9, 3) := by decide +kernel
theorem dX5_isAllowed_16 : decode cX5_isAllowed 16 = .ok (.iload_n 2, 1) := by decide +kernel
theorem dX5_isAllowed_17 : decode cX5_isAllowed 17 = .ok (.iaload, 1) := by decide +kernel
theorem dX5_isAllowed_18 : decode cX5_isAllowed 18 = .ok (.istore_n 3, 1) := by decide +kernel
theorem dX5_isAllowed_19 : decode cX5_isAllowed 19 = .ok (.iload_n 3, 1) := by decide +kernel
theorem dX5_isAllowed_20 : decode cX5_isAllowed 20 = .ok (.aload_n 0, 1) := by decide +kernel
theorem dX5_isAllowed_21 : decode cX5_isAllowed 21 = .ok (.getfield 40, 3) := by decide +kernel
theorem dX5_isAllowed_24 : decode cX5_isAllowed 24 = .ok (.invokestatic 55, 3) := by decide +kernel
theorem dX5_isAllowed_27 : decode cX5_isAllowed 27 = .ok (.ifCond .eq 24, 3) := by decide +kernel
theorem dX5_isAllowed_30 : decode cX5_isAllowed 30 = .ok (.iload_n 1, 1) := by decide +kernel
theorem dX5_isAllowed_31 : decode cX5_isAllowed 31 = .ok (.iconst 1, 1) := by decide +kernel
theorem dX5_isAllowed_32 : decode cX5_isAllowed 32 = .ok (.iload_n 3, 1) := by decide +kernel
theorem dX5_isAllowed_33 : decode cX5_isAllowed 33 = .ok (.ishl, 1) := by decide +kernel
theorem dX5_isAllowed_34 : decode cX5_isAllowed 34 = .ok (.iand, 1) := by decide +kernel
theorem dX5_isAllowed_35 : decode cX5_isAllowed 35 = .ok (.ifCond .ne 16, 3) := by decide +kernel
theorem dX5_isAllowed_38 : decode cX5_isAllowed 38 = .ok (.aload_n 0, 1) := by decide +kernel
theorem dX5_isAllowed_39 : decode cX5_isAllowed 39 = .ok (.getfield 15, 3) := by decide +kernel
theorem dX5_isAllowed_42 : decode cX5_isAllowed 42 = .ok (.iload_n 3, 1) := by decide +kernel
theorem dX5_isAllowed_43 : decode cX5_isAllowed 43 = .ok (.iaload, 1) := by decide +kernel
theorem dX5_isAllowed_44 : decode cX5_isAllowed 44 = .ok (.iload_n 1, 1) := by decide +kernel
theorem dX5_isAllowed_45 : decode cX5_isAllowed 45 = .ok (.iconst (-1), 1) := by decide +kernel
theorem dX5_isAllowed_46 : decode cX5_isAllowed 46 = .ok (.ixor, 1) := by decide +kernel
theorem dX5_isAllowed_47 : decode cX5_isAllowed 47 = .ok (.iand, 1) := by decide +kernel
theorem dX5_isAllowed_48 : decode cX5_isAllowed 48 = .ok (.ifCond .eq 5, 3) := by decide +kernel
theorem dX5_isAllowed_51 : decode cX5_isAllowed 51 = .ok (.iconst 0, 1) := by decide +kernel
theorem dX5_isAllowed_52 : decode cX5_isAllowed 52 = .ok (.ireturn, 1) := by decide +kernel
theorem dX5_isAllowed_53 : decode cX5_isAllowed 53 = .ok (.iload_n 1, 1) := by decide +kernel
theorem dX5_isAllowed_54 : decode cX5_isAllowed 54 = .ok (.iconst 1, 1) := by decide +kernel
theorem dX5_isAllowed_55 : decode cX5_isAllowed 55 = .ok (.iload_n 3, 1) := by decide +kernel
theorem dX5_isAllowed_56 : decode cX5_isAllowed 56 = .ok (.ishl, 1) := by decide +kernel
theorem dX5_isAllowed_57 : decode cX5_isAllowed 57 = .ok (.ior, 1) := by decide +kernel
theorem dX5_isAllowed_58 : decode cX5_isAllowed 58 = .ok (.istore_n 1, 1) := by decide +kernel
theorem dX5_isAllowed_59 : decode cX5_isAllowed 59 = .ok (.iinc 2 1, 3) := by decide +kernel
theorem dX5_isAllowed_62 : decode cX5_isAllowed 62 = .ok (.goto (-58), 3) := by decide +kernel
theorem dX5_isAllowed_65 : decode cX5_isAllowed 65 = .ok (.iconst 1, 1) := by decide +kernel
theorem dX5_isAllowed_66 : decode cX5_isAllowed 66 = .ok (.ireturn, 1) := by decide +kernel
theorem dX6_init_0 : decode cX6_init 0 = .ok (.aload_n 0, 1) := by decide +kernel
theorem dX6_init_1 : decode cX6_init 1 = .ok (.invokespecial 3, 3) := by decide +kernel
theorem dX6_init_4 : decode cX6_init 4 = .ok (.aload_n 0, 1) := by decide +kernel
theorem dX6_init_5 : decode cX6_init 5 = .ok (.iload_n 1, 1) := by decide +kernel
theorem dX6_init_6 : decode cX6_init 6 = .ok (.putfield 9, 3) := by decide +kernel
theorem dX6_init_9 : decode cX6_init 9 = .ok (.aload_n 0, 1) := by decide +kernel
theorem dX6_init_10 : decode cX6_init 10 = .ok (.iload_n 2, 1) := by decide +kernel
theorem dX6_init_11 : decode cX6_init 11 = .ok (.putfield 15, 3) := by decide +kernel
theorem dX6_init_14 : decode cX6_init 14 = .ok (.aload_n 0, 1) := by decide +kernel
theorem dX6_init_15 : decode cX6_init 15 = .ok (.iload_n 3, 1) := by decide +kernel
theorem dX6_init_16 : decode cX6_init 16 = .ok (.putfield 18, 3) := by decide +kernel
theorem dX6_init_19 : decode cX6_init 19 = .ok (.aload_n 0, 1) := by decide +kernel
theorem dX6_init_20 : decode cX6_init 20 = .ok (.bipush 10, 2) := by decide +kernel
theorem dX6_init_22 : decode cX6_init 22 = .ok (.newarray .int, 2) := by decide +kernel
theorem dX6_init_24 : decode cX6_init 24 = .ok (.putfield 22, 3) := by decide +kernel
theorem dX6_init_27 : decode cX6_init 27 = .ok (.aload_n 0, 1) := by decide +kernel
theorem dX6_init_28 : decode cX6_init 28 = .ok (.new 26, 3) := by decide +kernel
theorem dX6_init_31 : decode cX6_init 31 = .ok (.dup, 1) := by decide +kernel
theorem dX6_init_32 : decode cX6_init 32 = .ok (.invokespecial 28, 3) := by decide +kernel
theorem dX6_init_35 : decode cX6_init 35 = .ok (.putfield 29, 3) := by decide +kernel
theorem dX6_init_38 : decode cX6_init 38 = .ok (.return_, 1) := by decide +kernel
theorem dX6_passersIn_0 : decode cX6_passersIn 0 = .ok (.iload_n 1, 1) := by decide +kernel
theorem dX6_passersIn_1 : decode cX6_passersIn 1 = .ok (.bipush 60, 2) := by decide +kernel
theorem dX6_passersIn_3 : decode cX6_passersIn 3 = .ok (.idiv, 1) := by decide +kernel
theorem dX6_passersIn_4 : decode cX6_passersIn 4 = .ok (.bipush 10, 2) := by decide +kernel
theorem dX6_passersIn_6 : decode cX6_passersIn 6 = .ok (.isub, 1) := by decide +kernel
theorem dX6_passersIn_7 : decode cX6_passersIn 7 = .ok (.istore_n 2, 1) := by decide +kernel
theorem dX6_passersIn_8 : decode cX6_passersIn 8 = .ok (.iload_n 2, 1) := by decide +kernel
theorem dX6_passersIn_9 : decode cX6_passersIn 9 = .ok (.aload_n 0, 1) := by decide +kernel
theorem dX6_passersIn_10 : decode cX6_passersIn 10 = .ok (.getfield 22, 3) := by decide +kernel
theorem dX6_passersIn_13 : decode cX6_passersIn 13 = .ok (.arraylength, 1) := by decide +kernel
theorem dX6_passersIn_14 : decode cX6_passersIn 14 = .ok (.invokestatic 33, 3) := by decide +kernel
theorem dX6_passersIn_17 : decode cX6_passersIn 17 = .ok (.ifCond .ne 5, 3) := by decide +kernel
theorem dX6_passersIn_20 : decode cX6_passersIn 20 = .ok (.iconst 0, 1) := by decide +kernel
theorem dX6_passersIn_21 : decode cX6_passersIn 21 = .ok (.ireturn, 1) := by decide +kernel
theorem dX6_passersIn_22 : decode cX6_passersIn 22 = .ok (.iload_n 1, 1) := by decide +kernel
theorem dX6_passersIn_23 : decode cX6_passersIn 23 = .ok (.bipush 60, 2) := by decide +kernel
theorem dX6_passersIn_25 : decode cX6_passersIn 25 = .ok (.irem, 1) := by decide +kernel
theorem dX6_passersIn_26 : decode cX6_passersIn 26 = .ok (.istore_n 3, 1) := by decide +kernel
theorem dX6_passersIn_27 : decode cX6_passersIn 27 = .ok (.aload_n 0, 1) := by decide +kernel
theorem dX6_passersIn_28 : decode cX6_passersIn 28 = .ok (.getfield 22, 3) := by decide +kernel
theorem dX6_passersIn_31 : decode cX6_passersIn 31 = .ok (.iload_n 2, 1) := by decide +kernel
theorem dX6_passersIn_32 : decode cX6_passersIn 32 = .ok (.iaload, 1) := by decide +kernel
theorem dX6_passersIn_33 : decode cX6_passersIn 33 = .ok (.istore 4, 2) := by decide +kernel
theorem dX6_passersIn_35 : decode cX6_passersIn 35 = .ok (.iload 4, 2) := by decide +kernel
theorem dX6_passersIn_37 : decode cX6_passersIn 37 = .ok (.iload_n 3, 1) := by decide +kernel
theorem dX6_passersIn_38 : decode cX6_passersIn 38 = .ok (.iconst 1, 1) := by decide +kernel
theorem dX6_passersIn_39 : decode cX6_passersIn 39 = .ok (.iadd, 1) := by decide +kernel
theorem dX6_passersIn_40 : decode cX6_passersIn 40 = .ok (.imul, 1) := by decide +kernel
theorem dX6_passersIn_41 : decode cX6_passersIn 41 = .ok (.bipush 60, 2) := by decide +kernel
theorem dX6_passersIn_43 : decode cX6_passersIn 43 = .ok (.idiv, 1) := by decide +kernel
theorem dX6_passersIn_44 : decode cX6_passersIn 44 = .ok (.iload 4, 2) := by decide +kernel
theorem dX6_passersIn_46 : decode cX6_passersIn 46 = .ok (.iload_n 3, 1) := by decide +kernel
theorem dX6_passersIn_47 : decode cX6_passersIn 47 = .ok (.imul, 1) := by decide +kernel
theorem dX6_passersIn_48 : decode cX6_passersIn 48 = .ok (.bipush 60, 2) := by decide +kernel
theorem dX6_passersIn_50 : decode cX6_passersIn 50 = .ok (.idiv, 1) := by decide +kernel
theorem dX6_passersIn_51 : decode cX6_passersIn 51 = .ok (.isub, 1) := by decide +kernel
theorem dX6_passersIn_52 : decode cX6_passersIn 52 = .ok (.ireturn, 1) := by decide +kernel
theorem dX6_yardsTo_0 : decode cX6_yardsTo 0 = .ok (.aload_n 0, 1) := by decide +kernel
theorem dX6_yardsTo_1 : decode cX6_yardsTo 1 = .ok (.getfield 9, 3) := by decide +kernel
theorem dX6_yardsTo_4 : decode cX6_yardsTo 4 = .ok (.aload_n 1, 1) := by decide +kernel
theorem dX6_yardsTo_5 : decode cX6_yardsTo 5 = .ok (.getfield 9, 3) := by decide +kernel
theorem dX6_yardsTo_8 : decode cX6_yardsTo 8 = .ok (.isub, 1) := by decide +kernel
theorem dX6_yardsTo_9 : decode cX6_yardsTo 9 = .ok (.invokestatic 37, 3) := by decide +kernel
theorem dX6_yardsTo_12 : decode cX6_yardsTo 12 = .ok (.ireturn, 1) := by decide +kernel
theorem dX6_loudnessAt_0 : decode cX6_loudnessAt 0 = .ok (.bipush 10, 2) := by decide +kernel
theorem dX6_loudnessAt_2 : decode cX6_loudnessAt 2 = .ok (.aload_n 2, 1) := by decide +kernel
theorem dX6_loudnessAt_3 : decode cX6_loudnessAt 3 = .ok (.getfield 43, 3) := by decide +kernel
theorem dX6_loudnessAt_6 : decode cX6_loudnessAt 6 = .ok (.imul, 1) := by decide +kernel
theorem dX6_loudnessAt_7 : decode cX6_loudnessAt 7 = .ok (.aload_n 0, 1) := by decide +kernel
theorem dX6_loudnessAt_8 : decode cX6_loudnessAt 8 = .ok (.getfield 15, 3) := by decide +kernel
theorem dX6_loudnessAt_11 : decode cX6_loudnessAt 11 = .ok (.iadd, 1) := by decide +kernel
theorem dX6_loudnessAt_12 : decode cX6_loudnessAt 12 = .ok (.aload_n 0, 1) := by decide +kernel
theorem dX6_loudnessAt_13 : decode cX6_loudnessAt 13 = .ok (.aload_n 1, 1) := by decide +kernel
theorem dX6_loudnessAt_14 : decode cX6_loudnessAt 14 = .ok (.invokevirtual 48, 3) := by decide +kernel
theorem dX6_loudnessAt_17 : decode cX6_loudnessAt 17 = .ok (.isub, 1) := by decide +kernel
theorem dX6_loudnessAt_18 : decode cX6_loudnessAt 18 = .ok (.ireturn, 1) := by decide +kernel
theorem dX6_openDay_0 : decode cX6_openDay 0 = .ok (.aload_n 0, 1) := by decide +kernel
theorem dX6_openDay_1 : decode cX6_openDay 1 = .ok (.iconst 0, 1) := by decide +kernel
theorem dX6_openDay_2 : decode cX6_openDay 2 = .ok (.putfield 52, 3) := by decide +kernel
theorem dX6_openDay_5 : decode cX6_openDay 5 = .ok (.aload_n 0, 1) := by decide +kernel
theorem dX6_openDay_6 : decode cX6_openDay 6 = .ok (.sipush 600, 3) := by decide +kernel
theorem dX6_openDay_9 : decode cX6_openDay 9 = .ok (.putfield 55, 3) := by decide +kernel
theorem dX6_openDay_12 : decode cX6_openDay 12 = .ok (.aload_n 0, 1) := by decide +kernel
theorem dX6_openDay_13 : decode cX6_openDay 13 = .ok (.aconst_null, 1) := by decide +kernel
theorem dX6_openDay_14 : decode cX6_openDay 14 = .ok (.putfield 58, 3) := by decide +kernel
theorem dX6_openDay_17 : decode cX6_openDay 17 = .ok (.return_, 1) := by decide +kernel
theorem dX6_openMinute_0 : decode cX6_openMinute 0 = .ok (.aload_n 0, 1) := by decide +kernel
theorem dX6_openMinute_1 : decode cX6_openMinute 1 = .ok (.getfield 58, 3) := by decide +kernel
theorem dX6_openMinute_4 : decode cX6_openMinute 4 = .ok (.ifnull 34, 3) := by decide +kernel
theorem dX6_openMinute_7 : decode cX6_openMinute 7 = .ok (.aload_n 0, 1) := by decide +kernel
theorem dX6_openMinute_8 : decode cX6_openMinute 8 = .ok (.getfield 58, 3) := by decide +kernel
theorem dX6_openMinute_11 : decode cX6_openMinute 11 = .ok (.getfield 62, 3) := by decide +kernel
theorem dX6_openMinute_14 : decode cX6_openMinute 14 = .ok (.iload_n 1, 1) := by decide +kernel
theorem dX6_openMinute_15 : decode cX6_openMinute 15 = .ok (.if_icmp .ge 23, 3) := by decide +kernel
theorem dX6_openMinute_18 : decode cX6_openMinute 18 = .ok (.aload_n 0, 1) := by decide +kernel
theorem dX6_openMinute_19 : decode cX6_openMinute 19 = .ok (.aload_n 0, 1) := by decide +kernel
theorem dX6_openMinute_20 : decode cX6_openMinute 20 = .ok (.getfield 58, 3) := by decide +kernel
theorem dX6_openMinute_23 : decode cX6_openMinute 23 = .ok (.getfield 62, 3) := by decide +kernel
theorem dX6_openMinute_26 : decode cX6_openMinute 26 = .ok (.iconst 5, 1) := by decide +kernel
theorem dX6_openMinute_27 : decode cX6_openMinute 27 = .ok (.iadd, 1) := by decide +kernel
theorem dX6_openMinute_28 : decode cX6_openMinute 28 = .ok (.iconst 1, 1) := by decide +kernel
theorem dX6_openMinute_29 : decode cX6_openMinute 29 = .ok (.iadd, 1) := by decide +kernel
theorem dX6_openMinute_30 : decode cX6_openMinute 30 = .ok (.putfield 55, 3) := by decide +kernel
theorem dX6_openMinute_33 : decode cX6_openMinute 33 = .ok (.aload_n 0, 1) := by decide +kernel
theorem dX6_openMinute_34 : decode cX6_openMinute 34 = .ok (.aconst_null, 1) := by decide +kernel
theorem dX6_openMinute_35 : decode cX6_openMinute 35 = .ok (.putfield 58, 3) := by decide +kernel
theorem dX6_openMinute_38 : decode cX6_openMinute 38 = .ok (.aload_n 0, 1) := by decide +kernel
theorem dX6_openMinute_39 : decode cX6_openMinute 39 = .ok (.getfield 58, 3) := by decide +kernel
theorem dX6_openMinute_42 : decode cX6_openMinute 42 = .ok (.ifnonnull 30, 3) := by decide +kernel
theorem dX6_openMinute_45 : decode cX6_openMinute 45 = .ok (.iload_n 1, 1) := by decide +kernel
theorem dX6_openMinute_46 : decode cX6_openMinute 46 = .ok (.aload_n 0, 1) := by decide +kernel
theorem dX6_openMinute_47 : decode cX6_openMinute 47 = .ok (.getfield 55, 3) := by decide +kernel
theorem dX6_openMinute_50 : decode cX6_openMinute 50 = .ok (.if_icmp .ne 22, 3) := by decide +kernel
theorem dX6_openMinute_53 : decode cX6_openMinute 53 = .ok (.aload_n 0, 1) := by decide +kernel
theorem dX6_openMinute_54 : decode cX6_openMinute 54 = .ok (.getfield 52, 3) := by decide +kernel
theorem dX6_openMinute_57 : decode cX6_openMinute 57 = .ok (.aload_n 0, 1) := by decide +kernel
theorem dX6_openMinute_58 : decode cX6_openMinute 58 = .ok (.getfield 29, 3) := by decide +kernel
theorem dX6_openMinute_61 : decode cX6_openMinute 61 = .ok (.invokevirtual 67, 3) := by decide +kernel
theorem dX6_openMinute_64 : decode cX6_openMinute 64 = .ok (.if_icmp .ge 8, 3) := by decide +kernel
theorem dX6_openMinute_67 : decode cX6_openMinute 67 = .ok (.aload_n 0, 1) := by decide +kernel
theorem dX6_openMinute_68 : decode cX6_openMinute 68 = .ok (.iload_n 1, 1) := by decide +kernel
theorem dX6_openMinute_69 : decode cX6_openMinute 69 = .ok (.invokevirtual 71, 3) := by decide +kernel
theorem dX6_openMinute_72 : decode cX6_openMinute 72 = .ok (.return_, 1) := by decide +kernel
theorem dX6_beginNext_0 : decode cX6_beginNext 0 = .ok (.aload_n 0, 1) := by decide +kernel
theorem dX6_beginNext_1 : decode cX6_beginNext 1 = .ok (.getfield 29, 3) := by decide +kernel
theorem dX6_beginNext_4 : decode cX6_beginNext 4 = .ok (.aload_n 0, 1) := by decide +kernel
theorem dX6_beginNext_5 : decode cX6_beginNext 5 = .ok (.getfield 52, 3) := by decide +kernel
theorem dX6_beginNext_8 : decode cX6_beginNext 8 = .ok (.invokevirtual 75, 3) := by decide +kernel
theorem dX6_beginNext_11 : decode cX6_beginNext 11 = .ok (.checkcast 63, 3) := by decide +kernel
theorem dX6_beginNext_14 : decode cX6_beginNext 14 = .ok (.astore_n 2, 1) := by decide +kernel
theorem dX6_beginNext_15 : decode cX6_beginNext 15 = .ok (.aload_n 2, 1) := by decide +kernel
theorem dX6_beginNext_16 : decode cX6_beginNext 16 = .ok (.iload_n 1, 1) := by decide +kernel
theorem dX6_beginNext_17 : decode cX6_beginNext 17 = .ok (.invokevirtual 79, 3) := by decide +kernel
theorem dX6_beginNext_20 : decode cX6_beginNext 20 = .ok (.sipush 1199, 3) := by decide +kernel
theorem dX6_beginNext_23 : decode cX6_beginNext 23 = .ok (.if_icmp .le 15, 3) := by decide +kernel
theorem dX6_beginNext_26 : decode cX6_beginNext 26 = .ok (.aload_n 0, 1) := by decide +kernel
theorem dX6_beginNext_27 : decode cX6_beginNext 27 = .ok (.aload_n 0, 1) := by decide +kernel
theorem dX6_beginNext_28 : decode cX6_beginNext 28 = .ok (.getfield 29, 3) := by decide +kernel
theorem dX6_beginNext_31 : decode cX6_beginNext 31 = .ok (.invokevirtual 67, 3) := by decide +kernel
theorem dX6_beginNext_34 : decode cX6_beginNext 34 = .ok (.putfield 52, 3) := by decide +kernel
theorem dX6_beginNext_37 : decode cX6_beginNext 37 = .ok (.return_, 1) := by decide +kernel
theorem dX6_beginNext_38 : decode cX6_beginNext 38 = .ok (.aload_n 2, 1) := by decide +kernel
theorem dX6_beginNext_39 : decode cX6_beginNext 39 = .ok (.iload_n 1, 1) := by decide +kernel
theorem dX6_beginNext_40 : decode cX6_beginNext 40 = .ok (.invokevirtual 82, 3) := by decide +kernel
theorem dX6_beginNext_43 : decode cX6_beginNext 43 = .ok (.aload_n 0, 1) := by decide +kernel
theorem dX6_beginNext_44 : decode cX6_beginNext 44 = .ok (.aload_n 2, 1) := by decide +kernel
theorem dX6_beginNext_45 : decode cX6_beginNext 45 = .ok (.putfield 58, 3) := by decide +kernel
theorem dX6_beginNext_48 : decode cX6_beginNext 48 = .ok (.aload_n 0, 1) := by decide +kernel
theorem dX6_beginNext_49 : decode cX6_beginNext 49 = .ok (.dup, 1) := by decide +kernel
theorem dX6_beginNext_50 : decode cX6_beginNext 50 = .ok (.getfield 52, 3) := by decide +kernel
theorem dX6_beginNext_53 : decode cX6_beginNext 53 = .ok (.iconst 1, 1) := by decide +kernel
theorem dX6_beginNext_54 : decode cX6_beginNext 54 = .ok (.iadd, 1) := by decide +kernel
theorem dX6_beginNext_55 : decode cX6_beginNext 55 = .ok (.putfield 52, 3) := by decide +kernel
theorem dX6_beginNext_58 : decode cX6_beginNext 58 = .ok (.return_, 1) := by decide +kernel
theorem dX6_isOver_0 : decode cX6_isOver 0 = .ok (.aload_n 0, 1) := by decide +kernel
theorem dX6_isOver_1 : decode cX6_isOver 1 = .ok (.getfield 58, 3) := by decide +kernel
theorem dX6_isOver_4 : decode cX6_isOver 4 = .ok (.ifnonnull 21, 3) := by decide +kernel
theorem dX6_isOver_7 : decode cX6_isOver 7 = .ok (.aload_n 0, 1) := by decide +kernel
theorem dX6_isOver_8 : decode cX6_isOver 8 = .ok (.getfield 52, 3) := by decide +kernel
theorem dX6_isOver_11 : decode cX6_isOver 11 = .ok (.aload_n 0, 1) := by decide +kernel
theorem dX6_isOver_12 : decode cX6_isOver 12 = .ok (.getfield 29, 3) := by decide +kernel
theorem dX6_isOver_15 : decode cX6_isOver 15 = .ok (.invokevirtual 67, 3) := by decide +kernel
theorem dX6_isOver_18 : decode cX6_isOver 18 = .ok (.if_icmp .lt 7, 3) := by decide +kernel
theorem dX6_isOver_21 : decode cX6_isOver 21 = .ok (.iconst 1, 1) := by decide +kernel
theorem dX6_isOver_22 : decode cX6_isOver 22 = .ok (.goto 4, 3) := by decide +kernel
theorem dX6_isOver_25 : decode cX6_isOver 25 = .ok (.iconst 0, 1) := by decide +kernel
theorem dX6_isOver_26 : decode cX6_isOver 26 = .ok (.ireturn, 1) := by decide +kernel
theorem dX6_actsOfTurns_0 : decode cX6_actsOfTurns 0 = .ok (.iconst 0, 1) := by decide +kernel
theorem dX6_actsOfTurns_1 : decode cX6_actsOfTurns 1 = .ok (.istore_n 1, 1) := by decide +kernel
theorem dX6_actsOfTurns_2 : decode cX6_actsOfTurns 2 = .ok (.iconst 0, 1) := by decide +kernel
theorem dX6_actsOfTurns_3 : decode cX6_actsOfTurns 3 = .ok (.istore_n 2, 1) := by decide +kernel
theorem dX6_actsOfTurns_4 : decode cX6_actsOfTurns 4 = .ok (.iload_n 2, 1) := by decide +kernel
theorem dX6_actsOfTurns_5 : decode cX6_actsOfTurns 5 = .ok (.aload_n 0, 1) := by decide +kernel
theorem dX6_actsOfTurns_6 : decode cX6_actsOfTurns 6 = .ok (.getfield 29, 3) := by decide +kernel
theorem dX6_actsOfTurns_9 : decode cX6_actsOfTurns 9 = .ok (.invokevirtual 67, 3) := by decide +kernel
theorem dX6_actsOfTurns_12 : decode cX6_actsOfTurns 12 = .ok (.if_icmp .ge 31, 3) := by decide +kernel
theorem dX6_actsOfTurns_15 : decode cX6_actsOfTurns 15 = .ok (.iload_n 1, 1) := by decide +kernel
theorem dX6_actsOfTurns_16 : decode cX6_actsOfTurns 16 = .ok (.iconst 1, 1) := by decide +kernel
theorem dX6_actsOfTurns_17 : decode cX6_actsOfTurns 17 = .ok (.aload_n 0, 1) := by decide +kernel
theorem dX6_actsOfTurns_18 : decode cX6_actsOfTurns 18 = .ok (.getfield 29, 3) := by decide +kernel
theorem dX6_actsOfTurns_21 : decode cX6_actsOfTurns 21 = .ok (.iload_n 2, 1) := by decide +kernel
theorem dX6_actsOfTurns_22 : decode cX6_actsOfTurns 22 = .ok (.invokevirtual 75, 3) := by decide +kernel
theorem dX6_actsOfTurns_25 : decode cX6_actsOfTurns 25 = .ok (.checkcast 63, 3) := by decide +kernel
theorem dX6_actsOfTurns_28 : decode cX6_actsOfTurns 28 = .ok (.getfield 85, 3) := by decide +kernel
theorem dX6_actsOfTurns_31 : decode cX6_actsOfTurns 31 = .ok (.getfield 89, 3) := by decide +kernel
theorem dX6_actsOfTurns_34 : decode cX6_actsOfTurns 34 = .ok (.ishl, 1) := by decide +kernel
theorem dX6_actsOfTurns_35 : decode cX6_actsOfTurns 35 = .ok (.ior, 1) := by decide +kernel
theorem dX6_actsOfTurns_36 : decode cX6_actsOfTurns 36 = .ok (.istore_n 1, 1) := by decide +kernel
theorem dX6_actsOfTurns_37 : decode cX6_actsOfTurns 37 = .ok (.iinc 2 1, 3) := by decide +kernel
theorem dX6_actsOfTurns_40 : decode cX6_actsOfTurns 40 = .ok (.goto (-36), 3) := by decide +kernel
theorem dX6_actsOfTurns_43 : decode cX6_actsOfTurns 43 = .ok (.iload_n 1, 1) := by decide +kernel
theorem dX6_actsOfTurns_44 : decode cX6_actsOfTurns 44 = .ok (.ireturn, 1) := by decide +kernel
theorem dX6_hasTurnsApart_0 : decode cX6_hasTurnsApart 0 = .ok (.sipush 599, 3) := by decide +kernel
theorem dX6_hasTurnsApart_3 : decode cX6_hasTurnsApart 3 = .ok (.istore_n 1, 1) := by decide +kernel
theorem dX6_hasTurnsApart_4 : decode cX6_hasTurnsApart 4 = .ok (.iconst 0, 1) := by decide +kernel
theorem dX6_hasTurnsApart_5 : decode cX6_hasTurnsApart 5 = .ok (.istore_n 2, 1) := by decide +kernel
theorem dX6_hasTurnsApart_6 : decode cX6_hasTurnsApart 6 = .ok (.iload_n 2, 1) := by decide +kernel
theorem dX6_hasTurnsApart_7 : decode cX6_hasTurnsApart 7 = .ok (.aload_n 0, 1) := by decide +kernel
theorem dX6_hasTurnsApart_8 : decode cX6_hasTurnsApart 8 = .ok (.getfield 29, 3) := by decide +kernel
theorem dX6_hasTurnsApart_11 : decode cX6_hasTurnsApart 11 = .ok (.invokevirtual 67, 3) := by decide +kernel
theorem dX6_hasTurnsApart_14 : decode cX6_hasTurnsApart 14 = .ok (.if_icmp .ge 61, 3) := by decide +kernel
theorem dX6_hasTurnsApart_17 : decode cX6_hasTurnsApart 17 = .ok (.aload_n 0, 1) := by decide +kernel
theorem dX6_hasTurnsApart_18 : decode cX6_hasTurnsApart 18 = .ok (.getfield 29, 3) := by decide +kernel
theorem dX6_hasTurnsApart_21 : decode cX6_hasTurnsApart 21 = .ok (.iload_n 2, 1) := by decide +kernel
theorem dX6_hasTurnsApart_22 : decode cX6_hasTurnsApart 22 = .ok (.invokevirtual 75, 3) := by decide +kernel
theorem dX6_hasTurnsApart_25 : decode cX6_hasTurnsApart 25 = .ok (.checkcast 63, 3) := by decide +kernel
theorem dX6_hasTurnsApart_28 : decode cX6_hasTurnsApart 28 = .ok (.astore_n 3, 1) := by decide +kernel
theorem dX6_hasTurnsApart_29 : decode cX6_hasTurnsApart 29 = .ok (.aload_n 3, 1) := by decide +kernel
theorem dX6_hasTurnsApart_30 : decode cX6_hasTurnsApart 30 = .ok (.getfield 92, 3) := by decide +kernel
theorem dX6_hasTurnsApart_33 : decode cX6_hasTurnsApart 33 = .ok (.ifCond .eq 24, 3) := by decide +kernel
theorem dX6_hasTurnsApart_36 : decode cX6_hasTurnsApart 36 = .ok (.aload_n 3, 1) := by decide +kernel
theorem dX6_hasTurnsApart_37 : decode cX6_hasTurnsApart 37 = .ok (.getfield 95, 3) := by decide +kernel
theorem dX6_hasTurnsApart_40 : decode cX6_hasTurnsApart 40 = .ok (.iload_n 1, 1) := by decide +kernel
theorem dX6_hasTurnsApart_41 : decode cX6_hasTurnsApart 41 = .ok (.if_icmp .le 14, 3) := by decide +kernel
theorem dX6_hasTurnsApart_44 : decode cX6_hasTurnsApart 44 = .ok (.aload_n 3, 1) := by decide +kernel
theorem dX6_hasTurnsApart_45 : decode cX6_hasTurnsApart 45 = .ok (.getfield 62, 3) := by decide +kernel
theorem dX6_hasTurnsApart_48 : decode cX6_hasTurnsApart 48 = .ok (.aload_n 3, 1) := by decide +kernel
theorem dX6_hasTurnsApart_49 : decode cX6_hasTurnsApart 49 = .ok (.getfield 95, 3) := by decide +kernel
theorem dX6_hasTurnsApart_52 : decode cX6_hasTurnsApart 52 = .ok (.if_icmp .ge 5, 3) := by decide +kernel
theorem dX6_hasTurnsApart_55 : decode cX6_hasTurnsApart 55 = .ok (.iconst 0, 1) := by decide +kernel
theorem dX6_hasTurnsApart_56 : decode cX6_hasTurnsApart 56 = .ok (.ireturn, 1) := by decide +kernel
theorem dX6_hasTurnsApart_57 : decode cX6_hasTurnsApart 57 = .ok (.aload_n 3, 1) := by decide +kernel
theorem dX6_hasTurnsApart_58 : decode cX6_hasTurnsApart 58 = .ok (.getfield 92, 3) := by decide +kernel
theorem dX6_hasTurnsApart_61 : decode cX6_hasTurnsApart 61 = .ok (.ifCond .eq 8, 3) := by decide +kernel
theorem dX6_hasTurnsApart_64 : decode cX6_hasTurnsApart 64 = .ok (.aload_n 3, 1) := by decide +kernel
theorem dX6_hasTurnsApart_65 : decode cX6_hasTurnsApart 65 = .ok (.getfield 62, 3) := by decide +kernel
theorem dX6_hasTurnsApart_68 : decode cX6_hasTurnsApart 68 = .ok (.istore_n 1, 1) := by decide +kernel
theorem dX6_hasTurnsApart_69 : decode cX6_hasTurnsApart 69 = .ok (.iinc 2 1, 3) := by decide +kernel
theorem dX6_hasTurnsApart_72 : decode cX6_hasTurnsApart 72 = .ok (.goto (-66), 3) := by decide +kernel
theorem dX6_hasTurnsApart_75 : decode cX6_hasTurnsApart 75 = .ok (.iconst 1, 1) := by decide +kernel
theorem dX6_hasTurnsApart_76 : decode cX6_hasTurnsApart 76 = .ok (.ireturn, 1) := by decide +kernel
theorem dX7_init_0 : decode cX7_init 0 = .ok (.aload_n 0, 1) := by decide +kernel
theorem dX7_init_1 : decode cX7_init 1 = .ok (.invokespecial 1, 3) := by decide +kernel
theorem dX7_init_4 : decode cX7_init 4 = .ok (.aload_n 0, 1) := by decide +kernel
theorem dX7_init_5 : decode cX7_init 5 = .ok (.new 7, 3) := by decide +kernel
theorem dX7_init_8 : decode cX7_init 8 = .ok (.dup, 1) := by decide +kernel
theorem dX7_init_9 : decode cX7_init 9 = .ok (.invokespecial 9, 3) := by decide +kernel
theorem dX7_init_12 : decode cX7_init 12 = .ok (.putfield 10, 3) := by decide +kernel
theorem dX7_init_15 : decode cX7_init 15 = .ok (.aload_n 0, 1) := by decide +kernel
theorem dX7_init_16 : decode cX7_init 16 = .ok (.new 7, 3) := by decide +kernel
theorem dX7_init_19 : decode cX7_init 19 = .ok (.dup, 1) := by decide +kernel
theorem dX7_init_20 : decode cX7_init 20 = .ok (.invokespecial 9, 3) := by decide +kernel
theorem dX7_init_23 : decode cX7_init 23 = .ok (.putfield 16, 3) := by decide +kernel
theorem dX7_init_26 : decode cX7_init 26 = .ok (.return_, 1) := by decide +kernel
theorem dX7_hasPitchAt_0 : decode cX7_hasPitchAt 0 = .ok (.iconst 0, 1) := by decide +kernel
theorem dX7_hasPitchAt_1 : decode cX7_hasPitchAt 1 = .ok (.istore_n 2, 1) := by decide +kernel
theorem dX7_hasPitchAt_2 : decode cX7_hasPitchAt 2 = .ok (.iload_n 2, 1) := by decide +kernel
theorem dX7_hasPitchAt_3 : decode cX7_hasPitchAt 3 = .ok (.aload_n 0, 1) := by decide +kernel
theorem dX7_hasPitchAt_4 : decode cX7_hasPitchAt 4 = .ok (.getfield 10, 3) := by decide +kernel
theorem dX7_hasPitchAt_7 : decode cX7_hasPitchAt 7 = .ok (.invokevirtual 19, 3) := by decide +kernel
theorem dX7_hasPitchAt_10 : decode cX7_hasPitchAt 10 = .ok (.if_icmp .ge 29, 3) := by decide +kernel
theorem dX7_hasPitchAt_13 : decode cX7_hasPitchAt 13 = .ok (.aload_n 0, 1) := by decide +kernel
theorem dX7_hasPitchAt_14 : decode cX7_hasPitchAt 14 = .ok (.getfield 10, 3) := by decide +kernel
theorem dX7_hasPitchAt_17 : decode cX7_hasPitchAt 17 = .ok (.iload_n 2, 1) := by decide +kernel
theorem dX7_hasPitchAt_18 : decode cX7_hasPitchAt 18 = .ok (.invokevirtual 23, 3) := by decide +kernel
theorem dX7_hasPitchAt_21 : decode cX7_hasPitchAt 21 = .ok (.checkcast 27, 3) := by decide +kernel
theorem dX7_hasPitchAt_24 : decode cX7_hasPitchAt 24 = .ok (.getfield 29, 3) := by decide +kernel
theorem dX7_hasPitchAt_27 : decode cX7_hasPitchAt 27 = .ok (.iload_n 1, 1) := by decide +kernel
theorem dX7_hasPitchAt_28 : decode cX7_hasPitchAt 28 = .ok (.if_icmp .ne 5, 3) := by decide +kernel
theorem dX7_hasPitchAt_31 : decode cX7_hasPitchAt 31 = .ok (.iconst 1, 1) := by decide +kernel
theorem dX7_hasPitchAt_32 : decode cX7_hasPitchAt 32 = .ok (.ireturn, 1) := by decide +kernel
theorem dX7_hasPitchAt_33 : decode cX7_hasPitchAt 33 = .ok (.iinc 2 1, 3) := by decide +kernel
theorem dX7_hasPitchAt_36 : decode cX7_hasPitchAt 36 = .ok (.goto (-34), 3) := by decide +kernel
theorem dX7_hasPitchAt_39 : decode cX7_hasPitchAt 39 = .ok (.iconst 0, 1) := by decide +kernel
theorem dX7_hasPitchAt_40 : decode cX7_hasPitchAt 40 = .ok (.ireturn, 1) := by decide +kernel
theorem dX7_hasTurnElsewhere_0 : decode cX7_hasTurnElsewhere 0 = .ok (.iconst 0, 1) := by decide +kernel
theorem dX7_hasTurnElsewhere_1 : decode cX7_hasTurnElsewhere 1 = .ok (.istore_n 3, 1) := by decide +kernel
theorem dX7_hasTurnElsewhere_2 : decode cX7_hasTurnElsewhere 2 = .ok (.iload_n 3, 1) := by decide +kernel
theorem dX7_hasTurnElsewhere_3 : decode cX7_hasTurnElsewhere 3 = .ok (.aload_n 0, 1) := by decide +kernel
theorem dX7_hasTurnElsewhere_4 : decode cX7_hasTurnElsewhere 4 = .ok (.getfield 10, 3) := by decide +kernel
theorem dX7_hasTurnElsewhere_7 : decode cX7_hasTurnElsewhere 7 = .ok (.invokevirtual 19, 3) := by decide +kernel
theorem dX7_hasTurnElsewhere_10 : decode cX7_hasTurnElsewhere 10 = .ok (.if_icmp .ge 37, 3) := by decide +kernel
theorem dX7_hasTurnElsewhere_13 : decode cX7_hasTurnElsewhere 13 = .ok (.iload_n 3, 1) := by decide +kernel
theorem dX7_hasTurnElsewhere_14 : decode cX7_hasTurnElsewhere 14 = .ok (.iload_n 2, 1) := by decide +kernel
theorem dX7_hasTurnElsewhere_15 : decode cX7_hasTurnElsewhere 15 = .ok (.if_icmp .eq 26, 3) := by decide +kernel
theorem dX7_hasTurnElsewhere_18 : decode cX7_hasTurnElsewhere 18 = .ok (.aload_n 0, 1) := by decide +kernel
theorem dX7_hasTurnElsewhere_19 : decode cX7_hasTurnElsewhere 19 = .ok (.getfield 10, 3) := by decide +kernel
theorem dX7_hasTurnElsewhere_22 : decode cX7_hasTurnElsewhere 22 = .ok (.iload_n 3, 1) := by decide +kernel
theorem dX7_hasTurnElsewhere_23 : decode cX7_hasTurnElsewhere 23 = .ok (.invokevirtual 23, 3) := by decide +kernel
theorem dX7_hasTurnElsewhere_26 : decode cX7_hasTurnElsewhere 26 = .ok (.checkcast 27, 3) := by decide +kernel
theorem dX7_hasTurnElsewhere_29 : decode cX7_hasTurnElsewhere 29 = .ok (.invokevirtual 33, 3) := by decide +kernel
theorem dX7_hasTurnElsewhere_32 : decode cX7_hasTurnElsewhere 32 = .ok (.iconst 1, 1) := by decide +kernel
theorem dX7_hasTurnElsewhere_33 : decode cX7_hasTurnElsewhere 33 = .ok (.iload_n 1, 1) := by decide +kernel
theorem dX7_hasTurnElsewhere_34 : decode cX7_hasTurnElsewhere 34 = .ok (.ishl, 1) := by decide +kernel
theorem dX7_hasTurnElsewhere_35 : decode cX7_hasTurnElsewhere 35 = .ok (.iand, 1) := by decide +kernel
theorem dX7_hasTurnElsewhere_36 : decode cX7_hasTurnElsewhere 36 = .ok (.ifCond .eq 5, 3) := by decide +kernel
theorem dX7_hasTurnElsewhere_39 : decode cX7_hasTurnElsewhere 39 = .ok (.iconst 1, 1) := by decide +kernel
theorem dX7_hasTurnElsewhere_40 : decode cX7_hasTurnElsewhere 40 = .ok (.ireturn, 1) := by decide +kernel
theorem dX7_hasTurnElsewhere_41 : decode cX7_hasTurnElsewhere 41 = .ok (.iinc 3 1, 3) := by decide +kernel
theorem dX7_hasTurnElsewhere_44 : decode cX7_hasTurnElsewhere 44 = .ok (.goto (-42), 3) := by decide +kernel
theorem dX7_hasTurnElsewhere_47 : decode cX7_hasTurnElsewhere 47 = .ok (.iconst 0, 1) := by decide +kernel
theorem dX7_hasTurnElsewhere_48 : decode cX7_hasTurnElsewhere 48 = .ok (.ireturn, 1) := by decide +kernel
theorem dX7_clearTurns_0 : decode cX7_clearTurns 0 = .ok (.iconst 0, 1) := by decide +kernel
theorem dX7_clearTurns_1 : decode cX7_clearTurns 1 = .ok (.istore_n 1, 1) := by decide +kernel
theorem dX7_clearTurns_2 : decode cX7_clearTurns 2 = .ok (.iload_n 1, 1) := by decide +kernel
theorem dX7_clearTurns_3 : decode cX7_clearTurns 3 = .ok (.aload_n 0, 1) := by decide +kernel
theorem dX7_clearTurns_4 : decode cX7_clearTurns 4 = .ok (.getfield 10, 3) := by decide +kernel
theorem dX7_clearTurns_7 : decode cX7_clearTurns 7 = .ok (.invokevirtual 19, 3) := by decide +kernel
theorem dX7_clearTurns_10 : decode cX7_clearTurns 10 = .ok (.if_icmp .ge 26, 3) := by decide +kernel
theorem dX7_clearTurns_13 : decode cX7_clearTurns 13 = .ok (.aload_n 0, 1) := by decide +kernel
theorem dX7_clearTurns_14 : decode cX7_clearTurns 14 = .ok (.getfield 10, 3) := by decide +kernel
theorem dX7_clearTurns_17 : decode cX7_clearTurns 17 = .ok (.iload_n 1, 1) := by decide +kernel
theorem dX7_clearTurns_18 : decode cX7_clearTurns 18 = .ok (.invokevirtual 23, 3) := by decide +kernel
theorem dX7_clearTurns_21 : decode cX7_clearTurns 21 = .ok (.checkcast 27, 3) := by decide +kernel
theorem dX7_clearTurns_24 : decode cX7_clearTurns 24 = .ok (.getfield 36, 3) := by decide +kernel
theorem dX7_clearTurns_27 : decode cX7_clearTurns 27 = .ok (.invokevirtual 39, 3) := by decide +kernel
theorem dX7_clearTurns_30 : decode cX7_clearTurns 30 = .ok (.iinc 1 1, 3) := by decide +kernel
theorem dX7_clearTurns_33 : decode cX7_clearTurns 33 = .ok (.goto (-31), 3) := by decide +kernel
theorem dX7_clearTurns_36 : decode cX7_clearTurns 36 = .ok (.return_, 1) := by decide +kernel
theorem dX7_makePartners_0 : decode cX7_makePartners 0 = .ok (.aload_n 1, 1) := by decide +kernel
theorem dX7_makePartners_1 : decode cX7_makePartners 1 = .ok (.getfield 42, 3) := by decide +kernel
theorem dX7_makePartners_4 : decode cX7_makePartners 4 = .ok (.aload_n 2, 1) := by decide +kernel
theorem dX7_makePartners_5 : decode cX7_makePartners 5 = .ok (.getfield 42, 3) := by decide +kernel
theorem dX7_makePartners_8 : decode cX7_makePartners 8 = .ok (.ior, 1) := by decide +kernel
theorem dX7_makePartners_9 : decode cX7_makePartners 9 = .ok (.istore_n 3, 1) := by decide +kernel
theorem dX7_makePartners_10 : decode cX7_makePartners 10 = .ok (.iconst 0, 1) := by decide +kernel
theorem dX7_makePartners_11 : decode cX7_makePartners 11 = .ok (.istore 4, 2) := by decide +kernel
theorem dX7_makePartners_13 : decode cX7_makePartners 13 = .ok (.iload 4, 2) := by decide +kernel
theorem dX7_makePartners_15 : decode cX7_makePartners 15 = .ok (.aload_n 0, 1) := by decide +kernel
theorem dX7_makePartners_16 : decode cX7_makePartners 16 = .ok (.getfield 16, 3) := by decide +kernel
theorem dX7_makePartners_19 : decode cX7_makePartners 19 = .ok (.invokevirtual 19, 3) := by decide +kernel
theorem dX7_makePartners_22 : decode cX7_makePartners 22 = .ok (.if_icmp .ge 34, 3) := by decide +kernel
theorem dX7_makePartners_25 : decode cX7_makePartners 25 = .ok (.iload_n 3, 1) := by decide +kernel
theorem dX7_makePartners_26 : decode cX7_makePartners 26 = .ok (.iconst 1, 1) := by decide +kernel
theorem dX7_makePartners_27 : decode cX7_makePartners 27 = .ok (.iload 4, 2) := by decide +kernel
theorem dX7_makePartners_29 : decode cX7_makePartners 29 = .ok (.ishl, 1) := by decide +kernel
theorem dX7_makePartners_30 : decode cX7_makePartners 30 = .ok (.iand, 1) := by decide +kernel
theorem dX7_makePartners_31 : decode cX7_makePartners 31 = .ok (.ifCond .eq 19, 3) := by decide +kernel
theorem dX7_makePartners_34 : decode cX7_makePartners 34 = .ok (.aload_n 0, 1) := by decide +kernel
theorem dX7_makePartners_35 : decode cX7_makePartners 35 = .ok (.getfield 16, 3) := by decide +kernel
theorem dX7_makePartners_38 : decode cX7_makePartners 38 = .ok (.iload 4, 2) := by decide +kernel
theorem dX7_makePartners_40 : decode cX7_makePartners 40 = .ok (.invokevirtual 23, 3) := by decide +kernel
theorem dX7_makePartners_43 : decode cX7_makePartners 43 = .ok (.checkcast 43, 3) := by decide +kernel
theorem dX7_makePartners_46 : decode cX7_makePartners 46 = .ok (.iload_n 3, 1) := by decide +kernel
theorem dX7_makePartners_47 : decode cX7_makePartners 47 = .ok (.putfield 42, 3) := by decide +kernel
theorem dX7_makePartners_50 : decode cX7_makePartners 50 = .ok (.iinc 4 1, 3) := by decide +kernel
theorem dX7_makePartners_53 : decode cX7_makePartners 53 = .ok (.goto (-40), 3) := by decide +kernel
theorem dX7_makePartners_56 : decode cX7_makePartners 56 = .ok (.iload_n 3, 1) := by decide +kernel
theorem dX7_makePartners_57 : decode cX7_makePartners 57 = .ok (.invokestatic 47, 3) := by decide +kernel
theorem dX7_makePartners_60 : decode cX7_makePartners 60 = .ok (.ireturn, 1) := by decide +kernel
theorem dX7_share_0 : decode cX7_share 0 = .ok (.aload_n 2, 1) := by decide +kernel
theorem dX7_share_1 : decode cX7_share 1 = .ok (.getfield 42, 3) := by decide +kernel
theorem dX7_share_4 : decode cX7_share 4 = .ok (.invokestatic 47, 3) := by decide +kernel
theorem dX7_share_7 : decode cX7_share 7 = .ok (.istore_n 3, 1) := by decide +kernel
theorem dX7_share_8 : decode cX7_share 8 = .ok (.iload_n 3, 1) := by decide +kernel
theorem dX7_share_9 : decode cX7_share 9 = .ok (.ifCond .le 9, 3) := by decide +kernel
theorem dX7_share_12 : decode cX7_share 12 = .ok (.iload_n 1, 1) := by decide +kernel
theorem dX7_share_13 : decode cX7_share 13 = .ok (.iload_n 3, 1) := by decide +kernel
theorem dX7_share_14 : decode cX7_share 14 = .ok (.idiv, 1) := by decide +kernel
theorem dX7_share_15 : decode cX7_share 15 = .ok (.goto 4, 3) := by decide +kernel
theorem dX7_share_18 : decode cX7_share 18 = .ok (.iload_n 1, 1) := by decide +kernel
theorem dX7_share_19 : decode cX7_share 19 = .ok (.istore 4, 2) := by decide +kernel
theorem dX7_share_21 : decode cX7_share 21 = .ok (.iconst 0, 1) := by decide +kernel
theorem dX7_share_22 : decode cX7_share 22 = .ok (.istore 5, 2) := by decide +kernel
theorem dX7_share_24 : decode cX7_share 24 = .ok (.iload 5, 2) := by decide +kernel
theorem dX7_share_26 : decode cX7_share 26 = .ok (.aload_n 0, 1) := by decide +kernel
theorem dX7_share_27 : decode cX7_share 27 = .ok (.getfield 16, 3) := by decide +kernel
theorem dX7_share_30 : decode cX7_share 30 = .ok (.invokevirtual 19, 3) := by decide +kernel
theorem dX7_share_33 : decode cX7_share 33 = .ok (.if_icmp .ge 43, 3) := by decide +kernel
theorem dX7_share_36 : decode cX7_share 36 = .ok (.aload_n 2, 1) := by decide +kernel
theorem dX7_share_37 : decode cX7_share 37 = .ok (.getfield 42, 3) := by decide +kernel
theorem dX7_share_40 : decode cX7_share 40 = .ok (.iconst 1, 1) := by decide +kernel
theorem dX7_share_41 : decode cX7_share 41 = .ok (.iload 5, 2) := by decide +kernel
theorem dX7_share_43 : decode cX7_share 43 = .ok (.ishl, 1) := by decide +kernel
theorem dX7_share_44 : decode cX7_share 44 = .ok (.iand, 1) := by decide +kernel
theorem dX7_share_45 : decode cX7_share 45 = .ok (.ifCond .eq 25, 3) := by decide +kernel
theorem dX7_share_48 : decode cX7_share 48 = .ok (.aload_n 0, 1) := by decide +kernel
theorem dX7_share_49 : decode cX7_share 49 = .ok (.getfield 16, 3) := by decide +kernel
theorem dX7_share_52 : decode cX7_share 52 = .ok (.iload 5, 2) := by decide +kernel
theorem dX7_share_54 : decode cX7_share 54 = .ok (.invokevirtual 23, 3) := by decide +kernel
theorem dX7_share_57 : decode cX7_share 57 = .ok (.checkcast 43, 3) := by decide +kernel
theorem dX7_share_60 : decode cX7_share 60 = .ok (.dup, 1) := by decide +kernel
theorem dX7_share_61 : decode cX7_share 61 = .ok (.getfield 53, 3) := by decide +kernel
theorem dX7_share_64 : decode cX7_share 64 = .ok (.iload 4, 2) := by decide +kernel
theorem dX7_share_66 : decode cX7_share 66 = .ok (.iadd, 1) := by decide +kernel
theorem dX7_share_67 : decode cX7_share 67 = .ok (.putfield 53, 3) := by decide +kernel
theorem dX7_share_70 : decode cX7_share 70 = .ok (.iinc 5 1, 3) := by decide +kernel
theorem dX7_share_73 : decode cX7_share 73 = .ok (.goto (-49), 3) := by decide +kernel
theorem dX7_share_76 : decode cX7_share 76 = .ok (.aload_n 2, 1) := by decide +kernel
theorem dX7_share_77 : decode cX7_share 77 = .ok (.dup, 1) := by decide +kernel
theorem dX7_share_78 : decode cX7_share 78 = .ok (.getfield 53, 3) := by decide +kernel
theorem dX7_share_81 : decode cX7_share 81 = .ok (.iload_n 1, 1) := by decide +kernel
theorem dX7_share_82 : decode cX7_share 82 = .ok (.iload 4, 2) := by decide +kernel
theorem dX7_share_84 : decode cX7_share 84 = .ok (.iload_n 3, 1) := by decide +kernel
theorem dX7_share_85 : decode cX7_share 85 = .ok (.imul, 1) := by decide +kernel
theorem dX7_share_86 : decode cX7_share 86 = .ok (.isub, 1) := by decide +kernel
theorem dX7_share_87 : decode cX7_share 87 = .ok (.iadd, 1) := by decide +kernel
theorem dX7_share_88 : decode cX7_share 88 = .ok (.putfield 53, 3) := by decide +kernel
theorem dX7_share_91 : decode cX7_share 91 = .ok (.return_, 1) := by decide +kernel
theorem dX7_openDay_0 : decode cX7_openDay 0 = .ok (.iconst 0, 1) := by decide +kernel
theorem dX7_openDay_1 : decode cX7_openDay 1 = .ok (.istore_n 1, 1) := by decide +kernel
theorem dX7_openDay_2 : decode cX7_openDay 2 = .ok (.iload_n 1, 1) := by decide +kernel
theorem dX7_openDay_3 : decode cX7_openDay 3 = .ok (.aload_n 0, 1) := by decide +kernel
theorem dX7_openDay_4 : decode cX7_openDay 4 = .ok (.getfield 10, 3) := by decide +kernel
theorem dX7_openDay_7 : decode cX7_openDay 7 = .ok (.invokevirtual 19, 3) := by decide +kernel
theorem dX7_openDay_10 : decode cX7_openDay 10 = .ok (.if_icmp .ge 23, 3) := by decide +kernel
theorem dX7_openDay_13 : decode cX7_openDay 13 = .ok (.aload_n 0, 1) := by decide +kernel
theorem dX7_openDay_14 : decode cX7_openDay 14 = .ok (.getfield 10, 3) := by decide +kernel
theorem dX7_openDay_17 : decode cX7_openDay 17 = .ok (.iload_n 1, 1) := by decide +kernel
theorem dX7_openDay_18 : decode cX7_openDay 18 = .ok (.invokevirtual 23, 3) := by decide +kernel
theorem dX7_openDay_21 : decode cX7_openDay 21 = .ok (.checkcast 27, 3) := by decide +kernel
theorem dX7_openDay_24 : decode cX7_openDay 24 = .ok (.invokevirtual 56, 3) := by decide +kernel
theorem dX7_openDay_27 : decode cX7_openDay 27 = .ok (.iinc 1 1, 3) := by decide +kernel
theorem dX7_openDay_30 : decode cX7_openDay 30 = .ok (.goto (-28), 3) := by decide +kernel
theorem dX7_openDay_33 : decode cX7_openDay 33 = .ok (.return_, 1) := by decide +kernel
theorem dX7_openMinute_0 : decode cX7_openMinute 0 = .ok (.iconst 0, 1) := by decide +kernel
theorem dX7_openMinute_1 : decode cX7_openMinute 1 = .ok (.istore_n 2, 1) := by decide +kernel
theorem dX7_openMinute_2 : decode cX7_openMinute 2 = .ok (.iload_n 2, 1) := by decide +kernel
theorem dX7_openMinute_3 : decode cX7_openMinute 3 = .ok (.aload_n 0, 1) := by decide +kernel
theorem dX7_openMinute_4 : decode cX7_openMinute 4 = .ok (.getfield 10, 3) := by decide +kernel
theorem dX7_openMinute_7 : decode cX7_openMinute 7 = .ok (.invokevirtual 19, 3) := by decide +kernel
theorem dX7_openMinute_10 : decode cX7_openMinute 10 = .ok (.if_icmp .ge 24, 3) := by decide +kernel
theorem dX7_openMinute_13 : decode cX7_openMinute 13 = .ok (.aload_n 0, 1) := by decide +kernel
theorem dX7_openMinute_14 : decode cX7_openMinute 14 = .ok (.getfield 10, 3) := by decide +kernel
theorem dX7_openMinute_17 : decode cX7_openMinute 17 = .ok (.iload_n 2, 1) := by decide +kernel
theorem dX7_openMinute_18 : decode cX7_openMinute 18 = .ok (.invokevirtual 23, 3) := by decide +kernel
theorem dX7_openMinute_21 : decode cX7_openMinute 21 = .ok (.checkcast 27, 3) := by decide +kernel
theorem dX7_openMinute_24 : decode cX7_openMinute 24 = .ok (.iload_n 1, 1) := by decide +kernel
theorem dX7_openMinute_25 : decode cX7_openMinute 25 = .ok (.invokevirtual 59, 3) := by decide +kernel
theorem dX7_openMinute_28 : decode cX7_openMinute 28 = .ok (.iinc 2 1, 3) := by decide +kernel
theorem dX7_openMinute_31 : decode cX7_openMinute 31 = .ok (.goto (-29), 3) := by decide +kernel
theorem dX7_openMinute_34 : decode cX7_openMinute 34 = .ok (.return_, 1) := by decide +kernel
theorem dX7_isOver_0 : decode cX7_isOver 0 = .ok (.iconst 0, 1) := by decide +kernel
theorem dX7_isOver_1 : decode cX7_isOver 1 = .ok (.istore_n 1, 1) := by decide +kernel
theorem dX7_isOver_2 : decode cX7_isOver 2 = .ok (.iload_n 1, 1) := by decide +kernel
theorem dX7_isOver_3 : decode cX7_isOver 3 = .ok (.aload_n 0, 1) := by decide +kernel
theorem dX7_isOver_4 : decode cX7_isOver 4 = .ok (.getfield 10, 3) := by decide +kernel
theorem dX7_isOver_7 : decode cX7_isOver 7 = .ok (.invokevirtual 19, 3) := by decide +kernel
theorem dX7_isOver_10 : decode cX7_isOver 10 = .ok (.if_icmp .ge 28, 3) := by decide +kernel
theorem dX7_isOver_13 : decode cX7_isOver 13 = .ok (.aload_n 0, 1) := by decide +kernel
theorem dX7_isOver_14 : decode cX7_isOver 14 = .ok (.getfield 10, 3) := by decide +kernel
theorem dX7_isOver_17 : decode cX7_isOver 17 = .ok (.iload_n 1, 1) := by decide +kernel
theorem dX7_isOver_18 : decode cX7_isOver 18 = .ok (.invokevirtual 23, 3) := by decide +kernel
theorem dX7_isOver_21 : decode cX7_isOver 21 = .ok (.checkcast 27, 3) := by decide +kernel
theorem dX7_isOver_24 : decode cX7_isOver 24 = .ok (.invokevirtual 63, 3) := by decide +kernel
theorem dX7_isOver_27 : decode cX7_isOver 27 = .ok (.ifCond .ne 5, 3) := by decide +kernel
theorem dX7_isOver_30 : decode cX7_isOver 30 = .ok (.iconst 0, 1) := by decide +kernel
theorem dX7_isOver_31 : decode cX7_isOver 31 = .ok (.ireturn, 1) := by decide +kernel
theorem dX7_isOver_32 : decode cX7_isOver 32 = .ok (.iinc 1 1, 3) := by decide +kernel
theorem dX7_isOver_35 : decode cX7_isOver 35 = .ok (.goto (-33), 3) := by decide +kernel
theorem dX7_isOver_38 : decode cX7_isOver 38 = .ok (.iconst 1, 1) := by decide +kernel
theorem dX7_isOver_39 : decode cX7_isOver 39 = .ok (.ireturn, 1) := by decide +kernel
theorem dX7_isDrowned_0 : decode cX7_isDrowned 0 = .ok (.iconst 0, 1) := by decide +kernel
theorem dX7_isDrowned_1 : decode cX7_isDrowned 1 = .ok (.istore_n 3, 1) := by decide +kernel
theorem dX7_isDrowned_2 : decode cX7_isDrowned 2 = .ok (.iload_n 3, 1) := by decide +kernel
theorem dX7_isDrowned_3 : decode cX7_isDrowned 3 = .ok (.aload_n 0, 1) := by decide +kernel
theorem dX7_isDrowned_4 : decode cX7_isDrowned 4 = .ok (.getfield 10, 3) := by decide +kernel
theorem dX7_isDrowned_7 : decode cX7_isDrowned 7 = .ok (.invokevirtual 19, 3) := by decide +kernel
theorem dX7_isDrowned_10 : decode cX7_isDrowned 10 = .ok (.if_icmp .ge 63, 3) := by decide +kernel
theorem dX7_isDrowned_13 : decode cX7_isDrowned 13 = .ok (.aload_n 0, 1) := by decide +kernel
theorem dX7_isDrowned_14 : decode cX7_isDrowned 14 = .ok (.getfield 10, 3) := by decide +kernel
theorem dX7_isDrowned_17 : decode cX7_isDrowned 17 = .ok (.iload_n 3, 1) := by decide +kernel
theorem dX7_isDrowned_18 : decode cX7_isDrowned 18 = .ok (.invokevirtual 23, 3) := by decide +kernel
theorem dX7_isDrowned_21 : decode cX7_isDrowned 21 = .ok (.checkcast 27, 3) := by decide +kernel
theorem dX7_isDrowned_24 : decode cX7_isDrowned 24 = .ok (.astore 4, 2) := by decide +kernel
theorem dX7_isDrowned_26 : decode cX7_isDrowned 26 = .ok (.aload 4, 2) := by decide +kernel
theorem dX7_isDrowned_28 : decode cX7_isDrowned 28 = .ok (.getfield 67, 3) := by decide +kernel
theorem dX7_isDrowned_31 : decode cX7_isDrowned 31 = .ok (.astore 5, 2) := by decide +kernel
theorem dX7_isDrowned_33 : decode cX7_isDrowned 33 = .ok (.aload 4, 2) := by decide +kernel
theorem dX7_isDrowned_35 : decode cX7_isDrowned 35 = .ok (.aload_n 2, 1) := by decide +kernel
theorem dX7_isDrowned_36 : decode cX7_isDrowned 36 = .ok (.if_acmp .eq 31, 3) := by decide +kernel
theorem dX7_isDrowned_39 : decode cX7_isDrowned 39 = .ok (.aload 5, 2) := by decide +kernel
theorem dX7_isDrowned_41 : decode cX7_isDrowned 41 = .ok (.ifnull 26, 3) := by decide +kernel
theorem dX7_isDrowned_44 : decode cX7_isDrowned 44 = .ok (.aload 4, 2) := by decide +kernel
theorem dX7_isDrowned_46 : decode cX7_isDrowned 46 = .ok (.aload_n 2, 1) := by decide +kernel
theorem dX7_isDrowned_47 : decode cX7_isDrowned 47 = .ok (.aload 5, 2) := by decide +kernel
theorem dX7_isDrowned_49 : decode cX7_isDrowned 49 = .ok (.getfield 71, 3) := by decide +kernel
theorem dX7_isDrowned_52 : decode cX7_isDrowned 52 = .ok (.invokevirtual 77, 3) := by decide +kernel
theorem dX7_isDrowned_55 : decode cX7_isDrowned 55 = .ok (.bipush 10, 2) := by decide +kernel
theorem dX7_isDrowned_57 : decode cX7_isDrowned 57 = .ok (.aload_n 1, 1) := by decide +kernel
theorem dX7_isDrowned_58 : decode cX7_isDrowned 58 = .ok (.getfield 81, 3) := by decide +kernel
theorem dX7_isDrowned_61 : decode cX7_isDrowned 61 = .ok (.imul, 1) := by decide +kernel
theorem dX7_isDrowned_62 : decode cX7_isDrowned 62 = .ok (.if_icmp .le 5, 3) := by decide +kernel
theorem dX7_isDrowned_65 : decode cX7_isDrowned 65 = .ok (.iconst 1, 1) := by decide +kernel
theorem dX7_isDrowned_66 : decode cX7_isDrowned 66 = .ok (.ireturn, 1) := by decide +kernel
theorem dX7_isDrowned_67 : decode cX7_isDrowned 67 = .ok (.iinc 3 1, 3) := by decide +kernel
theorem dX7_isDrowned_70 : decode cX7_isDrowned 70 = .ok (.goto (-68), 3) := by decide +kernel
theorem dX7_isDrowned_73 : decode cX7_isDrowned 73 = .ok (.iconst 0, 1) := by decide +kernel
theorem dX7_isDrowned_74 : decode cX7_isDrowned 74 = .ok (.ireturn, 1) := by decide +kernel
theorem dX7_hasPlayingNearer_0 : decode cX7_hasPlayingNearer 0 = .ok (.iconst 0, 1) := by decide +kernel
theorem dX7_hasPlayingNearer_1 : decode cX7_hasPlayingNearer 1 = .ok (.istore_n 3, 1) := by decide +kernel
theorem dX7_hasPlayingNearer_2 : decode cX7_hasPlayingNearer 2 = .ok (.iload_n 3, 1) := by decide +kernel
theorem dX7_hasPlayingNearer_3 : decode cX7_hasPlayingNearer 3 = .ok (.aload_n 0, 1) := by decide +kernel
theorem dX7_hasPlayingNearer_4 : decode cX7_hasPlayingNearer 4 = .ok (.getfield 10, 3) := by decide +kernel
theorem dX7_hasPlayingNearer_7 : decode cX7_hasPlayingNearer 7 = .ok (.invokevirtual 19, 3) := by decide +kernel
theorem dX7_hasPlayingNearer_10 : decode cX7_hasPlayingNearer 10 = .ok (.if_icmp .ge 48, 3) := by decide +kernel
theorem dX7_hasPlayingNearer_13 : decode cX7_hasPlayingNearer 13 = .ok (.aload_n 0, 1) := by decide +kernel
theorem dX7_hasPlayingNearer_14 : decode cX7_hasPlayingNearer 14 = .ok (.getfield 10, 3) := by decide +kernel
theorem dX7_hasPlayingNearer_17 : decode cX7_hasPlayingNearer 17 = .ok (.iload_n 3, 1) := by decide +kernel
theorem dX7_hasPlayingNearer_18 : decode cX7_hasPlayingNearer 18 = .ok (.invokevirtual 23, 3) := by decide +kernel
theorem dX7_hasPlayingNearer_21 : decode cX7_hasPlayingNearer 21 = .ok (.checkcast 27, 3) := by decide +kernel
theorem dX7_hasPlayingNearer_24 : decode cX7_hasPlayingNearer 24 = .ok (.astore 4, 2) := by decide +kernel
theorem dX7_hasPlayingNearer_26 : decode cX7_hasPlayingNearer 26 = .ok (.aload 4, 2) := by decide +kernel
theorem dX7_hasPlayingNearer_28 : decode cX7_hasPlayingNearer 28 = .ok (.aload_n 1, 1) := by decide +kernel
theorem dX7_hasPlayingNearer_29 : decode cX7_hasPlayingNearer 29 = .ok (.if_acmp .eq 23, 3) := by decide +kernel
theorem dX7_hasPlayingNearer_32 : decode cX7_hasPlayingNearer 32 = .ok (.aload 4, 2) := by decide +kernel
theorem dX7_hasPlayingNearer_34 : decode cX7_hasPlayingNearer 34 = .ok (.getfield 67, 3) := by decide +kernel
theorem dX7_hasPlayingNearer_37 : decode cX7_hasPlayingNearer 37 = .ok (.ifnull 15, 3) := by decide +kernel
theorem dX7_hasPlayingNearer_40 : decode cX7_hasPlayingNearer 40 = .ok (.aload 4, 2) := by decide +kernel
theorem dX7_hasPlayingNearer_42 : decode cX7_hasPlayingNearer 42 = .ok (.aload_n 1, 1) := by decide +kernel
theorem dX7_hasPlayingNearer_43 : decode cX7_hasPlayingNearer 43 = .ok (.invokevirtual 84, 3) := by decide +kernel
theorem dX7_hasPlayingNearer_46 : decode cX7_hasPlayingNearer 46 = .ok (.iload_n 2, 1) := by decide +kernel
theorem dX7_hasPlayingNearer_47 : decode cX7_hasPlayingNearer 47 = .ok (.if_icmp .ge 5, 3) := by decide +kernel
theorem dX7_hasPlayingNearer_50 : decode cX7_hasPlayingNearer 50 = .ok (.iconst 1, 1) := by decide +kernel
theorem dX7_hasPlayingNearer_51 : decode cX7_hasPlayingNearer 51 = .ok (.ireturn, 1) := by decide +kernel
theorem dX7_hasPlayingNearer_52 : decode cX7_hasPlayingNearer 52 = .ok (.iinc 3 1, 3) := by decide +kernel
theorem dX7_hasPlayingNearer_55 : decode cX7_hasPlayingNearer 55 = .ok (.goto (-53), 3) := by decide +kernel
theorem dX7_hasPlayingNearer_58 : decode cX7_hasPlayingNearer 58 = .ok (.iconst 0, 1) := by decide +kernel
theorem dX7_hasPlayingNearer_59 : decode cX7_hasPlayingNearer 59 = .ok (.ireturn, 1) := by decide +kernel
theorem dX7_countTurns_0 : decode cX7_countTurns 0 = .ok (.iconst 0, 1) := by decide +kernel
theorem dX7_countTurns_1 : decode cX7_countTurns 1 = .ok (.istore_n 1, 1) := by decide +kernel
theorem dX7_countTurns_2 : decode cX7_countTurns 2 = .ok (.iconst 0, 1) := by decide +kernel
theorem dX7_countTurns_3 : decode cX7_countTurns 3 = .ok (.istore_n 2, 1) := by decide +kernel
theorem dX7_countTurns_4 : decode cX7_countTurns 4 = .ok (.iload_n 2, 1) := by decide +kernel
theorem dX7_countTurns_5 : decode cX7_countTurns 5 = .ok (.aload_n 0, 1) := by decide +kernel
theorem dX7_countTurns_6 : decode cX7_countTurns 6 = .ok (.getfield 10, 3) := by decide +kernel
theorem dX7_countTurns_9 : decode cX7_countTurns 9 = .ok (.invokevirtual 19, 3) := by decide +kernel
theorem dX7_countTurns_12 : decode cX7_countTurns 12 = .ok (.if_icmp .ge 29, 3) := by decide +kernel
theorem dX7_countTurns_15 : decode cX7_countTurns 15 = .ok (.iload_n 1, 1) := by decide +kernel
theorem dX7_countTurns_16 : decode cX7_countTurns 16 = .ok (.aload_n 0, 1) := by decide +kernel
theorem dX7_countTurns_17 : decode cX7_countTurns 17 = .ok (.getfield 10, 3) := by decide +kernel
theorem dX7_countTurns_20 : decode cX7_countTurns 20 = .ok (.iload_n 2, 1) := by decide +kernel
theorem dX7_countTurns_21 : decode cX7_countTurns 21 = .ok (.invokevirtual 23, 3) := by decide +kernel
theorem dX7_countTurns_24 : decode cX7_countTurns 24 = .ok (.checkcast 27, 3) := by decide +kernel
theorem dX7_countTurns_27 : decode cX7_countTurns 27 = .ok (.getfield 36, 3) := by decide +kernel
theorem dX7_countTurns_30 : decode cX7_countTurns 30 = .ok (.invokevirtual 19, 3) := by decide +kernel
theorem dX7_countTurns_33 : decode cX7_countTurns 33 = .ok (.iadd, 1) := by decide +kernel
theorem dX7_countTurns_34 : decode cX7_countTurns 34 = .ok (.istore_n 1, 1) := by decide +kernel
theorem dX7_countTurns_35 : decode cX7_countTurns 35 = .ok (.iinc 2 1, 3) := by decide +kernel
theorem dX7_countTurns_38 : decode cX7_countTurns 38 = .ok (.goto (-34), 3) := by decide +kernel
theorem dX7_countTurns_41 : decode cX7_countTurns 41 = .ok (.iload_n 1, 1) := by decide +kernel
theorem dX7_countTurns_42 : decode cX7_countTurns 42 = .ok (.ireturn, 1) := by decide +kernel
theorem dX7_countGoodTurns_0 : decode cX7_countGoodTurns 0 = .ok (.iconst 0, 1) := by decide +kernel
theorem dX7_countGoodTurns_1 : decode cX7_countGoodTurns 1 = .ok (.istore_n 1, 1) := by decide +kernel
theorem dX7_countGoodTurns_2 : decode cX7_countGoodTurns 2 = .ok (.iconst 0, 1) := by decide +kernel
theorem dX7_countGoodTurns_3 : decode cX7_countGoodTurns 3 = .ok (.istore_n 2, 1) := by decide +kernel
theorem dX7_countGoodTurns_4 : decode cX7_countGoodTurns 4 = .ok (.iload_n 2, 1) := by decide +kernel
theorem dX7_countGoodTurns_5 : decode cX7_countGoodTurns 5 = .ok (.aload_n 0, 1) := by decide +kernel
theorem dX7_countGoodTurns_6 : decode cX7_countGoodTurns 6 = .ok (.getfield 10, 3) := by decide +kernel
theorem dX7_countGoodTurns_9 : decode cX7_countGoodTurns 9 = .ok (.invokevirtual 19, 3) := by decide +kernel
theorem dX7_countGoodTurns_12 : decode cX7_countGoodTurns 12 = .ok (.if_icmp .ge 65, 3) := by decide +kernel
theorem dX7_countGoodTurns_15 : decode cX7_countGoodTurns 15 = .ok (.aload_n 0, 1) := by decide +kernel
theorem dX7_countGoodTurns_16 : decode cX7_countGoodTurns 16 = .ok (.getfield 10, 3) := by decide +kernel
theorem dX7_countGoodTurns_19 : decode cX7_countGoodTurns 19 = .ok (.iload_n 2, 1) := by decide +kernel
theorem dX7_countGoodTurns_20 : decode cX7_countGoodTurns 20 = .ok (.invokevirtual 23, 3) := by decide +kernel
theorem dX7_countGoodTurns_23 : decode cX7_countGoodTurns 23 = .ok (.checkcast 27, 3) := by decide +kernel
theorem dX7_countGoodTurns_26 : decode cX7_countGoodTurns 26 = .ok (.getfield 36, 3) := by decide +kernel
theorem dX7_countGoodTurns_29 : decode cX7_countGoodTurns 29 = .ok (.astore_n 3, 1) := by decide +kernel
theorem dX7_countGoodTurns_30 : decode cX7_countGoodTurns 30 = .ok (.iconst 0, 1) := by decide +kernel
theorem dX7_countGoodTurns_31 : decode cX7_countGoodTurns 31 = .ok (.istore 4, 2) := by decide +kernel
theorem dX7_countGoodTurns_33 : decode cX7_countGoodTurns 33 = .ok (.iload 4, 2) := by decide +kernel
theorem dX7_countGoodTurns_35 : decode cX7_countGoodTurns 35 = .ok (.aload_n 3, 1) := by decide +kernel
theorem dX7_countGoodTurns_36 : decode cX7_countGoodTurns 36 = .ok (.invokevirtual 19, 3) := by decide +kernel
theorem dX7_countGoodTurns_39 : decode cX7_countGoodTurns 39 = .ok (.if_icmp .ge 32, 3) := by decide +kernel
theorem dX7_countGoodTurns_42 : decode cX7_countGoodTurns 42 = .ok (.iload_n 1, 1) := by decide +kernel
theorem dX7_countGoodTurns_43 : decode cX7_countGoodTurns 43 = .ok (.aload_n 3, 1) := by decide +kernel
theorem dX7_countGoodTurns_44 : decode cX7_countGoodTurns 44 = .ok (.iload 4, 2) := by decide +kernel
theorem dX7_countGoodTurns_46 : decode cX7_countGoodTurns 46 = .ok (.invokevirtual 23, 3) := by decide +kernel
theorem dX7_countGoodTurns_49 : decode cX7_countGoodTurns 49 = .ok (.checkcast 72, 3) := by decide +kernel
theorem dX7_countGoodTurns_52 : decode cX7_countGoodTurns 52 = .ok (.invokevirtual 88, 3) := by decide +kernel
theorem dX7_countGoodTurns_55 : decode cX7_countGoodTurns 55 = .ok (.ifCond .eq 7, 3) := by decide +kernel
theorem dX7_countGoodTurns_58 : decode cX7_countGoodTurns 58 = .ok (.iconst 1, 1) := by decide +kernel
theorem dX7_countGoodTurns_59 : decode cX7_countGoodTurns 59 = .ok (.goto 4, 3) := by decide +kernel
theorem dX7_countGoodTurns_62 : decode cX7_countGoodTurns 62 = .ok (.iconst 0, 1) := by decide +kernel
theorem dX7_countGoodTurns_63 : decode cX7_countGoodTurns 63 = .ok (.iadd, 1) := by decide +kernel
theorem dX7_countGoodTurns_64 : decode cX7_countGoodTurns 64 = .ok (.istore_n 1, 1) := by decide +kernel
theorem dX7_countGoodTurns_65 : decode cX7_countGoodTurns 65 = .ok (.iinc 4 1, 3) := by decide +kernel
theorem dX7_countGoodTurns_68 : decode cX7_countGoodTurns 68 = .ok (.goto (-35), 3) := by decide +kernel
theorem dX7_countGoodTurns_71 : decode cX7_countGoodTurns 71 = .ok (.iinc 2 1, 3) := by decide +kernel
theorem dX7_countGoodTurns_74 : decode cX7_countGoodTurns 74 = .ok (.goto (-70), 3) := by decide +kernel
theorem dX7_countGoodTurns_77 : decode cX7_countGoodTurns 77 = .ok (.iload_n 1, 1) := by decide +kernel
theorem dX7_countGoodTurns_78 : decode cX7_countGoodTurns 78 = .ok (.ireturn, 1) := by decide +kernel
theorem dX7_sumMoney_0 : decode cX7_sumMoney 0 = .ok (.iconst 0, 1) := by decide +kernel
theorem dX7_sumMoney_1 : decode cX7_sumMoney 1 = .ok (.istore_n 1, 1) := by decide +kernel
theorem dX7_sumMoney_2 : decode cX7_sumMoney 2 = .ok (.iconst 0, 1) := by decide +kernel
theorem dX7_sumMoney_3 : decode cX7_sumMoney 3 = .ok (.istore_n 2, 1) := by decide +kernel
theorem dX7_sumMoney_4 : decode cX7_sumMoney 4 = .ok (.iload_n 2, 1) := by decide +kernel
theorem dX7_sumMoney_5 : decode cX7_sumMoney 5 = .ok (.aload_n 0, 1) := by decide +kernel
theorem dX7_sumMoney_6 : decode cX7_sumMoney 6 = .ok (.getfield 16, 3) := by decide +kernel
theorem dX7_sumMoney_9 : decode cX7_sumMoney 9 = .ok (.invokevirtual 19, 3) := by decide +kernel
theorem dX7_sumMoney_12 : decode cX7_sumMoney 12 = .ok (.if_icmp .ge 26, 3) := by decide +kernel
theorem dX7_sumMoney_15 : decode cX7_sumMoney 15 = .ok (.iload_n 1, 1) := by decide +kernel
theorem dX7_sumMoney_16 : decode cX7_sumMoney 16 = .ok (.aload_n 0, 1) := by decide +kernel
theorem dX7_sumMoney_17 : decode cX7_sumMoney 17 = .ok (.getfield 16, 3) := by decide +kernel
theorem dX7_sumMoney_20 : decode cX7_sumMoney 20 = .ok (.iload_n 2, 1) := by decide +kernel
theorem dX7_sumMoney_21 : decode cX7_sumMoney 21 = .ok (.invokevirtual 23, 3) := by decide +kernel
theorem dX7_sumMoney_24 : decode cX7_sumMoney 24 = .ok (.checkcast 43, 3) := by decide +kernel
theorem dX7_sumMoney_27 : decode cX7_sumMoney 27 = .ok (.getfield 53, 3) := by decide +kernel
theorem dX7_sumMoney_30 : decode cX7_sumMoney 30 = .ok (.iadd, 1) := by decide +kernel
theorem dX7_sumMoney_31 : decode cX7_sumMoney 31 = .ok (.istore_n 1, 1) := by decide +kernel
theorem dX7_sumMoney_32 : decode cX7_sumMoney 32 = .ok (.iinc 2 1, 3) := by decide +kernel
theorem dX7_sumMoney_35 : decode cX7_sumMoney 35 = .ok (.goto (-31), 3) := by decide +kernel
theorem dX7_sumMoney_38 : decode cX7_sumMoney 38 = .ok (.iload_n 1, 1) := by decide +kernel
theorem dX7_sumMoney_39 : decode cX7_sumMoney 39 = .ok (.ireturn, 1) := by decide +kernel
theorem dX7_hasActsOnOnePitch_0 : decode cX7_hasActsOnOnePitch 0 = .ok (.iconst 0, 1) := by decide +kernel
theorem dX7_hasActsOnOnePitch_1 : decode cX7_hasActsOnOnePitch 1 = .ok (.istore_n 1, 1) := by decide +kernel
theorem dX7_hasActsOnOnePitch_2 : decode cX7_hasActsOnOnePitch 2 = .ok (.iconst 0, 1) := by decide +kernel
theorem dX7_hasActsOnOnePitch_3 : decode cX7_hasActsOnOnePitch 3 = .ok (.istore_n 2, 1) := by decide +kernel
theorem dX7_hasActsOnOnePitch_4 : decode cX7_hasActsOnOnePitch 4 = .ok (.iload_n 2, 1) := by decide +kernel
theorem dX7_hasActsOnOnePitch_5 : decode cX7_hasActsOnOnePitch 5 = .ok (.aload_n 0, 1) := by decide +kernel
theorem dX7_hasActsOnOnePitch_6 : decode cX7_hasActsOnOnePitch 6 = .ok (.getfield 10, 3) := by decide +kernel
theorem dX7_hasActsOnOnePitch_9 : decode cX7_hasActsOnOnePitch 9 = .ok (.invokevirtual 19, 3) := by decide +kernel
theorem dX7_hasActsOnOnePitch_12 : decode cX7_hasActsOnOnePitch 12 = .ok (.if_icmp .ge 36, 3) := by decide +kernel
theorem dX7_hasActsOnOnePitch_15 : decode cX7_hasActsOnOnePitch 15 = .ok (.aload_n 0, 1) := by decide +kernel
theorem dX7_hasActsOnOnePitch_16 : decode cX7_hasActsOnOnePitch 16 = .ok (.getfield 10, 3) := by decide +kernel
theorem dX7_hasActsOnOnePitch_19 : decode cX7_hasActsOnOnePitch 19 = .ok (.iload_n 2, 1) := by decide +kernel
theorem dX7_hasActsOnOnePitch_20 : decode cX7_hasActsOnOnePitch 20 = .ok (.invokevirtual 23, 3) := by decide +kernel
theorem dX7_hasActsOnOnePitch_23 : decode cX7_hasActsOnOnePitch 23 = .ok (.checkcast 27, 3) := by decide +kernel
theorem dX7_hasActsOnOnePitch_26 : decode cX7_hasActsOnOnePitch 26 = .ok (.invokevirtual 33, 3) := by decide +kernel
theorem dX7_hasActsOnOnePitch_29 : decode cX7_hasActsOnOnePitch 29 = .ok (.istore_n 3, 1) := by decide +kernel
theorem dX7_hasActsOnOnePitch_30 : decode cX7_hasActsOnOnePitch 30 = .ok (.iload_n 1, 1) := by decide +kernel
theorem dX7_hasActsOnOnePitch_31 : decode cX7_hasActsOnOnePitch 31 = .ok (.iload_n 3, 1) := by decide +kernel
theorem dX7_hasActsOnOnePitch_32 : decode cX7_hasActsOnOnePitch 32 = .ok (.iand, 1) := by decide +kernel
theorem dX7_hasActsOnOnePitch_33 : decode cX7_hasActsOnOnePitch 33 = .ok (.ifCond .eq 5, 3) := by decide +kernel
theorem dX7_hasActsOnOnePitch_36 : decode cX7_hasActsOnOnePitch 36 = .ok (.iconst 0, 1) := by decide +kernel
theorem dX7_hasActsOnOnePitch_37 : decode cX7_hasActsOnOnePitch 37 = .ok (.ireturn, 1) := by decide +kernel
theorem dX7_hasActsOnOnePitch_38 : decode cX7_hasActsOnOnePitch 38 = .ok (.iload_n 1, 1) := by decide +kernel
theorem dX7_hasActsOnOnePitch_39 : decode cX7_hasActsOnOnePitch 39 = .ok (.iload_n 3, 1) := by decide +kernel
theorem dX7_hasActsOnOnePitch_40 : decode cX7_hasActsOnOnePitch 40 = .ok (.ior, 1) := by decide +kernel
theorem dX7_hasActsOnOnePitch_41 : decode cX7_hasActsOnOnePitch 41 = .ok (.istore_n 1, 1) := by decide +kernel
theorem dX7_hasActsOnOnePitch_42 : decode cX7_hasActsOnOnePitch 42 = .ok (.iinc 2 1, 3) := by decide +kernel
theorem dX7_hasActsOnOnePitch_45 : decode cX7_hasActsOnOnePitch 45 = .ok (.goto (-41), 3) := by decide +kernel
theorem dX7_hasActsOnOnePitch_48 : decode cX7_hasActsOnOnePitch 48 = .ok (.iconst 1, 1) := by decide +kernel
theorem dX7_hasActsOnOnePitch_49 : decode cX7_hasActsOnOnePitch 49 = .ok (.ireturn, 1) := by decide +kernel
theorem dX7_hasTurnsApart_0 : decode cX7_hasTurnsApart 0 = .ok (.iconst 0, 1) := by decide +kernel
theorem dX7_hasTurnsApart_1 : decode cX7_hasTurnsApart 1 = .ok (.istore_n 1, 1) := by decide +kernel
theorem dX7_hasTurnsApart_2 : decode cX7_hasTurnsApart 2 = .ok (.iload_n 1, 1) := by decide +kernel
theorem dX7_hasTurnsApart_3 : decode cX7_hasTurnsApart 3 = .ok (.aload_n 0, 1) := by decide +kernel
theorem dX7_hasTurnsApart_4 : decode cX7_hasTurnsApart 4 = .ok (.getfield 10, 3) := by decide +kernel
theorem dX7_hasTurnsApart_7 : decode cX7_hasTurnsApart 7 = .ok (.invokevirtual 19, 3) := by decide +kernel
theorem dX7_hasTurnsApart_10 : decode cX7_hasTurnsApart 10 = .ok (.if_icmp .ge 28, 3) := by decide +kernel
theorem dX7_hasTurnsApart_13 : decode cX7_hasTurnsApart 13 = .ok (.aload_n 0, 1) := by decide +kernel
theorem dX7_hasTurnsApart_14 : decode cX7_hasTurnsApart 14 = .ok (.getfield 10, 3) := by decide +kernel
theorem dX7_hasTurnsApart_17 : decode cX7_hasTurnsApart 17 = .ok (.iload_n 1, 1) := by decide +kernel
theorem dX7_hasTurnsApart_18 : decode cX7_hasTurnsApart 18 = .ok (.invokevirtual 23, 3) := by decide +kernel
theorem dX7_hasTurnsApart_21 : decode cX7_hasTurnsApart 21 = .ok (.checkcast 27, 3) := by decide +kernel
theorem dX7_hasTurnsApart_24 : decode cX7_hasTurnsApart 24 = .ok (.invokevirtual 91, 3) := by decide +kernel
theorem dX7_hasTurnsApart_27 : decode cX7_hasTurnsApart 27 = .ok (.ifCond .ne 5, 3) := by decide +kernel

/-! DECODE rows (printed) -/
theorem dX13_init_17 : decode cX13_init 17 = .ok (.invokespecial 17, 3) := by decide +kernel
theorem dX13_init_20 : decode cX13_init 20 = .ok (.putfield 18, 3) := by decide +kernel
theorem dX13_init_23 : decode cX13_init 23 = .ok (.aload_n 0, 1) := by decide +kernel
theorem dX13_init_24 : decode cX13_init 24 = .ok (.iload_n 1, 1) := by decide +kernel
theorem dX13_init_25 : decode cX13_init 25 = .ok (.putfield 22, 3) := by decide +kernel
theorem dX13_init_28 : decode cX13_init 28 = .ok (.aload_n 0, 1) := by decide +kernel
theorem dX13_init_29 : decode cX13_init 29 = .ok (.iload_n 2, 1) := by decide +kernel
theorem dX13_init_30 : decode cX13_init 30 = .ok (.putfield 26, 3) := by decide +kernel
theorem dX13_init_33 : decode cX13_init 33 = .ok (.aload_n 0, 1) := by decide +kernel
theorem dX13_init_34 : decode cX13_init 34 = .ok (.iload_n 3, 1) := by decide +kernel
theorem dX13_init_35 : decode cX13_init 35 = .ok (.putfield 29, 3) := by decide +kernel
theorem dX13_init_38 : decode cX13_init 38 = .ok (.return_, 1) := by decide +kernel
theorem dX13_passers_0 : decode cX13_passers 0 = .ok (.aload_n 0, 1) := by decide +kernel
theorem dX13_passers_1 : decode cX13_passers 1 = .ok (.getfield 9, 3) := by decide +kernel
theorem dX13_passers_4 : decode cX13_passers 4 = .ok (.iload_n 1, 1) := by decide +kernel
theorem dX13_passers_5 : decode cX13_passers 5 = .ok (.bipush 60, 2) := by decide +kernel
theorem dX13_passers_7 : decode cX13_passers 7 = .ok (.idiv, 1) := by decide +kernel
theorem dX13_passers_8 : decode cX13_passers 8 = .ok (.bipush 10, 2) := by decide +kernel
theorem dX13_passers_10 : decode cX13_passers 10 = .ok (.isub, 1) := by decide +kernel
theorem dX13_passers_11 : decode cX13_passers 11 = .ok (.iaload, 1) := by decide +kernel
theorem dX13_passers_12 : decode cX13_passers 12 = .ok (.istore_n 2, 1) := by decide +kernel
theorem dX13_passers_13 : decode cX13_passers 13 = .ok (.iload_n 1, 1) := by decide +kernel
theorem dX13_passers_14 : decode cX13_passers 14 = .ok (.bipush 60, 2) := by decide +kernel
theorem dX13_passers_16 : decode cX13_passers 16 = .ok (.irem, 1) := by decide +kernel
theorem dX13_passers_17 : decode cX13_passers 17 = .ok (.istore_n 3, 1) := by decide +kernel
theorem dX13_passers_18 : decode cX13_passers 18 = .ok (.iload_n 2, 1) := by decide +kernel
theorem dX13_passers_19 : decode cX13_passers 19 = .ok (.iload_n 3, 1) := by decide +kernel
theorem dX13_passers_20 : decode cX13_passers 20 = .ok (.iconst 1, 1) := by decide +kernel
theorem dX13_passers_21 : decode cX13_passers 21 = .ok (.iadd, 1) := by decide +kernel
theorem dX13_passers_22 : decode cX13_passers 22 = .ok (.imul, 1) := by decide +kernel
theorem dX13_passers_23 : decode cX13_passers 23 = .ok (.bipush 60, 2) := by decide +kernel
theorem dX13_passers_25 : decode cX13_passers 25 = .ok (.idiv, 1) := by decide +kernel
theorem dX13_passers_26 : decode cX13_passers 26 = .ok (.iload_n 2, 1) := by decide +kernel
theorem dX13_passers_27 : decode cX13_passers 27 = .ok (.iload_n 3, 1) := by decide +kernel
theorem dX13_passers_28 : decode cX13_passers 28 = .ok (.imul, 1) := by decide +kernel
theorem dX13_passers_29 : decode cX13_passers 29 = .ok (.bipush 60, 2) := by decide +kernel
theorem dX13_passers_31 : decode cX13_passers 31 = .ok (.idiv, 1) := by decide +kernel
theorem dX13_passers_32 : decode cX13_passers 32 = .ok (.isub, 1) := by decide +kernel
theorem dX13_passers_33 : decode cX13_passers 33 = .ok (.ireturn, 1) := by decide +kernel
theorem dX13_at_0 : decode cX13_at 0 = .ok (.iconst 0, 1) := by decide +kernel
theorem dX13_at_1 : decode cX13_at 1 = .ok (.istore_n 2, 1) := by decide +kernel
theorem dX13_at_2 : decode cX13_at 2 = .ok (.iload_n 2, 1) := by decide +kernel
theorem dX13_at_3 : decode cX13_at 3 = .ok (.aload_n 0, 1) := by decide +kernel
theorem dX13_at_4 : decode cX13_at 4 = .ok (.getfield 18, 3) := by decide +kernel
theorem dX13_at_7 : decode cX13_at 7 = .ok (.invokevirtual 33, 3) := by decide +kernel
theorem dX13_at_10 : decode cX13_at 10 = .ok (.if_icmp .ge 49, 3) := by decide +kernel
theorem dX13_at_13 : decode cX13_at 13 = .ok (.aload_n 0, 1) := by decide +kernel
theorem dX13_at_14 : decode cX13_at 14 = .ok (.getfield 18, 3) := by decide +kernel
theorem dX13_at_17 : decode cX13_at 17 = .ok (.iload_n 2, 1) := by decide +kernel
theorem dX13_at_18 : decode cX13_at 18 = .ok (.invokevirtual 37, 3) := by decide +kernel
theorem dX13_at_21 : decode cX13_at 21 = .ok (.checkcast 41, 3) := by decide +kernel
theorem dX13_at_24 : decode cX13_at 24 = .ok (.astore_n 3, 1) := by decide +kernel
theorem dX13_at_25 : decode cX13_at 25 = .ok (.aload_n 3, 1) := by decide +kernel
theorem dX13_at_26 : decode cX13_at 26 = .ok (.getfield 43, 3) := by decide +kernel
theorem dX13_at_29 : decode cX13_at 29 = .ok (.iconst (-1), 1) := by decide +kernel
theorem dX13_at_30 : decode cX13_at 30 = .ok (.if_icmp .eq 23, 3) := by decide +kernel
theorem dX13_at_33 : decode cX13_at 33 = .ok (.iload_n 1, 1) := by decide +kernel
theorem dX13_at_34 : decode cX13_at 34 = .ok (.i2l, 1) := by decide +kernel
theorem dX13_at_35 : decode cX13_at 35 = .ok (.aload_n 3, 1) := by decide +kernel
theorem dX13_at_36 : decode cX13_at 36 = .ok (.getfield 43, 3) := by decide +kernel
theorem dX13_at_39 : decode cX13_at 39 = .ok (.i2l, 1) := by decide +kernel
theorem dX13_at_40 : decode cX13_at 40 = .ok (.aload_n 3, 1) := by decide +kernel
theorem dX13_at_41 : decode cX13_at 41 = .ok (.getfield 46, 3) := by decide +kernel
theorem dX13_at_44 : decode cX13_at 44 = .ok (.i2l, 1) := by decide +kernel
theorem dX13_at_45 : decode cX13_at 45 = .ok (.invokestatic 49, 3) := by decide +kernel
theorem dX13_at_48 : decode cX13_at 48 = .ok (.ifCond .eq 5, 3) := by decide +kernel
theorem dX13_at_51 : decode cX13_at 51 = .ok (.aload_n 3, 1) := by decide +kernel
theorem dX13_at_52 : decode cX13_at 52 = .ok (.areturn, 1) := by decide +kernel
theorem dX13_at_53 : decode cX13_at 53 = .ok (.iinc 2 1, 3) := by decide +kernel
theorem dX13_at_56 : decode cX13_at 56 = .ok (.goto (-54), 3) := by decide +kernel
theorem dX13_at_59 : decode cX13_at 59 = .ok (.aconst_null, 1) := by decide +kernel
theorem dX13_at_60 : decode cX13_at 60 = .ok (.areturn, 1) := by decide +kernel
theorem dX14_init_0 : decode cX14_init 0 = .ok (.aload_n 0, 1) := by decide +kernel
theorem dX14_init_1 : decode cX14_init 1 = .ok (.invokespecial 3, 3) := by decide +kernel
theorem dX14_init_4 : decode cX14_init 4 = .ok (.aload_n 0, 1) := by decide +kernel
theorem dX14_init_5 : decode cX14_init 5 = .ok (.iconst (-1), 1) := by decide +kernel
theorem dX14_init_6 : decode cX14_init 6 = .ok (.putfield 9, 3) := by decide +kernel
theorem dX14_init_9 : decode cX14_init 9 = .ok (.aload_n 0, 1) := by decide +kernel
theorem dX14_init_10 : decode cX14_init 10 = .ok (.iload_n 1, 1) := by decide +kernel
theorem dX14_init_11 : decode cX14_init 11 = .ok (.putfield 15, 3) := by decide +kernel
theorem dX14_init_14 : decode cX14_init 14 = .ok (.return_, 1) := by decide +kernel
theorem dX15_init_0 : decode cX15_init 0 = .ok (.aload_n 0, 1) := by decide +kernel
theorem dX15_init_1 : decode cX15_init 1 = .ok (.invokespecial 1, 3) := by decide +kernel
theorem dX15_init_4 : decode cX15_init 4 = .ok (.aload_n 0, 1) := by decide +kernel
theorem dX15_init_5 : decode cX15_init 5 = .ok (.bipush 45, 2) := by decide +kernel
theorem dX15_init_7 : decode cX15_init 7 = .ok (.putfield 7, 3) := by decide +kernel
theorem dX15_init_10 : decode cX15_init 10 = .ok (.aload_n 0, 1) := by decide +kernel
theorem dX15_init_11 : decode cX15_init 11 = .ok (.iload_n 1, 1) := by decide +kernel
theorem dX15_init_12 : decode cX15_init 12 = .ok (.putfield 13, 3) := by decide +kernel
theorem dX15_init_15 : decode cX15_init 15 = .ok (.aload_n 0, 1) := by decide +kernel
theorem dX15_init_16 : decode cX15_init 16 = .ok (.iload_n 2, 1) := by decide +kernel
theorem dX15_init_17 : decode cX15_init 17 = .ok (.putfield 17, 3) := by decide +kernel
theorem dX15_init_20 : decode cX15_init 20 = .ok (.return_, 1) := by decide +kernel
theorem dX16_in_0 : decode cX16_in 0 = .ok (.lload_n 0, 1) := by decide +kernel
theorem dX16_in_1 : decode cX16_in 1 = .ok (.lload_n 2, 1) := by decide +kernel
theorem dX16_in_2 : decode cX16_in 2 = .ok (.lcmp, 1) := by decide +kernel
theorem dX16_in_3 : decode cX16_in 3 = .ok (.ifCond .lt 14, 3) := by decide +kernel
theorem dX16_in_6 : decode cX16_in 6 = .ok (.lload_n 0, 1) := by decide +kernel
theorem dX16_in_7 : decode cX16_in 7 = .ok (.lload 4, 2) := by decide +kernel
theorem dX16_in_9 : decode cX16_in 9 = .ok (.lcmp, 1) := by decide +kernel
theorem dX16_in_10 : decode cX16_in 10 = .ok (.ifCond .gt 7, 3) := by decide +kernel
theorem dX16_in_13 : decode cX16_in 13 = .ok (.iconst 1, 1) := by decide +kernel
theorem dX16_in_14 : decode cX16_in 14 = .ok (.goto 4, 3) := by decide +kernel
theorem dX16_in_17 : decode cX16_in 17 = .ok (.iconst 0, 1) := by decide +kernel
theorem dX16_in_18 : decode cX16_in 18 = .ok (.ireturn, 1) := by decide +kernel
theorem dX16_init_0 : decode cX16_init 0 = .ok (.aload_n 0, 1) := by decide +kernel
theorem dX16_init_1 : decode cX16_init 1 = .ok (.invokespecial 1, 3) := by decide +kernel
theorem dX16_init_4 : decode cX16_init 4 = .ok (.aload_n 0, 1) := by decide +kernel
theorem dX16_init_5 : decode cX16_init 5 = .ok (.new 7, 3) := by decide +kernel
theorem dX16_init_8 : decode cX16_init 8 = .ok (.dup, 1) := by decide +kernel
theorem dX16_init_9 : decode cX16_init 9 = .ok (.invokespecial 9, 3) := by decide +kernel
theorem dX16_init_12 : decode cX16_init 12 = .ok (.putfield 10, 3) := by decide +kernel
theorem dX16_init_15 : decode cX16_init 15 = .ok (.aload_n 0, 1) := by decide +kernel
theorem dX16_init_16 : decode cX16_init 16 = .ok (.new 7, 3) := by decide +kernel
theorem dX16_init_19 : decode cX16_init 19 = .ok (.dup, 1) := by decide +kernel
theorem dX16_init_20 : decode cX16_init 20 = .ok (.invokespecial 9, 3) := by decide +kernel
theorem dX16_init_23 : decode cX16_init 23 = .ok (.putfield 16, 3) := by decide +kernel
theorem dX16_init_26 : decode cX16_init 26 = .ok (.aload_n 0, 1) := by decide +kernel
theorem dX16_init_27 : decode cX16_init 27 = .ok (.new 7, 3) := by decide +kernel
theorem dX16_init_30 : decode cX16_init 30 = .ok (.dup, 1) := by decide +kernel
theorem dX16_init_31 : decode cX16_init 31 = .ok (.invokespecial 9, 3) := by decide +kernel
theorem dX16_init_34 : decode cX16_init 34 = .ok (.putfield 19, 3) := by decide +kernel
theorem dX16_init_37 : decode cX16_init 37 = .ok (.aload_n 0, 1) := by decide +kernel
theorem dX16_init_38 : decode cX16_init 38 = .ok (.new 7, 3) := by decide +kernel
theorem dX16_init_41 : decode cX16_init 41 = .ok (.dup, 1) := by decide +kernel
theorem dX16_init_42 : decode cX16_init 42 = .ok (.invokespecial 9, 3) := by decide +kernel
theorem dX16_init_45 : decode cX16_init 45 = .ok (.putfield 22, 3) := by decide +kernel
theorem dX16_init_48 : decode cX16_init 48 = .ok (.aload_n 0, 1) := by decide +kernel
theorem dX16_init_49 : decode cX16_init 49 = .ok (.new 7, 3) := by decide +kernel
theorem dX16_init_52 : decode cX16_init 52 = .ok (.dup, 1) := by decide +kernel
theorem dX16_init_53 : decode cX16_init 53 = .ok (.invokespecial 9, 3) := by decide +kernel
theorem dX16_init_56 : decode cX16_init 56 = .ok (.putfield 25, 3) := by decide +kernel
theorem dX16_init_59 : decode cX16_init 59 = .ok (.aload_n 0, 1) := by decide +kernel
theorem dX16_init_60 : decode cX16_init 60 = .ok (.bipush 8, 2) := by decide +kernel
theorem dX16_init_62 : decode cX16_init 62 = .ok (.bipush 8, 2) := by decide +kernel
theorem dX16_init_64 : decode cX16_init 64 = .ok (.multianewarray 28 2, 4) := by decide +kernel
theorem dX16_init_68 : decode cX16_init 68 = .ok (.putfield 30, 3) := by decide +kernel
theorem dX16_init_71 : decode cX16_init 71 = .ok (.aload_n 0, 1) := by decide +kernel
theorem dX16_init_72 : decode cX16_init 72 = .ok (.iconst 1, 1) := by decide +kernel
theorem dX16_init_73 : decode cX16_init 73 = .ok (.putfield 33, 3) := by decide +kernel
theorem dX16_init_76 : decode cX16_init 76 = .ok (.aload_n 0, 1) := by decide +kernel
theorem dX16_init_77 : decode cX16_init 77 = .ok (.iconst (-1), 1) := by decide +kernel
theorem dX16_init_78 : decode cX16_init 78 = .ok (.putfield 37, 3) := by decide +kernel
theorem dX16_init_81 : decode cX16_init 81 = .ok (.aload_n 0, 1) := by decide +kernel
theorem dX16_init_82 : decode cX16_init 82 = .ok (.bipush 99, 2) := by decide +kernel
theorem dX16_init_84 : decode cX16_init 84 = .ok (.putfield 40, 3) := by decide +kernel
theorem dX16_init_87 : decode cX16_init 87 = .ok (.aload_n 0, 1) := by decide +kernel
theorem dX16_init_88 : decode cX16_init 88 = .ok (.iconst 0, 1) := by decide +kernel
theorem dX16_init_89 : decode cX16_init 89 = .ok (.putfield 43, 3) := by decide +kernel
theorem dX16_init_92 : decode cX16_init 92 = .ok (.return_, 1) := by decide +kernel
theorem dX16_thrown_0 : decode cX16_thrown 0 = .ok (.aload_n 0, 1) := by decide +kernel
theorem dX16_thrown_1 : decode cX16_thrown 1 = .ok (.getfield 43, 3) := by decide +kernel
theorem dX16_thrown_4 : decode cX16_thrown 4 = .ok (.ireturn, 1) := by decide +kernel
theorem dX16_isPitch_0 : decode cX16_isPitch 0 = .ok (.iload_n 1, 1) := by decide +kernel
theorem dX16_isPitch_1 : decode cX16_isPitch 1 = .ok (.i2l, 1) := by decide +kernel
theorem dX16_isPitch_2 : decode cX16_isPitch 2 = .ok (.lconst 0, 1) := by decide +kernel
theorem dX16_isPitch_3 : decode cX16_isPitch 3 = .ok (.aload_n 0, 1) := by decide +kernel
theorem dX16_isPitch_4 : decode cX16_isPitch 4 = .ok (.getfield 10, 3) := by decide +kernel
theorem dX16_isPitch_7 : decode cX16_isPitch 7 = .ok (.invokevirtual 46, 3) := by decide +kernel
theorem dX16_isPitch_10 : decode cX16_isPitch 10 = .ok (.iconst 1, 1) := by decide +kernel
theorem dX16_isPitch_11 : decode cX16_isPitch 11 = .ok (.isub, 1) := by decide +kernel
theorem dX16_isPitch_12 : decode cX16_isPitch 12 = .ok (.i2l, 1) := by decide +kernel
theorem dX16_isPitch_13 : decode cX16_isPitch 13 = .ok (.invokestatic 50, 3) := by decide +kernel
theorem dX16_isPitch_16 : decode cX16_isPitch 16 = .ok (.ireturn, 1) := by decide +kernel
theorem dX16_isAct_0 : decode cX16_isAct 0 = .ok (.iload_n 1, 1) := by decide +kernel
theorem dX16_isAct_1 : decode cX16_isAct 1 = .ok (.i2l, 1) := by decide +kernel
theorem dX16_isAct_2 : decode cX16_isAct 2 = .ok (.lconst 0, 1) := by decide +kernel
theorem dX16_isAct_3 : decode cX16_isAct 3 = .ok (.aload_n 0, 1) := by decide +kernel
theorem dX16_isAct_4 : decode cX16_isAct 4 = .ok (.getfield 16, 3) := by decide +kernel
theorem dX16_isAct_7 : decode cX16_isAct 7 = .ok (.invokevirtual 46, 3) := by decide +kernel
theorem dX16_isAct_10 : decode cX16_isAct 10 = .ok (.iconst 1, 1) := by decide +kernel
theorem dX16_isAct_11 : decode cX16_isAct 11 = .ok (.isub, 1) := by decide +kernel
theorem dX16_isAct_12 : decode cX16_isAct 12 = .ok (.i2l, 1) := by decide +kernel
theorem dX16_isAct_13 : decode cX16_isAct 13 = .ok (.invokestatic 50, 3) := by decide +kernel
theorem dX16_isAct_16 : decode cX16_isAct 16 = .ok (.ireturn, 1) := by decide +kernel
theorem dX16_addPitch_0 : decode cX16_addPitch 0 = .ok (.iconst 0, 1) := by decide +kernel
theorem dX16_addPitch_1 : decode cX16_addPitch 1 = .ok (.istore 4, 2) := by decide +kernel
theorem dX16_addPitch_3 : decode cX16_addPitch 3 = .ok (.aload_n 0, 1) := by decide +kernel
theorem dX16_addPitch_4 : decode cX16_addPitch 4 = .ok (.getfield 10, 3) := by decide +kernel
theorem dX16_addPitch_7 : decode cX16_addPitch 7 = .ok (.invokevirtual 54, 3) := by decide +kernel
theorem dX16_addPitch_10 : decode cX16_addPitch 10 = .ok (.astore 5, 2) := by decide +kernel
theorem dX16_addPitch_12 : decode cX16_addPitch 12 = .ok (.aload 5, 2) := by decide +kernel
theorem dX16_addPitch_14 : decode cX16_addPitch 14 = .ok (.invokeinterface 58 1, 5) := by decide +kernel
theorem dX16_addPitch_19 : decode cX16_addPitch 19 = .ok (.ifCond .eq 39, 3) := by decide +kernel
theorem dX16_addPitch_22 : decode cX16_addPitch 22 = .ok (.aload 5, 2) := by decide +kernel
theorem dX16_addPitch_24 : decode cX16_addPitch 24 = .ok (.invokeinterface 64 1, 5) := by decide +kernel
theorem dX16_addPitch_29 : decode cX16_addPitch 29 = .ok (.checkcast 68, 3) := by decide +kernel
theorem dX16_addPitch_32 : decode cX16_addPitch 32 = .ok (.astore 6, 2) := by decide +kernel
theorem dX16_addPitch_34 : decode cX16_addPitch 34 = .ok (.iload 4, 2) := by decide +kernel
theorem dX16_addPitch_36 : decode cX16_addPitch 36 = .ok (.ifCond .ne 12, 3) := by decide +kernel
theorem dX16_addPitch_39 : decode cX16_addPitch 39 = .ok (.aload 6, 2) := by decide +kernel
theorem dX16_addPitch_41 : decode cX16_addPitch 41 = .ok (.getfield 70, 3) := by decide +kernel
theorem dX16_addPitch_44 : decode cX16_addPitch 44 = .ok (.iload_n 1, 1) := by decide +kernel
theorem dX16_addPitch_45 : decode cX16_addPitch 45 = .ok (.if_icmp .ne 7, 3) := by decide +kernel
theorem dX16_addPitch_48 : decode cX16_addPitch 48 = .ok (.iconst 1, 1) := by decide +kernel
theorem dX16_addPitch_49 : decode cX16_addPitch 49 = .ok (.goto 4, 3) := by decide +kernel
theorem dX16_addPitch_52 : decode cX16_addPitch 52 = .ok (.iconst 0, 1) := by decide +kernel
theorem dX16_addPitch_53 : decode cX16_addPitch 53 = .ok (.istore 4, 2) := by decide +kernel
theorem dX16_addPitch_55 : decode cX16_addPitch 55 = .ok (.goto (-43), 3) := by decide +kernel
theorem dX16_addPitch_58 : decode cX16_addPitch 58 = .ok (.aload_n 0, 1) := by decide +kernel
theorem dX16_addPitch_59 : decode cX16_addPitch 59 = .ok (.iload_n 1, 1) := by decide +kernel
theorem dX16_addPitch_60 : decode cX16_addPitch 60 = .ok (.i2l, 1) := by decide +kernel
theorem dX16_addPitch_61 : decode cX16_addPitch 61 = .ok (.lconst 0, 1) := by decide +kernel
theorem dX16_addPitch_62 : decode cX16_addPitch 62 = .ok (.ldc2_w 73, 3) := by decide +kernel
theorem dX16_addPitch_65 : decode cX16_addPitch 65 = .ok (.invokestatic 50, 3) := by decide +kernel
theorem dX16_addPitch_68 : decode cX16_addPitch 68 = .ok (.ifCond .eq 15, 3) := by decide +kernel
theorem dX16_addPitch_71 : decode cX16_addPitch 71 = .ok (.iload_n 2, 1) := by decide +kernel
theorem dX16_addPitch_72 : decode cX16_addPitch 72 = .ok (.i2l, 1) := by decide +kernel
theorem dX16_addPitch_73 : decode cX16_addPitch 73 = .ok (.lconst 0, 1) := by decide +kernel
theorem dX16_addPitch_74 : decode cX16_addPitch 74 = .ok (.ldc2_w 75, 3) := by decide +kernel
theorem dX16_addPitch_77 : decode cX16_addPitch 77 = .ok (.invokestatic 50, 3) := by decide +kernel
theorem dX16_addPitch_80 : decode cX16_addPitch 80 = .ok (.ifCond .ne 7, 3) := by decide +kernel
theorem dX16_addPitch_83 : decode cX16_addPitch 83 = .ok (.iconst 1, 1) := by decide +kernel
theorem dX16_addPitch_84 : decode cX16_addPitch 84 = .ok (.goto 29, 3) := by decide +kernel
theorem dX16_addPitch_87 : decode cX16_addPitch 87 = .ok (.iload 4, 2) := by decide +kernel
theorem dX16_addPitch_89 : decode cX16_addPitch 89 = .ok (.ifCond .eq 7, 3) := by decide +kernel
theorem dX16_addPitch_92 : decode cX16_addPitch 92 = .ok (.iconst 2, 1) := by decide +kernel
theorem dX16_addPitch_93 : decode cX16_addPitch 93 = .ok (.goto 20, 3) := by decide +kernel
theorem dX16_addPitch_96 : decode cX16_addPitch 96 = .ok (.aload_n 0, 1) := by decide +kernel
theorem dX16_addPitch_97 : decode cX16_addPitch 97 = .ok (.getfield 10, 3) := by decide +kernel
theorem dX16_addPitch_100 : decode cX16_addPitch 100 = .ok (.invokevirtual 46, 3) := by decide +kernel
theorem dX16_addPitch_103 : decode cX16_addPitch 103 = .ok (.bipush 6, 2) := by decide +kernel
theorem dX16_addPitch_105 : decode cX16_addPitch 105 = .ok (.if_icmp .ne 7, 3) := by decide +kernel
theorem dX16_addPitch_108 : decode cX16_addPitch 108 = .ok (.iconst 3, 1) := by decide +kernel
theorem dX16_addPitch_109 : decode cX16_addPitch 109 = .ok (.goto 4, 3) := by decide +kernel
theorem dX16_addPitch_112 : decode cX16_addPitch 112 = .ok (.iconst 0, 1) := by decide +kernel
theorem dX16_addPitch_113 : decode cX16_addPitch 113 = .ok (.putfield 43, 3) := by decide +kernel
theorem dX16_addPitch_116 : decode cX16_addPitch 116 = .ok (.aload_n 0, 1) := by decide +kernel
theorem dX16_addPitch_117 : decode cX16_addPitch 117 = .ok (.getfield 43, 3) := by decide +kernel
theorem dX16_addPitch_120 : decode cX16_addPitch 120 = .ok (.ifCond .le 5, 3) := by decide +kernel
theorem dX16_addPitch_123 : decode cX16_addPitch 123 = .ok (.iconst 0, 1) := by decide +kernel
theorem dX16_addPitch_124 : decode cX16_addPitch 124 = .ok (.ireturn, 1) := by decide +kernel
theorem dX16_addPitch_125 : decode cX16_addPitch 125 = .ok (.aload_n 0, 1) := by decide +kernel
theorem dX16_addPitch_126 : decode cX16_addPitch 126 = .ok (.getfield 10, 3) := by decide +kernel
theorem dX16_addPitch_129 : decode cX16_addPitch 129 = .ok (.new 68, 3) := by decide +kernel
theorem dX16_addPitch_132 : decode cX16_addPitch 132 = .ok (.dup, 1) := by decide +kernel
theorem dX16_addPitch_133 : decode cX16_addPitch 133 = .ok (.iload_n 1, 1) := by decide +kernel
theorem dX16_addPitch_134 : decode cX16_addPitch 134 = .ok (.iload_n 2, 1) := by decide +kernel
theorem dX16_addPitch_135 : decode cX16_addPitch 135 = .ok (.iload_n 3, 1) := by decide +kernel
theorem dX16_addPitch_136 : decode cX16_addPitch 136 = .ok (.invokespecial 77, 3) := by decide +kernel
theorem dX16_addPitch_139 : decode cX16_addPitch 139 = .ok (.invokevirtual 80, 3) := by decide +kernel
theorem dX16_addPitch_142 : decode cX16_addPitch 142 = .ok (.pop, 1) := by decide +kernel
theorem dX16_addPitch_143 : decode cX16_addPitch 143 = .ok (.aload_n 0, 1) := by decide +kernel
theorem dX16_addPitch_144 : decode cX16_addPitch 144 = .ok (.getfield 10, 3) := by decide +kernel
theorem dX16_addPitch_147 : decode cX16_addPitch 147 = .ok (.invokevirtual 46, 3) := by decide +kernel
theorem dX16_addPitch_150 : decode cX16_addPitch 150 = .ok (.iconst 1, 1) := by decide +kernel
theorem dX16_addPitch_151 : decode cX16_addPitch 151 = .ok (.isub, 1) := by decide +kernel
theorem dX16_addPitch_152 : decode cX16_addPitch 152 = .ok (.ireturn, 1) := by decide +kernel
theorem dX16_setPassers_0 : decode cX16_setPassers 0 = .ok (.aload_n 0, 1) := by decide +kernel
theorem dX16_setPassers_1 : decode cX16_setPassers 1 = .ok (.aload_n 0, 1) := by decide +kernel
theorem dX16_setPassers_2 : decode cX16_setPassers 2 = .ok (.iload_n 1, 1) := by decide +kernel
theorem dX16_setPassers_3 : decode cX16_setPassers 3 = .ok (.invokevirtual 84, 3) := by decide +kernel
theorem dX16_setPassers_6 : decode cX16_setPassers 6 = .ok (.ifCond .ne 7, 3) := by decide +kernel
theorem dX16_setPassers_9 : decode cX16_setPassers 9 = .ok (.iconst 1, 1) := by decide +kernel
theorem dX16_setPassers_10 : decode cX16_setPassers 10 = .ok (.goto 34, 3) := by decide +kernel
theorem dX16_setPassers_13 : decode cX16_setPassers 13 = .ok (.iload_n 2, 1) := by decide +kernel
theorem dX16_setPassers_14 : decode cX16_setPassers 14 = .ok (.i2l, 1) := by decide +kernel
theorem dX16_setPassers_15 : decode cX16_setPassers 15 = .ok (.ldc2_w 88, 3) := by decide +kernel
theorem dX16_setPassers_18 : decode cX16_setPassers 18 = .ok (.ldc2_w 90, 3) := by decide +kernel
theorem dX16_setPassers_21 : decode cX16_setPassers 21 = .ok (.invokestatic 50, 3) := by decide +kernel
theorem dX16_setPassers_24 : decode cX16_setPassers 24 = .ok (.ifCond .eq 15, 3) := by decide +kernel
theorem dX16_setPassers_27 : decode cX16_setPassers 27 = .ok (.iload_n 3, 1) := by decide +kernel
theorem dX16_setPassers_28 : decode cX16_setPassers 28 = .ok (.i2l, 1) := by decide +kernel
theorem dX16_setPassers_29 : decode cX16_setPassers 29 = .ok (.lconst 0, 1) := by decide +kernel
theorem dX16_setPassers_30 : decode cX16_setPassers 30 = .ok (.ldc2_w 92, 3) := by decide +kernel
theorem dX16_setPassers_33 : decode cX16_setPassers 33 = .ok (.invokestatic 50, 3) := by decide +kernel
theorem dX16_setPassers_36 : decode cX16_setPassers 36 = .ok (.ifCond .ne 7, 3) := by decide +kernel
theorem dX16_setPassers_39 : decode cX16_setPassers 39 = .ok (.iconst 2, 1) := by decide +kernel
theorem dX16_setPassers_40 : decode cX16_setPassers 40 = .ok (.goto 4, 3) := by decide +kernel
theorem dX16_setPassers_43 : decode cX16_setPassers 43 = .ok (.iconst 0, 1) := by decide +kernel
theorem dX16_setPassers_44 : decode cX16_setPassers 44 = .ok (.putfield 43, 3) := by decide +kernel
theorem dX16_setPassers_47 : decode cX16_setPassers 47 = .ok (.aload_n 0, 1) := by decide +kernel
theorem dX16_setPassers_48 : decode cX16_setPassers 48 = .ok (.getfield 43, 3) := by decide +kernel
theorem dX16_setPassers_51 : decode cX16_setPassers 51 = .ok (.ifCond .le 5, 3) := by decide +kernel
theorem dX16_setPassers_54 : decode cX16_setPassers 54 = .ok (.iconst 0, 1) := by decide +kernel
theorem dX16_setPassers_55 : decode cX16_setPassers 55 = .ok (.ireturn, 1) := by decide +kernel
theorem dX16_setPassers_56 : decode cX16_setPassers 56 = .ok (.aload_n 0, 1) := by decide +kernel
theorem dX16_setPassers_57 : decode cX16_setPassers 57 = .ok (.getfield 10, 3) := by decide +kernel
theorem dX16_setPassers_60 : decode cX16_setPassers 60 = .ok (.iload_n 1, 1) := by decide +kernel
theorem dX16_setPassers_61 : decode cX16_setPassers 61 = .ok (.invokevirtual 94, 3) := by decide +kernel
theorem dX16_setPassers_64 : decode cX16_setPassers 64 = .ok (.checkcast 68, 3) := by decide +kernel
theorem dX16_setPassers_67 : decode cX16_setPassers 67 = .ok (.getfield 98, 3) := by decide +kernel
theorem dX16_setPassers_70 : decode cX16_setPassers 70 = .ok (.iload_n 2, 1) := by decide +kernel
theorem dX16_setPassers_71 : decode cX16_setPassers 71 = .ok (.bipush 10, 2) := by decide +kernel
theorem dX16_setPassers_73 : decode cX16_setPassers 73 = .ok (.isub, 1) := by decide +kernel
theorem dX16_setPassers_74 : decode cX16_setPassers 74 = .ok (.iaload, 1) := by decide +kernel
theorem dX16_setPassers_75 : decode cX16_setPassers 75 = .ok (.istore 4, 2) := by decide +kernel
theorem dX16_setPassers_77 : decode cX16_setPassers 77 = .ok (.aload_n 0, 1) := by decide +kernel
theorem dX16_setPassers_78 : decode cX16_setPassers 78 = .ok (.getfield 10, 3) := by decide +kernel
theorem dX16_setPassers_81 : decode cX16_setPassers 81 = .ok (.iload_n 1, 1) := by decide +kernel
theorem dX16_setPassers_82 : decode cX16_setPassers 82 = .ok (.invokevirtual 94, 3) := by decide +kernel
theorem dX16_setPassers_85 : decode cX16_setPassers 85 = .ok (.checkcast 68, 3) := by decide +kernel
theorem dX16_setPassers_88 : decode cX16_setPassers 88 = .ok (.getfield 98, 3) := by decide +kernel
theorem dX16_setPassers_91 : decode cX16_setPassers 91 = .ok (.iload_n 2, 1) := by decide +kernel
theorem dX16_setPassers_92 : decode cX16_setPassers 92 = .ok (.bipush 10, 2) := by decide +kernel
theorem dX16_setPassers_94 : decode cX16_setPassers 94 = .ok (.isub, 1) := by decide +kernel
theorem dX16_setPassers_95 : decode cX16_setPassers 95 = .ok (.iload_n 3, 1) := by decide +kernel
theorem dX16_setPassers_96 : decode cX16_setPassers 96 = .ok (.iastore, 1) := by decide +kernel
theorem dX16_setPassers_97 : decode cX16_setPassers 97 = .ok (.iload 4, 2) := by decide +kernel
theorem dX16_setPassers_99 : decode cX16_setPassers 99 = .ok (.ireturn, 1) := by decide +kernel
theorem dX16_passersAt_0 : decode cX16_passersAt 0 = .ok (.aload_n 0, 1) := by decide +kernel
theorem dX16_passersAt_1 : decode cX16_passersAt 1 = .ok (.aload_n 0, 1) := by decide +kernel
theorem dX16_passersAt_2 : decode cX16_passersAt 2 = .ok (.iload_n 1, 1) := by decide +kernel
theorem dX16_passersAt_3 : decode cX16_passersAt 3 = .ok (.invokevirtual 84, 3) := by decide +kernel
theorem dX16_passersAt_6 : decode cX16_passersAt 6 = .ok (.ifCond .ne 7, 3) := by decide +kernel
theorem dX16_passersAt_9 : decode cX16_passersAt 9 = .ok (.iconst 1, 1) := by decide +kernel
theorem dX16_passersAt_10 : decode cX16_passersAt 10 = .ok (.goto 22, 3) := by decide +kernel
theorem dX16_passersAt_13 : decode cX16_passersAt 13 = .ok (.iload_n 2, 1) := by decide +kernel
theorem dX16_passersAt_14 : decode cX16_passersAt 14 = .ok (.i2l, 1) := by decide +kernel
theorem dX16_passersAt_15 : decode cX16_passersAt 15 = .ok (.ldc2_w 92, 3) := by decide +kernel
theorem dX16_passersAt_18 : decode cX16_passersAt 18 = .ok (.ldc2_w 102, 3) := by decide +kernel
theorem dX16_passersAt_21 : decode cX16_passersAt 21 = .ok (.invokestatic 50, 3) := by decide +kernel
theorem dX16_passersAt_24 : decode cX16_passersAt 24 = .ok (.ifCond .ne 7, 3) := by decide +kernel
theorem dX16_passersAt_27 : decode cX16_passersAt 27 = .ok (.iconst 2, 1) := by decide +kernel
theorem dX16_passersAt_28 : decode cX16_passersAt 28 = .ok (.goto 4, 3) := by decide +kernel
theorem dX16_passersAt_31 : decode cX16_passersAt 31 = .ok (.iconst 0, 1) := by decide +kernel
theorem dX16_passersAt_32 : decode cX16_passersAt 32 = .ok (.putfield 43, 3) := by decide +kernel
theorem dX16_passersAt_35 : decode cX16_passersAt 35 = .ok (.aload_n 0, 1) := by decide +kernel
theorem dX16_passersAt_36 : decode cX16_passersAt 36 = .ok (.getfield 43, 3) := by decide +kernel
theorem dX16_passersAt_39 : decode cX16_passersAt 39 = .ok (.ifCond .le 7, 3) := by decide +kernel
theorem dX16_passersAt_42 : decode cX16_passersAt 42 = .ok (.iconst 0, 1) := by decide +kernel
theorem dX16_passersAt_43 : decode cX16_passersAt 43 = .ok (.goto 18, 3) := by decide +kernel
theorem dX16_passersAt_46 : decode cX16_passersAt 46 = .ok (.aload_n 0, 1) := by decide +kernel
theorem dX16_passersAt_47 : decode cX16_passersAt 47 = .ok (.getfield 10, 3) := by decide +kernel
theorem dX16_passersAt_50 : decode cX16_passersAt 50 = .ok (.iload_n 1, 1) := by decide +kernel
theorem dX16_passersAt_51 : decode cX16_passersAt 51 = .ok (.invokevirtual 94, 3) := by decide +kernel
theorem dX16_passersAt_54 : decode cX16_passersAt 54 = .ok (.checkcast 68, 3) := by decide +kernel
theorem dX16_passersAt_57 : decode cX16_passersAt 57 = .ok (.iload_n 2, 1) := by decide +kernel
theorem dX16_passersAt_58 : decode cX16_passersAt 58 = .ok (.invokevirtual 104, 3) := by decide +kernel
theorem dX16_passersAt_61 : decode cX16_passersAt 61 = .ok (.ireturn, 1) := by decide +kernel
theorem dX16_addAct_0 : decode cX16_addAct 0 = .ok (.iload_n 1, 1) := by decide +kernel
theorem dX16_addAct_1 : decode cX16_addAct 1 = .ok (.i2l, 1) := by decide +kernel
theorem dX16_addAct_2 : decode cX16_addAct 2 = .ok (.ldc2_w 107, 3) := by decide +kernel
theorem dX16_addAct_5 : decode cX16_addAct 5 = .ok (.ldc2_w 109, 3) := by decide +kernel
theorem dX16_addAct_8 : decode cX16_addAct 8 = .ok (.invokestatic 50, 3) := by decide +kernel
theorem dX16_addAct_11 : decode cX16_addAct 11 = .ok (.ifCond .eq 44, 3) := by decide +kernel
theorem dX16_addAct_14 : decode cX16_addAct 14 = .ok (.iload_n 2, 1) := by decide +kernel
theorem dX16_addAct_15 : decode cX16_addAct 15 = .ok (.i2l, 1) := by decide +kernel
theorem dX16_addAct_16 : decode cX16_addAct 16 = .ok (.lconst 0, 1) := by decide +kernel
theorem dX16_addAct_17 : decode cX16_addAct 17 = .ok (.ldc2_w 75, 3) := by decide +kernel
theorem dX16_addAct_20 : decode cX16_addAct 20 = .ok (.invokestatic 50, 3) := by decide +kernel
theorem dX16_addAct_23 : decode cX16_addAct 23 = .ok (.ifCond .eq 32, 3) := by decide +kernel
theorem dX16_addAct_26 : decode cX16_addAct 26 = .ok (.iload_n 3, 1) := by decide +kernel
theorem dX16_addAct_27 : decode cX16_addAct 27 = .ok (.i2l, 1) := by decide +kernel
theorem dX16_addAct_28 : decode cX16_addAct 28 = .ok (.lconst 1, 1) := by decide +kernel
theorem dX16_addAct_29 : decode cX16_addAct 29 = .ok (.ldc2_w 75, 3) := by decide +kernel
theorem dX16_addAct_32 : decode cX16_addAct 32 = .ok (.invokestatic 50, 3) := by decide +kernel
theorem dX16_addAct_35 : decode cX16_addAct 35 = .ok (.ifCond .eq 20, 3) := by decide +kernel
theorem dX16_addAct_38 : decode cX16_addAct 38 = .ok (.iload 4, 2) := by decide +kernel
theorem dX16_addAct_40 : decode cX16_addAct 40 = .ok (.i2l, 1) := by decide +kernel
theorem dX16_addAct_41 : decode cX16_addAct 41 = .ok (.lconst 1, 1) := by decide +kernel
theorem dX16_addAct_42 : decode cX16_addAct 42 = .ok (.ldc2_w 75, 3) := by decide +kernel
theorem dX16_addAct_45 : decode cX16_addAct 45 = .ok (.invokestatic 50, 3) := by decide +kernel
theorem dX16_addAct_48 : decode cX16_addAct 48 = .ok (.ifCond .eq 7, 3) := by decide +kernel
theorem dX16_addAct_51 : decode cX16_addAct 51 = .ok (.iconst 1, 1) := by decide +kernel
theorem dX16_addAct_52 : decode cX16_addAct 52 = .ok (.goto 4, 3) := by decide +kernel
theorem dX16_addAct_55 : decode cX16_addAct 55 = .ok (.iconst 0, 1) := by decide +kernel
theorem dX16_addAct_56 : decode cX16_addAct 56 = .ok (.istore 6, 2) := by decide +kernel
theorem dX16_addAct_58 : decode cX16_addAct 58 = .ok (.aload_n 0, 1) := by decide +kernel
theorem dX16_addAct_59 : decode cX16_addAct 59 = .ok (.iload 6, 2) := by decide +kernel
theorem dX16_addAct_61 : decode cX16_addAct 61 = .ok (.ifCond .ne 7, 3) := by decide +kernel
theorem dX16_addAct_64 : decode cX16_addAct 64 = .ok (.iconst 1, 1) := by decide +kernel
theorem dX16_addAct_65 : decode cX16_addAct 65 = .ok (.goto 20, 3) := by decide +kernel
theorem dX16_addAct_68 : decode cX16_addAct 68 = .ok (.aload_n 0, 1) := by decide +kernel
theorem dX16_addAct_69 : decode cX16_addAct 69 = .ok (.getfield 16, 3) := by decide +kernel
theorem dX16_addAct_72 : decode cX16_addAct 72 = .ok (.invokevirtual 46, 3) := by decide +kernel
theorem dX16_addAct_75 : decode cX16_addAct 75 = .ok (.bipush 8, 2) := by decide +kernel
theorem dX16_addAct_77 : decode cX16_addAct 77 = .ok (.if_icmp .ne 7, 3) := by decide +kernel
theorem dX16_addAct_80 : decode cX16_addAct 80 = .ok (.iconst 2, 1) := by decide +kernel
theorem dX16_addAct_81 : decode cX16_addAct 81 = .ok (.goto 4, 3) := by decide +kernel
theorem dX16_addAct_84 : decode cX16_addAct 84 = .ok (.iconst 0, 1) := by decide +kernel
theorem dX16_addAct_85 : decode cX16_addAct 85 = .ok (.putfield 43, 3) := by decide +kernel
theorem dX16_addAct_88 : decode cX16_addAct 88 = .ok (.aload_n 0, 1) := by decide +kernel
theorem dX16_addAct_89 : decode cX16_addAct 89 = .ok (.getfield 43, 3) := by decide +kernel
theorem dX16_addAct_92 : decode cX16_addAct 92 = .ok (.ifCond .le 5, 3) := by decide +kernel
theorem dX16_addAct_95 : decode cX16_addAct 95 = .ok (.iconst 0, 1) := by decide +kernel
theorem dX16_addAct_96 : decode cX16_addAct 96 = .ok (.ireturn, 1) := by decide +kernel
theorem dX16_addAct_97 : decode cX16_addAct 97 = .ok (.aload_n 0, 1) := by decide +kernel
theorem dX16_addAct_98 : decode cX16_addAct 98 = .ok (.getfield 16, 3) := by decide +kernel
theorem dX16_addAct_101 : decode cX16_addAct 101 = .ok (.new 111, 3) := by decide +kernel
theorem dX16_addAct_104 : decode cX16_addAct 104 = .ok (.dup, 1) := by decide +kernel
theorem dX16_addAct_105 : decode cX16_addAct 105 = .ok (.iload_n 1, 1) := by decide +kernel
theorem dX16_addAct_106 : decode cX16_addAct 106 = .ok (.iload_n 2, 1) := by decide +kernel
theorem dX16_addAct_107 : decode cX16_addAct 107 = .ok (.iload_n 3, 1) := by decide +kernel
theorem dX16_addAct_108 : decode cX16_addAct 108 = .ok (.iload 4, 2) := by decide +kernel
theorem dX16_addAct_110 : decode cX16_addAct 110 = .ok (.iload 5, 2) := by decide +kernel
theorem dX16_addAct_112 : decode cX16_addAct 112 = .ok (.aload_n 0, 1) := by decide +kernel
theorem dX16_addAct_113 : decode cX16_addAct 113 = .ok (.getfield 16, 3) := by decide +kernel
theorem dX16_addAct_116 : decode cX16_addAct 116 = .ok (.invokevirtual 46, 3) := by decide +kernel
theorem dX16_addAct_119 : decode cX16_addAct 119 = .ok (.invokespecial 113, 3) := by decide +kernel
theorem dX16_addAct_122 : decode cX16_addAct 122 = .ok (.invokevirtual 80, 3) := by decide +kernel
theorem dX16_addAct_125 : decode cX16_addAct 125 = .ok (.pop, 1) := by decide +kernel
theorem dX16_addAct_126 : decode cX16_addAct 126 = .ok (.aload_n 0, 1) := by decide +kernel
theorem dX16_addAct_127 : decode cX16_addAct 127 = .ok (.getfield 16, 3) := by decide +kernel
theorem dX16_addAct_130 : decode cX16_addAct 130 = .ok (.invokevirtual 46, 3) := by decide +kernel
theorem dX16_addAct_133 : decode cX16_addAct 133 = .ok (.iconst 1, 1) := by decide +kernel
theorem dX16_addAct_134 : decode cX16_addAct 134 = .ok (.isub, 1) := by decide +kernel
theorem dX16_addAct_135 : decode cX16_addAct 135 = .ok (.ireturn, 1) := by decide +kernel
theorem dX16_noAct_0 : decode cX16_noAct 0 = .ok (.aload_n 0, 1) := by decide +kernel
theorem dX16_noAct_1 : decode cX16_noAct 1 = .ok (.aload_n 0, 1) := by decide +kernel
theorem dX16_noAct_2 : decode cX16_noAct 2 = .ok (.iload_n 1, 1) := by decide +kernel
theorem dX16_noAct_3 : decode cX16_noAct 3 = .ok (.invokevirtual 116, 3) := by decide +kernel
theorem dX16_noAct_6 : decode cX16_noAct 6 = .ok (.ifCond .eq 7, 3) := by decide +kernel
theorem dX16_noAct_9 : decode cX16_noAct 9 = .ok (.iconst 0, 1) := by decide +kernel
theorem dX16_noAct_10 : decode cX16_noAct 10 = .ok (.goto 4, 3) := by decide +kernel
theorem dX16_noAct_13 : decode cX16_noAct 13 = .ok (.iconst 1, 1) := by decide +kernel
theorem dX16_noAct_14 : decode cX16_noAct 14 = .ok (.putfield 43, 3) := by decide +kernel
theorem dX16_noAct_17 : decode cX16_noAct 17 = .ok (.aload_n 0, 1) := by decide +kernel
theorem dX16_noAct_18 : decode cX16_noAct 18 = .ok (.getfield 43, 3) := by decide +kernel
theorem dX16_noAct_21 : decode cX16_noAct 21 = .ok (.ifCond .le 7, 3) := by decide +kernel
theorem dX16_noAct_24 : decode cX16_noAct 24 = .ok (.iconst 1, 1) := by decide +kernel
theorem dX16_noAct_25 : decode cX16_noAct 25 = .ok (.goto 4, 3) := by decide +kernel
theorem dX16_noAct_28 : decode cX16_noAct 28 = .ok (.iconst 0, 1) := by decide +kernel
theorem dX16_noAct_29 : decode cX16_noAct 29 = .ok (.ireturn, 1) := by decide +kernel
theorem dX16_setLine_0 : decode cX16_setLine 0 = .ok (.aload_n 0, 1) := by decide +kernel
theorem dX16_setLine_1 : decode cX16_setLine 1 = .ok (.iload_n 1, 1) := by decide +kernel
theorem dX16_setLine_2 : decode cX16_setLine 2 = .ok (.invokevirtual 119, 3) := by decide +kernel
theorem dX16_setLine_5 : decode cX16_setLine 5 = .ok (.ifCond .eq 5, 3) := by decide +kernel
theorem dX16_setLine_8 : decode cX16_setLine 8 = .ok (.iconst 0, 1) := by decide +kernel
theorem dX16_setLine_9 : decode cX16_setLine 9 = .ok (.ireturn, 1) := by decide +kernel
theorem dX16_setLine_10 : decode cX16_setLine 10 = .ok (.aload_n 0, 1) := by decide +kernel
theorem dX16_setLine_11 : decode cX16_setLine 11 = .ok (.iload_n 2, 1) := by decide +kernel
theorem dX16_setLine_12 : decode cX16_setLine 12 = .ok (.i2l, 1) := by decide +kernel
theorem dX16_setLine_13 : decode cX16_setLine 13 = .ok (.lconst 1, 1) := by decide +kernel
theorem dX16_setLine_14 : decode cX16_setLine 14 = .ok (.ldc2_w 75, 3) := by decide +kernel
theorem dX16_setLine_17 : decode cX16_setLine 17 = .ok (.invokestatic 50, 3) := by decide +kernel
theorem dX16_setLine_20 : decode cX16_setLine 20 = .ok (.ifCond .eq 7, 3) := by decide +kernel
theorem dX16_setLine_23 : decode cX16_setLine 23 = .ok (.iconst 0, 1) := by decide +kernel
theorem dX16_setLine_24 : decode cX16_setLine 24 = .ok (.goto 4, 3) := by decide +kernel
theorem dX16_setLine_27 : decode cX16_setLine 27 = .ok (.iconst 2, 1) := by decide +kernel
theorem dX16_setLine_28 : decode cX16_setLine 28 = .ok (.putfield 43, 3) := by decide +kernel
theorem dX16_setLine_31 : decode cX16_setLine 31 = .ok (.aload_n 0, 1) := by decide +kernel
theorem dX16_setLine_32 : decode cX16_setLine 32 = .ok (.getfield 43, 3) := by decide +kernel
theorem dX16_setLine_35 : decode cX16_setLine 35 = .ok (.ifCond .le 5, 3) := by decide +kernel
theorem dX16_setLine_38 : decode cX16_setLine 38 = .ok (.iconst 0, 1) := by decide +kernel
theorem dX16_setLine_39 : decode cX16_setLine 39 = .ok (.ireturn, 1) := by decide +kernel
theorem dX16_setLine_40 : decode cX16_setLine 40 = .ok (.aload_n 0, 1) := by decide +kernel
theorem dX16_setLine_41 : decode cX16_setLine 41 = .ok (.getfield 16, 3) := by decide +kernel
theorem dX16_setLine_44 : decode cX16_setLine 44 = .ok (.iload_n 1, 1) := by decide +kernel
theorem dX16_setLine_45 : decode cX16_setLine 45 = .ok (.invokevirtual 94, 3) := by decide +kernel
theorem dX16_setLine_48 : decode cX16_setLine 48 = .ok (.checkcast 111, 3) := by decide +kernel
theorem dX16_setLine_51 : decode cX16_setLine 51 = .ok (.getfield 122, 3) := by decide +kernel
theorem dX16_setLine_54 : decode cX16_setLine 54 = .ok (.istore_n 3, 1) := by decide +kernel
theorem dX16_setLine_55 : decode cX16_setLine 55 = .ok (.aload_n 0, 1) := by decide +kernel
theorem dX16_setLine_56 : decode cX16_setLine 56 = .ok (.getfield 16, 3) := by decide +kernel
theorem dX16_setLine_59 : decode cX16_setLine 59 = .ok (.iload_n 1, 1) := by decide +kernel
theorem dX16_setLine_60 : decode cX16_setLine 60 = .ok (.invokevirtual 94, 3) := by decide +kernel
theorem dX16_setLine_63 : decode cX16_setLine 63 = .ok (.checkcast 111, 3) := by decide +kernel
theorem dX16_setLine_66 : decode cX16_setLine 66 = .ok (.iload_n 2, 1) := by decide +kernel
theorem dX16_setLine_67 : decode cX16_setLine 67 = .ok (.putfield 122, 3) := by decide +kernel
theorem dX16_setLine_70 : decode cX16_setLine 70 = .ok (.iload_n 3, 1) := by decide +kernel
theorem dX16_setLine_71 : decode cX16_setLine 71 = .ok (.ireturn, 1) := by decide +kernel
theorem dX16_setPermit_0 : decode cX16_setPermit 0 = .ok (.aload_n 0, 1) := by decide +kernel
theorem dX16_setPermit_1 : decode cX16_setPermit 1 = .ok (.iload_n 1, 1) := by decide +kernel
theorem dX16_setPermit_2 : decode cX16_setPermit 2 = .ok (.invokevirtual 119, 3) := by decide +kernel
theorem dX16_setPermit_5 : decode cX16_setPermit 5 = .ok (.ifCond .eq 5, 3) := by decide +kernel
theorem dX16_setPermit_8 : decode cX16_setPermit 8 = .ok (.iconst 0, 1) := by decide +kernel
theorem dX16_setPermit_9 : decode cX16_setPermit 9 = .ok (.ireturn, 1) := by decide +kernel
theorem dX16_setPermit_10 : decode cX16_setPermit 10 = .ok (.aload_n 0, 1) := by decide +kernel
theorem dX16_setPermit_11 : decode cX16_setPermit 11 = .ok (.getfield 16, 3) := by decide +kernel
theorem dX16_setPermit_14 : decode cX16_setPermit 14 = .ok (.iload_n 1, 1) := by decide +kernel
theorem dX16_setPermit_15 : decode cX16_setPermit 15 = .ok (.invokevirtual 94, 3) := by decide +kernel
theorem dX16_setPermit_18 : decode cX16_setPermit 18 = .ok (.checkcast 111, 3) := by decide +kernel
theorem dX16_setPermit_21 : decode cX16_setPermit 21 = .ok (.getfield 125, 3) := by decide +kernel
theorem dX16_setPermit_24 : decode cX16_setPermit 24 = .ok (.istore_n 3, 1) := by decide +kernel
theorem dX16_setPermit_25 : decode cX16_setPermit 25 = .ok (.aload_n 0, 1) := by decide +kernel
theorem dX16_setPermit_26 : decode cX16_setPermit 26 = .ok (.getfield 16, 3) := by decide +kernel
theorem dX16_setPermit_29 : decode cX16_setPermit 29 = .ok (.iload_n 1, 1) := by decide +kernel
theorem dX16_setPermit_30 : decode cX16_setPermit 30 = .ok (.invokevirtual 94, 3) := by decide +kernel
theorem dX16_setPermit_33 : decode cX16_setPermit 33 = .ok (.checkcast 111, 3) := by decide +kernel
theorem dX16_setPermit_36 : decode cX16_setPermit 36 = .ok (.iload_n 2, 1) := by decide +kernel
theorem dX16_setPermit_37 : decode cX16_setPermit 37 = .ok (.putfield 125, 3) := by decide +kernel
theorem dX16_setPermit_40 : decode cX16_setPermit 40 = .ok (.iload_n 3, 1) := by decide +kernel
theorem dX16_setPermit_41 : decode cX16_setPermit 41 = .ok (.ireturn, 1) := by decide +kernel
theorem dX16_comesAhead_0 : decode cX16_comesAhead 0 = .ok (.aload_n 0, 1) := by decide +kernel
theorem dX16_comesAhead_1 : decode cX16_comesAhead 1 = .ok (.getfield 30, 3) := by decide +kernel
theorem dX16_comesAhead_4 : decode cX16_comesAhead 4 = .ok (.iload_n 1, 1) := by decide +kernel
theorem dX16_comesAhead_5 : decode cX16_comesAhead 5 = .ok (.aaload, 1) := by decide +kernel
theorem dX16_comesAhead_6 : decode cX16_comesAhead 6 = .ok (.iload_n 2, 1) := by decide +kernel
theorem dX16_comesAhead_7 : decode cX16_comesAhead 7 = .ok (.baload, 1) := by decide +kernel
theorem dX16_comesAhead_8 : decode cX16_comesAhead 8 = .ok (.istore_n 3, 1) := by decide +kernel
theorem dX16_comesAhead_9 : decode cX16_comesAhead 9 = .ok (.iconst 0, 1) := by decide +kernel
theorem dX16_comesAhead_10 : decode cX16_comesAhead 10 = .ok (.istore 4, 2) := by decide +kernel
theorem dX16_comesAhead_12 : decode cX16_comesAhead 12 = .ok (.iload 4, 2) := by decide +kernel
theorem dX16_comesAhead_14 : decode cX16_comesAhead 14 = .ok (.aload_n 0, 1) := by decide +kernel
theorem dX16_comesAhead_15 : decode cX16_comesAhead 15 = .ok (.getfield 16, 3) := by decide +kernel
theorem dX16_comesAhead_18 : decode cX16_comesAhead 18 = .ok (.invokevirtual 46, 3) := by decide +kernel
theorem dX16_comesAhead_21 : decode cX16_comesAhead 21 = .ok (.if_icmp .ge 41, 3) := by decide +kernel
theorem dX16_comesAhead_24 : decode cX16_comesAhead 24 = .ok (.iload_n 3, 1) := by decide +kernel
theorem dX16_comesAhead_25 : decode cX16_comesAhead 25 = .ok (.ifCond .ne 37, 3) := by decide +kernel
theorem dX16_comesAhead_28 : decode cX16_comesAhead 28 = .ok (.aload_n 0, 1) := by decide +kernel
theorem dX16_comesAhead_29 : decode cX16_comesAhead 29 = .ok (.getfield 30, 3) := by decide +kernel
theorem dX16_comesAhead_32 : decode cX16_comesAhead 32 = .ok (.iload_n 1, 1) := by decide +kernel
theorem dX16_comesAhead_33 : decode cX16_comesAhead 33 = .ok (.aaload, 1) := by decide +kernel
theorem dX16_comesAhead_34 : decode cX16_comesAhead 34 = .ok (.iload 4, 2) := by decide +kernel
theorem dX16_comesAhead_36 : decode cX16_comesAhead 36 = .ok (.baload, 1) := by decide +kernel
theorem dX16_comesAhead_37 : decode cX16_comesAhead 37 = .ok (.ifCond .eq 17, 3) := by decide +kernel
theorem dX16_comesAhead_40 : decode cX16_comesAhead 40 = .ok (.aload_n 0, 1) := by decide +kernel
theorem dX16_comesAhead_41 : decode cX16_comesAhead 41 = .ok (.iload 4, 2) := by decide +kernel
theorem dX16_comesAhead_43 : decode cX16_comesAhead 43 = .ok (.iload_n 2, 1) := by decide +kernel
theorem dX16_comesAhead_44 : decode cX16_comesAhead 44 = .ok (.invokevirtual 129, 3) := by decide +kernel
theorem dX16_comesAhead_47 : decode cX16_comesAhead 47 = .ok (.ifCond .eq 7, 3) := by decide +kernel
theorem dX16_comesAhead_50 : decode cX16_comesAhead 50 = .ok (.iconst 1, 1) := by decide +kernel
theorem dX16_comesAhead_51 : decode cX16_comesAhead 51 = .ok (.goto 4, 3) := by decide +kernel
theorem dX16_comesAhead_54 : decode cX16_comesAhead 54 = .ok (.iconst 0, 1) := by decide +kernel
theorem dX16_comesAhead_55 : decode cX16_comesAhead 55 = .ok (.istore_n 3, 1) := by decide +kernel
theorem dX16_comesAhead_56 : decode cX16_comesAhead 56 = .ok (.iinc 4 1, 3) := by decide +kernel
theorem dX16_comesAhead_59 : decode cX16_comesAhead 59 = .ok (.goto (-47), 3) := by decide +kernel
theorem dX16_comesAhead_62 : decode cX16_comesAhead 62 = .ok (.iload_n 3, 1) := by decide +kernel
theorem dX16_comesAhead_63 : decode cX16_comesAhead 63 = .ok (.ireturn, 1) := by decide +kernel
theorem dX16_addCustom_0 : decode cX16_addCustom 0 = .ok (.aload_n 0, 1) := by decide +kernel
theorem dX16_addCustom_1 : decode cX16_addCustom 1 = .ok (.aload_n 0, 1) := by decide +kernel
theorem dX16_addCustom_2 : decode cX16_addCustom 2 = .ok (.iload_n 1, 1) := by decide +kernel
theorem dX16_addCustom_3 : decode cX16_addCustom 3 = .ok (.invokevirtual 116, 3) := by decide +kernel
theorem dX16_addCustom_6 : decode cX16_addCustom 6 = .ok (.ifCond .eq 11, 3) := by decide +kernel
theorem dX16_addCustom_9 : decode cX16_addCustom 9 = .ok (.aload_n 0, 1) := by decide +kernel
theorem dX16_addCustom_10 : decode cX16_addCustom 10 = .ok (.iload_n 2, 1) := by decide +kernel
theorem dX16_addCustom_11 : decode cX16_addCustom 11 = .ok (.invokevirtual 116, 3) := by decide +kernel
theorem dX16_addCustom_14 : decode cX16_addCustom 14 = .ok (.ifCond .ne 7, 3) := by decide +kernel
theorem dX16_addCustom_17 : decode cX16_addCustom 17 = .ok (.iconst 1, 1) := by decide +kernel
theorem dX16_addCustom_18 : decode cX16_addCustom 18 = .ok (.goto 26, 3) := by decide +kernel
theorem dX16_addCustom_21 : decode cX16_addCustom 21 = .ok (.iload_n 1, 1) := by decide +kernel
theorem dX16_addCustom_22 : decode cX16_addCustom 22 = .ok (.iload_n 2, 1) := by decide +kernel
theorem dX16_addCustom_23 : decode cX16_addCustom 23 = .ok (.if_icmp .ne 7, 3) := by decide +kernel
theorem dX16_addCustom_26 : decode cX16_addCustom 26 = .ok (.iconst 2, 1) := by decide +kernel
theorem dX16_addCustom_27 : decode cX16_addCustom 27 = .ok (.goto 17, 3) := by decide +kernel
theorem dX16_addCustom_30 : decode cX16_addCustom 30 = .ok (.aload_n 0, 1) := by decide +kernel
theorem dX16_addCustom_31 : decode cX16_addCustom 31 = .ok (.iload_n 2, 1) := by decide +kernel
theorem dX16_addCustom_32 : decode cX16_addCustom 32 = .ok (.iload_n 1, 1) := by decide +kernel
theorem dX16_addCustom_33 : decode cX16_addCustom 33 = .ok (.invokevirtual 129, 3) := by decide +kernel
theorem dX16_addCustom_36 : decode cX16_addCustom 36 = .ok (.ifCond .eq 7, 3) := by decide +kernel
theorem dX16_addCustom_39 : decode cX16_addCustom 39 = .ok (.iconst 3, 1) := by decide +kernel
theorem dX16_addCustom_40 : decode cX16_addCustom 40 = .ok (.goto 4, 3) := by decide +kernel
theorem dX16_addCustom_43 : decode cX16_addCustom 43 = .ok (.iconst 0, 1) := by decide +kernel
theorem dX16_addCustom_44 : decode cX16_addCustom 44 = .ok (.putfield 43, 3) := by decide +kernel
theorem dX16_addCustom_47 : decode cX16_addCustom 47 = .ok (.aload_n 0, 1) := by decide +kernel
theorem dX16_addCustom_48 : decode cX16_addCustom 48 = .ok (.getfield 43, 3) := by decide +kernel
theorem dX16_addCustom_51 : decode cX16_addCustom 51 = .ok (.ifCond .le 5, 3) := by decide +kernel
theorem dX16_addCustom_54 : decode cX16_addCustom 54 = .ok (.iconst 0, 1) := by decide +kernel
theorem dX16_addCustom_55 : decode cX16_addCustom 55 = .ok (.ireturn, 1) := by decide +kernel
theorem dX16_addCustom_56 : decode cX16_addCustom 56 = .ok (.aload_n 0, 1) := by decide +kernel
theorem dX16_addCustom_57 : decode cX16_addCustom 57 = .ok (.getfield 30, 3) := by decide +kernel
theorem dX16_addCustom_60 : decode cX16_addCustom 60 = .ok (.iload_n 1, 1) := by decide +kernel
theorem dX16_addCustom_61 : decode cX16_addCustom 61 = .ok (.aaload, 1) := by decide +kernel
theorem dX16_addCustom_62 : decode cX16_addCustom 62 = .ok (.iload_n 2, 1) := by decide +kernel
theorem dX16_addCustom_63 : decode cX16_addCustom 63 = .ok (.baload, 1) := by decide +kernel
theorem dX16_addCustom_64 : decode cX16_addCustom 64 = .ok (.ifCond .ne 7, 3) := by decide +kernel
theorem dX16_addCustom_67 : decode cX16_addCustom 67 = .ok (.iconst 1, 1) := by decide +kernel
theorem dX16_addCustom_68 : decode cX16_addCustom 68 = .ok (.goto 4, 3) := by decide +kernel
theorem dX16_addCustom_71 : decode cX16_addCustom 71 = .ok (.iconst 0, 1) := by decide +kernel
theorem dX16_addCustom_72 : decode cX16_addCustom 72 = .ok (.istore_n 3, 1) := by decide +kernel
theorem dX16_addCustom_73 : decode cX16_addCustom 73 = .ok (.aload_n 0, 1) := by decide +kernel
theorem dX16_addCustom_74 : decode cX16_addCustom 74 = .ok (.getfield 30, 3) := by decide +kernel
theorem dX16_addCustom_77 : decode cX16_addCustom 77 = .ok (.iload_n 1, 1) := by decide +kernel
theorem dX16_addCustom_78 : decode cX16_addCustom 78 = .ok (.aaload, 1) := by decide +kernel
theorem dX16_addCustom_79 : decode cX16_addCustom 79 = .ok (.iload_n 2, 1) := by decide +kernel
theorem dX16_addCustom_80 : decode cX16_addCustom 80 = .ok (.iconst 1, 1) := by decide +kernel
theorem dX16_addCustom_81 : decode cX16_addCustom 81 = .ok (.bastore, 1) := by decide +kernel
theorem dX16_addCustom_82 : decode cX16_addCustom 82 = .ok (.iload_n 3, 1) := by decide +kernel
theorem dX16_addCustom_83 : decode cX16_addCustom 83 = .ok (.ireturn, 1) := by decide +kernel
theorem dX16_endCustom_0 : decode cX16_endCustom 0 = .ok (.aload_n 0, 1) := by decide +kernel
theorem dX16_endCustom_1 : decode cX16_endCustom 1 = .ok (.aload_n 0, 1) := by decide +kernel
theorem dX16_endCustom_2 : decode cX16_endCustom 2 = .ok (.iload_n 1, 1) := by decide +kernel
theorem dX16_endCustom_3 : decode cX16_endCustom 3 = .ok (.invokevirtual 116, 3) := by decide +kernel
theorem dX16_endCustom_6 : decode cX16_endCustom 6 = .ok (.ifCond .eq 15, 3) := by decide +kernel
theorem dX16_endCustom_9 : decode cX16_endCustom 9 = .ok (.aload_n 0, 1) := by decide +kernel
theorem dX16_endCustom_10 : decode cX16_endCustom 10 = .ok (.iload_n 2, 1) := by decide +kernel
theorem dX16_endCustom_11 : decode cX16_endCustom 11 = .ok (.invokevirtual 116, 3) := by decide +kernel
theorem dX16_endCustom_14 : decode cX16_endCustom 14 = .ok (.ifCond .eq 7, 3) := by decide +kernel
theorem dX16_endCustom_17 : decode cX16_endCustom 17 = .ok (.iconst 0, 1) := by decide +kernel
theorem dX16_endCustom_18 : decode cX16_endCustom 18 = .ok (.goto 4, 3) := by decide +kernel
theorem dX16_endCustom_21 : decode cX16_endCustom 21 = .ok (.iconst 1, 1) := by decide +kernel
theorem dX16_endCustom_22 : decode cX16_endCustom 22 = .ok (.putfield 43, 3) := by decide +kernel
theorem dX16_endCustom_25 : decode cX16_endCustom 25 = .ok (.aload_n 0, 1) := by decide +kernel
theorem dX16_endCustom_26 : decode cX16_endCustom 26 = .ok (.getfield 43, 3) := by decide +kernel
theorem dX16_endCustom_29 : decode cX16_endCustom 29 = .ok (.ifCond .le 5, 3) := by decide +kernel
theorem dX16_endCustom_32 : decode cX16_endCustom 32 = .ok (.iconst 0, 1) := by decide +kernel
theorem dX16_endCustom_33 : decode cX16_endCustom 33 = .ok (.ireturn, 1) := by decide +kernel
theorem dX16_endCustom_34 : decode cX16_endCustom 34 = .ok (.aload_n 0, 1) := by decide +kernel
theorem dX16_endCustom_35 : decode cX16_endCustom 35 = .ok (.getfield 30, 3) := by decide +kernel
theorem dX16_endCustom_38 : decode cX16_endCustom 38 = .ok (.iload_n 1, 1) := by decide +kernel
theorem dX16_endCustom_39 : decode cX16_endCustom 39 = .ok (.aaload, 1) := by decide +kernel
theorem dX16_endCustom_40 : decode cX16_endCustom 40 = .ok (.iload_n 2, 1) := by decide +kernel
theorem dX16_endCustom_41 : decode cX16_endCustom 41 = .ok (.baload, 1) := by decide +kernel
theorem dX16_endCustom_42 : decode cX16_endCustom 42 = .ok (.istore_n 3, 1) := by decide +kernel
theorem dX16_endCustom_43 : decode cX16_endCustom 43 = .ok (.aload_n 0, 1) := by decide +kernel
theorem dX16_endCustom_44 : decode cX16_endCustom 44 = .ok (.getfield 30, 3) := by decide +kernel
theorem dX16_endCustom_47 : decode cX16_endCustom 47 = .ok (.iload_n 1, 1) := by decide +kernel
theorem dX16_endCustom_48 : decode cX16_endCustom 48 = .ok (.aaload, 1) := by decide +kernel
theorem dX16_endCustom_49 : decode cX16_endCustom 49 = .ok (.iload_n 2, 1) := by decide +kernel
theorem dX16_endCustom_50 : decode cX16_endCustom 50 = .ok (.iconst 0, 1) := by decide +kernel
theorem dX16_endCustom_51 : decode cX16_endCustom 51 = .ok (.bastore, 1) := by decide +kernel
theorem dX16_endCustom_52 : decode cX16_endCustom 52 = .ok (.iload_n 3, 1) := by decide +kernel
theorem dX16_endCustom_53 : decode cX16_endCustom 53 = .ok (.ireturn, 1) := by decide +kernel
theorem dX16_isFree_0 : decode cX16_isFree 0 = .ok (.iload_n 2, 1) := by decide +kernel
theorem dX16_isFree_1 : decode cX16_isFree 1 = .ok (.iload_n 1, 1) := by decide +kernel
theorem dX16_isFree_2 : decode cX16_isFree 2 = .ok (.ishr, 1) := by decide +kernel
theorem dX16_isFree_3 : decode cX16_isFree 3 = .ok (.iconst 1, 1) := by decide +kernel
theorem dX16_isFree_4 : decode cX16_isFree 4 = .ok (.iand, 1) := by decide +kernel
theorem dX16_isFree_5 : decode cX16_isFree 5 = .ok (.ifCond .ne 7, 3) := by decide +kernel
theorem dX16_isFree_8 : decode cX16_isFree 8 = .ok (.iconst 1, 1) := by decide +kernel
theorem dX16_isFree_9 : decode cX16_isFree 9 = .ok (.goto 4, 3) := by decide +kernel
theorem dX16_isFree_12 : decode cX16_isFree 12 = .ok (.iconst 0, 1) := by decide +kernel
theorem dX16_isFree_13 : decode cX16_isFree 13 = .ok (.istore_n 3, 1) := by decide +kernel
theorem dX16_isFree_14 : decode cX16_isFree 14 = .ok (.iconst 0, 1) := by decide +kernel
theorem dX16_isFree_15 : decode cX16_isFree 15 = .ok (.istore 4, 2) := by decide +kernel
theorem dX16_isFree_17 : decode cX16_isFree 17 = .ok (.iload 4, 2) := by decide +kernel
theorem dX16_isFree_19 : decode cX16_isFree 19 = .ok (.aload_n 0, 1) := by decide +kernel
theorem dX16_isFree_20 : decode cX16_isFree 20 = .ok (.getfield 16, 3) := by decide +kernel
theorem dX16_isFree_23 : decode cX16_isFree 23 = .ok (.invokevirtual 46, 3) := by decide +kernel
theorem dX16_isFree_26 : decode cX16_isFree 26 = .ok (.if_icmp .ge 41, 3) := by decide +kernel
theorem dX16_isFree_29 : decode cX16_isFree 29 = .ok (.iload_n 3, 1) := by decide +kernel
theorem dX16_isFree_30 : decode cX16_isFree 30 = .ok (.ifCond .eq 29, 3) := by decide +kernel
theorem dX16_isFree_33 : decode cX16_isFree 33 = .ok (.iload_n 2, 1) := by decide +kernel
theorem dX16_isFree_34 : decode cX16_isFree 34 = .ok (.iload 4, 2) := by decide +kernel
theorem dX16_isFree_36 : decode cX16_isFree 36 = .ok (.ishr, 1) := by decide +kernel
theorem dX16_isFree_37 : decode cX16_isFree 37 = .ok (.iconst 1, 1) := by decide +kernel
theorem dX16_isFree_38 : decode cX16_isFree 38 = .ok (.iand, 1) := by decide +kernel
theorem dX16_isFree_39 : decode cX16_isFree 39 = .ok (.iconst 1, 1) := by decide +kernel
theorem dX16_isFree_40 : decode cX16_isFree 40 = .ok (.if_icmp .eq 15, 3) := by decide +kernel
theorem dX16_isFree_43 : decode cX16_isFree 43 = .ok (.aload_n 0, 1) := by decide +kernel
theorem dX16_isFree_44 : decode cX16_isFree 44 = .ok (.getfield 30, 3) := by decide +kernel
theorem dX16_isFree_47 : decode cX16_isFree 47 = .ok (.iload 4, 2) := by decide +kernel
theorem dX16_isFree_49 : decode cX16_isFree 49 = .ok (.aaload, 1) := by decide +kernel
theorem dX16_isFree_50 : decode cX16_isFree 50 = .ok (.iload_n 1, 1) := by decide +kernel
theorem dX16_isFree_51 : decode cX16_isFree 51 = .ok (.baload, 1) := by decide +kernel
theorem dX16_isFree_52 : decode cX16_isFree 52 = .ok (.ifCond .ne 7, 3) := by decide +kernel
theorem dX16_isFree_55 : decode cX16_isFree 55 = .ok (.iconst 1, 1) := by decide +kernel
theorem dX16_isFree_56 : decode cX16_isFree 56 = .ok (.goto 4, 3) := by decide +kernel
theorem dX16_isFree_59 : decode cX16_isFree 59 = .ok (.iconst 0, 1) := by decide +kernel
theorem dX16_isFree_60 : decode cX16_isFree 60 = .ok (.istore_n 3, 1) := by decide +kernel
theorem dX16_isFree_61 : decode cX16_isFree 61 = .ok (.iinc 4 1, 3) := by decide +kernel
theorem dX16_isFree_64 : decode cX16_isFree 64 = .ok (.goto (-47), 3) := by decide +kernel
theorem dX16_isFree_67 : decode cX16_isFree 67 = .ok (.iload_n 3, 1) := by decide +kernel
theorem dX16_isFree_68 : decode cX16_isFree 68 = .ok (.ireturn, 1) := by decide +kernel
theorem dX16_counts_0 : decode cX16_counts 0 = .ok (.iconst 1, 1) := by decide +kernel
theorem dX16_counts_1 : decode cX16_counts 1 = .ok (.aload_n 0, 1) := by decide +kernel
theorem dX16_counts_2 : decode cX16_counts 2 = .ok (.getfield 16, 3) := by decide +kernel
theorem dX16_counts_5 : decode cX16_counts 5 = .ok (.invokevirtual 46, 3) := by decide +kernel
theorem dX16_counts_8 : decode cX16_counts 8 = .ok (.ishl, 1) := by decide +kernel
theorem dX16_counts_9 : decode cX16_counts 9 = .ok (.newarray .int, 2) := by decide +kernel
theorem dX16_counts_11 : decode cX16_counts 11 = .ok (.astore_n 1, 1) := by decide +kernel
theorem dX16_counts_12 : decode cX16_counts 12 = .ok (.aload_n 1, 1) := by decide +kernel
theorem dX16_counts_13 : decode cX16_counts 13 = .ok (.aload_n 1, 1) := by decide +kernel
theorem dX16_counts_14 : decode cX16_counts 14 = .ok (.arraylength, 1) := by decide +kernel
theorem dX16_counts_15 : decode cX16_counts 15 = .ok (.iconst 1, 1) := by decide +kernel
theorem dX16_counts_16 : decode cX16_counts 16 = .ok (.isub, 1) := by decide +kernel
theorem dX16_counts_17 : decode cX16_counts 17 = .ok (.iconst 1, 1) := by decide +kernel
theorem dX16_counts_18 : decode cX16_counts 18 = .ok (.iastore, 1) := by decide +kernel
theorem dX16_counts_19 : decode cX16_counts 19 = .ok (.aload_n 1, 1) := by decide +kernel
theorem dX16_counts_20 : decode cX16_counts 20 = .ok (.arraylength, 1) := by decide +kernel
theorem dX16_counts_21 : decode cX16_counts 21 = .ok (.iconst 2, 1) := by decide +kernel
theorem dX16_counts_22 : decode cX16_counts 22 = .ok (.isub, 1) := by decide +kernel
theorem dX16_counts_23 : decode cX16_counts 23 = .ok (.istore_n 2, 1) := by decide +kernel
theorem dX16_counts_24 : decode cX16_counts 24 = .ok (.iload_n 2, 1) := by decide +kernel
theorem dX16_counts_25 : decode cX16_counts 25 = .ok (.ifCond .lt 54, 3) := by decide +kernel
theorem dX16_counts_28 : decode cX16_counts 28 = .ok (.iconst 0, 1) := by decide +kernel
theorem dX16_counts_29 : decode cX16_counts 29 = .ok (.istore_n 3, 1) := by decide +kernel
theorem dX16_counts_30 : decode cX16_counts 30 = .ok (.iload_n 3, 1) := by decide +kernel
theorem dX16_counts_31 : decode cX16_counts 31 = .ok (.aload_n 0, 1) := by decide +kernel
theorem dX16_counts_32 : decode cX16_counts 32 = .ok (.getfield 16, 3) := by decide +kernel
theorem dX16_counts_35 : decode cX16_counts 35 = .ok (.invokevirtual 46, 3) := by decide +kernel
theorem dX16_counts_38 : decode cX16_counts 38 = .ok (.if_icmp .ge 35, 3) := by decide +kernel
theorem dX16_counts_41 : decode cX16_counts 41 = .ok (.aload_n 1, 1) := by decide +kernel
theorem dX16_counts_42 : decode cX16_counts 42 = .ok (.iload_n 2, 1) := by decide +kernel
theorem dX16_counts_43 : decode cX16_counts 43 = .ok (.dup2, 1) := by decide +kernel
theorem dX16_counts_44 : decode cX16_counts 44 = .ok (.iaload, 1) := by decide +kernel
theorem dX16_counts_45 : decode cX16_counts 45 = .ok (.aload_n 0, 1) := by decide +kernel
theorem dX16_counts_46 : decode cX16_counts 46 = .ok (.iload_n 3, 1) := by decide +kernel
theorem dX16_counts_47 : decode cX16_counts 47 = .ok (.iload_n 2, 1) := by decide +kernel
theorem dX16_counts_48 : decode cX16_counts 48 = .ok (.invokevirtual 133, 3) := by decide +kernel
theorem dX16_counts_51 : decode cX16_counts 51 = .ok (.ifCond .eq 13, 3) := by decide +kernel
theorem dX16_counts_54 : decode cX16_counts 54 = .ok (.aload_n 1, 1) := by decide +kernel
theorem dX16_counts_55 : decode cX16_counts 55 = .ok (.iload_n 2, 1) := by decide +kernel
theorem dX16_counts_56 : decode cX16_counts 56 = .ok (.iconst 1, 1) := by decide +kernel
theorem dX16_counts_57 : decode cX16_counts 57 = .ok (.iload_n 3, 1) := by decide +kernel
theorem dX16_counts_58 : decode cX16_counts 58 = .ok (.ishl, 1) := by decide +kernel
theorem dX16_counts_59 : decode cX16_counts 59 = .ok (.ior, 1) := by decide +kernel
theorem dX16_counts_60 : decode cX16_counts 60 = .ok (.iaload, 1) := by decide +kernel
theorem dX16_counts_61 : decode cX16_counts 61 = .ok (.goto 4, 3) := by decide +kernel
theorem dX16_counts_64 : decode cX16_counts 64 = .ok (.iconst 0, 1) := by decide +kernel
theorem dX16_counts_65 : decode cX16_counts 65 = .ok (.iadd, 1) := by decide +kernel
theorem dX16_counts_66 : decode cX16_counts 66 = .ok (.iastore, 1) := by decide +kernel
theorem dX16_counts_67 : decode cX16_counts 67 = .ok (.iinc 3 1, 3) := by decide +kernel
theorem dX16_counts_70 : decode cX16_counts 70 = .ok (.goto (-40), 3) := by decide +kernel
theorem dX16_counts_73 : decode cX16_counts 73 = .ok (.iinc 2 (-1), 3) := by decide +kernel
theorem dX16_counts_76 : decode cX16_counts 76 = .ok (.goto (-52), 3) := by decide +kernel
theorem dX16_counts_79 : decode cX16_counts 79 = .ok (.aload_n 1, 1) := by decide +kernel
theorem dX16_counts_80 : decode cX16_counts 80 = .ok (.areturn, 1) := by decide +kernel
theorem dX16_orders_0 : decode cX16_orders 0 = .ok (.aload_n 0, 1) := by decide +kernel
theorem dX16_orders_1 : decode cX16_orders 1 = .ok (.iconst 0, 1) := by decide +kernel
theorem dX16_orders_2 : decode cX16_orders 2 = .ok (.putfield 43, 3) := by decide +kernel
theorem dX16_orders_5 : decode cX16_orders 5 = .ok (.aload_n 0, 1) := by decide +kernel
theorem dX16_orders_6 : decode cX16_orders 6 = .ok (.invokevirtual 136, 3) := by decide +kernel
theorem dX16_orders_9 : decode cX16_orders 9 = .ok (.iconst 0, 1) := by decide +kernel
theorem dX16_orders_10 : decode cX16_orders 10 = .ok (.iaload, 1) := by decide +kernel
theorem dX16_orders_11 : decode cX16_orders 11 = .ok (.ireturn, 1) := by decide +kernel
theorem dX16_orderAt_0 : decode cX16_orderAt 0 = .ok (.aload_n 0, 1) := by decide +kernel
theorem dX16_orderAt_1 : decode cX16_orderAt 1 = .ok (.invokevirtual 136, 3) := by decide +kernel
theorem dX16_orderAt_4 : decode cX16_orderAt 4 = .ok (.astore_n 3, 1) := by decide +kernel
theorem dX16_orderAt_5 : decode cX16_orderAt 5 = .ok (.aload_n 0, 1) := by decide +kernel
theorem dX16_orderAt_6 : decode cX16_orderAt 6 = .ok (.iload_n 1, 1) := by decide +kernel
theorem dX16_orderAt_7 : decode cX16_orderAt 7 = .ok (.i2l, 1) := by decide +kernel
theorem dX16_orderAt_8 : decode cX16_orderAt 8 = .ok (.lconst 0, 1) := by decide +kernel
theorem dX16_orderAt_9 : decode cX16_orderAt 9 = .ok (.aload_n 3, 1) := by decide +kernel
theorem dX16_orderAt_10 : decode cX16_orderAt 10 = .ok (.iconst 0, 1) := by decide +kernel
theorem dX16_orderAt_11 : decode cX16_orderAt 11 = .ok (.iaload, 1) := by decide +kernel
theorem dX16_orderAt_12 : decode cX16_orderAt 12 = .ok (.iconst 1, 1) := by decide +kernel
theorem dX16_orderAt_13 : decode cX16_orderAt 13 = .ok (.isub, 1) := by decide +kernel
theorem dX16_orderAt_14 : decode cX16_orderAt 14 = .ok (.i2l, 1) := by decide +kernel
theorem dX16_orderAt_15 : decode cX16_orderAt 15 = .ok (.invokestatic 50, 3) := by decide +kernel
theorem dX16_orderAt_18 : decode cX16_orderAt 18 = .ok (.ifCond .eq 26, 3) := by decide +kernel
theorem dX16_orderAt_21 : decode cX16_orderAt 21 = .ok (.iload_n 2, 1) := by decide +kernel
theorem dX16_orderAt_22 : decode cX16_orderAt 22 = .ok (.i2l, 1) := by decide +kernel
theorem dX16_orderAt_23 : decode cX16_orderAt 23 = .ok (.lconst 0, 1) := by decide +kernel
theorem dX16_orderAt_24 : decode cX16_orderAt 24 = .ok (.aload_n 0, 1) := by decide +kernel
theorem dX16_orderAt_25 : decode cX16_orderAt 25 = .ok (.getfield 16, 3) := by decide +kernel
theorem dX16_orderAt_28 : decode cX16_orderAt 28 = .ok (.invokevirtual 46, 3) := by decide +kernel
theorem dX16_orderAt_31 : decode cX16_orderAt 31 = .ok (.iconst 1, 1) := by decide +kernel
theorem dX16_orderAt_32 : decode cX16_orderAt 32 = .ok (.isub, 1) := by decide +kernel
theorem dX16_orderAt_33 : decode cX16_orderAt 33 = .ok (.i2l, 1) := by decide +kernel
theorem dX16_orderAt_34 : decode cX16_orderAt 34 = .ok (.invokestatic 50, 3) := by decide +kernel
theorem dX16_orderAt_37 : decode cX16_orderAt 37 = .ok (.ifCond .eq 7, 3) := by decide +kernel
theorem dX16_orderAt_40 : decode cX16_orderAt 40 = .ok (.iconst 0, 1) := by decide +kernel
theorem dX16_orderAt_41 : decode cX16_orderAt 41 = .ok (.goto 4, 3) := by decide +kernel
theorem dX16_orderAt_44 : decode cX16_orderAt 44 = .ok (.iconst 1, 1) := by decide +kernel
theorem dX16_orderAt_45 : decode cX16_orderAt 45 = .ok (.putfield 43, 3) := by decide +kernel
theorem dX16_orderAt_48 : decode cX16_orderAt 48 = .ok (.iconst 0, 1) := by decide +kernel
theorem dX16_orderAt_49 : decode cX16_orderAt 49 = .ok (.istore 4, 2) := by decide +kernel
theorem dX16_orderAt_51 : decode cX16_orderAt 51 = .ok (.iload_n 1, 1) := by decide +kernel
theorem dX16_orderAt_52 : decode cX16_orderAt 52 = .ok (.istore 5, 2) := by decide +kernel
theorem dX16_orderAt_54 : decode cX16_orderAt 54 = .ok (.iconst 0, 1) := by decide +kernel
theorem dX16_orderAt_55 : decode cX16_orderAt 55 = .ok (.istore 6, 2) := by decide +kernel
theorem dX16_orderAt_57 : decode cX16_orderAt 57 = .ok (.iconst 0, 1) := by decide +kernel
theorem dX16_orderAt_58 : decode cX16_orderAt 58 = .ok (.istore 7, 2) := by decide +kernel
theorem dX16_orderAt_60 : decode cX16_orderAt 60 = .ok (.iload 7, 2) := by decide +kernel
theorem dX16_orderAt_62 : decode cX16_orderAt 62 = .ok (.iload_n 2, 1) := by decide +kernel
theorem dX16_orderAt_63 : decode cX16_orderAt 63 = .ok (.if_icmp .gt 92, 3) := by decide +kernel
theorem dX16_orderAt_66 : decode cX16_orderAt 66 = .ok (.aload_n 0, 1) := by decide +kernel
theorem dX16_orderAt_67 : decode cX16_orderAt 67 = .ok (.getfield 43, 3) := by decide +kernel
theorem dX16_orderAt_70 : decode cX16_orderAt 70 = .ok (.ifCond .ne 85, 3) := by decide +kernel
theorem dX16_orderAt_73 : decode cX16_orderAt 73 = .ok (.iconst 0, 1) := by decide +kernel
theorem dX16_orderAt_74 : decode cX16_orderAt 74 = .ok (.istore 8, 2) := by decide +kernel
theorem dX16_orderAt_76 : decode cX16_orderAt 76 = .ok (.aload_n 0, 1) := by decide +kernel
theorem dX16_orderAt_77 : decode cX16_orderAt 77 = .ok (.iload 8, 2) := by decide +kernel
theorem dX16_orderAt_79 : decode cX16_orderAt 79 = .ok (.iload 4, 2) := by decide +kernel
theorem dX16_orderAt_81 : decode cX16_orderAt 81 = .ok (.invokevirtual 133, 3) := by decide +kernel
theorem dX16_orderAt_84 : decode cX16_orderAt 84 = .ok (.ifCond .eq 17, 3) := by decide +kernel
theorem dX16_orderAt_87 : decode cX16_orderAt 87 = .ok (.iload 5, 2) := by decide +kernel
theorem dX16_orderAt_89 : decode cX16_orderAt 89 = .ok (.aload_n 3, 1) := by decide +kernel
theorem dX16_orderAt_90 : decode cX16_orderAt 90 = .ok (.iload 4, 2) := by decide +kernel
theorem dX16_orderAt_92 : decode cX16_orderAt 92 = .ok (.iconst 1, 1) := by decide +kernel
theorem dX16_orderAt_93 : decode cX16_orderAt 93 = .ok (.iload 8, 2) := by decide +kernel
theorem dX16_orderAt_95 : decode cX16_orderAt 95 = .ok (.ishl, 1) := by decide +kernel
theorem dX16_orderAt_96 : decode cX16_orderAt 96 = .ok (.ior, 1) := by decide +kernel
theorem dX16_orderAt_97 : decode cX16_orderAt 97 = .ok (.iaload, 1) := by decide +kernel
theorem dX16_orderAt_98 : decode cX16_orderAt 98 = .ok (.if_icmp .lt 38, 3) := by decide +kernel
theorem dX16_orderAt_101 : decode cX16_orderAt 101 = .ok (.iload 5, 2) := by decide +kernel
theorem dX16_orderAt_103 : decode cX16_orderAt 103 = .ok (.aload_n 0, 1) := by decide +kernel
theorem dX16_orderAt_104 : decode cX16_orderAt 104 = .ok (.iload 8, 2) := by decide +kernel
theorem dX16_orderAt_106 : decode cX16_orderAt 106 = .ok (.iload 4, 2) := by decide +kernel
theorem dX16_orderAt_108 : decode cX16_orderAt 108 = .ok (.invokevirtual 133, 3) := by decide +kernel
theorem dX16_orderAt_111 : decode cX16_orderAt 111 = .ok (.ifCond .eq 15, 3) := by decide +kernel
theorem dX16_orderAt_114 : decode cX16_orderAt 114 = .ok (.aload_n 3, 1) := by decide +kernel
theorem dX16_orderAt_115 : decode cX16_orderAt 115 = .ok (.iload 4, 2) := by decide +kernel
theorem dX16_orderAt_117 : decode cX16_orderAt 117 = .ok (.iconst 1, 1) := by decide +kernel
theorem dX16_orderAt_118 : decode cX16_orderAt 118 = .ok (.iload 8, 2) := by decide +kernel
theorem dX16_orderAt_120 : decode cX16_orderAt 120 = .ok (.ishl, 1) := by decide +kernel
theorem dX16_orderAt_121 : decode cX16_orderAt 121 = .ok (.ior, 1) := by decide +kernel
theorem dX16_orderAt_122 : decode cX16_orderAt 122 = .ok (.iaload, 1) := by decide +kernel
theorem dX16_orderAt_123 : decode cX16_orderAt 123 = .ok (.goto 4, 3) := by decide +kernel
theorem dX16_orderAt_126 : decode cX16_orderAt 126 = .ok (.iconst 0, 1) := by decide +kernel
theorem dX16_orderAt_127 : decode cX16_orderAt 127 = .ok (.isub, 1) := by decide +kernel
theorem dX16_orderAt_128 : decode cX16_orderAt 128 = .ok (.istore 5, 2) := by decide +kernel
theorem dX16_orderAt_130 : decode cX16_orderAt 130 = .ok (.iinc 8 1, 3) := by decide +kernel
theorem dX16_orderAt_133 : decode cX16_orderAt 133 = .ok (.goto (-57), 3) := by decide +kernel
theorem dX16_orderAt_136 : decode cX16_orderAt 136 = .ok (.iload 4, 2) := by decide +kernel
theorem dX16_orderAt_138 : decode cX16_orderAt 138 = .ok (.iconst 1, 1) := by decide +kernel
theorem dX16_orderAt_139 : decode cX16_orderAt 139 = .ok (.iload 8, 2) := by decide +kernel
theorem dX16_orderAt_141 : decode cX16_orderAt 141 = .ok (.ishl, 1) := by decide +kernel
theorem dX16_orderAt_142 : decode cX16_orderAt 142 = .ok (.ior, 1) := by decide +kernel
theorem dX16_orderAt_143 : decode cX16_orderAt 143 = .ok (.istore 4, 2) := by decide +kernel
theorem dX16_orderAt_145 : decode cX16_orderAt 145 = .ok (.iload 8, 2) := by decide +kernel
theorem dX16_orderAt_147 : decode cX16_orderAt 147 = .ok (.istore 6, 2) := by decide +kernel
theorem dX16_orderAt_149 : decode cX16_orderAt 149 = .ok (.iinc 7 1, 3) := by decide +kernel
theorem dX16_orderAt_152 : decode cX16_orderAt 152 = .ok (.goto (-92), 3) := by decide +kernel
theorem dX16_orderAt_155 : decode cX16_orderAt 155 = .ok (.iload 6, 2) := by decide +kernel
theorem dX16_orderAt_157 : decode cX16_orderAt 157 = .ok (.ireturn, 1) := by decide +kernel
theorem dX16_drawLots_0 : decode cX16_drawLots 0 = .ok (.aload_n 0, 1) := by decide +kernel
theorem dX16_drawLots_1 : decode cX16_drawLots 1 = .ok (.iconst 0, 1) := by decide +kernel
theorem dX16_drawLots_2 : decode cX16_drawLots 2 = .ok (.putfield 43, 3) := by decide +kernel
theorem dX16_drawLots_5 : decode cX16_drawLots 5 = .ok (.aload_n 0, 1) := by decide +kernel
theorem dX16_drawLots_6 : decode cX16_drawLots 6 = .ok (.getfield 22, 3) := by decide +kernel
theorem dX16_drawLots_9 : decode cX16_drawLots 9 = .ok (.invokevirtual 140, 3) := by decide +kernel
theorem dX16_drawLots_12 : decode cX16_drawLots 12 = .ok (.aload_n 0, 1) := by decide +kernel
theorem dX16_drawLots_13 : decode cX16_drawLots 13 = .ok (.iconst 1, 1) := by decide +kernel
theorem dX16_drawLots_14 : decode cX16_drawLots 14 = .ok (.putfield 143, 3) := by decide +kernel
theorem dX16_drawLots_17 : decode cX16_drawLots 17 = .ok (.iconst 0, 1) := by decide +kernel
theorem dX16_drawLots_18 : decode cX16_drawLots 18 = .ok (.istore_n 1, 1) := by decide +kernel
theorem dX16_drawLots_19 : decode cX16_drawLots 19 = .ok (.iconst 0, 1) := by decide +kernel
theorem dX16_drawLots_20 : decode cX16_drawLots 20 = .ok (.istore_n 2, 1) := by decide +kernel
theorem dX16_drawLots_21 : decode cX16_drawLots 21 = .ok (.iload_n 2, 1) := by decide +kernel
theorem dX16_drawLots_22 : decode cX16_drawLots 22 = .ok (.aload_n 0, 1) := by decide +kernel
theorem dX16_drawLots_23 : decode cX16_drawLots 23 = .ok (.getfield 16, 3) := by decide +kernel
theorem dX16_drawLots_26 : decode cX16_drawLots 26 = .ok (.invokevirtual 46, 3) := by decide +kernel
theorem dX16_drawLots_29 : decode cX16_drawLots 29 = .ok (.if_icmp .ge 117, 3) := by decide +kernel
theorem dX16_drawLots_32 : decode cX16_drawLots 32 = .ok (.new 7, 3) := by decide +kernel
theorem dX16_drawLots_35 : decode cX16_drawLots 35 = .ok (.dup, 1) := by decide +kernel
theorem dX16_drawLots_36 : decode cX16_drawLots 36 = .ok (.invokespecial 9, 3) := by decide +kernel
theorem dX16_drawLots_39 : decode cX16_drawLots 39 = .ok (.astore_n 3, 1) := by decide +kernel
theorem dX16_drawLots_40 : decode cX16_drawLots 40 = .ok (.iconst 0, 1) := by decide +kernel
theorem dX16_drawLots_41 : decode cX16_drawLots 41 = .ok (.istore 4, 2) := by decide +kernel
theorem dX16_drawLots_43 : decode cX16_drawLots 43 = .ok (.iload 4, 2) := by decide +kernel
theorem dX16_drawLots_45 : decode cX16_drawLots 45 = .ok (.aload_n 0, 1) := by decide +kernel
theorem dX16_drawLots_46 : decode cX16_drawLots 46 = .ok (.getfield 16, 3) := by decide +kernel
theorem dX16_drawLots_49 : decode cX16_drawLots 49 = .ok (.invokevirtual 46, 3) := by decide +kernel
theorem dX16_drawLots_52 : decode cX16_drawLots 52 = .ok (.if_icmp .ge 29, 3) := by decide +kernel
theorem dX16_drawLots_55 : decode cX16_drawLots 55 = .ok (.aload_n 0, 1) := by decide +kernel
theorem dX16_drawLots_56 : decode cX16_drawLots 56 = .ok (.iload 4, 2) := by decide +kernel
theorem dX16_drawLots_58 : decode cX16_drawLots 58 = .ok (.iload_n 1, 1) := by decide +kernel
theorem dX16_drawLots_59 : decode cX16_drawLots 59 = .ok (.invokevirtual 133, 3) := by decide +kernel
theorem dX16_drawLots_62 : decode cX16_drawLots 62 = .ok (.ifCond .eq 13, 3) := by decide +kernel
theorem dX16_drawLots_65 : decode cX16_drawLots 65 = .ok (.aload_n 3, 1) := by decide +kernel
theorem dX16_drawLots_66 : decode cX16_drawLots 66 = .ok (.iload 4, 2) := by decide +kernel
theorem dX16_drawLots_68 : decode cX16_drawLots 68 = .ok (.invokestatic 146, 3) := by decide +kernel
theorem dX16_drawLots_71 : decode cX16_drawLots 71 = .ok (.invokevirtual 80, 3) := by decide +kernel
theorem dX16_drawLots_74 : decode cX16_drawLots 74 = .ok (.pop, 1) := by decide +kernel
theorem dX16_drawLots_75 : decode cX16_drawLots 75 = .ok (.iinc 4 1, 3) := by decide +kernel
theorem dX16_drawLots_78 : decode cX16_drawLots 78 = .ok (.goto (-35), 3) := by decide +kernel
theorem dX16_drawLots_81 : decode cX16_drawLots 81 = .ok (.aload_n 0, 1) := by decide +kernel
theorem dX16_drawLots_82 : decode cX16_drawLots 82 = .ok (.aload_n 0, 1) := by decide +kernel
theorem dX16_drawLots_83 : decode cX16_drawLots 83 = .ok (.getfield 33, 3) := by decide +kernel
theorem dX16_drawLots_86 : decode cX16_drawLots 86 = .ok (.i2l, 1) := by decide +kernel
theorem dX16_drawLots_87 : decode cX16_drawLots 87 = .ok (.ldc2_w 152, 3) := by decide +kernel
theorem dX16_drawLots_90 : decode cX16_drawLots 90 = .ok (.lmul, 1) := by decide +kernel
theorem dX16_drawLots_91 : decode cX16_drawLots 91 = .ok (.ldc2_w 154, 3) := by decide +kernel
theorem dX16_drawLots_94 : decode cX16_drawLots 94 = .ok (.lrem, 1) := by decide +kernel
theorem dX16_drawLots_95 : decode cX16_drawLots 95 = .ok (.l2i, 1) := by decide +kernel
theorem dX16_drawLots_96 : decode cX16_drawLots 96 = .ok (.putfield 33, 3) := by decide +kernel
theorem dX16_drawLots_99 : decode cX16_drawLots 99 = .ok (.aload_n 3, 1) := by decide +kernel
theorem dX16_drawLots_100 : decode cX16_drawLots 100 = .ok (.aload_n 0, 1) := by decide +kernel
theorem dX16_drawLots_101 : decode cX16_drawLots 101 = .ok (.getfield 33, 3) := by decide +kernel
theorem dX16_drawLots_104 : decode cX16_drawLots 104 = .ok (.aload_n 3, 1) := by decide +kernel
theorem dX16_drawLots_105 : decode cX16_drawLots 105 = .ok (.invokevirtual 46, 3) := by decide +kernel
theorem dX16_drawLots_108 : decode cX16_drawLots 108 = .ok (.irem, 1) := by decide +kernel
theorem dX16_drawLots_109 : decode cX16_drawLots 109 = .ok (.invokevirtual 94, 3) := by decide +kernel
theorem dX16_drawLots_112 : decode cX16_drawLots 112 = .ok (.checkcast 147, 3) := by decide +kernel
theorem dX16_drawLots_115 : decode cX16_drawLots 115 = .ok (.invokevirtual 156, 3) := by decide +kernel
theorem dX16_drawLots_118 : decode cX16_drawLots 118 = .ok (.istore 4, 2) := by decide +kernel
theorem dX16_drawLots_120 : decode cX16_drawLots 120 = .ok (.iload_n 1, 1) := by decide +kernel
theorem dX16_drawLots_121 : decode cX16_drawLots 121 = .ok (.iconst 1, 1) := by decide +kernel
theorem dX16_drawLots_122 : decode cX16_drawLots 122 = .ok (.iload 4, 2) := by decide +kernel
theorem dX16_drawLots_124 : decode cX16_drawLots 124 = .ok (.ishl, 1) := by decide +kernel
theorem dX16_drawLots_125 : decode cX16_drawLots 125 = .ok (.ior, 1) := by decide +kernel
theorem dX16_drawLots_126 : decode cX16_drawLots 126 = .ok (.istore_n 1, 1) := by decide +kernel
theorem dX16_drawLots_127 : decode cX16_drawLots 127 = .ok (.aload_n 0, 1) := by decide +kernel
theorem dX16_drawLots_128 : decode cX16_drawLots 128 = .ok (.getfield 22, 3) := by decide +kernel
theorem dX16_drawLots_131 : decode cX16_drawLots 131 = .ok (.iload 4, 2) := by decide +kernel
theorem dX16_drawLots_133 : decode cX16_drawLots 133 = .ok (.invokestatic 146, 3) := by decide +kernel
theorem dX16_drawLots_136 : decode cX16_drawLots 136 = .ok (.invokevirtual 80, 3) := by decide +kernel
theorem dX16_drawLots_139 : decode cX16_drawLots 139 = .ok (.pop, 1) := by decide +kernel
theorem dX16_drawLots_140 : decode cX16_drawLots 140 = .ok (.iinc 2 1, 3) := by decide +kernel
theorem dX16_drawLots_143 : decode cX16_drawLots 143 = .ok (.goto (-122), 3) := by decide +kernel
theorem dX16_drawLots_146 : decode cX16_drawLots 146 = .ok (.aload_n 0, 1) := by decide +kernel
theorem dX16_drawLots_147 : decode cX16_drawLots 147 = .ok (.getfield 22, 3) := by decide +kernel
theorem dX16_drawLots_150 : decode cX16_drawLots 150 = .ok (.invokevirtual 46, 3) := by decide +kernel
theorem dX16_drawLots_153 : decode cX16_drawLots 153 = .ok (.ireturn, 1) := by decide +kernel
theorem dX16_lotAt_0 : decode cX16_lotAt 0 = .ok (.aload_n 0, 1) := by decide +kernel
theorem dX16_lotAt_1 : decode cX16_lotAt 1 = .ok (.iload_n 1, 1) := by decide +kernel
theorem dX16_lotAt_2 : decode cX16_lotAt 2 = .ok (.i2l, 1) := by decide +kernel
theorem dX16_lotAt_3 : decode cX16_lotAt 3 = .ok (.lconst 0, 1) := by decide +kernel
theorem dX16_lotAt_4 : decode cX16_lotAt 4 = .ok (.aload_n 0, 1) := by decide +kernel
theorem dX16_lotAt_5 : decode cX16_lotAt 5 = .ok (.getfield 22, 3) := by decide +kernel
theorem dX16_lotAt_8 : decode cX16_lotAt 8 = .ok (.invokevirtual 46, 3) := by decide +kernel
theorem dX16_lotAt_11 : decode cX16_lotAt 11 = .ok (.iconst 1, 1) := by decide +kernel
theorem dX16_lotAt_12 : decode cX16_lotAt 12 = .ok (.isub, 1) := by decide +kernel
theorem dX16_lotAt_13 : decode cX16_lotAt 13 = .ok (.i2l, 1) := by decide +kernel
theorem dX16_lotAt_14 : decode cX16_lotAt 14 = .ok (.invokestatic 50, 3) := by decide +kernel
theorem dX16_lotAt_17 : decode cX16_lotAt 17 = .ok (.ifCond .eq 7, 3) := by decide +kernel
theorem dX16_lotAt_20 : decode cX16_lotAt 20 = .ok (.iconst 0, 1) := by decide +kernel
theorem dX16_lotAt_21 : decode cX16_lotAt 21 = .ok (.goto 4, 3) := by decide +kernel
theorem dX16_lotAt_24 : decode cX16_lotAt 24 = .ok (.iconst 1, 1) := by decide +kernel
theorem dX16_lotAt_25 : decode cX16_lotAt 25 = .ok (.putfield 43, 3) := by decide +kernel
theorem dX16_lotAt_28 : decode cX16_lotAt 28 = .ok (.aload_n 0, 1) := by decide +kernel
theorem dX16_lotAt_29 : decode cX16_lotAt 29 = .ok (.getfield 43, 3) := by decide +kernel
theorem dX16_lotAt_32 : decode cX16_lotAt 32 = .ok (.ifCond .le 7, 3) := by decide +kernel
theorem dX16_lotAt_35 : decode cX16_lotAt 35 = .ok (.iconst 0, 1) := by decide +kernel
theorem dX16_lotAt_36 : decode cX16_lotAt 36 = .ok (.goto 17, 3) := by decide +kernel
theorem dX16_lotAt_39 : decode cX16_lotAt 39 = .ok (.aload_n 0, 1) := by decide +kernel
theorem dX16_lotAt_40 : decode cX16_lotAt 40 = .ok (.getfield 22, 3) := by decide +kernel
theorem dX16_lotAt_43 : decode cX16_lotAt 43 = .ok (.iload_n 1, 1) := by decide +kernel
theorem dX16_lotAt_44 : decode cX16_lotAt 44 = .ok (.invokevirtual 94, 3) := by decide +kernel
theorem dX16_lotAt_47 : decode cX16_lotAt 47 = .ok (.checkcast 147, 3) := by decide +kernel
theorem dX16_lotAt_50 : decode cX16_lotAt 50 = .ok (.invokevirtual 156, 3) := by decide +kernel
theorem dX16_lotAt_53 : decode cX16_lotAt 53 = .ok (.ireturn, 1) := by decide +kernel
theorem dX16_seed_0 : decode cX16_seed 0 = .ok (.aload_n 0, 1) := by decide +kernel
theorem dX16_seed_1 : decode cX16_seed 1 = .ok (.iload_n 1, 1) := by decide +kernel
theorem dX16_seed_2 : decode cX16_seed 2 = .ok (.i2l, 1) := by decide +kernel
theorem dX16_seed_3 : decode cX16_seed 3 = .ok (.lconst 1, 1) := by decide +kernel
theorem dX16_seed_4 : decode cX16_seed 4 = .ok (.ldc2_w 159, 3) := by decide +kernel
theorem dX16_seed_7 : decode cX16_seed 7 = .ok (.invokestatic 50, 3) := by decide +kernel
theorem dX16_seed_10 : decode cX16_seed 10 = .ok (.ifCond .eq 7, 3) := by decide +kernel
theorem dX16_seed_13 : decode cX16_seed 13 = .ok (.iconst 0, 1) := by decide +kernel
theorem dX16_seed_14 : decode cX16_seed 14 = .ok (.goto 4, 3) := by decide +kernel
theorem dX16_seed_17 : decode cX16_seed 17 = .ok (.iconst 1, 1) := by decide +kernel
theorem dX16_seed_18 : decode cX16_seed 18 = .ok (.putfield 43, 3) := by decide +kernel
theorem dX16_seed_21 : decode cX16_seed 21 = .ok (.aload_n 0, 1) := by decide +kernel
theorem dX16_seed_22 : decode cX16_seed 22 = .ok (.getfield 43, 3) := by decide +kernel
theorem dX16_seed_25 : decode cX16_seed 25 = .ok (.ifCond .le 5, 3) := by decide +kernel
theorem dX16_seed_28 : decode cX16_seed 28 = .ok (.iconst 0, 1) := by decide +kernel
theorem dX16_seed_29 : decode cX16_seed 29 = .ok (.ireturn, 1) := by decide +kernel
theorem dX16_seed_30 : decode cX16_seed 30 = .ok (.aload_n 0, 1) := by decide +kernel
theorem dX16_seed_31 : decode cX16_seed 31 = .ok (.getfield 33, 3) := by decide +kernel
theorem dX16_seed_34 : decode cX16_seed 34 = .ok (.istore_n 2, 1) := by decide +kernel
theorem dX16_seed_35 : decode cX16_seed 35 = .ok (.aload_n 0, 1) := by decide +kernel
theorem dX16_seed_36 : decode cX16_seed 36 = .ok (.iload_n 1, 1) := by decide +kernel
theorem dX16_seed_37 : decode cX16_seed 37 = .ok (.putfield 33, 3) := by decide +kernel
theorem dX16_seed_40 : decode cX16_seed 40 = .ok (.iload_n 2, 1) := by decide +kernel
theorem dX16_seed_41 : decode cX16_seed 41 = .ok (.ireturn, 1) := by decide +kernel
theorem dX16_addTurn_0 : decode cX16_addTurn 0 = .ok (.aload_n 0, 1) := by decide +kernel
theorem dX16_addTurn_1 : decode cX16_addTurn 1 = .ok (.aload_n 0, 1) := by decide +kernel
theorem dX16_addTurn_2 : decode cX16_addTurn 2 = .ok (.iload_n 1, 1) := by decide +kernel
theorem dX16_addTurn_3 : decode cX16_addTurn 3 = .ok (.invokevirtual 84, 3) := by decide +kernel
theorem dX16_addTurn_6 : decode cX16_addTurn 6 = .ok (.ifCond .eq 11, 3) := by decide +kernel
theorem dX16_addTurn_9 : decode cX16_addTurn 9 = .ok (.aload_n 0, 1) := by decide +kernel
theorem dX16_addTurn_10 : decode cX16_addTurn 10 = .ok (.iload_n 2, 1) := by decide +kernel
theorem dX16_addTurn_11 : decode cX16_addTurn 11 = .ok (.invokevirtual 116, 3) := by decide +kernel
theorem dX16_addTurn_14 : decode cX16_addTurn 14 = .ok (.ifCond .ne 7, 3) := by decide +kernel
theorem dX16_addTurn_17 : decode cX16_addTurn 17 = .ok (.iconst 1, 1) := by decide +kernel
theorem dX16_addTurn_18 : decode cX16_addTurn 18 = .ok (.goto 15, 3) := by decide +kernel
theorem dX16_addTurn_21 : decode cX16_addTurn 21 = .ok (.aload_n 0, 1) := by decide +kernel
theorem dX16_addTurn_22 : decode cX16_addTurn 22 = .ok (.getfield 161, 3) := by decide +kernel
theorem dX16_addTurn_25 : decode cX16_addTurn 25 = .ok (.ifCond .eq 7, 3) := by decide +kernel
theorem dX16_addTurn_28 : decode cX16_addTurn 28 = .ok (.iconst 2, 1) := by decide +kernel
theorem dX16_addTurn_29 : decode cX16_addTurn 29 = .ok (.goto 4, 3) := by decide +kernel
theorem dX16_addTurn_32 : decode cX16_addTurn 32 = .ok (.iconst 0, 1) := by decide +kernel
theorem dX16_addTurn_33 : decode cX16_addTurn 33 = .ok (.putfield 43, 3) := by decide +kernel
theorem dX16_addTurn_36 : decode cX16_addTurn 36 = .ok (.aload_n 0, 1) := by decide +kernel
theorem dX16_addTurn_37 : decode cX16_addTurn 37 = .ok (.getfield 43, 3) := by decide +kernel
theorem dX16_addTurn_40 : decode cX16_addTurn 40 = .ok (.ifCond .le 5, 3) := by decide +kernel
theorem dX16_addTurn_43 : decode cX16_addTurn 43 = .ok (.iconst 0, 1) := by decide +kernel
theorem dX16_addTurn_44 : decode cX16_addTurn 44 = .ok (.ireturn, 1) := by decide +kernel
theorem dX16_addTurn_45 : decode cX16_addTurn 45 = .ok (.iconst 0, 1) := by decide +kernel
theorem dX16_addTurn_46 : decode cX16_addTurn 46 = .ok (.istore_n 3, 1) := by decide +kernel
theorem dX16_addTurn_47 : decode cX16_addTurn 47 = .ok (.iconst 0, 1) := by decide +kernel
theorem dX16_addTurn_48 : decode cX16_addTurn 48 = .ok (.istore 4, 2) := by decide +kernel
theorem dX16_addTurn_50 : decode cX16_addTurn 50 = .ok (.iload 4, 2) := by decide +kernel
theorem dX16_addTurn_52 : decode cX16_addTurn 52 = .ok (.aload_n 0, 1) := by decide +kernel
theorem dX16_addTurn_53 : decode cX16_addTurn 53 = .ok (.getfield 10, 3) := by decide +kernel
theorem dX16_addTurn_56 : decode cX16_addTurn 56 = .ok (.invokevirtual 46, 3) := by decide +kernel
theorem dX16_addTurn_59 : decode cX16_addTurn 59 = .ok (.if_icmp .ge 79, 3) := by decide +kernel
theorem dX16_addTurn_62 : decode cX16_addTurn 62 = .ok (.aload_n 0, 1) := by decide +kernel
theorem dX16_addTurn_63 : decode cX16_addTurn 63 = .ok (.getfield 10, 3) := by decide +kernel
theorem dX16_addTurn_66 : decode cX16_addTurn 66 = .ok (.iload 4, 2) := by decide +kernel
theorem dX16_addTurn_68 : decode cX16_addTurn 68 = .ok (.invokevirtual 94, 3) := by decide +kernel
theorem dX16_addTurn_71 : decode cX16_addTurn 71 = .ok (.checkcast 68, 3) := by decide +kernel
theorem dX16_addTurn_74 : decode cX16_addTurn 74 = .ok (.getfield 164, 3) := by decide +kernel
theorem dX16_addTurn_77 : decode cX16_addTurn 77 = .ok (.invokevirtual 54, 3) := by decide +kernel
theorem dX16_addTurn_80 : decode cX16_addTurn 80 = .ok (.astore 5, 2) := by decide +kernel
theorem dX16_addTurn_82 : decode cX16_addTurn 82 = .ok (.aload 5, 2) := by decide +kernel
theorem dX16_addTurn_84 : decode cX16_addTurn 84 = .ok (.invokeinterface 58 1, 5) := by decide +kernel
theorem dX16_addTurn_89 : decode cX16_addTurn 89 = .ok (.ifCond .eq 43, 3) := by decide +kernel
theorem dX16_addTurn_92 : decode cX16_addTurn 92 = .ok (.aload 5, 2) := by decide +kernel
theorem dX16_addTurn_94 : decode cX16_addTurn 94 = .ok (.invokeinterface 64 1, 5) := by decide +kernel
theorem dX16_addTurn_99 : decode cX16_addTurn 99 = .ok (.checkcast 167, 3) := by decide +kernel
theorem dX16_addTurn_102 : decode cX16_addTurn 102 = .ok (.astore 6, 2) := by decide +kernel
theorem dX16_addTurn_104 : decode cX16_addTurn 104 = .ok (.iload_n 3, 1) := by decide +kernel
theorem dX16_addTurn_105 : decode cX16_addTurn 105 = .ok (.ifCond .ne 18, 3) := by decide +kernel
theorem dX16_addTurn_108 : decode cX16_addTurn 108 = .ok (.iload 4, 2) := by decide +kernel
theorem dX16_addTurn_110 : decode cX16_addTurn 110 = .ok (.iload_n 1, 1) := by decide +kernel
theorem dX16_addTurn_111 : decode cX16_addTurn 111 = .ok (.if_icmp .eq 16, 3) := by decide +kernel
theorem dX16_addTurn_114 : decode cX16_addTurn 114 = .ok (.aload 6, 2) := by decide +kernel
theorem dX16_addTurn_116 : decode cX16_addTurn 116 = .ok (.getfield 169, 3) := by decide +kernel
theorem dX16_addTurn_119 : decode cX16_addTurn 119 = .ok (.iload_n 2, 1) := by decide +kernel
theorem dX16_addTurn_120 : decode cX16_addTurn 120 = .ok (.if_icmp .ne 7, 3) := by decide +kernel
theorem dX16_addTurn_123 : decode cX16_addTurn 123 = .ok (.iconst 1, 1) := by decide +kernel
theorem dX16_addTurn_124 : decode cX16_addTurn 124 = .ok (.goto 4, 3) := by decide +kernel
theorem dX16_addTurn_127 : decode cX16_addTurn 127 = .ok (.iconst 0, 1) := by decide +kernel
theorem dX16_addTurn_128 : decode cX16_addTurn 128 = .ok (.istore_n 3, 1) := by decide +kernel
theorem dX16_addTurn_129 : decode cX16_addTurn 129 = .ok (.goto (-47), 3) := by decide +kernel
theorem dX16_addTurn_132 : decode cX16_addTurn 132 = .ok (.iinc 4 1, 3) := by decide +kernel
theorem dX16_addTurn_135 : decode cX16_addTurn 135 = .ok (.goto (-85), 3) := by decide +kernel
theorem dX16_addTurn_138 : decode cX16_addTurn 138 = .ok (.aload_n 0, 1) := by decide +kernel
theorem dX16_addTurn_139 : decode cX16_addTurn 139 = .ok (.getfield 10, 3) := by decide +kernel
theorem dX16_addTurn_142 : decode cX16_addTurn 142 = .ok (.iload_n 1, 1) := by decide +kernel
theorem dX16_addTurn_143 : decode cX16_addTurn 143 = .ok (.invokevirtual 94, 3) := by decide +kernel
theorem dX16_addTurn_146 : decode cX16_addTurn 146 = .ok (.checkcast 68, 3) := by decide +kernel
theorem dX16_addTurn_149 : decode cX16_addTurn 149 = .ok (.getfield 164, 3) := by decide +kernel
theorem dX16_addTurn_152 : decode cX16_addTurn 152 = .ok (.astore 4, 2) := by decide +kernel
theorem dX16_addTurn_154 : decode cX16_addTurn 154 = .ok (.aload_n 0, 1) := by decide +kernel
theorem dX16_addTurn_155 : decode cX16_addTurn 155 = .ok (.iload_n 3, 1) := by decide +kernel
theorem dX16_addTurn_156 : decode cX16_addTurn 156 = .ok (.ifCond .ne 13, 3) := by decide +kernel
theorem dX16_addTurn_159 : decode cX16_addTurn 159 = .ok (.aload 4, 2) := by decide +kernel
theorem dX16_addTurn_161 : decode cX16_addTurn 161 = .ok (.invokevirtual 46, 3) := by decide +kernel
theorem dX16_addTurn_164 : decode cX16_addTurn 164 = .ok (.bipush 8, 2) := by decide +kernel
theorem dX16_addTurn_166 : decode cX16_addTurn 166 = .ok (.if_icmp .ne 7, 3) := by decide +kernel
theorem dX16_addTurn_169 : decode cX16_addTurn 169 = .ok (.iconst 3, 1) := by decide +kernel
theorem dX16_addTurn_170 : decode cX16_addTurn 170 = .ok (.goto 4, 3) := by decide +kernel
theorem dX16_addTurn_173 : decode cX16_addTurn 173 = .ok (.iconst 0, 1) := by decide +kernel
theorem dX16_addTurn_174 : decode cX16_addTurn 174 = .ok (.putfield 43, 3) := by decide +kernel
theorem dX16_addTurn_177 : decode cX16_addTurn 177 = .ok (.aload_n 0, 1) := by decide +kernel
theorem dX16_addTurn_178 : decode cX16_addTurn 178 = .ok (.getfield 43, 3) := by decide +kernel
theorem dX16_addTurn_181 : decode cX16_addTurn 181 = .ok (.ifCond .le 5, 3) := by decide +kernel
theorem dX16_addTurn_184 : decode cX16_addTurn 184 = .ok (.iconst 0, 1) := by decide +kernel
theorem dX16_addTurn_185 : decode cX16_addTurn 185 = .ok (.ireturn, 1) := by decide +kernel
theorem dX16_addTurn_186 : decode cX16_addTurn 186 = .ok (.aload 4, 2) := by decide +kernel
theorem dX16_addTurn_188 : decode cX16_addTurn 188 = .ok (.new 167, 3) := by decide +kernel
theorem dX16_addTurn_191 : decode cX16_addTurn 191 = .ok (.dup, 1) := by decide +kernel
theorem dX16_addTurn_192 : decode cX16_addTurn 192 = .ok (.iload_n 2, 1) := by decide +kernel
theorem dX16_addTurn_193 : decode cX16_addTurn 193 = .ok (.invokespecial 172, 3) := by decide +kernel
theorem dX16_addTurn_196 : decode cX16_addTurn 196 = .ok (.invokevirtual 80, 3) := by decide +kernel
theorem dX16_addTurn_199 : decode cX16_addTurn 199 = .ok (.pop, 1) := by decide +kernel
theorem dX16_addTurn_200 : decode cX16_addTurn 200 = .ok (.aload 4, 2) := by decide +kernel
theorem dX16_addTurn_202 : decode cX16_addTurn 202 = .ok (.invokevirtual 46, 3) := by decide +kernel
theorem dX16_addTurn_205 : decode cX16_addTurn 205 = .ok (.ireturn, 1) := by decide +kernel
theorem dX16_turnsByLots_0 : decode cX16_turnsByLots 0 = .ok (.aload_n 0, 1) := by decide +kernel
theorem dX16_turnsByLots_1 : decode cX16_turnsByLots 1 = .ok (.aload_n 0, 1) := by decide +kernel
theorem dX16_turnsByLots_2 : decode cX16_turnsByLots 2 = .ok (.getfield 161, 3) := by decide +kernel
theorem dX16_turnsByLots_5 : decode cX16_turnsByLots 5 = .ok (.ifCond .eq 7, 3) := by decide +kernel
theorem dX16_turnsByLots_8 : decode cX16_turnsByLots 8 = .ok (.iconst 1, 1) := by decide +kernel
theorem dX16_turnsByLots_9 : decode cX16_turnsByLots 9 = .ok (.goto 25, 3) := by decide +kernel
theorem dX16_turnsByLots_12 : decode cX16_turnsByLots 12 = .ok (.aload_n 0, 1) := by decide +kernel
theorem dX16_turnsByLots_13 : decode cX16_turnsByLots 13 = .ok (.getfield 143, 3) := by decide +kernel
theorem dX16_turnsByLots_16 : decode cX16_turnsByLots 16 = .ok (.ifCond .eq 13, 3) := by decide +kernel
theorem dX16_turnsByLots_19 : decode cX16_turnsByLots 19 = .ok (.aload_n 0, 1) := by decide +kernel
theorem dX16_turnsByLots_20 : decode cX16_turnsByLots 20 = .ok (.getfield 10, 3) := by decide +kernel
theorem dX16_turnsByLots_23 : decode cX16_turnsByLots 23 = .ok (.invokevirtual 175, 3) := by decide +kernel
theorem dX16_turnsByLots_26 : decode cX16_turnsByLots 26 = .ok (.ifCond .eq 7, 3) := by decide +kernel
theorem dX16_turnsByLots_29 : decode cX16_turnsByLots 29 = .ok (.iconst 2, 1) := by decide +kernel
theorem dX16_turnsByLots_30 : decode cX16_turnsByLots 30 = .ok (.goto 4, 3) := by decide +kernel
theorem dX16_turnsByLots_33 : decode cX16_turnsByLots 33 = .ok (.iconst 0, 1) := by decide +kernel
theorem dX16_turnsByLots_34 : decode cX16_turnsByLots 34 = .ok (.putfield 43, 3) := by decide +kernel
theorem dX16_turnsByLots_37 : decode cX16_turnsByLots 37 = .ok (.aload_n 0, 1) := by decide +kernel
theorem dX16_turnsByLots_38 : decode cX16_turnsByLots 38 = .ok (.getfield 43, 3) := by decide +kernel
theorem dX16_turnsByLots_41 : decode cX16_turnsByLots 41 = .ok (.ifCond .le 5, 3) := by decide +kernel
theorem dX16_turnsByLots_44 : decode cX16_turnsByLots 44 = .ok (.iconst 0, 1) := by decide +kernel
theorem dX16_turnsByLots_45 : decode cX16_turnsByLots 45 = .ok (.ireturn, 1) := by decide +kernel
theorem dX16_turnsByLots_46 : decode cX16_turnsByLots 46 = .ok (.aload_n 0, 1) := by decide +kernel
theorem dX16_turnsByLots_47 : decode cX16_turnsByLots 47 = .ok (.getfield 10, 3) := by decide +kernel
theorem dX16_turnsByLots_50 : decode cX16_turnsByLots 50 = .ok (.invokevirtual 54, 3) := by decide +kernel
theorem dX16_turnsByLots_53 : decode cX16_turnsByLots 53 = .ok (.astore_n 1, 1) := by decide +kernel
theorem dX16_turnsByLots_54 : decode cX16_turnsByLots 54 = .ok (.aload_n 1, 1) := by decide +kernel
theorem dX16_turnsByLots_55 : decode cX16_turnsByLots 55 = .ok (.invokeinterface 58 1, 5) := by decide +kernel
theorem dX16_turnsByLots_60 : decode cX16_turnsByLots 60 = .ok (.ifCond .eq 23, 3) := by decide +kernel
theorem dX16_turnsByLots_63 : decode cX16_turnsByLots 63 = .ok (.aload_n 1, 1) := by decide +kernel
theorem dX16_turnsByLots_64 : decode cX16_turnsByLots 64 = .ok (.invokeinterface 64 1, 5) := by decide +kernel
theorem dX16_turnsByLots_69 : decode cX16_turnsByLots 69 = .ok (.checkcast 68, 3) := by decide +kernel
theorem dX16_turnsByLots_72 : decode cX16_turnsByLots 72 = .ok (.astore_n 2, 1) := by decide +kernel
theorem dX16_turnsByLots_73 : decode cX16_turnsByLots 73 = .ok (.aload_n 2, 1) := by decide +kernel
theorem dX16_turnsByLots_74 : decode cX16_turnsByLots 74 = .ok (.getfield 164, 3) := by decide +kernel
theorem dX16_turnsByLots_77 : decode cX16_turnsByLots 77 = .ok (.invokevirtual 140, 3) := by decide +kernel
theorem dX16_turnsByLots_80 : decode cX16_turnsByLots 80 = .ok (.goto (-26), 3) := by decide +kernel
theorem dX16_turnsByLots_83 : decode cX16_turnsByLots 83 = .ok (.iconst 0, 1) := by decide +kernel
theorem dX16_turnsByLots_84 : decode cX16_turnsByLots 84 = .ok (.istore_n 1, 1) := by decide +kernel
theorem dX16_turnsByLots_85 : decode cX16_turnsByLots 85 = .ok (.iload_n 1, 1) := by decide +kernel
theorem dX16_turnsByLots_86 : decode cX16_turnsByLots 86 = .ok (.aload_n 0, 1) := by decide +kernel
theorem dX16_turnsByLots_87 : decode cX16_turnsByLots 87 = .ok (.getfield 22, 3) := by decide +kernel
theorem dX16_turnsByLots_90 : decode cX16_turnsByLots 90 = .ok (.invokevirtual 46, 3) := by decide +kernel
theorem dX16_turnsByLots_93 : decode cX16_turnsByLots 93 = .ok (.if_icmp .ge 56, 3) := by decide +kernel
theorem dX16_turnsByLots_96 : decode cX16_turnsByLots 96 = .ok (.aload_n 0, 1) := by decide +kernel
theorem dX16_turnsByLots_97 : decode cX16_turnsByLots 97 = .ok (.getfield 10, 3) := by decide +kernel
theorem dX16_turnsByLots_100 : decode cX16_turnsByLots 100 = .ok (.iload_n 1, 1) := by decide +kernel
theorem dX16_turnsByLots_101 : decode cX16_turnsByLots 101 = .ok (.aload_n 0, 1) := by decide +kernel
theorem dX16_turnsByLots_102 : decode cX16_turnsByLots 102 = .ok (.getfield 10, 3) := by decide +kernel
theorem dX16_turnsByLots_105 : decode cX16_turnsByLots 105 = .ok (.invokevirtual 46, 3) := by decide +kernel
theorem dX16_turnsByLots_108 : decode cX16_turnsByLots 108 = .ok (.irem, 1) := by decide +kernel
theorem dX16_turnsByLots_109 : decode cX16_turnsByLots 109 = .ok (.invokevirtual 94, 3) := by decide +kernel
theorem dX16_turnsByLots_112 : decode cX16_turnsByLots 112 = .ok (.checkcast 68, 3) := by decide +kernel
theorem dX16_turnsByLots_115 : decode cX16_turnsByLots 115 = .ok (.getfield 164, 3) := by decide +kernel
theorem dX16_turnsByLots_118 : decode cX16_turnsByLots 118 = .ok (.new 167, 3) := by decide +kernel
theorem dX16_turnsByLots_121 : decode cX16_turnsByLots 121 = .ok (.dup, 1) := by decide +kernel
theorem dX16_turnsByLots_122 : decode cX16_turnsByLots 122 = .ok (.aload_n 0, 1) := by decide +kernel
theorem dX16_turnsByLots_123 : decode cX16_turnsByLots 123 = .ok (.getfield 22, 3) := by decide +kernel
theorem dX16_turnsByLots_126 : decode cX16_turnsByLots 126 = .ok (.iload_n 1, 1) := by decide +kernel
theorem dX16_turnsByLots_127 : decode cX16_turnsByLots 127 = .ok (.invokevirtual 94, 3) := by decide +kernel
theorem dX16_turnsByLots_130 : decode cX16_turnsByLots 130 = .ok (.checkcast 147, 3) := by decide +kernel
theorem dX16_turnsByLots_133 : decode cX16_turnsByLots 133 = .ok (.invokevirtual 156, 3) := by decide +kernel
theorem dX16_turnsByLots_136 : decode cX16_turnsByLots 136 = .ok (.invokespecial 172, 3) := by decide +kernel
theorem dX16_turnsByLots_139 : decode cX16_turnsByLots 139 = .ok (.invokevirtual 80, 3) := by decide +kernel
theorem dX16_turnsByLots_142 : decode cX16_turnsByLots 142 = .ok (.pop, 1) := by decide +kernel
theorem dX16_turnsByLots_143 : decode cX16_turnsByLots 143 = .ok (.iinc 1 1, 3) := by decide +kernel
theorem dX16_turnsByLots_146 : decode cX16_turnsByLots 146 = .ok (.goto (-61), 3) := by decide +kernel
theorem dX16_turnsByLots_149 : decode cX16_turnsByLots 149 = .ok (.aload_n 0, 1) := by decide +kernel
theorem dX16_turnsByLots_150 : decode cX16_turnsByLots 150 = .ok (.getfield 22, 3) := by decide +kernel
theorem dX16_turnsByLots_153 : decode cX16_turnsByLots 153 = .ok (.invokevirtual 46, 3) := by decide +kernel
theorem dX16_turnsByLots_156 : decode cX16_turnsByLots 156 = .ok (.ireturn, 1) := by decide +kernel
theorem dX16_exchange_0 : decode cX16_exchange 0 = .ok (.aload_n 0, 1) := by decide +kernel
theorem dX16_exchange_1 : decode cX16_exchange 1 = .ok (.iload_n 1, 1) := by decide +kernel
theorem dX16_exchange_2 : decode cX16_exchange 2 = .ok (.invokevirtual 84, 3) := by decide +kernel
theorem dX16_exchange_5 : decode cX16_exchange 5 = .ok (.ifCond .eq 65, 3) := by decide +kernel
theorem dX16_exchange_8 : decode cX16_exchange 8 = .ok (.iload_n 2, 1) := by decide +kernel
theorem dX16_exchange_9 : decode cX16_exchange 9 = .ok (.i2l, 1) := by decide +kernel
theorem dX16_exchange_10 : decode cX16_exchange 10 = .ok (.lconst 0, 1) := by decide +kernel
theorem dX16_exchange_11 : decode cX16_exchange 11 = .ok (.aload_n 0, 1) := by decide +kernel
theorem dX16_exchange_12 : decode cX16_exchange 12 = .ok (.getfield 10, 3) := by decide +kernel
theorem dX16_exchange_15 : decode cX16_exchange 15 = .ok (.iload_n 1, 1) := by decide +kernel
theorem dX16_exchange_16 : decode cX16_exchange 16 = .ok (.invokevirtual 94, 3) := by decide +kernel
theorem dX16_exchange_19 : decode cX16_exchange 19 = .ok (.checkcast 68, 3) := by decide +kernel
theorem dX16_exchange_22 : decode cX16_exchange 22 = .ok (.getfield 164, 3) := by decide +kernel
theorem dX16_exchange_25 : decode cX16_exchange 25 = .ok (.invokevirtual 46, 3) := by decide +kernel
theorem dX16_exchange_28 : decode cX16_exchange 28 = .ok (.iconst 1, 1) := by decide +kernel
theorem dX16_exchange_29 : decode cX16_exchange 29 = .ok (.isub, 1) := by decide +kernel
theorem dX16_exchange_30 : decode cX16_exchange 30 = .ok (.i2l, 1) := by decide +kernel
theorem dX16_exchange_31 : decode cX16_exchange 31 = .ok (.invokestatic 50, 3) := by decide +kernel
theorem dX16_exchange_34 : decode cX16_exchange 34 = .ok (.ifCond .eq 36, 3) := by decide +kernel
theorem dX16_exchange_37 : decode cX16_exchange 37 = .ok (.iload_n 3, 1) := by decide +kernel
theorem dX16_exchange_38 : decode cX16_exchange 38 = .ok (.i2l, 1) := by decide +kernel
theorem dX16_exchange_39 : decode cX16_exchange 39 = .ok (.lconst 0, 1) := by decide +kernel
theorem dX16_exchange_40 : decode cX16_exchange 40 = .ok (.aload_n 0, 1) := by decide +kernel
theorem dX16_exchange_41 : decode cX16_exchange 41 = .ok (.getfield 10, 3) := by decide +kernel
theorem dX16_exchange_44 : decode cX16_exchange 44 = .ok (.iload_n 1, 1) := by decide +kernel
theorem dX16_exchange_45 : decode cX16_exchange 45 = .ok (.invokevirtual 94, 3) := by decide +kernel
theorem dX16_exchange_48 : decode cX16_exchange 48 = .ok (.checkcast 68, 3) := by decide +kernel
theorem dX16_exchange_51 : decode cX16_exchange 51 = .ok (.getfield 164, 3) := by decide +kernel
theorem dX16_exchange_54 : decode cX16_exchange 54 = .ok (.invokevirtual 46, 3) := by decide +kernel
theorem dX16_exchange_57 : decode cX16_exchange 57 = .ok (.iconst 1, 1) := by decide +kernel
theorem dX16_exchange_58 : decode cX16_exchange 58 = .ok (.isub, 1) := by decide +kernel
theorem dX16_exchange_59 : decode cX16_exchange 59 = .ok (.i2l, 1) := by decide +kernel
theorem dX16_exchange_60 : decode cX16_exchange 60 = .ok (.invokestatic 50, 3) := by decide +kernel
theorem dX16_exchange_63 : decode cX16_exchange 63 = .ok (.ifCond .eq 7, 3) := by decide +kernel
theorem dX16_exchange_66 : decode cX16_exchange 66 = .ok (.iconst 1, 1) := by decide +kernel
theorem dX16_exchange_67 : decode cX16_exchange 67 = .ok (.goto 4, 3) := by decide +kernel
theorem dX16_exchange_70 : decode cX16_exchange 70 = .ok (.iconst 0, 1) := by decide +kernel
theorem dX16_exchange_71 : decode cX16_exchange 71 = .ok (.istore 4, 2) := by decide +kernel
theorem dX16_exchange_73 : decode cX16_exchange 73 = .ok (.aload_n 0, 1) := by decide +kernel
theorem dX16_exchange_74 : decode cX16_exchange 74 = .ok (.iload 4, 2) := by decide +kernel
theorem dX16_exchange_76 : decode cX16_exchange 76 = .ok (.ifCond .ne 7, 3) := by decide +kernel
theorem dX16_exchange_79 : decode cX16_exchange 79 = .ok (.iconst 1, 1) := by decide +kernel
theorem dX16_exchange_80 : decode cX16_exchange 80 = .ok (.goto 15, 3) := by decide +kernel
theorem dX16_exchange_83 : decode cX16_exchange 83 = .ok (.aload_n 0, 1) := by decide +kernel
theorem dX16_exchange_84 : decode cX16_exchange 84 = .ok (.getfield 161, 3) := by decide +kernel
theorem dX16_exchange_87 : decode cX16_exchange 87 = .ok (.ifCond .eq 7, 3) := by decide +kernel
theorem dX16_exchange_90 : decode cX16_exchange 90 = .ok (.iconst 2, 1) := by decide +kernel
theorem dX16_exchange_91 : decode cX16_exchange 91 = .ok (.goto 4, 3) := by decide +kernel
theorem dX16_exchange_94 : decode cX16_exchange 94 = .ok (.iconst 0, 1) := by decide +kernel
theorem dX16_exchange_95 : decode cX16_exchange 95 = .ok (.putfield 43, 3) := by decide +kernel
theorem dX16_exchange_98 : decode cX16_exchange 98 = .ok (.aload_n 0, 1) := by decide +kernel
theorem dX16_exchange_99 : decode cX16_exchange 99 = .ok (.getfield 43, 3) := by decide +kernel
theorem dX16_exchange_102 : decode cX16_exchange 102 = .ok (.ifCond .le 5, 3) := by decide +kernel
theorem dX16_exchange_105 : decode cX16_exchange 105 = .ok (.iconst 0, 1) := by decide +kernel
theorem dX16_exchange_106 : decode cX16_exchange 106 = .ok (.ireturn, 1) := by decide +kernel
theorem dX16_exchange_107 : decode cX16_exchange 107 = .ok (.new 7, 3) := by decide +kernel
theorem dX16_exchange_110 : decode cX16_exchange 110 = .ok (.dup, 1) := by decide +kernel
theorem dX16_exchange_111 : decode cX16_exchange 111 = .ok (.aload_n 0, 1) := by decide +kernel
theorem dX16_exchange_112 : decode cX16_exchange 112 = .ok (.getfield 10, 3) := by decide +kernel
theorem dX16_exchange_115 : decode cX16_exchange 115 = .ok (.iload_n 1, 1) := by decide +kernel
theorem dX16_exchange_116 : decode cX16_exchange 116 = .ok (.invokevirtual 94, 3) := by decide +kernel
theorem dX16_exchange_119 : decode cX16_exchange 119 = .ok (.checkcast 68, 3) := by decide +kernel
theorem dX16_exchange_122 : decode cX16_exchange 122 = .ok (.getfield 164, 3) := by decide +kernel
theorem dX16_exchange_125 : decode cX16_exchange 125 = .ok (.invokespecial 178, 3) := by decide +kernel
theorem dX16_exchange_128 : decode cX16_exchange 128 = .ok (.astore 5, 2) := by decide +kernel
theorem dX16_exchange_130 : decode cX16_exchange 130 = .ok (.aload 5, 2) := by decide +kernel
theorem dX16_exchange_132 : decode cX16_exchange 132 = .ok (.iload_n 2, 1) := by decide +kernel
theorem dX16_exchange_133 : decode cX16_exchange 133 = .ok (.invokevirtual 94, 3) := by decide +kernel
theorem dX16_exchange_136 : decode cX16_exchange 136 = .ok (.checkcast 167, 3) := by decide +kernel
theorem dX16_exchange_139 : decode cX16_exchange 139 = .ok (.astore 6, 2) := by decide +kernel
theorem dX16_exchange_141 : decode cX16_exchange 141 = .ok (.aload 5, 2) := by decide +kernel
theorem dX16_exchange_143 : decode cX16_exchange 143 = .ok (.iload_n 3, 1) := by decide +kernel
theorem dX16_exchange_144 : decode cX16_exchange 144 = .ok (.aload 6, 2) := by decide +kernel
theorem dX16_exchange_146 : decode cX16_exchange 146 = .ok (.invokevirtual 181, 3) := by decide +kernel
theorem dX16_exchange_149 : decode cX16_exchange 149 = .ok (.checkcast 167, 3) := by decide +kernel
theorem dX16_exchange_152 : decode cX16_exchange 152 = .ok (.astore 7, 2) := by decide +kernel
theorem dX16_exchange_154 : decode cX16_exchange 154 = .ok (.aload 5, 2) := by decide +kernel
theorem dX16_exchange_156 : decode cX16_exchange 156 = .ok (.iload_n 2, 1) := by decide +kernel
theorem dX16_exchange_157 : decode cX16_exchange 157 = .ok (.aload 7, 2) := by decide +kernel
theorem dX16_exchange_159 : decode cX16_exchange 159 = .ok (.invokevirtual 181, 3) := by decide +kernel
theorem dX16_exchange_162 : decode cX16_exchange 162 = .ok (.checkcast 167, 3) := by decide +kernel
theorem dX16_exchange_165 : decode cX16_exchange 165 = .ok (.astore 8, 2) := by decide +kernel
theorem dX16_exchange_167 : decode cX16_exchange 167 = .ok (.iconst 0, 1) := by decide +kernel
theorem dX16_exchange_168 : decode cX16_exchange 168 = .ok (.istore 9, 2) := by decide +kernel
theorem dX16_exchange_170 : decode cX16_exchange 170 = .ok (.iconst 0, 1) := by decide +kernel
theorem dX16_exchange_171 : decode cX16_exchange 171 = .ok (.istore 10, 2) := by decide +kernel
theorem dX16_exchange_173 : decode cX16_exchange 173 = .ok (.iload 10, 2) := by decide +kernel
theorem dX16_exchange_175 : decode cX16_exchange 175 = .ok (.aload 5, 2) := by decide +kernel
theorem dX16_exchange_177 : decode cX16_exchange 177 = .ok (.invokevirtual 46, 3) := by decide +kernel
theorem dX16_exchange_180 : decode cX16_exchange 180 = .ok (.if_icmp .ge 78, 3) := by decide +kernel
theorem dX16_exchange_183 : decode cX16_exchange 183 = .ok (.iload 10, 2) := by decide +kernel
theorem dX16_exchange_185 : decode cX16_exchange 185 = .ok (.iconst 1, 1) := by decide +kernel
theorem dX16_exchange_186 : decode cX16_exchange 186 = .ok (.iadd, 1) := by decide +kernel
theorem dX16_exchange_187 : decode cX16_exchange 187 = .ok (.istore 11, 2) := by decide +kernel
theorem dX16_exchange_189 : decode cX16_exchange 189 = .ok (.iload 11, 2) := by decide +kernel
theorem dX16_exchange_191 : decode cX16_exchange 191 = .ok (.aload 5, 2) := by decide +kernel
theorem dX16_exchange_193 : decode cX16_exchange 193 = .ok (.invokevirtual 46, 3) := by decide +kernel
theorem dX16_exchange_196 : decode cX16_exchange 196 = .ok (.if_icmp .ge 56, 3) := by decide +kernel
theorem dX16_exchange_199 : decode cX16_exchange 199 = .ok (.iload 9, 2) := by decide +kernel
theorem dX16_exchange_201 : decode cX16_exchange 201 = .ok (.ifCond .ne 38, 3) := by decide +kernel
theorem dX16_exchange_204 : decode cX16_exchange 204 = .ok (.aload_n 0, 1) := by decide +kernel
theorem dX16_exchange_205 : decode cX16_exchange 205 = .ok (.getfield 30, 3) := by decide +kernel
theorem dX16_exchange_208 : decode cX16_exchange 208 = .ok (.aload 5, 2) := by decide +kernel
theorem dX16_exchange_210 : decode cX16_exchange 210 = .ok (.iload 11, 2) := by decide +kernel
theorem dX16_exchange_212 : decode cX16_exchange 212 = .ok (.invokevirtual 94, 3) := by decide +kernel
theorem dX16_exchange_215 : decode cX16_exchange 215 = .ok (.checkcast 167, 3) := by decide +kernel
theorem dX16_exchange_218 : decode cX16_exchange 218 = .ok (.getfield 169, 3) := by decide +kernel
theorem dX16_exchange_221 : decode cX16_exchange 221 = .ok (.aaload, 1) := by decide +kernel
theorem dX16_exchange_222 : decode cX16_exchange 222 = .ok (.aload 5, 2) := by decide +kernel
theorem dX16_exchange_224 : decode cX16_exchange 224 = .ok (.iload 10, 2) := by decide +kernel
theorem dX16_exchange_226 : decode cX16_exchange 226 = .ok (.invokevirtual 94, 3) := by decide +kernel
theorem dX16_exchange_229 : decode cX16_exchange 229 = .ok (.checkcast 167, 3) := by decide +kernel
theorem dX16_exchange_232 : decode cX16_exchange 232 = .ok (.getfield 169, 3) := by decide +kernel
theorem dX16_exchange_235 : decode cX16_exchange 235 = .ok (.baload, 1) := by decide +kernel
theorem dX16_exchange_236 : decode cX16_exchange 236 = .ok (.ifCond .eq 7, 3) := by decide +kernel
theorem dX16_exchange_239 : decode cX16_exchange 239 = .ok (.iconst 1, 1) := by decide +kernel
theorem dX16_exchange_240 : decode cX16_exchange 240 = .ok (.goto 4, 3) := by decide +kernel
theorem dX16_exchange_243 : decode cX16_exchange 243 = .ok (.iconst 0, 1) := by decide +kernel
theorem dX16_exchange_244 : decode cX16_exchange 244 = .ok (.istore 9, 2) := by decide +kernel
theorem dX16_exchange_246 : decode cX16_exchange 246 = .ok (.iinc 11 1, 3) := by decide +kernel
theorem dX16_exchange_249 : decode cX16_exchange 249 = .ok (.goto (-60), 3) := by decide +kernel
theorem dX16_exchange_252 : decode cX16_exchange 252 = .ok (.iinc 10 1, 3) := by decide +kernel
theorem dX16_exchange_255 : decode cX16_exchange 255 = .ok (.goto (-82), 3) := by decide +kernel
theorem dX16_exchange_258 : decode cX16_exchange 258 = .ok (.aload_n 0, 1) := by decide +kernel
theorem dX16_exchange_259 : decode cX16_exchange 259 = .ok (.iload 9, 2) := by decide +kernel
theorem dX16_exchange_261 : decode cX16_exchange 261 = .ok (.ifCond .eq 7, 3) := by decide +kernel
theorem dX16_exchange_264 : decode cX16_exchange 264 = .ok (.iconst 3, 1) := by decide +kernel
theorem dX16_exchange_265 : decode cX16_exchange 265 = .ok (.goto 4, 3) := by decide +kernel
theorem dX16_exchange_268 : decode cX16_exchange 268 = .ok (.iconst 0, 1) := by decide +kernel
theorem dX16_exchange_269 : decode cX16_exchange 269 = .ok (.putfield 43, 3) := by decide +kernel
theorem dX16_exchange_272 : decode cX16_exchange 272 = .ok (.aload_n 0, 1) := by decide +kernel
theorem dX16_exchange_273 : decode cX16_exchange 273 = .ok (.getfield 43, 3) := by decide +kernel
theorem dX16_exchange_276 : decode cX16_exchange 276 = .ok (.ifCond .le 5, 3) := by decide +kernel
theorem dX16_exchange_279 : decode cX16_exchange 279 = .ok (.iconst 0, 1) := by decide +kernel
theorem dX16_exchange_280 : decode cX16_exchange 280 = .ok (.ireturn, 1) := by decide +kernel
theorem dX16_exchange_281 : decode cX16_exchange 281 = .ok (.aload_n 0, 1) := by decide +kernel
theorem dX16_exchange_282 : decode cX16_exchange 282 = .ok (.getfield 10, 3) := by decide +kernel
theorem dX16_exchange_285 : decode cX16_exchange 285 = .ok (.iload_n 1, 1) := by decide +kernel
theorem dX16_exchange_286 : decode cX16_exchange 286 = .ok (.invokevirtual 94, 3) := by decide +kernel
theorem dX16_exchange_289 : decode cX16_exchange 289 = .ok (.checkcast 68, 3) := by decide +kernel
theorem dX16_exchange_292 : decode cX16_exchange 292 = .ok (.getfield 164, 3) := by decide +kernel
theorem dX16_exchange_295 : decode cX16_exchange 295 = .ok (.invokevirtual 140, 3) := by decide +kernel
theorem dX16_exchange_298 : decode cX16_exchange 298 = .ok (.aload_n 0, 1) := by decide +kernel
theorem dX16_exchange_299 : decode cX16_exchange 299 = .ok (.getfield 10, 3) := by decide +kernel
theorem dX16_exchange_302 : decode cX16_exchange 302 = .ok (.iload_n 1, 1) := by decide +kernel
theorem dX16_exchange_303 : decode cX16_exchange 303 = .ok (.invokevirtual 94, 3) := by decide +kernel
theorem dX16_exchange_306 : decode cX16_exchange 306 = .ok (.checkcast 68, 3) := by decide +kernel
theorem dX16_exchange_309 : decode cX16_exchange 309 = .ok (.getfield 164, 3) := by decide +kernel
theorem dX16_exchange_312 : decode cX16_exchange 312 = .ok (.aload 5, 2) := by decide +kernel
theorem dX16_exchange_314 : decode cX16_exchange 314 = .ok (.invokevirtual 185, 3) := by decide +kernel
theorem dX16_exchange_317 : decode cX16_exchange 317 = .ok (.pop, 1) := by decide +kernel
theorem dX16_exchange_318 : decode cX16_exchange 318 = .ok (.aload 6, 2) := by decide +kernel
theorem dX16_exchange_320 : decode cX16_exchange 320 = .ok (.getfield 169, 3) := by decide +kernel
theorem dX16_exchange_323 : decode cX16_exchange 323 = .ok (.aload 7, 2) := by decide +kernel
theorem dX16_exchange_325 : decode cX16_exchange 325 = .ok (.getfield 169, 3) := by decide +kernel
theorem dX16_exchange_328 : decode cX16_exchange 328 = .ok (.if_icmp .eq 7, 3) := by decide +kernel
theorem dX16_exchange_331 : decode cX16_exchange 331 = .ok (.iconst 1, 1) := by decide +kernel
theorem dX16_exchange_332 : decode cX16_exchange 332 = .ok (.goto 4, 3) := by decide +kernel
theorem dX16_exchange_335 : decode cX16_exchange 335 = .ok (.iconst 0, 1) := by decide +kernel
theorem dX16_exchange_336 : decode cX16_exchange 336 = .ok (.ireturn, 1) := by decide +kernel
theorem dX16_turnAt_0 : decode cX16_turnAt 0 = .ok (.aload_n 0, 1) := by decide +kernel
theorem dX16_turnAt_1 : decode cX16_turnAt 1 = .ok (.aload_n 0, 1) := by decide +kernel
theorem dX16_turnAt_2 : decode cX16_turnAt 2 = .ok (.iload_n 1, 1) := by decide +kernel
theorem dX16_turnAt_3 : decode cX16_turnAt 3 = .ok (.invokevirtual 84, 3) := by decide +kernel
theorem dX16_turnAt_6 : decode cX16_turnAt 6 = .ok (.ifCond .ne 7, 3) := by decide +kernel
theorem dX16_turnAt_9 : decode cX16_turnAt 9 = .ok (.iconst 1, 1) := by decide +kernel
theorem dX16_turnAt_10 : decode cX16_turnAt 10 = .ok (.goto 37, 3) := by decide +kernel
theorem dX16_turnAt_13 : decode cX16_turnAt 13 = .ok (.iload_n 2, 1) := by decide +kernel
theorem dX16_turnAt_14 : decode cX16_turnAt 14 = .ok (.i2l, 1) := by decide +kernel
theorem dX16_turnAt_15 : decode cX16_turnAt 15 = .ok (.lconst 0, 1) := by decide +kernel
theorem dX16_turnAt_16 : decode cX16_turnAt 16 = .ok (.aload_n 0, 1) := by decide +kernel
theorem dX16_turnAt_17 : decode cX16_turnAt 17 = .ok (.getfield 10, 3) := by decide +kernel
theorem dX16_turnAt_20 : decode cX16_turnAt 20 = .ok (.iload_n 1, 1) := by decide +kernel
theorem dX16_turnAt_21 : decode cX16_turnAt 21 = .ok (.invokevirtual 94, 3) := by decide +kernel
theorem dX16_turnAt_24 : decode cX16_turnAt 24 = .ok (.checkcast 68, 3) := by decide +kernel
theorem dX16_turnAt_27 : decode cX16_turnAt 27 = .ok (.getfield 164, 3) := by decide +kernel
theorem dX16_turnAt_30 : decode cX16_turnAt 30 = .ok (.invokevirtual 46, 3) := by decide +kernel
theorem dX16_turnAt_33 : decode cX16_turnAt 33 = .ok (.iconst 1, 1) := by decide +kernel
theorem dX16_turnAt_34 : decode cX16_turnAt 34 = .ok (.isub, 1) := by decide +kernel
theorem dX16_turnAt_35 : decode cX16_turnAt 35 = .ok (.i2l, 1) := by decide +kernel
theorem dX16_turnAt_36 : decode cX16_turnAt 36 = .ok (.invokestatic 50, 3) := by decide +kernel
theorem dX16_turnAt_39 : decode cX16_turnAt 39 = .ok (.ifCond .ne 7, 3) := by decide +kernel
theorem dX16_turnAt_42 : decode cX16_turnAt 42 = .ok (.iconst 2, 1) := by decide +kernel
theorem dX16_turnAt_43 : decode cX16_turnAt 43 = .ok (.goto 4, 3) := by decide +kernel
theorem dX16_turnAt_46 : decode cX16_turnAt 46 = .ok (.iconst 0, 1) := by decide +kernel
theorem dX16_turnAt_47 : decode cX16_turnAt 47 = .ok (.putfield 43, 3) := by decide +kernel
theorem dX16_turnAt_50 : decode cX16_turnAt 50 = .ok (.aload_n 0, 1) := by decide +kernel
theorem dX16_turnAt_51 : decode cX16_turnAt 51 = .ok (.getfield 43, 3) := by decide +kernel
theorem dX16_turnAt_54 : decode cX16_turnAt 54 = .ok (.ifCond .le 7, 3) := by decide +kernel
theorem dX16_turnAt_57 : decode cX16_turnAt 57 = .ok (.iconst 0, 1) := by decide +kernel
theorem dX16_turnAt_58 : decode cX16_turnAt 58 = .ok (.goto 27, 3) := by decide +kernel
theorem dX16_turnAt_61 : decode cX16_turnAt 61 = .ok (.aload_n 0, 1) := by decide +kernel
theorem dX16_turnAt_62 : decode cX16_turnAt 62 = .ok (.getfield 10, 3) := by decide +kernel
theorem dX16_turnAt_65 : decode cX16_turnAt 65 = .ok (.iload_n 1, 1) := by decide +kernel
theorem dX16_turnAt_66 : decode cX16_turnAt 66 = .ok (.invokevirtual 94, 3) := by decide +kernel
theorem dX16_turnAt_69 : decode cX16_turnAt 69 = .ok (.checkcast 68, 3) := by decide +kernel
theorem dX16_turnAt_72 : decode cX16_turnAt 72 = .ok (.getfield 164, 3) := by decide +kernel
theorem dX16_turnAt_75 : decode cX16_turnAt 75 = .ok (.iload_n 2, 1) := by decide +kernel
theorem dX16_turnAt_76 : decode cX16_turnAt 76 = .ok (.invokevirtual 94, 3) := by decide +kernel
theorem dX16_turnAt_79 : decode cX16_turnAt 79 = .ok (.checkcast 167, 3) := by decide +kernel
theorem dX16_turnAt_82 : decode cX16_turnAt 82 = .ok (.getfield 169, 3) := by decide +kernel
theorem dX16_turnAt_85 : decode cX16_turnAt 85 = .ok (.ireturn, 1) := by decide +kernel
theorem dX16_setRain_0 : decode cX16_setRain 0 = .ok (.aload_n 0, 1) := by decide +kernel
theorem dX16_setRain_1 : decode cX16_setRain 1 = .ok (.iload_n 1, 1) := by decide +kernel
theorem dX16_setRain_2 : decode cX16_setRain 2 = .ok (.i2l, 1) := by decide +kernel
theorem dX16_setRain_3 : decode cX16_setRain 3 = .ok (.ldc2_w 92, 3) := by decide +kernel
theorem dX16_setRain_6 : decode cX16_setRain 6 = .ok (.ldc2_w 102, 3) := by decide +kernel
theorem dX16_setRain_9 : decode cX16_setRain 9 = .ok (.invokestatic 50, 3) := by decide +kernel
theorem dX16_setRain_12 : decode cX16_setRain 12 = .ok (.ifCond .eq 20, 3) := by decide +kernel
theorem dX16_setRain_15 : decode cX16_setRain 15 = .ok (.iload_n 2, 1) := by decide +kernel
theorem dX16_setRain_16 : decode cX16_setRain 16 = .ok (.i2l, 1) := by decide +kernel
theorem dX16_setRain_17 : decode cX16_setRain 17 = .ok (.iload_n 1, 1) := by decide +kernel
theorem dX16_setRain_18 : decode cX16_setRain 18 = .ok (.i2l, 1) := by decide +kernel
theorem dX16_setRain_19 : decode cX16_setRain 19 = .ok (.ldc2_w 102, 3) := by decide +kernel
theorem dX16_setRain_22 : decode cX16_setRain 22 = .ok (.invokestatic 50, 3) := by decide +kernel
theorem dX16_setRain_25 : decode cX16_setRain 25 = .ok (.ifCond .eq 7, 3) := by decide +kernel
theorem dX16_setRain_28 : decode cX16_setRain 28 = .ok (.iconst 0, 1) := by decide +kernel
theorem dX16_setRain_29 : decode cX16_setRain 29 = .ok (.goto 4, 3) := by decide +kernel
theorem dX16_setRain_32 : decode cX16_setRain 32 = .ok (.iconst 1, 1) := by decide +kernel
theorem dX16_setRain_33 : decode cX16_setRain 33 = .ok (.putfield 43, 3) := by decide +kernel
theorem dX16_setRain_36 : decode cX16_setRain 36 = .ok (.aload_n 0, 1) := by decide +kernel
theorem dX16_setRain_37 : decode cX16_setRain 37 = .ok (.getfield 43, 3) := by decide +kernel
theorem dX16_setRain_40 : decode cX16_setRain 40 = .ok (.ifCond .le 5, 3) := by decide +kernel
theorem dX16_setRain_43 : decode cX16_setRain 43 = .ok (.iconst 0, 1) := by decide +kernel
theorem dX16_setRain_44 : decode cX16_setRain 44 = .ok (.ireturn, 1) := by decide +kernel
theorem dX16_setRain_45 : decode cX16_setRain 45 = .ok (.aload_n 0, 1) := by decide +kernel
theorem dX16_setRain_46 : decode cX16_setRain 46 = .ok (.getfield 37, 3) := by decide +kernel
theorem dX16_setRain_49 : decode cX16_setRain 49 = .ok (.aload_n 0, 1) := by decide +kernel
theorem dX16_setRain_50 : decode cX16_setRain 50 = .ok (.getfield 189, 3) := by decide +kernel
theorem dX16_setRain_53 : decode cX16_setRain 53 = .ok (.if_icmp .ge 7, 3) := by decide +kernel
theorem dX16_setRain_56 : decode cX16_setRain 56 = .ok (.iconst 0, 1) := by decide +kernel
theorem dX16_setRain_57 : decode cX16_setRain 57 = .ok (.goto 14, 3) := by decide +kernel
theorem dX16_setRain_60 : decode cX16_setRain 60 = .ok (.aload_n 0, 1) := by decide +kernel
theorem dX16_setRain_61 : decode cX16_setRain 61 = .ok (.getfield 37, 3) := by decide +kernel
theorem dX16_setRain_64 : decode cX16_setRain 64 = .ok (.aload_n 0, 1) := by decide +kernel
theorem dX16_setRain_65 : decode cX16_setRain 65 = .ok (.getfield 189, 3) := by decide +kernel
theorem dX16_setRain_68 : decode cX16_setRain 68 = .ok (.isub, 1) := by decide +kernel
theorem dX16_setRain_69 : decode cX16_setRain 69 = .ok (.iconst 1, 1) := by decide +kernel
theorem dX16_setRain_70 : decode cX16_setRain 70 = .ok (.iadd, 1) := by decide +kernel
theorem dX16_setRain_71 : decode cX16_setRain 71 = .ok (.istore_n 3, 1) := by decide +kernel
theorem dX16_setRain_72 : decode cX16_setRain 72 = .ok (.aload_n 0, 1) := by decide +kernel
theorem dX16_setRain_73 : decode cX16_setRain 73 = .ok (.iload_n 1, 1) := by decide +kernel
theorem dX16_setRain_74 : decode cX16_setRain 74 = .ok (.putfield 189, 3) := by decide +kernel
theorem dX16_setRain_77 : decode cX16_setRain 77 = .ok (.aload_n 0, 1) := by decide +kernel
theorem dX16_setRain_78 : decode cX16_setRain 78 = .ok (.iload_n 2, 1) := by decide +kernel
theorem dX16_setRain_79 : decode cX16_setRain 79 = .ok (.putfield 37, 3) := by decide +kernel
theorem dX16_setRain_82 : decode cX16_setRain 82 = .ok (.iload_n 3, 1) := by decide +kernel
theorem dX16_setRain_83 : decode cX16_setRain 83 = .ok (.ireturn, 1) := by decide +kernel
theorem dX16_setCold_0 : decode cX16_setCold 0 = .ok (.aload_n 0, 1) := by decide +kernel
theorem dX16_setCold_1 : decode cX16_setCold 1 = .ok (.iload_n 1, 1) := by decide +kernel
theorem dX16_setCold_2 : decode cX16_setCold 2 = .ok (.i2l, 1) := by decide +kernel
theorem dX16_setCold_3 : decode cX16_setCold 3 = .ok (.lconst 0, 1) := by decide +kernel
theorem dX16_setCold_4 : decode cX16_setCold 4 = .ok (.ldc2_w 192, 3) := by decide +kernel
theorem dX16_setCold_7 : decode cX16_setCold 7 = .ok (.invokestatic 50, 3) := by decide +kernel
theorem dX16_setCold_10 : decode cX16_setCold 10 = .ok (.ifCond .eq 7, 3) := by decide +kernel
theorem dX16_setCold_13 : decode cX16_setCold 13 = .ok (.iconst 0, 1) := by decide +kernel
theorem dX16_setCold_14 : decode cX16_setCold 14 = .ok (.goto 4, 3) := by decide +kernel
theorem dX16_setCold_17 : decode cX16_setCold 17 = .ok (.iconst 1, 1) := by decide +kernel
theorem dX16_setCold_18 : decode cX16_setCold 18 = .ok (.putfield 43, 3) := by decide +kernel
theorem dX16_setCold_21 : decode cX16_setCold 21 = .ok (.aload_n 0, 1) := by decide +kernel
theorem dX16_setCold_22 : decode cX16_setCold 22 = .ok (.getfield 43, 3) := by decide +kernel
theorem dX16_setCold_25 : decode cX16_setCold 25 = .ok (.ifCond .le 5, 3) := by decide +kernel
theorem dX16_setCold_28 : decode cX16_setCold 28 = .ok (.iconst 0, 1) := by decide +kernel
theorem dX16_setCold_29 : decode cX16_setCold 29 = .ok (.ireturn, 1) := by decide +kernel
theorem dX16_setCold_30 : decode cX16_setCold 30 = .ok (.aload_n 0, 1) := by decide +kernel
theorem dX16_setCold_31 : decode cX16_setCold 31 = .ok (.getfield 194, 3) := by decide +kernel
theorem dX16_setCold_34 : decode cX16_setCold 34 = .ok (.istore_n 2, 1) := by decide +kernel
theorem dX16_setCold_35 : decode cX16_setCold 35 = .ok (.aload_n 0, 1) := by decide +kernel
theorem dX16_setCold_36 : decode cX16_setCold 36 = .ok (.iload_n 1, 1) := by decide +kernel
theorem dX16_setCold_37 : decode cX16_setCold 37 = .ok (.putfield 194, 3) := by decide +kernel
theorem dX16_setCold_40 : decode cX16_setCold 40 = .ok (.iload_n 2, 1) := by decide +kernel
theorem dX16_setCold_41 : decode cX16_setCold 41 = .ok (.ireturn, 1) := by decide +kernel
theorem dX16_setLaw_0 : decode cX16_setLaw 0 = .ok (.aload_n 0, 1) := by decide +kernel
theorem dX16_setLaw_1 : decode cX16_setLaw 1 = .ok (.iload_n 1, 1) := by decide +kernel
theorem dX16_setLaw_2 : decode cX16_setLaw 2 = .ok (.i2l, 1) := by decide +kernel
theorem dX16_setLaw_3 : decode cX16_setLaw 3 = .ok (.lconst 0, 1) := by decide +kernel
theorem dX16_setLaw_4 : decode cX16_setLaw 4 = .ok (.ldc2_w 73, 3) := by decide +kernel
theorem dX16_setLaw_7 : decode cX16_setLaw 7 = .ok (.invokestatic 50, 3) := by decide +kernel
theorem dX16_setLaw_10 : decode cX16_setLaw 10 = .ok (.ifCond .eq 19, 3) := by decide +kernel
theorem dX16_setLaw_13 : decode cX16_setLaw 13 = .ok (.iload_n 2, 1) := by decide +kernel
theorem dX16_setLaw_14 : decode cX16_setLaw 14 = .ok (.i2l, 1) := by decide +kernel
theorem dX16_setLaw_15 : decode cX16_setLaw 15 = .ok (.lconst 0, 1) := by decide +kernel
theorem dX16_setLaw_16 : decode cX16_setLaw 16 = .ok (.ldc2_w 73, 3) := by decide +kernel
theorem dX16_setLaw_19 : decode cX16_setLaw 19 = .ok (.invokestatic 50, 3) := by decide +kernel
theorem dX16_setLaw_22 : decode cX16_setLaw 22 = .ok (.ifCond .eq 7, 3) := by decide +kernel
theorem dX16_setLaw_25 : decode cX16_setLaw 25 = .ok (.iconst 0, 1) := by decide +kernel
theorem dX16_setLaw_26 : decode cX16_setLaw 26 = .ok (.goto 4, 3) := by decide +kernel
theorem dX16_setLaw_29 : decode cX16_setLaw 29 = .ok (.iconst 1, 1) := by decide +kernel
theorem dX16_setLaw_30 : decode cX16_setLaw 30 = .ok (.putfield 43, 3) := by decide +kernel
theorem dX16_setLaw_33 : decode cX16_setLaw 33 = .ok (.aload_n 0, 1) := by decide +kernel
theorem dX16_setLaw_34 : decode cX16_setLaw 34 = .ok (.getfield 43, 3) := by decide +kernel
theorem dX16_setLaw_37 : decode cX16_setLaw 37 = .ok (.ifCond .le 5, 3) := by decide +kernel
theorem dX16_setLaw_40 : decode cX16_setLaw 40 = .ok (.iconst 0, 1) := by decide +kernel
theorem dX16_setLaw_41 : decode cX16_setLaw 41 = .ok (.ireturn, 1) := by decide +kernel
theorem dX16_setLaw_42 : decode cX16_setLaw 42 = .ok (.aload_n 0, 1) := by decide +kernel
theorem dX16_setLaw_43 : decode cX16_setLaw 43 = .ok (.getfield 40, 3) := by decide +kernel
theorem dX16_setLaw_46 : decode cX16_setLaw 46 = .ok (.istore_n 3, 1) := by decide +kernel
theorem dX16_setLaw_47 : decode cX16_setLaw 47 = .ok (.aload_n 0, 1) := by decide +kernel
theorem dX16_setLaw_48 : decode cX16_setLaw 48 = .ok (.iload_n 1, 1) := by decide +kernel
theorem dX16_setLaw_49 : decode cX16_setLaw 49 = .ok (.putfield 40, 3) := by decide +kernel
theorem dX16_setLaw_52 : decode cX16_setLaw 52 = .ok (.aload_n 0, 1) := by decide +kernel
theorem dX16_setLaw_53 : decode cX16_setLaw 53 = .ok (.iload_n 2, 1) := by decide +kernel
theorem dX16_setLaw_54 : decode cX16_setLaw 54 = .ok (.putfield 197, 3) := by decide +kernel
theorem dX16_setLaw_57 : decode cX16_setLaw 57 = .ok (.iload_n 3, 1) := by decide +kernel
theorem dX16_setLaw_58 : decode cX16_setLaw 58 = .ok (.ireturn, 1) := by decide +kernel
theorem dX16_addVisit_0 : decode cX16_addVisit 0 = .ok (.aload_n 0, 1) := by decide +kernel
theorem dX16_addVisit_1 : decode cX16_addVisit 1 = .ok (.aload_n 0, 1) := by decide +kernel
theorem dX16_addVisit_2 : decode cX16_addVisit 2 = .ok (.iload_n 1, 1) := by decide +kernel
theorem dX16_addVisit_3 : decode cX16_addVisit 3 = .ok (.invokevirtual 84, 3) := by decide +kernel
theorem dX16_addVisit_6 : decode cX16_addVisit 6 = .ok (.ifCond .ne 7, 3) := by decide +kernel
theorem dX16_addVisit_9 : decode cX16_addVisit 9 = .ok (.iconst 1, 1) := by decide +kernel
theorem dX16_addVisit_10 : decode cX16_addVisit 10 = .ok (.goto 45, 3) := by decide +kernel
theorem dX16_addVisit_13 : decode cX16_addVisit 13 = .ok (.iload_n 2, 1) := by decide +kernel
theorem dX16_addVisit_14 : decode cX16_addVisit 14 = .ok (.i2l, 1) := by decide +kernel

/-! DECODE rows (printed) -/
theorem dX7_hasTurnsApart_30 : decode cX7_hasTurnsApart 30 = .ok (.iconst 0, 1) := by decide +kernel
theorem dX7_hasTurnsApart_31 : decode cX7_hasTurnsApart 31 = .ok (.ireturn, 1) := by decide +kernel
theorem dX7_hasTurnsApart_32 : decode cX7_hasTurnsApart 32 = .ok (.iinc 1 1, 3) := by decide +kernel
theorem dX7_hasTurnsApart_35 : decode cX7_hasTurnsApart 35 = .ok (.goto (-33), 3) := by decide +kernel
theorem dX7_hasTurnsApart_38 : decode cX7_hasTurnsApart 38 = .ok (.iconst 1, 1) := by decide +kernel
theorem dX7_hasTurnsApart_39 : decode cX7_hasTurnsApart 39 = .ok (.ireturn, 1) := by decide +kernel
theorem dX8_init_0 : decode cX8_init 0 = .ok (.aload_n 0, 1) := by decide +kernel
theorem dX8_init_1 : decode cX8_init 1 = .ok (.invokespecial 3, 3) := by decide +kernel
theorem dX8_init_4 : decode cX8_init 4 = .ok (.aload_n 0, 1) := by decide +kernel
theorem dX8_init_5 : decode cX8_init 5 = .ok (.aload_n 1, 1) := by decide +kernel
theorem dX8_init_6 : decode cX8_init 6 = .ok (.putfield 9, 3) := by decide +kernel
theorem dX8_init_9 : decode cX8_init 9 = .ok (.return_, 1) := by decide +kernel
theorem dX8_open_0 : decode cX8_open 0 = .ok (.aload_n 0, 1) := by decide +kernel
theorem dX8_open_1 : decode cX8_open 1 = .ok (.iload_n 1, 1) := by decide +kernel
theorem dX8_open_2 : decode cX8_open 2 = .ok (.putfield 15, 3) := by decide +kernel
theorem dX8_open_5 : decode cX8_open 5 = .ok (.aload_n 0, 1) := by decide +kernel
theorem dX8_open_6 : decode cX8_open 6 = .ok (.aload_n 0, 1) := by decide +kernel
theorem dX8_open_7 : decode cX8_open 7 = .ok (.iload_n 1, 1) := by decide +kernel
theorem dX8_open_8 : decode cX8_open 8 = .ok (.invokevirtual 19, 3) := by decide +kernel
theorem dX8_open_11 : decode cX8_open 11 = .ok (.putfield 23, 3) := by decide +kernel
theorem dX8_open_14 : decode cX8_open 14 = .ok (.aload_n 0, 1) := by decide +kernel
theorem dX8_open_15 : decode cX8_open 15 = .ok (.iconst 1, 1) := by decide +kernel
theorem dX8_open_16 : decode cX8_open 16 = .ok (.putfield 26, 3) := by decide +kernel
theorem dX8_open_19 : decode cX8_open 19 = .ok (.return_, 1) := by decide +kernel
theorem dX8_lastIfBegunAt_0 : decode cX8_lastIfBegunAt 0 = .ok (.iload_n 1, 1) := by decide +kernel
theorem dX8_lastIfBegunAt_1 : decode cX8_lastIfBegunAt 1 = .ok (.aload_n 0, 1) := by decide +kernel
theorem dX8_lastIfBegunAt_2 : decode cX8_lastIfBegunAt 2 = .ok (.getfield 9, 3) := by decide +kernel
theorem dX8_lastIfBegunAt_5 : decode cX8_lastIfBegunAt 5 = .ok (.getfield 30, 3) := by decide +kernel
theorem dX8_lastIfBegunAt_8 : decode cX8_lastIfBegunAt 8 = .ok (.iadd, 1) := by decide +kernel
theorem dX8_lastIfBegunAt_9 : decode cX8_lastIfBegunAt 9 = .ok (.iconst 1, 1) := by decide +kernel
theorem dX8_lastIfBegunAt_10 : decode cX8_lastIfBegunAt 10 = .ok (.isub, 1) := by decide +kernel
theorem dX8_lastIfBegunAt_11 : decode cX8_lastIfBegunAt 11 = .ok (.ireturn, 1) := by decide +kernel
theorem dX8_move_0 : decode cX8_move 0 = .ok (.aload_n 0, 1) := by decide +kernel
theorem dX8_move_1 : decode cX8_move 1 = .ok (.dup, 1) := by decide +kernel
theorem dX8_move_2 : decode cX8_move 2 = .ok (.getfield 35, 3) := by decide +kernel
theorem dX8_move_5 : decode cX8_move 5 = .ok (.iload_n 1, 1) := by decide +kernel
theorem dX8_move_6 : decode cX8_move 6 = .ok (.iload_n 2, 1) := by decide +kernel
theorem dX8_move_7 : decode cX8_move 7 = .ok (.isub, 1) := by decide +kernel
theorem dX8_move_8 : decode cX8_move 8 = .ok (.iadd, 1) := by decide +kernel
theorem dX8_move_9 : decode cX8_move 9 = .ok (.putfield 35, 3) := by decide +kernel
theorem dX8_move_12 : decode cX8_move 12 = .ok (.aload_n 0, 1) := by decide +kernel
theorem dX8_move_13 : decode cX8_move 13 = .ok (.aload_n 0, 1) := by decide +kernel
theorem dX8_move_14 : decode cX8_move 14 = .ok (.getfield 38, 3) := by decide +kernel
theorem dX8_move_17 : decode cX8_move 17 = .ok (.aload_n 0, 1) := by decide +kernel
theorem dX8_move_18 : decode cX8_move 18 = .ok (.getfield 35, 3) := by decide +kernel
theorem dX8_move_21 : decode cX8_move 21 = .ok (.invokestatic 41, 3) := by decide +kernel
theorem dX8_move_24 : decode cX8_move 24 = .ok (.putfield 38, 3) := by decide +kernel
theorem dX8_move_27 : decode cX8_move 27 = .ok (.return_, 1) := by decide +kernel
theorem dX8_breaksNow_0 : decode cX8_breaksNow 0 = .ok (.aload_n 0, 1) := by decide +kernel
theorem dX8_breaksNow_1 : decode cX8_breaksNow 1 = .ok (.getfield 38, 3) := by decide +kernel
theorem dX8_breaksNow_4 : decode cX8_breaksNow 4 = .ok (.bipush 10, 2) := by decide +kernel
theorem dX8_breaksNow_6 : decode cX8_breaksNow 6 = .ok (.if_icmp .lt 15, 3) := by decide +kernel
theorem dX8_breaksNow_9 : decode cX8_breaksNow 9 = .ok (.aload_n 0, 1) := by decide +kernel
theorem dX8_breaksNow_10 : decode cX8_breaksNow 10 = .ok (.getfield 35, 3) := by decide +kernel
theorem dX8_breaksNow_13 : decode cX8_breaksNow 13 = .ok (.iconst 3, 1) := by decide +kernel
theorem dX8_breaksNow_14 : decode cX8_breaksNow 14 = .ok (.if_icmp .ge 7, 3) := by decide +kernel
theorem dX8_breaksNow_17 : decode cX8_breaksNow 17 = .ok (.iconst 1, 1) := by decide +kernel
theorem dX8_breaksNow_18 : decode cX8_breaksNow 18 = .ok (.goto 4, 3) := by decide +kernel
theorem dX8_breaksNow_21 : decode cX8_breaksNow 21 = .ok (.iconst 0, 1) := by decide +kernel
theorem dX8_breaksNow_22 : decode cX8_breaksNow 22 = .ok (.ireturn, 1) := by decide +kernel
theorem dX8_breakAt_0 : decode cX8_breakAt 0 = .ok (.aload_n 0, 1) := by decide +kernel
theorem dX8_breakAt_1 : decode cX8_breakAt 1 = .ok (.iconst 1, 1) := by decide +kernel
theorem dX8_breakAt_2 : decode cX8_breakAt 2 = .ok (.putfield 47, 3) := by decide +kernel
theorem dX8_breakAt_5 : decode cX8_breakAt 5 = .ok (.aload_n 0, 1) := by decide +kernel
theorem dX8_breakAt_6 : decode cX8_breakAt 6 = .ok (.iload_n 1, 1) := by decide +kernel
theorem dX8_breakAt_7 : decode cX8_breakAt 7 = .ok (.putfield 23, 3) := by decide +kernel
theorem dX8_breakAt_10 : decode cX8_breakAt 10 = .ok (.return_, 1) := by decide +kernel
theorem dX8_passHat_0 : decode cX8_passHat 0 = .ok (.aload_n 0, 1) := by decide +kernel
theorem dX8_passHat_1 : decode cX8_passHat 1 = .ok (.getfield 35, 3) := by decide +kernel
theorem dX8_passHat_4 : decode cX8_passHat 4 = .ok (.iconst 3, 1) := by decide +kernel
theorem dX8_passHat_5 : decode cX8_passHat 5 = .ok (.imul, 1) := by decide +kernel
theorem dX8_passHat_6 : decode cX8_passHat 6 = .ok (.aload_n 0, 1) := by decide +kernel
theorem dX8_passHat_7 : decode cX8_passHat 7 = .ok (.getfield 9, 3) := by decide +kernel
theorem dX8_passHat_10 : decode cX8_passHat 10 = .ok (.getfield 50, 3) := by decide +kernel
theorem dX8_passHat_13 : decode cX8_passHat 13 = .ok (.imul, 1) := by decide +kernel
theorem dX8_passHat_14 : decode cX8_passHat 14 = .ok (.bipush 100, 2) := by decide +kernel
theorem dX8_passHat_16 : decode cX8_passHat 16 = .ok (.idiv, 1) := by decide +kernel
theorem dX8_passHat_17 : decode cX8_passHat 17 = .ok (.istore_n 2, 1) := by decide +kernel
theorem dX8_passHat_18 : decode cX8_passHat 18 = .ok (.aload_n 0, 1) := by decide +kernel
theorem dX8_passHat_19 : decode cX8_passHat 19 = .ok (.getfield 35, 3) := by decide +kernel
theorem dX8_passHat_22 : decode cX8_passHat 22 = .ok (.iload_n 2, 1) := by decide +kernel
theorem dX8_passHat_23 : decode cX8_passHat 23 = .ok (.isub, 1) := by decide +kernel
theorem dX8_passHat_24 : decode cX8_passHat 24 = .ok (.aload_n 0, 1) := by decide +kernel
theorem dX8_passHat_25 : decode cX8_passHat 25 = .ok (.getfield 9, 3) := by decide +kernel
theorem dX8_passHat_28 : decode cX8_passHat 28 = .ok (.getfield 53, 3) := by decide +kernel
theorem dX8_passHat_31 : decode cX8_passHat 31 = .ok (.aload_n 0, 1) := by decide +kernel
theorem dX8_passHat_32 : decode cX8_passHat 32 = .ok (.getfield 9, 3) := by decide +kernel
theorem dX8_passHat_35 : decode cX8_passHat 35 = .ok (.getfield 50, 3) := by decide +kernel
theorem dX8_passHat_38 : decode cX8_passHat 38 = .ok (.iadd, 1) := by decide +kernel
theorem dX8_passHat_39 : decode cX8_passHat 39 = .ok (.imul, 1) := by decide +kernel
theorem dX8_passHat_40 : decode cX8_passHat 40 = .ok (.istore_n 3, 1) := by decide +kernel
theorem dX8_passHat_41 : decode cX8_passHat 41 = .ok (.aload_n 0, 1) := by decide +kernel
theorem dX8_passHat_42 : decode cX8_passHat 42 = .ok (.iload_n 1, 1) := by decide +kernel
theorem dX8_passHat_43 : decode cX8_passHat 43 = .ok (.ifCond .eq 9, 3) := by decide +kernel
theorem dX8_passHat_46 : decode cX8_passHat 46 = .ok (.iload_n 3, 1) := by decide +kernel
theorem dX8_passHat_47 : decode cX8_passHat 47 = .ok (.iconst 2, 1) := by decide +kernel
theorem dX8_passHat_48 : decode cX8_passHat 48 = .ok (.idiv, 1) := by decide +kernel
theorem dX8_passHat_49 : decode cX8_passHat 49 = .ok (.goto 4, 3) := by decide +kernel
theorem dX8_passHat_52 : decode cX8_passHat 52 = .ok (.iload_n 3, 1) := by decide +kernel
theorem dX8_passHat_53 : decode cX8_passHat 53 = .ok (.putfield 56, 3) := by decide +kernel
theorem dX8_passHat_56 : decode cX8_passHat 56 = .ok (.return_, 1) := by decide +kernel
theorem dX8_wasGood_0 : decode cX8_wasGood 0 = .ok (.aload_n 0, 1) := by decide +kernel
theorem dX8_wasGood_1 : decode cX8_wasGood 1 = .ok (.getfield 26, 3) := by decide +kernel
theorem dX8_wasGood_4 : decode cX8_wasGood 4 = .ok (.ifCond .eq 14, 3) := by decide +kernel
theorem dX8_wasGood_7 : decode cX8_wasGood 7 = .ok (.aload_n 0, 1) := by decide +kernel
theorem dX8_wasGood_8 : decode cX8_wasGood 8 = .ok (.getfield 47, 3) := by decide +kernel
theorem dX8_wasGood_11 : decode cX8_wasGood 11 = .ok (.ifCond .ne 7, 3) := by decide +kernel
theorem dX8_wasGood_14 : decode cX8_wasGood 14 = .ok (.iconst 1, 1) := by decide +kernel
theorem dX8_wasGood_15 : decode cX8_wasGood 15 = .ok (.goto 4, 3) := by decide +kernel
theorem dX8_wasGood_18 : decode cX8_wasGood 18 = .ok (.iconst 0, 1) := by decide +kernel
theorem dX8_wasGood_19 : decode cX8_wasGood 19 = .ok (.ireturn, 1) := by decide +kernel
theorem dX8_tell_0 : decode cX8_tell 0 = .ok (.iload_n 1, 1) := by decide +kernel
theorem dX8_tell_1 : decode cX8_tell 1 = .ok (.lookupswitch 76 #[(98, 51), (99, 71), (101, 56), (109, 61), (115, 66)], 51) := by decide +kernel
theorem dX8_tell_52 : decode cX8_tell 52 = .ok (.aload_n 0, 1) := by decide +kernel
theorem dX8_tell_53 : decode cX8_tell 53 = .ok (.getfield 15, 3) := by decide +kernel
theorem dX8_tell_56 : decode cX8_tell 56 = .ok (.ireturn, 1) := by decide +kernel
theorem dX8_tell_57 : decode cX8_tell 57 = .ok (.aload_n 0, 1) := by decide +kernel
theorem dX8_tell_58 : decode cX8_tell 58 = .ok (.getfield 23, 3) := by decide +kernel
theorem dX8_tell_61 : decode cX8_tell 61 = .ok (.ireturn, 1) := by decide +kernel
theorem dX8_tell_62 : decode cX8_tell 62 = .ok (.aload_n 0, 1) := by decide +kernel
theorem dX8_tell_63 : decode cX8_tell 63 = .ok (.getfield 38, 3) := by decide +kernel
theorem dX8_tell_66 : decode cX8_tell 66 = .ok (.ireturn, 1) := by decide +kernel
theorem dX8_tell_67 : decode cX8_tell 67 = .ok (.aload_n 0, 1) := by decide +kernel
theorem dX8_tell_68 : decode cX8_tell 68 = .ok (.getfield 35, 3) := by decide +kernel
theorem dX8_tell_71 : decode cX8_tell 71 = .ok (.ireturn, 1) := by decide +kernel
theorem dX8_tell_72 : decode cX8_tell 72 = .ok (.aload_n 0, 1) := by decide +kernel
theorem dX8_tell_73 : decode cX8_tell 73 = .ok (.getfield 56, 3) := by decide +kernel
theorem dX8_tell_76 : decode cX8_tell 76 = .ok (.ireturn, 1) := by decide +kernel
theorem dX8_tell_77 : decode cX8_tell 77 = .ok (.aload_n 0, 1) := by decide +kernel
theorem dX8_tell_78 : decode cX8_tell 78 = .ok (.getfield 59, 3) := by decide +kernel
theorem dX8_tell_81 : decode cX8_tell 81 = .ok (.ireturn, 1) := by decide +kernel
theorem dX9_init_0 : decode cX9_init 0 = .ok (.aload_n 0, 1) := by decide +kernel
theorem dX9_init_1 : decode cX9_init 1 = .ok (.invokespecial 1, 3) := by decide +kernel
theorem dX9_init_4 : decode cX9_init 4 = .ok (.aload_n 0, 1) := by decide +kernel
theorem dX9_init_5 : decode cX9_init 5 = .ok (.aload_n 1, 1) := by decide +kernel
theorem dX9_init_6 : decode cX9_init 6 = .ok (.putfield 7, 3) := by decide +kernel
theorem dX9_init_9 : decode cX9_init 9 = .ok (.aload_n 0, 1) := by decide +kernel
theorem dX9_init_10 : decode cX9_init 10 = .ok (.iload_n 2, 1) := by decide +kernel
theorem dX9_init_11 : decode cX9_init 11 = .ok (.putfield 13, 3) := by decide +kernel
theorem dX9_init_14 : decode cX9_init 14 = .ok (.aload_n 0, 1) := by decide +kernel
theorem dX9_init_15 : decode cX9_init 15 = .ok (.bipush 45, 2) := by decide +kernel
theorem dX9_init_17 : decode cX9_init 17 = .ok (.putfield 17, 3) := by decide +kernel
theorem dX9_init_20 : decode cX9_init 20 = .ok (.return_, 1) := by decide +kernel
theorem dX9_fine_0 : decode cX9_fine 0 = .ok (.aload_n 0, 1) := by decide +kernel
theorem dX9_fine_1 : decode cX9_fine 1 = .ok (.aload_n 0, 1) := by decide +kernel
theorem dX9_fine_2 : decode cX9_fine 2 = .ok (.getfield 17, 3) := by decide +kernel
theorem dX9_fine_5 : decode cX9_fine 5 = .ok (.bipush 45, 2) := by decide +kernel
theorem dX9_fine_7 : decode cX9_fine 7 = .ok (.if_icmp .ne 7, 3) := by decide +kernel
theorem dX9_fine_10 : decode cX9_fine 10 = .ok (.iload_n 1, 1) := by decide +kernel
theorem dX9_fine_11 : decode cX9_fine 11 = .ok (.goto 7, 3) := by decide +kernel
theorem dX9_fine_14 : decode cX9_fine 14 = .ok (.aload_n 0, 1) := by decide +kernel
theorem dX9_fine_15 : decode cX9_fine 15 = .ok (.getfield 17, 3) := by decide +kernel
theorem dX9_fine_18 : decode cX9_fine 18 = .ok (.putfield 17, 3) := by decide +kernel
theorem dX9_fine_21 : decode cX9_fine 21 = .ok (.aload_n 0, 1) := by decide +kernel
theorem dX9_fine_22 : decode cX9_fine 22 = .ok (.dup, 1) := by decide +kernel
theorem dX9_fine_23 : decode cX9_fine 23 = .ok (.getfield 21, 3) := by decide +kernel
theorem dX9_fine_26 : decode cX9_fine 26 = .ok (.iload_n 2, 1) := by decide +kernel
theorem dX9_fine_27 : decode cX9_fine 27 = .ok (.iadd, 1) := by decide +kernel
theorem dX9_fine_28 : decode cX9_fine 28 = .ok (.putfield 21, 3) := by decide +kernel
theorem dX9_fine_31 : decode cX9_fine 31 = .ok (.return_, 1) := by decide +kernel
theorem dX10_init_0 : decode cX10_init 0 = .ok (.aload_n 0, 1) := by decide +kernel
theorem dX10_init_1 : decode cX10_init 1 = .ok (.invokespecial 1, 3) := by decide +kernel
theorem dX10_init_4 : decode cX10_init 4 = .ok (.aload_n 0, 1) := by decide +kernel
theorem dX10_init_5 : decode cX10_init 5 = .ok (.iconst (-1), 1) := by decide +kernel
theorem dX10_init_6 : decode cX10_init 6 = .ok (.putfield 7, 3) := by decide +kernel
theorem dX10_init_9 : decode cX10_init 9 = .ok (.return_, 1) := by decide +kernel
theorem dX10_isRaining_0 : decode cX10_isRaining 0 = .ok (.iload_n 1, 1) := by decide +kernel
theorem dX10_isRaining_1 : decode cX10_isRaining 1 = .ok (.aload_n 0, 1) := by decide +kernel
theorem dX10_isRaining_2 : decode cX10_isRaining 2 = .ok (.getfield 13, 3) := by decide +kernel
theorem dX10_isRaining_5 : decode cX10_isRaining 5 = .ok (.if_icmp .lt 15, 3) := by decide +kernel
theorem dX10_isRaining_8 : decode cX10_isRaining 8 = .ok (.iload_n 1, 1) := by decide +kernel
theorem dX10_isRaining_9 : decode cX10_isRaining 9 = .ok (.aload_n 0, 1) := by decide +kernel
theorem dX10_isRaining_10 : decode cX10_isRaining 10 = .ok (.getfield 7, 3) := by decide +kernel
theorem dX10_isRaining_13 : decode cX10_isRaining 13 = .ok (.if_icmp .gt 7, 3) := by decide +kernel
theorem dX10_isRaining_16 : decode cX10_isRaining 16 = .ok (.iconst 1, 1) := by decide +kernel
theorem dX10_isRaining_17 : decode cX10_isRaining 17 = .ok (.goto 4, 3) := by decide +kernel
theorem dX10_isRaining_20 : decode cX10_isRaining 20 = .ok (.iconst 0, 1) := by decide +kernel
theorem dX10_isRaining_21 : decode cX10_isRaining 21 = .ok (.ireturn, 1) := by decide +kernel
theorem dX10_rainMinutes_0 : decode cX10_rainMinutes 0 = .ok (.aload_n 0, 1) := by decide +kernel
theorem dX10_rainMinutes_1 : decode cX10_rainMinutes 1 = .ok (.getfield 7, 3) := by decide +kernel
theorem dX10_rainMinutes_4 : decode cX10_rainMinutes 4 = .ok (.aload_n 0, 1) := by decide +kernel
theorem dX10_rainMinutes_5 : decode cX10_rainMinutes 5 = .ok (.getfield 13, 3) := by decide +kernel
theorem dX10_rainMinutes_8 : decode cX10_rainMinutes 8 = .ok (.isub, 1) := by decide +kernel
theorem dX10_rainMinutes_9 : decode cX10_rainMinutes 9 = .ok (.iconst 1, 1) := by decide +kernel
theorem dX10_rainMinutes_10 : decode cX10_rainMinutes 10 = .ok (.iadd, 1) := by decide +kernel
theorem dX10_rainMinutes_11 : decode cX10_rainMinutes 11 = .ok (.ireturn, 1) := by decide +kernel
theorem dX10_endRain_0 : decode cX10_endRain 0 = .ok (.aload_n 0, 1) := by decide +kernel
theorem dX10_endRain_1 : decode cX10_endRain 1 = .ok (.iconst 0, 1) := by decide +kernel
theorem dX10_endRain_2 : decode cX10_endRain 2 = .ok (.putfield 13, 3) := by decide +kernel
theorem dX10_endRain_5 : decode cX10_endRain 5 = .ok (.aload_n 0, 1) := by decide +kernel
theorem dX10_endRain_6 : decode cX10_endRain 6 = .ok (.iconst (-1), 1) := by decide +kernel
theorem dX10_endRain_7 : decode cX10_endRain 7 = .ok (.putfield 7, 3) := by decide +kernel
theorem dX10_endRain_10 : decode cX10_endRain 10 = .ok (.return_, 1) := by decide +kernel
theorem dX11_init_0 : decode cX11_init 0 = .ok (.aload_n 0, 1) := by decide +kernel
theorem dX11_init_1 : decode cX11_init 1 = .ok (.invokespecial 1, 3) := by decide +kernel
theorem dX11_init_4 : decode cX11_init 4 = .ok (.aload_n 0, 1) := by decide +kernel
theorem dX11_init_5 : decode cX11_init 5 = .ok (.new 7, 3) := by decide +kernel
theorem dX11_init_8 : decode cX11_init 8 = .ok (.dup, 1) := by decide +kernel
theorem dX11_init_9 : decode cX11_init 9 = .ok (.invokespecial 9, 3) := by decide +kernel
theorem dX11_init_12 : decode cX11_init 12 = .ok (.putfield 10, 3) := by decide +kernel
theorem dX11_init_15 : decode cX11_init 15 = .ok (.aload_n 0, 1) := by decide +kernel
theorem dX11_init_16 : decode cX11_init 16 = .ok (.new 16, 3) := by decide +kernel
theorem dX11_init_19 : decode cX11_init 19 = .ok (.dup, 1) := by decide +kernel
theorem dX11_init_20 : decode cX11_init 20 = .ok (.invokespecial 18, 3) := by decide +kernel
theorem dX11_init_23 : decode cX11_init 23 = .ok (.putfield 19, 3) := by decide +kernel
theorem dX11_init_26 : decode cX11_init 26 = .ok (.aload_n 0, 1) := by decide +kernel
theorem dX11_init_27 : decode cX11_init 27 = .ok (.new 23, 3) := by decide +kernel
theorem dX11_init_30 : decode cX11_init 30 = .ok (.dup, 1) := by decide +kernel
theorem dX11_init_31 : decode cX11_init 31 = .ok (.invokespecial 25, 3) := by decide +kernel
theorem dX11_init_34 : decode cX11_init 34 = .ok (.putfield 26, 3) := by decide +kernel
theorem dX11_init_37 : decode cX11_init 37 = .ok (.aload_n 0, 1) := by decide +kernel
theorem dX11_init_38 : decode cX11_init 38 = .ok (.new 30, 3) := by decide +kernel
theorem dX11_init_41 : decode cX11_init 41 = .ok (.dup, 1) := by decide +kernel
theorem dX11_init_42 : decode cX11_init 42 = .ok (.invokespecial 32, 3) := by decide +kernel
theorem dX11_init_45 : decode cX11_init 45 = .ok (.putfield 33, 3) := by decide +kernel
theorem dX11_init_48 : decode cX11_init 48 = .ok (.aload_n 0, 1) := by decide +kernel
theorem dX11_init_49 : decode cX11_init 49 = .ok (.new 37, 3) := by decide +kernel
theorem dX11_init_52 : decode cX11_init 52 = .ok (.dup, 1) := by decide +kernel
theorem dX11_init_53 : decode cX11_init 53 = .ok (.invokespecial 39, 3) := by decide +kernel
theorem dX11_init_56 : decode cX11_init 56 = .ok (.putfield 40, 3) := by decide +kernel
theorem dX11_init_59 : decode cX11_init 59 = .ok (.aload_n 0, 1) := by decide +kernel
theorem dX11_init_60 : decode cX11_init 60 = .ok (.new 44, 3) := by decide +kernel
theorem dX11_init_63 : decode cX11_init 63 = .ok (.dup, 1) := by decide +kernel
theorem dX11_init_64 : decode cX11_init 64 = .ok (.aload_n 0, 1) := by decide +kernel
theorem dX11_init_65 : decode cX11_init 65 = .ok (.getfield 10, 3) := by decide +kernel
theorem dX11_init_68 : decode cX11_init 68 = .ok (.aload_n 0, 1) := by decide +kernel
theorem dX11_init_69 : decode cX11_init 69 = .ok (.getfield 33, 3) := by decide +kernel
theorem dX11_init_72 : decode cX11_init 72 = .ok (.aload_n 0, 1) := by decide +kernel
theorem dX11_init_73 : decode cX11_init 73 = .ok (.getfield 40, 3) := by decide +kernel
theorem dX11_init_76 : decode cX11_init 76 = .ok (.invokespecial 46, 3) := by decide +kernel
theorem dX11_init_79 : decode cX11_init 79 = .ok (.putfield 49, 3) := by decide +kernel
theorem dX11_init_82 : decode cX11_init 82 = .ok (.aload_n 0, 1) := by decide +kernel
theorem dX11_init_83 : decode cX11_init 83 = .ok (.new 53, 3) := by decide +kernel
theorem dX11_init_86 : decode cX11_init 86 = .ok (.dup, 1) := by decide +kernel
theorem dX11_init_87 : decode cX11_init 87 = .ok (.invokespecial 55, 3) := by decide +kernel
theorem dX11_init_90 : decode cX11_init 90 = .ok (.putfield 56, 3) := by decide +kernel
theorem dX11_init_93 : decode cX11_init 93 = .ok (.return_, 1) := by decide +kernel
theorem dX11_addPitch_0 : decode cX11_addPitch 0 = .ok (.iload_n 1, 1) := by decide +kernel
theorem dX11_addPitch_1 : decode cX11_addPitch 1 = .ok (.iconst 0, 1) := by decide +kernel
theorem dX11_addPitch_2 : decode cX11_addPitch 2 = .ok (.bipush 99, 2) := by decide +kernel
theorem dX11_addPitch_4 : decode cX11_addPitch 4 = .ok (.invokestatic 60, 3) := by decide +kernel
theorem dX11_addPitch_7 : decode cX11_addPitch 7 = .ok (.iload_n 2, 1) := by decide +kernel
theorem dX11_addPitch_8 : decode cX11_addPitch 8 = .ok (.iconst 0, 1) := by decide +kernel
theorem dX11_addPitch_9 : decode cX11_addPitch 9 = .ok (.bipush 9, 2) := by decide +kernel
theorem dX11_addPitch_11 : decode cX11_addPitch 11 = .ok (.invokestatic 60, 3) := by decide +kernel
theorem dX11_addPitch_14 : decode cX11_addPitch 14 = .ok (.aload_n 0, 1) := by decide +kernel
theorem dX11_addPitch_15 : decode cX11_addPitch 15 = .ok (.getfield 10, 3) := by decide +kernel
theorem dX11_addPitch_18 : decode cX11_addPitch 18 = .ok (.iload_n 1, 1) := by decide +kernel
theorem dX11_addPitch_19 : decode cX11_addPitch 19 = .ok (.invokevirtual 64, 3) := by decide +kernel
theorem dX11_addPitch_22 : decode cX11_addPitch 22 = .ok (.ifCond .eq 13, 3) := by decide +kernel
theorem dX11_addPitch_25 : decode cX11_addPitch 25 = .ok (.new 68, 3) := by decide +kernel
theorem dX11_addPitch_28 : decode cX11_addPitch 28 = .ok (.dup, 1) := by decide +kernel
theorem dX11_addPitch_29 : decode cX11_addPitch 29 = .ok (.ldc 70, 2) := by decide +kernel
theorem dX11_addPitch_31 : decode cX11_addPitch 31 = .ok (.invokespecial 72, 3) := by decide +kernel
theorem dX11_addPitch_34 : decode cX11_addPitch 34 = .ok (.athrow, 1) := by decide +kernel
theorem dX11_addPitch_35 : decode cX11_addPitch 35 = .ok (.aload_n 0, 1) := by decide +kernel
theorem dX11_addPitch_36 : decode cX11_addPitch 36 = .ok (.getfield 10, 3) := by decide +kernel
theorem dX11_addPitch_39 : decode cX11_addPitch 39 = .ok (.getfield 75, 3) := by decide +kernel
theorem dX11_addPitch_42 : decode cX11_addPitch 42 = .ok (.invokevirtual 79, 3) := by decide +kernel
theorem dX11_addPitch_45 : decode cX11_addPitch 45 = .ok (.bipush 6, 2) := by decide +kernel
theorem dX11_addPitch_47 : decode cX11_addPitch 47 = .ok (.if_icmp .lt 13, 3) := by decide +kernel
theorem dX11_addPitch_50 : decode cX11_addPitch 50 = .ok (.new 85, 3) := by decide +kernel
theorem dX11_addPitch_53 : decode cX11_addPitch 53 = .ok (.dup, 1) := by decide +kernel
theorem dX11_addPitch_54 : decode cX11_addPitch 54 = .ok (.ldc 87, 2) := by decide +kernel
theorem dX11_addPitch_56 : decode cX11_addPitch 56 = .ok (.invokespecial 89, 3) := by decide +kernel
theorem dX11_addPitch_59 : decode cX11_addPitch 59 = .ok (.athrow, 1) := by decide +kernel
theorem dX11_addPitch_60 : decode cX11_addPitch 60 = .ok (.aload_n 0, 1) := by decide +kernel
theorem dX11_addPitch_61 : decode cX11_addPitch 61 = .ok (.getfield 10, 3) := by decide +kernel
theorem dX11_addPitch_64 : decode cX11_addPitch 64 = .ok (.getfield 75, 3) := by decide +kernel
theorem dX11_addPitch_67 : decode cX11_addPitch 67 = .ok (.new 90, 3) := by decide +kernel
theorem dX11_addPitch_70 : decode cX11_addPitch 70 = .ok (.dup, 1) := by decide +kernel
theorem dX11_addPitch_71 : decode cX11_addPitch 71 = .ok (.iload_n 1, 1) := by decide +kernel
theorem dX11_addPitch_72 : decode cX11_addPitch 72 = .ok (.iload_n 2, 1) := by decide +kernel
theorem dX11_addPitch_73 : decode cX11_addPitch 73 = .ok (.iload_n 3, 1) := by decide +kernel
theorem dX11_addPitch_74 : decode cX11_addPitch 74 = .ok (.invokespecial 92, 3) := by decide +kernel
theorem dX11_addPitch_77 : decode cX11_addPitch 77 = .ok (.invokevirtual 95, 3) := by decide +kernel
theorem dX11_addPitch_80 : decode cX11_addPitch 80 = .ok (.pop, 1) := by decide +kernel
theorem dX11_addPitch_81 : decode cX11_addPitch 81 = .ok (.aload_n 0, 1) := by decide +kernel
theorem dX11_addPitch_82 : decode cX11_addPitch 82 = .ok (.getfield 10, 3) := by decide +kernel
theorem dX11_addPitch_85 : decode cX11_addPitch 85 = .ok (.getfield 75, 3) := by decide +kernel
theorem dX11_addPitch_88 : decode cX11_addPitch 88 = .ok (.invokevirtual 79, 3) := by decide +kernel
theorem dX11_addPitch_91 : decode cX11_addPitch 91 = .ok (.iconst 1, 1) := by decide +kernel
theorem dX11_addPitch_92 : decode cX11_addPitch 92 = .ok (.isub, 1) := by decide +kernel
theorem dX11_addPitch_93 : decode cX11_addPitch 93 = .ok (.ireturn, 1) := by decide +kernel
theorem dX11_setPassers_0 : decode cX11_setPassers 0 = .ok (.aload_n 0, 1) := by decide +kernel
theorem dX11_setPassers_1 : decode cX11_setPassers 1 = .ok (.iload_n 1, 1) := by decide +kernel
theorem dX11_setPassers_2 : decode cX11_setPassers 2 = .ok (.invokevirtual 99, 3) := by decide +kernel
theorem dX11_setPassers_5 : decode cX11_setPassers 5 = .ok (.iload_n 2, 1) := by decide +kernel
theorem dX11_setPassers_6 : decode cX11_setPassers 6 = .ok (.bipush 10, 2) := by decide +kernel
theorem dX11_setPassers_8 : decode cX11_setPassers 8 = .ok (.bipush 19, 2) := by decide +kernel
theorem dX11_setPassers_10 : decode cX11_setPassers 10 = .ok (.invokestatic 60, 3) := by decide +kernel
theorem dX11_setPassers_13 : decode cX11_setPassers 13 = .ok (.iload_n 3, 1) := by decide +kernel
theorem dX11_setPassers_14 : decode cX11_setPassers 14 = .ok (.iconst 0, 1) := by decide +kernel
theorem dX11_setPassers_15 : decode cX11_setPassers 15 = .ok (.sipush 600, 3) := by decide +kernel
theorem dX11_setPassers_18 : decode cX11_setPassers 18 = .ok (.invokestatic 60, 3) := by decide +kernel
theorem dX11_setPassers_21 : decode cX11_setPassers 21 = .ok (.aload_n 0, 1) := by decide +kernel
theorem dX11_setPassers_22 : decode cX11_setPassers 22 = .ok (.getfield 10, 3) := by decide +kernel
theorem dX11_setPassers_25 : decode cX11_setPassers 25 = .ok (.getfield 75, 3) := by decide +kernel
theorem dX11_setPassers_28 : decode cX11_setPassers 28 = .ok (.iload_n 1, 1) := by decide +kernel
theorem dX11_setPassers_29 : decode cX11_setPassers 29 = .ok (.invokevirtual 103, 3) := by decide +kernel
theorem dX11_setPassers_32 : decode cX11_setPassers 32 = .ok (.checkcast 90, 3) := by decide +kernel
theorem dX11_setPassers_35 : decode cX11_setPassers 35 = .ok (.getfield 107, 3) := by decide +kernel
theorem dX11_setPassers_38 : decode cX11_setPassers 38 = .ok (.astore 4, 2) := by decide +kernel
theorem dX11_setPassers_40 : decode cX11_setPassers 40 = .ok (.aload 4, 2) := by decide +kernel
theorem dX11_setPassers_42 : decode cX11_setPassers 42 = .ok (.iload_n 2, 1) := by decide +kernel
theorem dX11_setPassers_43 : decode cX11_setPassers 43 = .ok (.bipush 10, 2) := by decide +kernel
theorem dX11_setPassers_45 : decode cX11_setPassers 45 = .ok (.isub, 1) := by decide +kernel
theorem dX11_setPassers_46 : decode cX11_setPassers 46 = .ok (.iaload, 1) := by decide +kernel
theorem dX11_setPassers_47 : decode cX11_setPassers 47 = .ok (.istore 5, 2) := by decide +kernel
theorem dX11_setPassers_49 : decode cX11_setPassers 49 = .ok (.aload 4, 2) := by decide +kernel
theorem dX11_setPassers_51 : decode cX11_setPassers 51 = .ok (.iload_n 2, 1) := by decide +kernel
theorem dX11_setPassers_52 : decode cX11_setPassers 52 = .ok (.bipush 10, 2) := by decide +kernel
theorem dX11_setPassers_54 : decode cX11_setPassers 54 = .ok (.isub, 1) := by decide +kernel
theorem dX11_setPassers_55 : decode cX11_setPassers 55 = .ok (.iload_n 3, 1) := by decide +kernel
theorem dX11_setPassers_56 : decode cX11_setPassers 56 = .ok (.iastore, 1) := by decide +kernel
theorem dX11_setPassers_57 : decode cX11_setPassers 57 = .ok (.iload 5, 2) := by decide +kernel
theorem dX11_setPassers_59 : decode cX11_setPassers 59 = .ok (.ireturn, 1) := by decide +kernel
theorem dX11_passersAt_0 : decode cX11_passersAt 0 = .ok (.aload_n 0, 1) := by decide +kernel
theorem dX11_passersAt_1 : decode cX11_passersAt 1 = .ok (.iload_n 1, 1) := by decide +kernel
theorem dX11_passersAt_2 : decode cX11_passersAt 2 = .ok (.invokevirtual 99, 3) := by decide +kernel
theorem dX11_passersAt_5 : decode cX11_passersAt 5 = .ok (.iload_n 2, 1) := by decide +kernel
theorem dX11_passersAt_6 : decode cX11_passersAt 6 = .ok (.sipush 600, 3) := by decide +kernel
theorem dX11_passersAt_9 : decode cX11_passersAt 9 = .ok (.sipush 1199, 3) := by decide +kernel
theorem dX11_passersAt_12 : decode cX11_passersAt 12 = .ok (.invokestatic 60, 3) := by decide +kernel
theorem dX11_passersAt_15 : decode cX11_passersAt 15 = .ok (.aload_n 0, 1) := by decide +kernel
theorem dX11_passersAt_16 : decode cX11_passersAt 16 = .ok (.getfield 10, 3) := by decide +kernel
theorem dX11_passersAt_19 : decode cX11_passersAt 19 = .ok (.getfield 75, 3) := by decide +kernel
theorem dX11_passersAt_22 : decode cX11_passersAt 22 = .ok (.iload_n 1, 1) := by decide +kernel
theorem dX11_passersAt_23 : decode cX11_passersAt 23 = .ok (.invokevirtual 103, 3) := by decide +kernel
theorem dX11_passersAt_26 : decode cX11_passersAt 26 = .ok (.checkcast 90, 3) := by decide +kernel
theorem dX11_passersAt_29 : decode cX11_passersAt 29 = .ok (.iload_n 2, 1) := by decide +kernel
theorem dX11_passersAt_30 : decode cX11_passersAt 30 = .ok (.invokevirtual 111, 3) := by decide +kernel
theorem dX11_passersAt_33 : decode cX11_passersAt 33 = .ok (.ireturn, 1) := by decide +kernel
theorem dX11_addAct_0 : decode cX11_addAct 0 = .ok (.iload_n 1, 1) := by decide +kernel
theorem dX11_addAct_1 : decode cX11_addAct 1 = .ok (.iconst 5, 1) := by decide +kernel
theorem dX11_addAct_2 : decode cX11_addAct 2 = .ok (.bipush 60, 2) := by decide +kernel
theorem dX11_addAct_4 : decode cX11_addAct 4 = .ok (.invokestatic 60, 3) := by decide +kernel
theorem dX11_addAct_7 : decode cX11_addAct 7 = .ok (.iload_n 2, 1) := by decide +kernel
theorem dX11_addAct_8 : decode cX11_addAct 8 = .ok (.iconst 0, 1) := by decide +kernel
theorem dX11_addAct_9 : decode cX11_addAct 9 = .ok (.bipush 9, 2) := by decide +kernel
theorem dX11_addAct_11 : decode cX11_addAct 11 = .ok (.invokestatic 60, 3) := by decide +kernel
theorem dX11_addAct_14 : decode cX11_addAct 14 = .ok (.iload_n 3, 1) := by decide +kernel
theorem dX11_addAct_15 : decode cX11_addAct 15 = .ok (.iconst 1, 1) := by decide +kernel
theorem dX11_addAct_16 : decode cX11_addAct 16 = .ok (.bipush 9, 2) := by decide +kernel
theorem dX11_addAct_18 : decode cX11_addAct 18 = .ok (.invokestatic 60, 3) := by decide +kernel
theorem dX11_addAct_21 : decode cX11_addAct 21 = .ok (.iload 4, 2) := by decide +kernel
theorem dX11_addAct_23 : decode cX11_addAct 23 = .ok (.iconst 1, 1) := by decide +kernel
theorem dX11_addAct_24 : decode cX11_addAct 24 = .ok (.bipush 9, 2) := by decide +kernel
theorem dX11_addAct_26 : decode cX11_addAct 26 = .ok (.invokestatic 60, 3) := by decide +kernel
theorem dX11_addAct_29 : decode cX11_addAct 29 = .ok (.aload_n 0, 1) := by decide +kernel
theorem dX11_addAct_30 : decode cX11_addAct 30 = .ok (.getfield 10, 3) := by decide +kernel
theorem dX11_addAct_33 : decode cX11_addAct 33 = .ok (.getfield 115, 3) := by decide +kernel
theorem dX11_addAct_36 : decode cX11_addAct 36 = .ok (.invokevirtual 79, 3) := by decide +kernel
theorem dX11_addAct_39 : decode cX11_addAct 39 = .ok (.istore 6, 2) := by decide +kernel
theorem dX11_addAct_41 : decode cX11_addAct 41 = .ok (.iload 6, 2) := by decide +kernel
theorem dX11_addAct_43 : decode cX11_addAct 43 = .ok (.bipush 8, 2) := by decide +kernel
theorem dX11_addAct_45 : decode cX11_addAct 45 = .ok (.if_icmp .lt 13, 3) := by decide +kernel
theorem dX11_addAct_48 : decode cX11_addAct 48 = .ok (.new 85, 3) := by decide +kernel
theorem dX11_addAct_51 : decode cX11_addAct 51 = .ok (.dup, 1) := by decide +kernel
theorem dX11_addAct_52 : decode cX11_addAct 52 = .ok (.ldc 118, 2) := by decide +kernel
theorem dX11_addAct_54 : decode cX11_addAct 54 = .ok (.invokespecial 89, 3) := by decide +kernel
theorem dX11_addAct_57 : decode cX11_addAct 57 = .ok (.athrow, 1) := by decide +kernel
theorem dX11_addAct_58 : decode cX11_addAct 58 = .ok (.aload_n 0, 1) := by decide +kernel
theorem dX11_addAct_59 : decode cX11_addAct 59 = .ok (.getfield 10, 3) := by decide +kernel
theorem dX11_addAct_62 : decode cX11_addAct 62 = .ok (.getfield 115, 3) := by decide +kernel
theorem dX11_addAct_65 : decode cX11_addAct 65 = .ok (.new 120, 3) := by decide +kernel
theorem dX11_addAct_68 : decode cX11_addAct 68 = .ok (.dup, 1) := by decide +kernel
theorem dX11_addAct_69 : decode cX11_addAct 69 = .ok (.iload 6, 2) := by decide +kernel
theorem dX11_addAct_71 : decode cX11_addAct 71 = .ok (.iload_n 1, 1) := by decide +kernel
theorem dX11_addAct_72 : decode cX11_addAct 72 = .ok (.iload_n 2, 1) := by decide +kernel
theorem dX11_addAct_73 : decode cX11_addAct 73 = .ok (.iload_n 3, 1) := by decide +kernel
theorem dX11_addAct_74 : decode cX11_addAct 74 = .ok (.iload 4, 2) := by decide +kernel
theorem dX11_addAct_76 : decode cX11_addAct 76 = .ok (.iload 5, 2) := by decide +kernel
theorem dX11_addAct_78 : decode cX11_addAct 78 = .ok (.invokespecial 122, 3) := by decide +kernel
theorem dX11_addAct_81 : decode cX11_addAct 81 = .ok (.invokevirtual 95, 3) := by decide +kernel
theorem dX11_addAct_84 : decode cX11_addAct 84 = .ok (.pop, 1) := by decide +kernel
theorem dX11_addAct_85 : decode cX11_addAct 85 = .ok (.iload 6, 2) := by decide +kernel
theorem dX11_addAct_87 : decode cX11_addAct 87 = .ok (.ireturn, 1) := by decide +kernel
theorem dX11_setLine_0 : decode cX11_setLine 0 = .ok (.aload_n 0, 1) := by decide +kernel
theorem dX11_setLine_1 : decode cX11_setLine 1 = .ok (.iload_n 1, 1) := by decide +kernel
theorem dX11_setLine_2 : decode cX11_setLine 2 = .ok (.invokevirtual 125, 3) := by decide +kernel
theorem dX11_setLine_5 : decode cX11_setLine 5 = .ok (.iload_n 2, 1) := by decide +kernel
theorem dX11_setLine_6 : decode cX11_setLine 6 = .ok (.iconst 1, 1) := by decide +kernel
theorem dX11_setLine_7 : decode cX11_setLine 7 = .ok (.bipush 9, 2) := by decide +kernel
theorem dX11_setLine_9 : decode cX11_setLine 9 = .ok (.invokestatic 60, 3) := by decide +kernel
theorem dX11_setLine_12 : decode cX11_setLine 12 = .ok (.aload_n 0, 1) := by decide +kernel
theorem dX11_setLine_13 : decode cX11_setLine 13 = .ok (.getfield 10, 3) := by decide +kernel
theorem dX11_setLine_16 : decode cX11_setLine 16 = .ok (.getfield 115, 3) := by decide +kernel
theorem dX11_setLine_19 : decode cX11_setLine 19 = .ok (.iload_n 1, 1) := by decide +kernel
theorem dX11_setLine_20 : decode cX11_setLine 20 = .ok (.invokevirtual 103, 3) := by decide +kernel
theorem dX11_setLine_23 : decode cX11_setLine 23 = .ok (.checkcast 120, 3) := by decide +kernel
theorem dX11_setLine_26 : decode cX11_setLine 26 = .ok (.astore_n 3, 1) := by decide +kernel
theorem dX11_setLine_27 : decode cX11_setLine 27 = .ok (.aload_n 3, 1) := by decide +kernel
theorem dX11_setLine_28 : decode cX11_setLine 28 = .ok (.getfield 128, 3) := by decide +kernel
theorem dX11_setLine_31 : decode cX11_setLine 31 = .ok (.istore 4, 2) := by decide +kernel
theorem dX11_setLine_33 : decode cX11_setLine 33 = .ok (.aload_n 3, 1) := by decide +kernel
theorem dX11_setLine_34 : decode cX11_setLine 34 = .ok (.iload_n 2, 1) := by decide +kernel
theorem dX11_setLine_35 : decode cX11_setLine 35 = .ok (.putfield 128, 3) := by decide +kernel
theorem dX11_setLine_38 : decode cX11_setLine 38 = .ok (.iload 4, 2) := by decide +kernel
theorem dX11_setLine_40 : decode cX11_setLine 40 = .ok (.ireturn, 1) := by decide +kernel
theorem dX11_setPermit_0 : decode cX11_setPermit 0 = .ok (.aload_n 0, 1) := by decide +kernel
theorem dX11_setPermit_1 : decode cX11_setPermit 1 = .ok (.iload_n 1, 1) := by decide +kernel
theorem dX11_setPermit_2 : decode cX11_setPermit 2 = .ok (.invokevirtual 125, 3) := by decide +kernel
theorem dX11_setPermit_5 : decode cX11_setPermit 5 = .ok (.aload_n 0, 1) := by decide +kernel
theorem dX11_setPermit_6 : decode cX11_setPermit 6 = .ok (.getfield 10, 3) := by decide +kernel
theorem dX11_setPermit_9 : decode cX11_setPermit 9 = .ok (.getfield 115, 3) := by decide +kernel
theorem dX11_setPermit_12 : decode cX11_setPermit 12 = .ok (.iload_n 1, 1) := by decide +kernel
theorem dX11_setPermit_13 : decode cX11_setPermit 13 = .ok (.invokevirtual 103, 3) := by decide +kernel
theorem dX11_setPermit_16 : decode cX11_setPermit 16 = .ok (.checkcast 120, 3) := by decide +kernel
theorem dX11_setPermit_19 : decode cX11_setPermit 19 = .ok (.astore_n 3, 1) := by decide +kernel
theorem dX11_setPermit_20 : decode cX11_setPermit 20 = .ok (.aload_n 3, 1) := by decide +kernel
theorem dX11_setPermit_21 : decode cX11_setPermit 21 = .ok (.getfield 132, 3) := by decide +kernel
theorem dX11_setPermit_24 : decode cX11_setPermit 24 = .ok (.istore 4, 2) := by decide +kernel
theorem dX11_setPermit_26 : decode cX11_setPermit 26 = .ok (.aload_n 3, 1) := by decide +kernel
theorem dX11_setPermit_27 : decode cX11_setPermit 27 = .ok (.iload_n 2, 1) := by decide +kernel
theorem dX11_setPermit_28 : decode cX11_setPermit 28 = .ok (.putfield 132, 3) := by decide +kernel
theorem dX11_setPermit_31 : decode cX11_setPermit 31 = .ok (.iload 4, 2) := by decide +kernel
theorem dX11_setPermit_33 : decode cX11_setPermit 33 = .ok (.ireturn, 1) := by decide +kernel
theorem dX11_addCustom_0 : decode cX11_addCustom 0 = .ok (.aload_n 0, 1) := by decide +kernel
theorem dX11_addCustom_1 : decode cX11_addCustom 1 = .ok (.iload_n 1, 1) := by decide +kernel
theorem dX11_addCustom_2 : decode cX11_addCustom 2 = .ok (.iload_n 2, 1) := by decide +kernel
theorem dX11_addCustom_3 : decode cX11_addCustom 3 = .ok (.invokevirtual 136, 3) := by decide +kernel
theorem dX11_addCustom_6 : decode cX11_addCustom 6 = .ok (.aload_n 0, 1) := by decide +kernel
theorem dX11_addCustom_7 : decode cX11_addCustom 7 = .ok (.getfield 19, 3) := by decide +kernel
theorem dX11_addCustom_10 : decode cX11_addCustom 10 = .ok (.iload_n 2, 1) := by decide +kernel
theorem dX11_addCustom_11 : decode cX11_addCustom 11 = .ok (.iload_n 1, 1) := by decide +kernel
theorem dX11_addCustom_12 : decode cX11_addCustom 12 = .ok (.invokevirtual 140, 3) := by decide +kernel
theorem dX11_addCustom_15 : decode cX11_addCustom 15 = .ok (.ifCond .eq 13, 3) := by decide +kernel
theorem dX11_addCustom_18 : decode cX11_addCustom 18 = .ok (.new 68, 3) := by decide +kernel
theorem dX11_addCustom_21 : decode cX11_addCustom 21 = .ok (.dup, 1) := by decide +kernel
theorem dX11_addCustom_22 : decode cX11_addCustom 22 = .ok (.ldc 144, 2) := by decide +kernel
theorem dX11_addCustom_24 : decode cX11_addCustom 24 = .ok (.invokespecial 72, 3) := by decide +kernel
theorem dX11_addCustom_27 : decode cX11_addCustom 27 = .ok (.athrow, 1) := by decide +kernel
theorem dX11_addCustom_28 : decode cX11_addCustom 28 = .ok (.aload_n 0, 1) := by decide +kernel
theorem dX11_addCustom_29 : decode cX11_addCustom 29 = .ok (.getfield 19, 3) := by decide +kernel
theorem dX11_addCustom_32 : decode cX11_addCustom 32 = .ok (.iload_n 1, 1) := by decide +kernel
theorem dX11_addCustom_33 : decode cX11_addCustom 33 = .ok (.iload_n 2, 1) := by decide +kernel
theorem dX11_addCustom_34 : decode cX11_addCustom 34 = .ok (.invokevirtual 146, 3) := by decide +kernel
theorem dX11_addCustom_37 : decode cX11_addCustom 37 = .ok (.ifCond .ne 7, 3) := by decide +kernel
theorem dX11_addCustom_40 : decode cX11_addCustom 40 = .ok (.iconst 1, 1) := by decide +kernel
theorem dX11_addCustom_41 : decode cX11_addCustom 41 = .ok (.goto 4, 3) := by decide +kernel
theorem dX11_addCustom_44 : decode cX11_addCustom 44 = .ok (.iconst 0, 1) := by decide +kernel
theorem dX11_addCustom_45 : decode cX11_addCustom 45 = .ok (.istore_n 3, 1) := by decide +kernel
theorem dX11_addCustom_46 : decode cX11_addCustom 46 = .ok (.aload_n 0, 1) := by decide +kernel
theorem dX11_addCustom_47 : decode cX11_addCustom 47 = .ok (.getfield 19, 3) := by decide +kernel
theorem dX11_addCustom_50 : decode cX11_addCustom 50 = .ok (.iload_n 1, 1) := by decide +kernel
theorem dX11_addCustom_51 : decode cX11_addCustom 51 = .ok (.iload_n 2, 1) := by decide +kernel
theorem dX11_addCustom_52 : decode cX11_addCustom 52 = .ok (.invokevirtual 149, 3) := by decide +kernel
theorem dX11_addCustom_55 : decode cX11_addCustom 55 = .ok (.iload_n 3, 1) := by decide +kernel
theorem dX11_addCustom_56 : decode cX11_addCustom 56 = .ok (.ireturn, 1) := by decide +kernel
theorem dX11_endCustom_0 : decode cX11_endCustom 0 = .ok (.aload_n 0, 1) := by decide +kernel
theorem dX11_endCustom_1 : decode cX11_endCustom 1 = .ok (.iload_n 1, 1) := by decide +kernel
theorem dX11_endCustom_2 : decode cX11_endCustom 2 = .ok (.invokevirtual 125, 3) := by decide +kernel
theorem dX11_endCustom_5 : decode cX11_endCustom 5 = .ok (.aload_n 0, 1) := by decide +kernel
theorem dX11_endCustom_6 : decode cX11_endCustom 6 = .ok (.iload_n 2, 1) := by decide +kernel
theorem dX11_endCustom_7 : decode cX11_endCustom 7 = .ok (.invokevirtual 125, 3) := by decide +kernel
theorem dX11_endCustom_10 : decode cX11_endCustom 10 = .ok (.aload_n 0, 1) := by decide +kernel
theorem dX11_endCustom_11 : decode cX11_endCustom 11 = .ok (.getfield 19, 3) := by decide +kernel
theorem dX11_endCustom_14 : decode cX11_endCustom 14 = .ok (.iload_n 1, 1) := by decide +kernel
theorem dX11_endCustom_15 : decode cX11_endCustom 15 = .ok (.iload_n 2, 1) := by decide +kernel
theorem dX11_endCustom_16 : decode cX11_endCustom 16 = .ok (.invokevirtual 146, 3) := by decide +kernel
theorem dX11_endCustom_19 : decode cX11_endCustom 19 = .ok (.istore_n 3, 1) := by decide +kernel
theorem dX11_endCustom_20 : decode cX11_endCustom 20 = .ok (.aload_n 0, 1) := by decide +kernel
theorem dX11_endCustom_21 : decode cX11_endCustom 21 = .ok (.getfield 19, 3) := by decide +kernel
theorem dX11_endCustom_24 : decode cX11_endCustom 24 = .ok (.iload_n 1, 1) := by decide +kernel
theorem dX11_endCustom_25 : decode cX11_endCustom 25 = .ok (.iload_n 2, 1) := by decide +kernel
theorem dX11_endCustom_26 : decode cX11_endCustom 26 = .ok (.invokevirtual 152, 3) := by decide +kernel
theorem dX11_endCustom_29 : decode cX11_endCustom 29 = .ok (.iload_n 3, 1) := by decide +kernel
theorem dX11_endCustom_30 : decode cX11_endCustom 30 = .ok (.ireturn, 1) := by decide +kernel
theorem dX11_orders_0 : decode cX11_orders 0 = .ok (.aload_n 0, 1) := by decide +kernel
theorem dX11_orders_1 : decode cX11_orders 1 = .ok (.getfield 19, 3) := by decide +kernel
theorem dX11_orders_4 : decode cX11_orders 4 = .ok (.aload_n 0, 1) := by decide +kernel
theorem dX11_orders_5 : decode cX11_orders 5 = .ok (.getfield 10, 3) := by decide +kernel
theorem dX11_orders_8 : decode cX11_orders 8 = .ok (.getfield 115, 3) := by decide +kernel
theorem dX11_orders_11 : decode cX11_orders 11 = .ok (.invokevirtual 79, 3) := by decide +kernel
theorem dX11_orders_14 : decode cX11_orders 14 = .ok (.invokevirtual 155, 3) := by decide +kernel
theorem dX11_orders_17 : decode cX11_orders 17 = .ok (.ireturn, 1) := by decide +kernel
theorem dX11_orderAt_0 : decode cX11_orderAt 0 = .ok (.aload_n 0, 1) := by decide +kernel
theorem dX11_orderAt_1 : decode cX11_orderAt 1 = .ok (.getfield 10, 3) := by decide +kernel
theorem dX11_orderAt_4 : decode cX11_orderAt 4 = .ok (.getfield 115, 3) := by decide +kernel
theorem dX11_orderAt_7 : decode cX11_orderAt 7 = .ok (.invokevirtual 79, 3) := by decide +kernel
theorem dX11_orderAt_10 : decode cX11_orderAt 10 = .ok (.istore_n 3, 1) := by decide +kernel
theorem dX11_orderAt_11 : decode cX11_orderAt 11 = .ok (.iload_n 1, 1) := by decide +kernel
theorem dX11_orderAt_12 : decode cX11_orderAt 12 = .ok (.ifCond .lt 15, 3) := by decide +kernel
theorem dX11_orderAt_15 : decode cX11_orderAt 15 = .ok (.iload_n 1, 1) := by decide +kernel
theorem dX11_orderAt_16 : decode cX11_orderAt 16 = .ok (.aload_n 0, 1) := by decide +kernel
theorem dX11_orderAt_17 : decode cX11_orderAt 17 = .ok (.getfield 19, 3) := by decide +kernel
theorem dX11_orderAt_20 : decode cX11_orderAt 20 = .ok (.iload_n 3, 1) := by decide +kernel
theorem dX11_orderAt_21 : decode cX11_orderAt 21 = .ok (.invokevirtual 155, 3) := by decide +kernel
theorem dX11_orderAt_24 : decode cX11_orderAt 24 = .ok (.if_icmp .lt 13, 3) := by decide +kernel
theorem dX11_orderAt_27 : decode cX11_orderAt 27 = .ok (.new 158, 3) := by decide +kernel
theorem dX11_orderAt_30 : decode cX11_orderAt 30 = .ok (.dup, 1) := by decide +kernel
theorem dX11_orderAt_31 : decode cX11_orderAt 31 = .ok (.ldc 160, 2) := by decide +kernel
theorem dX11_orderAt_33 : decode cX11_orderAt 33 = .ok (.invokespecial 162, 3) := by decide +kernel
theorem dX11_orderAt_36 : decode cX11_orderAt 36 = .ok (.athrow, 1) := by decide +kernel
theorem dX11_orderAt_37 : decode cX11_orderAt 37 = .ok (.iload_n 2, 1) := by decide +kernel
theorem dX11_orderAt_38 : decode cX11_orderAt 38 = .ok (.ifCond .lt 8, 3) := by decide +kernel
theorem dX11_orderAt_41 : decode cX11_orderAt 41 = .ok (.iload_n 2, 1) := by decide +kernel
theorem dX11_orderAt_42 : decode cX11_orderAt 42 = .ok (.iload_n 3, 1) := by decide +kernel
theorem dX11_orderAt_43 : decode cX11_orderAt 43 = .ok (.if_icmp .lt 13, 3) := by decide +kernel
theorem dX11_orderAt_46 : decode cX11_orderAt 46 = .ok (.new 158, 3) := by decide +kernel
theorem dX11_orderAt_49 : decode cX11_orderAt 49 = .ok (.dup, 1) := by decide +kernel
theorem dX11_orderAt_50 : decode cX11_orderAt 50 = .ok (.ldc 163, 2) := by decide +kernel
theorem dX11_orderAt_52 : decode cX11_orderAt 52 = .ok (.invokespecial 162, 3) := by decide +kernel
theorem dX11_orderAt_55 : decode cX11_orderAt 55 = .ok (.athrow, 1) := by decide +kernel
theorem dX11_orderAt_56 : decode cX11_orderAt 56 = .ok (.aload_n 0, 1) := by decide +kernel
theorem dX11_orderAt_57 : decode cX11_orderAt 57 = .ok (.getfield 19, 3) := by decide +kernel
theorem dX11_orderAt_60 : decode cX11_orderAt 60 = .ok (.iload_n 1, 1) := by decide +kernel
theorem dX11_orderAt_61 : decode cX11_orderAt 61 = .ok (.iload_n 2, 1) := by decide +kernel
theorem dX11_orderAt_62 : decode cX11_orderAt 62 = .ok (.iload_n 3, 1) := by decide +kernel
theorem dX11_orderAt_63 : decode cX11_orderAt 63 = .ok (.invokevirtual 165, 3) := by decide +kernel
theorem dX11_orderAt_66 : decode cX11_orderAt 66 = .ok (.ireturn, 1) := by decide +kernel
theorem dX11_drawLots_0 : decode cX11_drawLots 0 = .ok (.aload_n 0, 1) := by decide +kernel
theorem dX11_drawLots_1 : decode cX11_drawLots 1 = .ok (.getfield 26, 3) := by decide +kernel
theorem dX11_drawLots_4 : decode cX11_drawLots 4 = .ok (.aload_n 0, 1) := by decide +kernel
theorem dX11_drawLots_5 : decode cX11_drawLots 5 = .ok (.getfield 19, 3) := by decide +kernel
theorem dX11_drawLots_8 : decode cX11_drawLots 8 = .ok (.aload_n 0, 1) := by decide +kernel
theorem dX11_drawLots_9 : decode cX11_drawLots 9 = .ok (.getfield 10, 3) := by decide +kernel
theorem dX11_drawLots_12 : decode cX11_drawLots 12 = .ok (.getfield 115, 3) := by decide +kernel
theorem dX11_drawLots_15 : decode cX11_drawLots 15 = .ok (.invokevirtual 79, 3) := by decide +kernel
theorem dX11_drawLots_18 : decode cX11_drawLots 18 = .ok (.invokevirtual 169, 3) := by decide +kernel
theorem dX11_drawLots_21 : decode cX11_drawLots 21 = .ok (.aload_n 0, 1) := by decide +kernel
theorem dX11_drawLots_22 : decode cX11_drawLots 22 = .ok (.getfield 26, 3) := by decide +kernel
theorem dX11_drawLots_25 : decode cX11_drawLots 25 = .ok (.getfield 173, 3) := by decide +kernel
theorem dX11_drawLots_28 : decode cX11_drawLots 28 = .ok (.ireturn, 1) := by decide +kernel
theorem dX11_lotAt_0 : decode cX11_lotAt 0 = .ok (.aload_n 0, 1) := by decide +kernel
theorem dX11_lotAt_1 : decode cX11_lotAt 1 = .ok (.getfield 26, 3) := by decide +kernel
theorem dX11_lotAt_4 : decode cX11_lotAt 4 = .ok (.getfield 175, 3) := by decide +kernel
theorem dX11_lotAt_7 : decode cX11_lotAt 7 = .ok (.ifCond .eq 18, 3) := by decide +kernel
theorem dX11_lotAt_10 : decode cX11_lotAt 10 = .ok (.iload_n 1, 1) := by decide +kernel
theorem dX11_lotAt_11 : decode cX11_lotAt 11 = .ok (.ifCond .lt 14, 3) := by decide +kernel
theorem dX11_lotAt_14 : decode cX11_lotAt 14 = .ok (.iload_n 1, 1) := by decide +kernel
theorem dX11_lotAt_15 : decode cX11_lotAt 15 = .ok (.aload_n 0, 1) := by decide +kernel
theorem dX11_lotAt_16 : decode cX11_lotAt 16 = .ok (.getfield 26, 3) := by decide +kernel
theorem dX11_lotAt_19 : decode cX11_lotAt 19 = .ok (.getfield 173, 3) := by decide +kernel
theorem dX11_lotAt_22 : decode cX11_lotAt 22 = .ok (.if_icmp .lt 13, 3) := by decide +kernel
theorem dX11_lotAt_25 : decode cX11_lotAt 25 = .ok (.new 158, 3) := by decide +kernel
theorem dX11_lotAt_28 : decode cX11_lotAt 28 = .ok (.dup, 1) := by decide +kernel
theorem dX11_lotAt_29 : decode cX11_lotAt 29 = .ok (.ldc 178, 2) := by decide +kernel
theorem dX11_lotAt_31 : decode cX11_lotAt 31 = .ok (.invokespecial 162, 3) := by decide +kernel
theorem dX11_lotAt_34 : decode cX11_lotAt 34 = .ok (.athrow, 1) := by decide +kernel
theorem dX11_lotAt_35 : decode cX11_lotAt 35 = .ok (.aload_n 0, 1) := by decide +kernel
theorem dX11_lotAt_36 : decode cX11_lotAt 36 = .ok (.getfield 26, 3) := by decide +kernel
theorem dX11_lotAt_39 : decode cX11_lotAt 39 = .ok (.getfield 180, 3) := by decide +kernel
theorem dX11_lotAt_42 : decode cX11_lotAt 42 = .ok (.iload_n 1, 1) := by decide +kernel
theorem dX11_lotAt_43 : decode cX11_lotAt 43 = .ok (.iaload, 1) := by decide +kernel
theorem dX11_lotAt_44 : decode cX11_lotAt 44 = .ok (.ireturn, 1) := by decide +kernel
theorem dX11_seed_0 : decode cX11_seed 0 = .ok (.iload_n 1, 1) := by decide +kernel
theorem dX11_seed_1 : decode cX11_seed 1 = .ok (.iconst 1, 1) := by decide +kernel
theorem dX11_seed_2 : decode cX11_seed 2 = .ok (.ldc 183, 2) := by decide +kernel
theorem dX11_seed_4 : decode cX11_seed 4 = .ok (.invokestatic 60, 3) := by decide +kernel
theorem dX11_seed_7 : decode cX11_seed 7 = .ok (.aload_n 0, 1) := by decide +kernel
theorem dX11_seed_8 : decode cX11_seed 8 = .ok (.getfield 26, 3) := by decide +kernel
theorem dX11_seed_11 : decode cX11_seed 11 = .ok (.getfield 184, 3) := by decide +kernel
theorem dX11_seed_14 : decode cX11_seed 14 = .ok (.istore_n 2, 1) := by decide +kernel
theorem dX11_seed_15 : decode cX11_seed 15 = .ok (.aload_n 0, 1) := by decide +kernel
theorem dX11_seed_16 : decode cX11_seed 16 = .ok (.getfield 26, 3) := by decide +kernel
theorem dX11_seed_19 : decode cX11_seed 19 = .ok (.iload_n 1, 1) := by decide +kernel
theorem dX11_seed_20 : decode cX11_seed 20 = .ok (.putfield 184, 3) := by decide +kernel
theorem dX11_seed_23 : decode cX11_seed 23 = .ok (.iload_n 2, 1) := by decide +kernel
theorem dX11_seed_24 : decode cX11_seed 24 = .ok (.ireturn, 1) := by decide +kernel
theorem dX11_addTurn_0 : decode cX11_addTurn 0 = .ok (.aload_n 0, 1) := by decide +kernel
theorem dX11_addTurn_1 : decode cX11_addTurn 1 = .ok (.iload_n 1, 1) := by decide +kernel
theorem dX11_addTurn_2 : decode cX11_addTurn 2 = .ok (.invokevirtual 99, 3) := by decide +kernel
theorem dX11_addTurn_5 : decode cX11_addTurn 5 = .ok (.aload_n 0, 1) := by decide +kernel
theorem dX11_addTurn_6 : decode cX11_addTurn 6 = .ok (.iload_n 2, 1) := by decide +kernel
theorem dX11_addTurn_7 : decode cX11_addTurn 7 = .ok (.invokevirtual 125, 3) := by decide +kernel
theorem dX11_addTurn_10 : decode cX11_addTurn 10 = .ok (.aload_n 0, 1) := by decide +kernel
theorem dX11_addTurn_11 : decode cX11_addTurn 11 = .ok (.invokevirtual 187, 3) := by decide +kernel
theorem dX11_addTurn_14 : decode cX11_addTurn 14 = .ok (.aload_n 0, 1) := by decide +kernel
theorem dX11_addTurn_15 : decode cX11_addTurn 15 = .ok (.getfield 10, 3) := by decide +kernel
theorem dX11_addTurn_18 : decode cX11_addTurn 18 = .ok (.getfield 75, 3) := by decide +kernel
theorem dX11_addTurn_21 : decode cX11_addTurn 21 = .ok (.iload_n 1, 1) := by decide +kernel
theorem dX11_addTurn_22 : decode cX11_addTurn 22 = .ok (.invokevirtual 103, 3) := by decide +kernel
theorem dX11_addTurn_25 : decode cX11_addTurn 25 = .ok (.checkcast 90, 3) := by decide +kernel
theorem dX11_addTurn_28 : decode cX11_addTurn 28 = .ok (.getfield 190, 3) := by decide +kernel
theorem dX11_addTurn_31 : decode cX11_addTurn 31 = .ok (.astore_n 3, 1) := by decide +kernel
theorem dX11_addTurn_32 : decode cX11_addTurn 32 = .ok (.aload_n 0, 1) := by decide +kernel
theorem dX11_addTurn_33 : decode cX11_addTurn 33 = .ok (.getfield 10, 3) := by decide +kernel
theorem dX11_addTurn_36 : decode cX11_addTurn 36 = .ok (.iload_n 2, 1) := by decide +kernel
theorem dX11_addTurn_37 : decode cX11_addTurn 37 = .ok (.iload_n 1, 1) := by decide +kernel
theorem dX11_addTurn_38 : decode cX11_addTurn 38 = .ok (.invokevirtual 193, 3) := by decide +kernel
theorem dX11_addTurn_41 : decode cX11_addTurn 41 = .ok (.ifCond .ne 12, 3) := by decide +kernel
theorem dX11_addTurn_44 : decode cX11_addTurn 44 = .ok (.aload_n 3, 1) := by decide +kernel
theorem dX11_addTurn_45 : decode cX11_addTurn 45 = .ok (.invokevirtual 79, 3) := by decide +kernel
theorem dX11_addTurn_48 : decode cX11_addTurn 48 = .ok (.bipush 8, 2) := by decide +kernel
theorem dX11_addTurn_50 : decode cX11_addTurn 50 = .ok (.if_icmp .lt 13, 3) := by decide +kernel
theorem dX11_addTurn_53 : decode cX11_addTurn 53 = .ok (.new 68, 3) := by decide +kernel
theorem dX11_addTurn_56 : decode cX11_addTurn 56 = .ok (.dup, 1) := by decide +kernel
theorem dX11_addTurn_57 : decode cX11_addTurn 57 = .ok (.ldc 196, 2) := by decide +kernel
theorem dX11_addTurn_59 : decode cX11_addTurn 59 = .ok (.invokespecial 72, 3) := by decide +kernel
theorem dX11_addTurn_62 : decode cX11_addTurn 62 = .ok (.athrow, 1) := by decide +kernel
theorem dX11_addTurn_63 : decode cX11_addTurn 63 = .ok (.aload_n 3, 1) := by decide +kernel
theorem dX11_addTurn_64 : decode cX11_addTurn 64 = .ok (.new 198, 3) := by decide +kernel
theorem dX11_addTurn_67 : decode cX11_addTurn 67 = .ok (.dup, 1) := by decide +kernel
theorem dX11_addTurn_68 : decode cX11_addTurn 68 = .ok (.aload_n 0, 1) := by decide +kernel
theorem dX11_addTurn_69 : decode cX11_addTurn 69 = .ok (.getfield 10, 3) := by decide +kernel
theorem dX11_addTurn_72 : decode cX11_addTurn 72 = .ok (.getfield 115, 3) := by decide +kernel
theorem dX11_addTurn_75 : decode cX11_addTurn 75 = .ok (.iload_n 2, 1) := by decide +kernel
theorem dX11_addTurn_76 : decode cX11_addTurn 76 = .ok (.invokevirtual 103, 3) := by decide +kernel
theorem dX11_addTurn_79 : decode cX11_addTurn 79 = .ok (.checkcast 120, 3) := by decide +kernel
theorem dX11_addTurn_82 : decode cX11_addTurn 82 = .ok (.invokespecial 200, 3) := by decide +kernel
theorem dX11_addTurn_85 : decode cX11_addTurn 85 = .ok (.invokevirtual 95, 3) := by decide +kernel
theorem dX11_addTurn_88 : decode cX11_addTurn 88 = .ok (.pop, 1) := by decide +kernel
theorem dX11_addTurn_89 : decode cX11_addTurn 89 = .ok (.aload_n 3, 1) := by decide +kernel
theorem dX11_addTurn_90 : decode cX11_addTurn 90 = .ok (.invokevirtual 79, 3) := by decide +kernel
theorem dX11_addTurn_93 : decode cX11_addTurn 93 = .ok (.ireturn, 1) := by decide +kernel
theorem dX11_turnsByLots_0 : decode cX11_turnsByLots 0 = .ok (.aload_n 0, 1) := by decide +kernel
theorem dX11_turnsByLots_1 : decode cX11_turnsByLots 1 = .ok (.invokevirtual 187, 3) := by decide +kernel
theorem dX11_turnsByLots_4 : decode cX11_turnsByLots 4 = .ok (.aload_n 0, 1) := by decide +kernel
theorem dX11_turnsByLots_5 : decode cX11_turnsByLots 5 = .ok (.getfield 10, 3) := by decide +kernel
theorem dX11_turnsByLots_8 : decode cX11_turnsByLots 8 = .ok (.getfield 75, 3) := by decide +kernel
theorem dX11_turnsByLots_11 : decode cX11_turnsByLots 11 = .ok (.invokevirtual 79, 3) := by decide +kernel
theorem dX11_turnsByLots_14 : decode cX11_turnsByLots 14 = .ok (.istore_n 1, 1) := by decide +kernel
theorem dX11_turnsByLots_15 : decode cX11_turnsByLots 15 = .ok (.aload_n 0, 1) := by decide +kernel
theorem dX11_turnsByLots_16 : decode cX11_turnsByLots 16 = .ok (.getfield 26, 3) := by decide +kernel
theorem dX11_turnsByLots_19 : decode cX11_turnsByLots 19 = .ok (.getfield 175, 3) := by decide +kernel
theorem dX11_turnsByLots_22 : decode cX11_turnsByLots 22 = .ok (.ifCond .eq 7, 3) := by decide +kernel
theorem dX11_turnsByLots_25 : decode cX11_turnsByLots 25 = .ok (.iload_n 1, 1) := by decide +kernel
theorem dX11_turnsByLots_26 : decode cX11_turnsByLots 26 = .ok (.ifCond .gt 13, 3) := by decide +kernel
theorem dX11_turnsByLots_29 : decode cX11_turnsByLots 29 = .ok (.new 68, 3) := by decide +kernel
theorem dX11_turnsByLots_32 : decode cX11_turnsByLots 32 = .ok (.dup, 1) := by decide +kernel
theorem dX11_turnsByLots_33 : decode cX11_turnsByLots 33 = .ok (.ldc 203, 2) := by decide +kernel
theorem dX11_turnsByLots_35 : decode cX11_turnsByLots 35 = .ok (.invokespecial 72, 3) := by decide +kernel
theorem dX11_turnsByLots_38 : decode cX11_turnsByLots 38 = .ok (.athrow, 1) := by decide +kernel
theorem dX11_turnsByLots_39 : decode cX11_turnsByLots 39 = .ok (.aload_n 0, 1) := by decide +kernel
theorem dX11_turnsByLots_40 : decode cX11_turnsByLots 40 = .ok (.getfield 10, 3) := by decide +kernel
theorem dX11_turnsByLots_43 : decode cX11_turnsByLots 43 = .ok (.invokevirtual 205, 3) := by decide +kernel
theorem dX11_turnsByLots_46 : decode cX11_turnsByLots 46 = .ok (.iconst 0, 1) := by decide +kernel
theorem dX11_turnsByLots_47 : decode cX11_turnsByLots 47 = .ok (.istore_n 2, 1) := by decide +kernel
theorem dX11_turnsByLots_48 : decode cX11_turnsByLots 48 = .ok (.iload_n 2, 1) := by decide +kernel
theorem dX11_turnsByLots_49 : decode cX11_turnsByLots 49 = .ok (.aload_n 0, 1) := by decide +kernel
theorem dX11_turnsByLots_50 : decode cX11_turnsByLots 50 = .ok (.getfield 26, 3) := by decide +kernel
theorem dX11_turnsByLots_53 : decode cX11_turnsByLots 53 = .ok (.getfield 173, 3) := by decide +kernel
theorem dX11_turnsByLots_56 : decode cX11_turnsByLots 56 = .ok (.if_icmp .ge 63, 3) := by decide +kernel
theorem dX11_turnsByLots_59 : decode cX11_turnsByLots 59 = .ok (.aload_n 0, 1) := by decide +kernel
theorem dX11_turnsByLots_60 : decode cX11_turnsByLots 60 = .ok (.getfield 10, 3) := by decide +kernel
theorem dX11_turnsByLots_63 : decode cX11_turnsByLots 63 = .ok (.getfield 115, 3) := by decide +kernel
theorem dX11_turnsByLots_66 : decode cX11_turnsByLots 66 = .ok (.aload_n 0, 1) := by decide +kernel
theorem dX11_turnsByLots_67 : decode cX11_turnsByLots 67 = .ok (.getfield 26, 3) := by decide +kernel
theorem dX11_turnsByLots_70 : decode cX11_turnsByLots 70 = .ok (.getfield 180, 3) := by decide +kernel
theorem dX11_turnsByLots_73 : decode cX11_turnsByLots 73 = .ok (.iload_n 2, 1) := by decide +kernel
theorem dX11_turnsByLots_74 : decode cX11_turnsByLots 74 = .ok (.iaload, 1) := by decide +kernel
theorem dX11_turnsByLots_75 : decode cX11_turnsByLots 75 = .ok (.invokevirtual 103, 3) := by decide +kernel
theorem dX11_turnsByLots_78 : decode cX11_turnsByLots 78 = .ok (.checkcast 120, 3) := by decide +kernel
theorem dX11_turnsByLots_81 : decode cX11_turnsByLots 81 = .ok (.astore_n 3, 1) := by decide +kernel
theorem dX11_turnsByLots_82 : decode cX11_turnsByLots 82 = .ok (.aload_n 0, 1) := by decide +kernel
theorem dX11_turnsByLots_83 : decode cX11_turnsByLots 83 = .ok (.getfield 10, 3) := by decide +kernel
theorem dX11_turnsByLots_86 : decode cX11_turnsByLots 86 = .ok (.getfield 75, 3) := by decide +kernel
theorem dX11_turnsByLots_89 : decode cX11_turnsByLots 89 = .ok (.iload_n 2, 1) := by decide +kernel
theorem dX11_turnsByLots_90 : decode cX11_turnsByLots 90 = .ok (.iload_n 1, 1) := by decide +kernel
theorem dX11_turnsByLots_91 : decode cX11_turnsByLots 91 = .ok (.irem, 1) := by decide +kernel
theorem dX11_turnsByLots_92 : decode cX11_turnsByLots 92 = .ok (.invokevirtual 103, 3) := by decide +kernel
theorem dX11_turnsByLots_95 : decode cX11_turnsByLots 95 = .ok (.checkcast 90, 3) := by decide +kernel
theorem dX11_turnsByLots_98 : decode cX11_turnsByLots 98 = .ok (.getfield 190, 3) := by decide +kernel
theorem dX11_turnsByLots_101 : decode cX11_turnsByLots 101 = .ok (.new 198, 3) := by decide +kernel
theorem dX11_turnsByLots_104 : decode cX11_turnsByLots 104 = .ok (.dup, 1) := by decide +kernel
theorem dX11_turnsByLots_105 : decode cX11_turnsByLots 105 = .ok (.aload_n 3, 1) := by decide +kernel
theorem dX11_turnsByLots_106 : decode cX11_turnsByLots 106 = .ok (.invokespecial 200, 3) := by decide +kernel
theorem dX11_turnsByLots_109 : decode cX11_turnsByLots 109 = .ok (.invokevirtual 95, 3) := by decide +kernel
theorem dX11_turnsByLots_112 : decode cX11_turnsByLots 112 = .ok (.pop, 1) := by decide +kernel
theorem dX11_turnsByLots_113 : decode cX11_turnsByLots 113 = .ok (.iinc 2 1, 3) := by decide +kernel
theorem dX11_turnsByLots_116 : decode cX11_turnsByLots 116 = .ok (.goto (-68), 3) := by decide +kernel
theorem dX11_turnsByLots_119 : decode cX11_turnsByLots 119 = .ok (.aload_n 0, 1) := by decide +kernel
theorem dX11_turnsByLots_120 : decode cX11_turnsByLots 120 = .ok (.getfield 26, 3) := by decide +kernel
theorem dX11_turnsByLots_123 : decode cX11_turnsByLots 123 = .ok (.getfield 173, 3) := by decide +kernel
theorem dX11_turnsByLots_126 : decode cX11_turnsByLots 126 = .ok (.ireturn, 1) := by decide +kernel
theorem dX11_exchange_0 : decode cX11_exchange 0 = .ok (.aload_n 0, 1) := by decide +kernel
theorem dX11_exchange_1 : decode cX11_exchange 1 = .ok (.iload_n 1, 1) := by decide +kernel
theorem dX11_exchange_2 : decode cX11_exchange 2 = .ok (.invokevirtual 99, 3) := by decide +kernel
theorem dX11_exchange_5 : decode cX11_exchange 5 = .ok (.aload_n 0, 1) := by decide +kernel
theorem dX11_exchange_6 : decode cX11_exchange 6 = .ok (.getfield 10, 3) := by decide +kernel
theorem dX11_exchange_9 : decode cX11_exchange 9 = .ok (.getfield 75, 3) := by decide +kernel
theorem dX11_exchange_12 : decode cX11_exchange 12 = .ok (.iload_n 1, 1) := by decide +kernel
theorem dX11_exchange_13 : decode cX11_exchange 13 = .ok (.invokevirtual 103, 3) := by decide +kernel
theorem dX11_exchange_16 : decode cX11_exchange 16 = .ok (.checkcast 90, 3) := by decide +kernel
theorem dX11_exchange_19 : decode cX11_exchange 19 = .ok (.getfield 190, 3) := by decide +kernel
theorem dX11_exchange_22 : decode cX11_exchange 22 = .ok (.astore 4, 2) := by decide +kernel
theorem dX11_exchange_24 : decode cX11_exchange 24 = .ok (.iload_n 2, 1) := by decide +kernel
theorem dX11_exchange_25 : decode cX11_exchange 25 = .ok (.aload 4, 2) := by decide +kernel
theorem dX11_exchange_27 : decode cX11_exchange 27 = .ok (.invokevirtual 79, 3) := by decide +kernel
theorem dX11_exchange_30 : decode cX11_exchange 30 = .ok (.invokestatic 208, 3) := by decide +kernel
theorem dX11_exchange_33 : decode cX11_exchange 33 = .ok (.ifCond .eq 15, 3) := by decide +kernel
theorem dX11_exchange_36 : decode cX11_exchange 36 = .ok (.iload_n 3, 1) := by decide +kernel
theorem dX11_exchange_37 : decode cX11_exchange 37 = .ok (.aload 4, 2) := by decide +kernel
theorem dX11_exchange_39 : decode cX11_exchange 39 = .ok (.invokevirtual 79, 3) := by decide +kernel
theorem dX11_exchange_42 : decode cX11_exchange 42 = .ok (.invokestatic 208, 3) := by decide +kernel
theorem dX11_exchange_45 : decode cX11_exchange 45 = .ok (.ifCond .ne 13, 3) := by decide +kernel
theorem dX11_exchange_48 : decode cX11_exchange 48 = .ok (.new 211, 3) := by decide +kernel
theorem dX11_exchange_51 : decode cX11_exchange 51 = .ok (.dup, 1) := by decide +kernel
theorem dX11_exchange_52 : decode cX11_exchange 52 = .ok (.ldc 213, 2) := by decide +kernel
theorem dX11_exchange_54 : decode cX11_exchange 54 = .ok (.invokespecial 215, 3) := by decide +kernel
theorem dX11_exchange_57 : decode cX11_exchange 57 = .ok (.athrow, 1) := by decide +kernel
theorem dX11_exchange_58 : decode cX11_exchange 58 = .ok (.aload_n 0, 1) := by decide +kernel
theorem dX11_exchange_59 : decode cX11_exchange 59 = .ok (.invokevirtual 187, 3) := by decide +kernel
theorem dX11_exchange_62 : decode cX11_exchange 62 = .ok (.aload_n 0, 1) := by decide +kernel
theorem dX11_exchange_63 : decode cX11_exchange 63 = .ok (.aload 4, 2) := by decide +kernel
theorem dX11_exchange_65 : decode cX11_exchange 65 = .ok (.iload_n 2, 1) := by decide +kernel
theorem dX11_exchange_66 : decode cX11_exchange 66 = .ok (.iload_n 3, 1) := by decide +kernel
theorem dX11_exchange_67 : decode cX11_exchange 67 = .ok (.invokevirtual 216, 3) := by decide +kernel
theorem dX11_exchange_70 : decode cX11_exchange 70 = .ok (.ifCond .ne 13, 3) := by decide +kernel
theorem dX11_exchange_73 : decode cX11_exchange 73 = .ok (.new 68, 3) := by decide +kernel
theorem dX11_exchange_76 : decode cX11_exchange 76 = .ok (.dup, 1) := by decide +kernel
theorem dX11_exchange_77 : decode cX11_exchange 77 = .ok (.ldc 220, 2) := by decide +kernel
theorem dX11_exchange_79 : decode cX11_exchange 79 = .ok (.invokespecial 72, 3) := by decide +kernel
theorem dX11_exchange_82 : decode cX11_exchange 82 = .ok (.athrow, 1) := by decide +kernel
theorem dX11_exchange_83 : decode cX11_exchange 83 = .ok (.aload 4, 2) := by decide +kernel
theorem dX11_exchange_85 : decode cX11_exchange 85 = .ok (.iload_n 2, 1) := by decide +kernel
theorem dX11_exchange_86 : decode cX11_exchange 86 = .ok (.invokevirtual 103, 3) := by decide +kernel
theorem dX11_exchange_89 : decode cX11_exchange 89 = .ok (.checkcast 198, 3) := by decide +kernel
theorem dX11_exchange_92 : decode cX11_exchange 92 = .ok (.astore 5, 2) := by decide +kernel
theorem dX11_exchange_94 : decode cX11_exchange 94 = .ok (.aload 4, 2) := by decide +kernel
theorem dX11_exchange_96 : decode cX11_exchange 96 = .ok (.iload_n 3, 1) := by decide +kernel
theorem dX11_exchange_97 : decode cX11_exchange 97 = .ok (.invokevirtual 103, 3) := by decide +kernel
theorem dX11_exchange_100 : decode cX11_exchange 100 = .ok (.checkcast 198, 3) := by decide +kernel
theorem dX11_exchange_103 : decode cX11_exchange 103 = .ok (.astore 6, 2) := by decide +kernel
theorem dX11_exchange_105 : decode cX11_exchange 105 = .ok (.aload 4, 2) := by decide +kernel
theorem dX11_exchange_107 : decode cX11_exchange 107 = .ok (.iload_n 2, 1) := by decide +kernel
theorem dX11_exchange_108 : decode cX11_exchange 108 = .ok (.aload 6, 2) := by decide +kernel
theorem dX11_exchange_110 : decode cX11_exchange 110 = .ok (.invokevirtual 222, 3) := by decide +kernel
theorem dX11_exchange_113 : decode cX11_exchange 113 = .ok (.pop, 1) := by decide +kernel
theorem dX11_exchange_114 : decode cX11_exchange 114 = .ok (.aload 4, 2) := by decide +kernel
theorem dX11_exchange_116 : decode cX11_exchange 116 = .ok (.iload_n 3, 1) := by decide +kernel
theorem dX11_exchange_117 : decode cX11_exchange 117 = .ok (.aload 5, 2) := by decide +kernel
theorem dX11_exchange_119 : decode cX11_exchange 119 = .ok (.invokevirtual 222, 3) := by decide +kernel
theorem dX11_exchange_122 : decode cX11_exchange 122 = .ok (.pop, 1) := by decide +kernel
theorem dX11_exchange_123 : decode cX11_exchange 123 = .ok (.aload 5, 2) := by decide +kernel
theorem dX11_exchange_125 : decode cX11_exchange 125 = .ok (.getfield 226, 3) := by decide +kernel
theorem dX11_exchange_128 : decode cX11_exchange 128 = .ok (.getfield 230, 3) := by decide +kernel
theorem dX11_exchange_131 : decode cX11_exchange 131 = .ok (.aload 6, 2) := by decide +kernel
theorem dX11_exchange_133 : decode cX11_exchange 133 = .ok (.getfield 226, 3) := by decide +kernel
theorem dX11_exchange_136 : decode cX11_exchange 136 = .ok (.getfield 230, 3) := by decide +kernel
theorem dX11_exchange_139 : decode cX11_exchange 139 = .ok (.if_icmp .eq 7, 3) := by decide +kernel
theorem dX11_exchange_142 : decode cX11_exchange 142 = .ok (.iconst 1, 1) := by decide +kernel
theorem dX11_exchange_143 : decode cX11_exchange 143 = .ok (.goto 4, 3) := by decide +kernel
theorem dX11_exchange_146 : decode cX11_exchange 146 = .ok (.iconst 0, 1) := by decide +kernel
theorem dX11_exchange_147 : decode cX11_exchange 147 = .ok (.ireturn, 1) := by decide +kernel
theorem dX11_turnAt_0 : decode cX11_turnAt 0 = .ok (.aload_n 0, 1) := by decide +kernel
theorem dX11_turnAt_1 : decode cX11_turnAt 1 = .ok (.iload_n 1, 1) := by decide +kernel
theorem dX11_turnAt_2 : decode cX11_turnAt 2 = .ok (.invokevirtual 99, 3) := by decide +kernel
theorem dX11_turnAt_5 : decode cX11_turnAt 5 = .ok (.aload_n 0, 1) := by decide +kernel
theorem dX11_turnAt_6 : decode cX11_turnAt 6 = .ok (.getfield 10, 3) := by decide +kernel
theorem dX11_turnAt_9 : decode cX11_turnAt 9 = .ok (.getfield 75, 3) := by decide +kernel
theorem dX11_turnAt_12 : decode cX11_turnAt 12 = .ok (.iload_n 1, 1) := by decide +kernel
theorem dX11_turnAt_13 : decode cX11_turnAt 13 = .ok (.invokevirtual 103, 3) := by decide +kernel
theorem dX11_turnAt_16 : decode cX11_turnAt 16 = .ok (.checkcast 90, 3) := by decide +kernel
theorem dX11_turnAt_19 : decode cX11_turnAt 19 = .ok (.getfield 190, 3) := by decide +kernel
theorem dX11_turnAt_22 : decode cX11_turnAt 22 = .ok (.astore_n 3, 1) := by decide +kernel
theorem dX11_turnAt_23 : decode cX11_turnAt 23 = .ok (.iload_n 2, 1) := by decide +kernel
theorem dX11_turnAt_24 : decode cX11_turnAt 24 = .ok (.aload_n 3, 1) := by decide +kernel
theorem dX11_turnAt_25 : decode cX11_turnAt 25 = .ok (.invokevirtual 79, 3) := by decide +kernel
theorem dX11_turnAt_28 : decode cX11_turnAt 28 = .ok (.invokestatic 208, 3) := by decide +kernel
theorem dX11_turnAt_31 : decode cX11_turnAt 31 = .ok (.ifCond .ne 13, 3) := by decide +kernel
theorem dX11_turnAt_34 : decode cX11_turnAt 34 = .ok (.new 158, 3) := by decide +kernel
theorem dX11_turnAt_37 : decode cX11_turnAt 37 = .ok (.dup, 1) := by decide +kernel
theorem dX11_turnAt_38 : decode cX11_turnAt 38 = .ok (.ldc 213, 2) := by decide +kernel
theorem dX11_turnAt_40 : decode cX11_turnAt 40 = .ok (.invokespecial 162, 3) := by decide +kernel
theorem dX11_turnAt_43 : decode cX11_turnAt 43 = .ok (.athrow, 1) := by decide +kernel
theorem dX11_turnAt_44 : decode cX11_turnAt 44 = .ok (.aload_n 3, 1) := by decide +kernel
theorem dX11_turnAt_45 : decode cX11_turnAt 45 = .ok (.iload_n 2, 1) := by decide +kernel
theorem dX11_turnAt_46 : decode cX11_turnAt 46 = .ok (.invokevirtual 103, 3) := by decide +kernel
theorem dX11_turnAt_49 : decode cX11_turnAt 49 = .ok (.checkcast 198, 3) := by decide +kernel
theorem dX11_turnAt_52 : decode cX11_turnAt 52 = .ok (.getfield 226, 3) := by decide +kernel
theorem dX11_turnAt_55 : decode cX11_turnAt 55 = .ok (.getfield 230, 3) := by decide +kernel
theorem dX11_turnAt_58 : decode cX11_turnAt 58 = .ok (.ireturn, 1) := by decide +kernel
theorem dX11_setRain_0 : decode cX11_setRain 0 = .ok (.iload_n 1, 1) := by decide +kernel
theorem dX11_setRain_1 : decode cX11_setRain 1 = .ok (.sipush 600, 3) := by decide +kernel
theorem dX11_setRain_4 : decode cX11_setRain 4 = .ok (.sipush 1199, 3) := by decide +kernel
theorem dX11_setRain_7 : decode cX11_setRain 7 = .ok (.invokestatic 60, 3) := by decide +kernel
theorem dX11_setRain_10 : decode cX11_setRain 10 = .ok (.iload_n 2, 1) := by decide +kernel
theorem dX11_setRain_11 : decode cX11_setRain 11 = .ok (.iload_n 1, 1) := by decide +kernel
theorem dX11_setRain_12 : decode cX11_setRain 12 = .ok (.sipush 1199, 3) := by decide +kernel
theorem dX11_setRain_15 : decode cX11_setRain 15 = .ok (.invokestatic 60, 3) := by decide +kernel
theorem dX11_setRain_18 : decode cX11_setRain 18 = .ok (.aload_n 0, 1) := by decide +kernel
theorem dX11_setRain_19 : decode cX11_setRain 19 = .ok (.getfield 33, 3) := by decide +kernel
theorem dX11_setRain_22 : decode cX11_setRain 22 = .ok (.invokevirtual 233, 3) := by decide +kernel
theorem dX11_setRain_25 : decode cX11_setRain 25 = .ok (.istore_n 3, 1) := by decide +kernel
theorem dX11_setRain_26 : decode cX11_setRain 26 = .ok (.aload_n 0, 1) := by decide +kernel
theorem dX11_setRain_27 : decode cX11_setRain 27 = .ok (.getfield 33, 3) := by decide +kernel
theorem dX11_setRain_30 : decode cX11_setRain 30 = .ok (.iload_n 1, 1) := by decide +kernel
theorem dX11_setRain_31 : decode cX11_setRain 31 = .ok (.putfield 236, 3) := by decide +kernel
theorem dX11_setRain_34 : decode cX11_setRain 34 = .ok (.aload_n 0, 1) := by decide +kernel
theorem dX11_setRain_35 : decode cX11_setRain 35 = .ok (.getfield 33, 3) := by decide +kernel
theorem dX11_setRain_38 : decode cX11_setRain 38 = .ok (.iload_n 2, 1) := by decide +kernel
theorem dX11_setRain_39 : decode cX11_setRain 39 = .ok (.putfield 239, 3) := by decide +kernel
theorem dX11_setRain_42 : decode cX11_setRain 42 = .ok (.iload_n 3, 1) := by decide +kernel
theorem dX11_setRain_43 : decode cX11_setRain 43 = .ok (.ireturn, 1) := by decide +kernel
theorem dX11_setCold_0 : decode cX11_setCold 0 = .ok (.iload_n 1, 1) := by decide +kernel
theorem dX11_setCold_1 : decode cX11_setCold 1 = .ok (.iconst 0, 1) := by decide +kernel
theorem dX11_setCold_2 : decode cX11_setCold 2 = .ok (.bipush 40, 2) := by decide +kernel
theorem dX11_setCold_4 : decode cX11_setCold 4 = .ok (.invokestatic 60, 3) := by decide +kernel
theorem dX11_setCold_7 : decode cX11_setCold 7 = .ok (.aload_n 0, 1) := by decide +kernel
theorem dX11_setCold_8 : decode cX11_setCold 8 = .ok (.getfield 33, 3) := by decide +kernel
theorem dX11_setCold_11 : decode cX11_setCold 11 = .ok (.getfield 242, 3) := by decide +kernel
theorem dX11_setCold_14 : decode cX11_setCold 14 = .ok (.istore_n 2, 1) := by decide +kernel
theorem dX11_setCold_15 : decode cX11_setCold 15 = .ok (.aload_n 0, 1) := by decide +kernel
theorem dX11_setCold_16 : decode cX11_setCold 16 = .ok (.getfield 33, 3) := by decide +kernel
theorem dX11_setCold_19 : decode cX11_setCold 19 = .ok (.iload_n 1, 1) := by decide +kernel
theorem dX11_setCold_20 : decode cX11_setCold 20 = .ok (.putfield 242, 3) := by decide +kernel
theorem dX11_setCold_23 : decode cX11_setCold 23 = .ok (.iload_n 2, 1) := by decide +kernel
theorem dX11_setCold_24 : decode cX11_setCold 24 = .ok (.ireturn, 1) := by decide +kernel
theorem dX11_setLaw_0 : decode cX11_setLaw 0 = .ok (.iload_n 1, 1) := by decide +kernel
theorem dX11_setLaw_1 : decode cX11_setLaw 1 = .ok (.iconst 0, 1) := by decide +kernel
theorem dX11_setLaw_2 : decode cX11_setLaw 2 = .ok (.bipush 99, 2) := by decide +kernel
theorem dX11_setLaw_4 : decode cX11_setLaw 4 = .ok (.invokestatic 60, 3) := by decide +kernel
theorem dX11_setLaw_7 : decode cX11_setLaw 7 = .ok (.iload_n 2, 1) := by decide +kernel
theorem dX11_setLaw_8 : decode cX11_setLaw 8 = .ok (.iconst 0, 1) := by decide +kernel
theorem dX11_setLaw_9 : decode cX11_setLaw 9 = .ok (.bipush 99, 2) := by decide +kernel
theorem dX11_setLaw_11 : decode cX11_setLaw 11 = .ok (.invokestatic 60, 3) := by decide +kernel
theorem dX11_setLaw_14 : decode cX11_setLaw 14 = .ok (.aload_n 0, 1) := by decide +kernel
theorem dX11_setLaw_15 : decode cX11_setLaw 15 = .ok (.getfield 40, 3) := by decide +kernel
theorem dX11_setLaw_18 : decode cX11_setLaw 18 = .ok (.getfield 245, 3) := by decide +kernel
theorem dX11_setLaw_21 : decode cX11_setLaw 21 = .ok (.istore_n 3, 1) := by decide +kernel
theorem dX11_setLaw_22 : decode cX11_setLaw 22 = .ok (.aload_n 0, 1) := by decide +kernel
theorem dX11_setLaw_23 : decode cX11_setLaw 23 = .ok (.getfield 40, 3) := by decide +kernel
theorem dX11_setLaw_26 : decode cX11_setLaw 26 = .ok (.iload_n 1, 1) := by decide +kernel
theorem dX11_setLaw_27 : decode cX11_setLaw 27 = .ok (.putfield 245, 3) := by decide +kernel
theorem dX11_setLaw_30 : decode cX11_setLaw 30 = .ok (.aload_n 0, 1) := by decide +kernel
theorem dX11_setLaw_31 : decode cX11_setLaw 31 = .ok (.getfield 40, 3) := by decide +kernel
theorem dX11_setLaw_34 : decode cX11_setLaw 34 = .ok (.iload_n 2, 1) := by decide +kernel
theorem dX11_setLaw_35 : decode cX11_setLaw 35 = .ok (.putfield 248, 3) := by decide +kernel
theorem dX11_setLaw_38 : decode cX11_setLaw 38 = .ok (.iload_n 3, 1) := by decide +kernel
theorem dX11_setLaw_39 : decode cX11_setLaw 39 = .ok (.ireturn, 1) := by decide +kernel
theorem dX11_addVisit_0 : decode cX11_addVisit 0 = .ok (.aload_n 0, 1) := by decide +kernel
theorem dX11_addVisit_1 : decode cX11_addVisit 1 = .ok (.iload_n 1, 1) := by decide +kernel
theorem dX11_addVisit_2 : decode cX11_addVisit 2 = .ok (.invokevirtual 99, 3) := by decide +kernel
theorem dX11_addVisit_5 : decode cX11_addVisit 5 = .ok (.iload_n 2, 1) := by decide +kernel
theorem dX11_addVisit_6 : decode cX11_addVisit 6 = .ok (.sipush 600, 3) := by decide +kernel
theorem dX11_addVisit_9 : decode cX11_addVisit 9 = .ok (.sipush 1199, 3) := by decide +kernel
theorem dX11_addVisit_12 : decode cX11_addVisit 12 = .ok (.invokestatic 60, 3) := by decide +kernel
theorem dX11_addVisit_15 : decode cX11_addVisit 15 = .ok (.aload_n 0, 1) := by decide +kernel
theorem dX11_addVisit_16 : decode cX11_addVisit 16 = .ok (.invokevirtual 187, 3) := by decide +kernel
theorem dX11_addVisit_19 : decode cX11_addVisit 19 = .ok (.aload_n 0, 1) := by decide +kernel
theorem dX11_addVisit_20 : decode cX11_addVisit 20 = .ok (.getfield 49, 3) := by decide +kernel
theorem dX11_addVisit_23 : decode cX11_addVisit 23 = .ok (.getfield 251, 3) := by decide +kernel
theorem dX11_addVisit_26 : decode cX11_addVisit 26 = .ok (.invokevirtual 79, 3) := by decide +kernel
theorem dX11_addVisit_29 : decode cX11_addVisit 29 = .ok (.bipush 6, 2) := by decide +kernel
theorem dX11_addVisit_31 : decode cX11_addVisit 31 = .ok (.if_icmp .lt 13, 3) := by decide +kernel
theorem dX11_addVisit_34 : decode cX11_addVisit 34 = .ok (.new 85, 3) := by decide +kernel
theorem dX11_addVisit_37 : decode cX11_addVisit 37 = .ok (.dup, 1) := by decide +kernel
theorem dX11_addVisit_38 : decode cX11_addVisit 38 = .ok (.ldc 254, 2) := by decide +kernel
theorem dX11_addVisit_40 : decode cX11_addVisit 40 = .ok (.invokespecial 89, 3) := by decide +kernel
theorem dX11_addVisit_43 : decode cX11_addVisit 43 = .ok (.athrow, 1) := by decide +kernel
theorem dX11_addVisit_44 : decode cX11_addVisit 44 = .ok (.aload_n 0, 1) := by decide +kernel
theorem dX11_addVisit_45 : decode cX11_addVisit 45 = .ok (.getfield 49, 3) := by decide +kernel
theorem dX11_addVisit_48 : decode cX11_addVisit 48 = .ok (.getfield 251, 3) := by decide +kernel
theorem dX11_addVisit_51 : decode cX11_addVisit 51 = .ok (.new 256, 3) := by decide +kernel
theorem dX11_addVisit_54 : decode cX11_addVisit 54 = .ok (.dup, 1) := by decide +kernel
theorem dX11_addVisit_55 : decode cX11_addVisit 55 = .ok (.aload_n 0, 1) := by decide +kernel
theorem dX11_addVisit_56 : decode cX11_addVisit 56 = .ok (.getfield 10, 3) := by decide +kernel
theorem dX11_addVisit_59 : decode cX11_addVisit 59 = .ok (.getfield 75, 3) := by decide +kernel
theorem dX11_addVisit_62 : decode cX11_addVisit 62 = .ok (.iload_n 1, 1) := by decide +kernel
theorem dX11_addVisit_63 : decode cX11_addVisit 63 = .ok (.invokevirtual 103, 3) := by decide +kernel
theorem dX11_addVisit_66 : decode cX11_addVisit 66 = .ok (.checkcast 90, 3) := by decide +kernel
theorem dX11_addVisit_69 : decode cX11_addVisit 69 = .ok (.iload_n 2, 1) := by decide +kernel
theorem dX11_addVisit_70 : decode cX11_addVisit 70 = .ok (.invokespecial 258, 3) := by decide +kernel
theorem dX11_addVisit_73 : decode cX11_addVisit 73 = .ok (.invokevirtual 95, 3) := by decide +kernel
theorem dX11_addVisit_76 : decode cX11_addVisit 76 = .ok (.pop, 1) := by decide +kernel
theorem dX11_addVisit_77 : decode cX11_addVisit 77 = .ok (.aload_n 0, 1) := by decide +kernel
theorem dX11_addVisit_78 : decode cX11_addVisit 78 = .ok (.getfield 49, 3) := by decide +kernel
theorem dX11_addVisit_81 : decode cX11_addVisit 81 = .ok (.getfield 251, 3) := by decide +kernel
theorem dX11_addVisit_84 : decode cX11_addVisit 84 = .ok (.invokevirtual 79, 3) := by decide +kernel
theorem dX11_addVisit_87 : decode cX11_addVisit 87 = .ok (.ireturn, 1) := by decide +kernel
theorem dX11_join_0 : decode cX11_join 0 = .ok (.aload_n 0, 1) := by decide +kernel
theorem dX11_join_1 : decode cX11_join 1 = .ok (.iload_n 1, 1) := by decide +kernel
theorem dX11_join_2 : decode cX11_join 2 = .ok (.iload_n 2, 1) := by decide +kernel
theorem dX11_join_3 : decode cX11_join 3 = .ok (.invokevirtual 136, 3) := by decide +kernel
theorem dX11_join_6 : decode cX11_join 6 = .ok (.aload_n 0, 1) := by decide +kernel
theorem dX11_join_7 : decode cX11_join 7 = .ok (.getfield 10, 3) := by decide +kernel
theorem dX11_join_10 : decode cX11_join 10 = .ok (.aload_n 0, 1) := by decide +kernel
theorem dX11_join_11 : decode cX11_join 11 = .ok (.getfield 10, 3) := by decide +kernel
theorem dX11_join_14 : decode cX11_join 14 = .ok (.getfield 115, 3) := by decide +kernel
theorem dX11_join_17 : decode cX11_join 17 = .ok (.iload_n 1, 1) := by decide +kernel
theorem dX11_join_18 : decode cX11_join 18 = .ok (.invokevirtual 103, 3) := by decide +kernel
theorem dX11_join_21 : decode cX11_join 21 = .ok (.checkcast 120, 3) := by decide +kernel
theorem dX11_join_24 : decode cX11_join 24 = .ok (.aload_n 0, 1) := by decide +kernel
theorem dX11_join_25 : decode cX11_join 25 = .ok (.getfield 10, 3) := by decide +kernel
theorem dX11_join_28 : decode cX11_join 28 = .ok (.getfield 115, 3) := by decide +kernel
theorem dX11_join_31 : decode cX11_join 31 = .ok (.iload_n 2, 1) := by decide +kernel
theorem dX11_join_32 : decode cX11_join 32 = .ok (.invokevirtual 103, 3) := by decide +kernel
theorem dX11_join_35 : decode cX11_join 35 = .ok (.checkcast 120, 3) := by decide +kernel
theorem dX11_join_38 : decode cX11_join 38 = .ok (.invokevirtual 261, 3) := by decide +kernel
theorem dX11_join_41 : decode cX11_join 41 = .ok (.ireturn, 1) := by decide +kernel
theorem dX11_play_0 : decode cX11_play 0 = .ok (.aload_n 0, 1) := by decide +kernel
theorem dX11_play_1 : decode cX11_play 1 = .ok (.invokevirtual 187, 3) := by decide +kernel
theorem dX11_play_4 : decode cX11_play 4 = .ok (.aload_n 0, 1) := by decide +kernel
theorem dX11_play_5 : decode cX11_play 5 = .ok (.getfield 49, 3) := by decide +kernel
theorem dX11_play_8 : decode cX11_play 8 = .ok (.invokevirtual 265, 3) := by decide +kernel
theorem dX11_play_11 : decode cX11_play 11 = .ok (.aload_n 0, 1) := by decide +kernel
theorem dX11_play_12 : decode cX11_play 12 = .ok (.getfield 49, 3) := by decide +kernel
theorem dX11_play_15 : decode cX11_play 15 = .ok (.getfield 268, 3) := by decide +kernel
theorem dX11_play_18 : decode cX11_play 18 = .ok (.ireturn, 1) := by decide +kernel
theorem dX11_of_0 : decode cX11_of 0 = .ok (.aload_n 0, 1) := by decide +kernel
theorem dX11_of_1 : decode cX11_of 1 = .ok (.iload_n 1, 1) := by decide +kernel
theorem dX11_of_2 : decode cX11_of 2 = .ok (.invokevirtual 99, 3) := by decide +kernel
theorem dX11_of_5 : decode cX11_of 5 = .ok (.iload_n 3, 1) := by decide +kernel
theorem dX11_of_6 : decode cX11_of 6 = .ok (.invokestatic 271, 3) := by decide +kernel
theorem dX11_of_9 : decode cX11_of 9 = .ok (.aload_n 0, 1) := by decide +kernel
theorem dX11_of_10 : decode cX11_of 10 = .ok (.invokevirtual 275, 3) := by decide +kernel
theorem dX11_of_13 : decode cX11_of 13 = .ok (.aload_n 0, 1) := by decide +kernel
theorem dX11_of_14 : decode cX11_of 14 = .ok (.iload_n 1, 1) := by decide +kernel
theorem dX11_of_15 : decode cX11_of 15 = .ok (.iload_n 2, 1) := by decide +kernel
theorem dX11_of_16 : decode cX11_of 16 = .ok (.invokevirtual 278, 3) := by decide +kernel
theorem dX11_of_19 : decode cX11_of 19 = .ok (.aload_n 0, 1) := by decide +kernel
theorem dX11_of_20 : decode cX11_of 20 = .ok (.getfield 10, 3) := by decide +kernel
theorem dX11_of_23 : decode cX11_of 23 = .ok (.getfield 75, 3) := by decide +kernel
theorem dX11_of_26 : decode cX11_of 26 = .ok (.iload_n 1, 1) := by decide +kernel
theorem dX11_of_27 : decode cX11_of 27 = .ok (.invokevirtual 103, 3) := by decide +kernel
theorem dX11_of_30 : decode cX11_of 30 = .ok (.checkcast 90, 3) := by decide +kernel
theorem dX11_of_33 : decode cX11_of 33 = .ok (.getfield 190, 3) := by decide +kernel
theorem dX11_of_36 : decode cX11_of 36 = .ok (.iload_n 2, 1) := by decide +kernel
theorem dX11_of_37 : decode cX11_of 37 = .ok (.invokevirtual 103, 3) := by decide +kernel
theorem dX11_of_40 : decode cX11_of 40 = .ok (.checkcast 198, 3) := by decide +kernel
theorem dX11_of_43 : decode cX11_of 43 = .ok (.iload_n 3, 1) := by decide +kernel
theorem dX11_of_44 : decode cX11_of 44 = .ok (.invokevirtual 281, 3) := by decide +kernel
theorem dX11_of_47 : decode cX11_of 47 = .ok (.ireturn, 1) := by decide +kernel
theorem dX11_isBroken_0 : decode cX11_isBroken 0 = .ok (.aload_n 0, 1) := by decide +kernel
theorem dX11_isBroken_1 : decode cX11_isBroken 1 = .ok (.iload_n 1, 1) := by decide +kernel
theorem dX11_isBroken_2 : decode cX11_isBroken 2 = .ok (.invokevirtual 99, 3) := by decide +kernel
theorem dX11_isBroken_5 : decode cX11_isBroken 5 = .ok (.aload_n 0, 1) := by decide +kernel
theorem dX11_isBroken_6 : decode cX11_isBroken 6 = .ok (.invokevirtual 275, 3) := by decide +kernel
theorem dX11_isBroken_9 : decode cX11_isBroken 9 = .ok (.aload_n 0, 1) := by decide +kernel
theorem dX11_isBroken_10 : decode cX11_isBroken 10 = .ok (.iload_n 1, 1) := by decide +kernel
theorem dX11_isBroken_11 : decode cX11_isBroken 11 = .ok (.iload_n 2, 1) := by decide +kernel
theorem dX11_isBroken_12 : decode cX11_isBroken 12 = .ok (.invokevirtual 278, 3) := by decide +kernel
theorem dX11_isBroken_15 : decode cX11_isBroken 15 = .ok (.aload_n 0, 1) := by decide +kernel
theorem dX11_isBroken_16 : decode cX11_isBroken 16 = .ok (.getfield 10, 3) := by decide +kernel
theorem dX11_isBroken_19 : decode cX11_isBroken 19 = .ok (.getfield 75, 3) := by decide +kernel
theorem dX11_isBroken_22 : decode cX11_isBroken 22 = .ok (.iload_n 1, 1) := by decide +kernel
theorem dX11_isBroken_23 : decode cX11_isBroken 23 = .ok (.invokevirtual 103, 3) := by decide +kernel
theorem dX11_isBroken_26 : decode cX11_isBroken 26 = .ok (.checkcast 90, 3) := by decide +kernel
theorem dX11_isBroken_29 : decode cX11_isBroken 29 = .ok (.getfield 190, 3) := by decide +kernel
theorem dX11_isBroken_32 : decode cX11_isBroken 32 = .ok (.iload_n 2, 1) := by decide +kernel
theorem dX11_isBroken_33 : decode cX11_isBroken 33 = .ok (.invokevirtual 103, 3) := by decide +kernel
theorem dX11_isBroken_36 : decode cX11_isBroken 36 = .ok (.checkcast 198, 3) := by decide +kernel
theorem dX11_isBroken_39 : decode cX11_isBroken 39 = .ok (.getfield 285, 3) := by decide +kernel
theorem dX11_isBroken_42 : decode cX11_isBroken 42 = .ok (.ireturn, 1) := by decide +kernel
theorem dX11_fineAt_0 : decode cX11_fineAt 0 = .ok (.aload_n 0, 1) := by decide +kernel
theorem dX11_fineAt_1 : decode cX11_fineAt 1 = .ok (.invokevirtual 275, 3) := by decide +kernel
theorem dX11_fineAt_4 : decode cX11_fineAt 4 = .ok (.aload_n 0, 1) := by decide +kernel
theorem dX11_fineAt_5 : decode cX11_fineAt 5 = .ok (.iload_n 1, 1) := by decide +kernel
theorem dX11_fineAt_6 : decode cX11_fineAt 6 = .ok (.invokevirtual 288, 3) := by decide +kernel
theorem dX11_fineAt_9 : decode cX11_fineAt 9 = .ok (.aload_n 0, 1) := by decide +kernel
theorem dX11_fineAt_10 : decode cX11_fineAt 10 = .ok (.getfield 49, 3) := by decide +kernel
theorem dX11_fineAt_13 : decode cX11_fineAt 13 = .ok (.getfield 251, 3) := by decide +kernel
theorem dX11_fineAt_16 : decode cX11_fineAt 16 = .ok (.iload_n 1, 1) := by decide +kernel
theorem dX11_fineAt_17 : decode cX11_fineAt 17 = .ok (.invokevirtual 103, 3) := by decide +kernel
theorem dX11_fineAt_20 : decode cX11_fineAt 20 = .ok (.checkcast 256, 3) := by decide +kernel
theorem dX11_fineAt_23 : decode cX11_fineAt 23 = .ok (.getfield 291, 3) := by decide +kernel
theorem dX11_fineAt_26 : decode cX11_fineAt 26 = .ok (.ireturn, 1) := by decide +kernel
theorem dX11_sumAt_0 : decode cX11_sumAt 0 = .ok (.aload_n 0, 1) := by decide +kernel
theorem dX11_sumAt_1 : decode cX11_sumAt 1 = .ok (.invokevirtual 275, 3) := by decide +kernel
theorem dX11_sumAt_4 : decode cX11_sumAt 4 = .ok (.aload_n 0, 1) := by decide +kernel
theorem dX11_sumAt_5 : decode cX11_sumAt 5 = .ok (.iload_n 1, 1) := by decide +kernel
theorem dX11_sumAt_6 : decode cX11_sumAt 6 = .ok (.invokevirtual 288, 3) := by decide +kernel
theorem dX11_sumAt_9 : decode cX11_sumAt 9 = .ok (.aload_n 0, 1) := by decide +kernel
theorem dX11_sumAt_10 : decode cX11_sumAt 10 = .ok (.getfield 49, 3) := by decide +kernel
theorem dX11_sumAt_13 : decode cX11_sumAt 13 = .ok (.getfield 251, 3) := by decide +kernel
theorem dX11_sumAt_16 : decode cX11_sumAt 16 = .ok (.iload_n 1, 1) := by decide +kernel
theorem dX11_sumAt_17 : decode cX11_sumAt 17 = .ok (.invokevirtual 103, 3) := by decide +kernel
theorem dX11_sumAt_20 : decode cX11_sumAt 20 = .ok (.checkcast 256, 3) := by decide +kernel
theorem dX11_sumAt_23 : decode cX11_sumAt 23 = .ok (.getfield 295, 3) := by decide +kernel
theorem dX11_sumAt_26 : decode cX11_sumAt 26 = .ok (.ireturn, 1) := by decide +kernel
theorem dX11_money_0 : decode cX11_money 0 = .ok (.aload_n 0, 1) := by decide +kernel
theorem dX11_money_1 : decode cX11_money 1 = .ok (.iload_n 1, 1) := by decide +kernel
theorem dX11_money_2 : decode cX11_money 2 = .ok (.invokevirtual 125, 3) := by decide +kernel
theorem dX11_money_5 : decode cX11_money 5 = .ok (.aload_n 0, 1) := by decide +kernel
theorem dX11_money_6 : decode cX11_money 6 = .ok (.getfield 10, 3) := by decide +kernel
theorem dX11_money_9 : decode cX11_money 9 = .ok (.getfield 115, 3) := by decide +kernel
theorem dX11_money_12 : decode cX11_money 12 = .ok (.iload_n 1, 1) := by decide +kernel
theorem dX11_money_13 : decode cX11_money 13 = .ok (.invokevirtual 103, 3) := by decide +kernel
theorem dX11_money_16 : decode cX11_money 16 = .ok (.checkcast 120, 3) := by decide +kernel
theorem dX11_money_19 : decode cX11_money 19 = .ok (.getfield 298, 3) := by decide +kernel
theorem dX11_money_22 : decode cX11_money 22 = .ok (.ireturn, 1) := by decide +kernel
theorem dX11_fines_0 : decode cX11_fines 0 = .ok (.aload_n 0, 1) := by decide +kernel
theorem dX11_fines_1 : decode cX11_fines 1 = .ok (.getfield 49, 3) := by decide +kernel
theorem dX11_fines_4 : decode cX11_fines 4 = .ok (.getfield 301, 3) := by decide +kernel
theorem dX11_fines_7 : decode cX11_fines 7 = .ok (.ireturn, 1) := by decide +kernel
theorem dX11_nextDay_0 : decode cX11_nextDay 0 = .ok (.aload_n 0, 1) := by decide +kernel
theorem dX11_nextDay_1 : decode cX11_nextDay 1 = .ok (.invokevirtual 275, 3) := by decide +kernel
theorem dX11_nextDay_4 : decode cX11_nextDay 4 = .ok (.aload_n 0, 1) := by decide +kernel
theorem dX11_nextDay_5 : decode cX11_nextDay 5 = .ok (.getfield 56, 3) := by decide +kernel
theorem dX11_nextDay_8 : decode cX11_nextDay 8 = .ok (.aload_n 0, 1) := by decide +kernel
theorem dX11_nextDay_9 : decode cX11_nextDay 9 = .ok (.getfield 49, 3) := by decide +kernel
theorem dX11_nextDay_12 : decode cX11_nextDay 12 = .ok (.getfield 268, 3) := by decide +kernel
theorem dX11_nextDay_15 : decode cX11_nextDay 15 = .ok (.invokevirtual 304, 3) := by decide +kernel
theorem dX11_nextDay_18 : decode cX11_nextDay 18 = .ok (.aload_n 0, 1) := by decide +kernel
theorem dX11_nextDay_19 : decode cX11_nextDay 19 = .ok (.getfield 10, 3) := by decide +kernel
theorem dX11_nextDay_22 : decode cX11_nextDay 22 = .ok (.invokevirtual 205, 3) := by decide +kernel
theorem dX11_nextDay_25 : decode cX11_nextDay 25 = .ok (.aload_n 0, 1) := by decide +kernel
theorem dX11_nextDay_26 : decode cX11_nextDay 26 = .ok (.getfield 33, 3) := by decide +kernel
theorem dX11_nextDay_29 : decode cX11_nextDay 29 = .ok (.invokevirtual 307, 3) := by decide +kernel
theorem dX11_nextDay_32 : decode cX11_nextDay 32 = .ok (.aload_n 0, 1) := by decide +kernel
theorem dX11_nextDay_33 : decode cX11_nextDay 33 = .ok (.getfield 49, 3) := by decide +kernel
theorem dX11_nextDay_36 : decode cX11_nextDay 36 = .ok (.invokevirtual 310, 3) := by decide +kernel
theorem dX11_nextDay_39 : decode cX11_nextDay 39 = .ok (.aload_n 0, 1) := by decide +kernel
theorem dX11_nextDay_40 : decode cX11_nextDay 40 = .ok (.getfield 49, 3) := by decide +kernel
theorem dX11_nextDay_43 : decode cX11_nextDay 43 = .ok (.getfield 313, 3) := by decide +kernel
theorem dX11_nextDay_46 : decode cX11_nextDay 46 = .ok (.ireturn, 1) := by decide +kernel
theorem dX11_diary_0 : decode cX11_diary 0 = .ok (.iload_n 1, 1) := by decide +kernel
theorem dX11_diary_1 : decode cX11_diary 1 = .ok (.iconst 1, 1) := by decide +kernel
theorem dX11_diary_2 : decode cX11_diary 2 = .ok (.if_icmp .lt 14, 3) := by decide +kernel
theorem dX11_diary_5 : decode cX11_diary 5 = .ok (.iload_n 1, 1) := by decide +kernel
theorem dX11_diary_6 : decode cX11_diary 6 = .ok (.aload_n 0, 1) := by decide +kernel
theorem dX11_diary_7 : decode cX11_diary 7 = .ok (.getfield 56, 3) := by decide +kernel
theorem dX11_diary_10 : decode cX11_diary 10 = .ok (.getfield 314, 3) := by decide +kernel
theorem dX11_diary_13 : decode cX11_diary 13 = .ok (.if_icmp .le 14, 3) := by decide +kernel
theorem dX11_diary_16 : decode cX11_diary 16 = .ok (.new 158, 3) := by decide +kernel
theorem dX11_diary_19 : decode cX11_diary 19 = .ok (.dup, 1) := by decide +kernel
theorem dX11_diary_20 : decode cX11_diary 20 = .ok (.ldc_w 315, 3) := by decide +kernel
theorem dX11_diary_23 : decode cX11_diary 23 = .ok (.invokespecial 162, 3) := by decide +kernel
theorem dX11_diary_26 : decode cX11_diary 26 = .ok (.athrow, 1) := by decide +kernel
theorem dX11_diary_27 : decode cX11_diary 27 = .ok (.aload_n 0, 1) := by decide +kernel
theorem dX11_diary_28 : decode cX11_diary 28 = .ok (.getfield 56, 3) := by decide +kernel
theorem dX11_diary_31 : decode cX11_diary 31 = .ok (.getfield 317, 3) := by decide +kernel
theorem dX11_diary_34 : decode cX11_diary 34 = .ok (.iload_n 1, 1) := by decide +kernel
theorem dX11_diary_35 : decode cX11_diary 35 = .ok (.iconst 1, 1) := by decide +kernel
theorem dX11_diary_36 : decode cX11_diary 36 = .ok (.isub, 1) := by decide +kernel
theorem dX11_diary_37 : decode cX11_diary 37 = .ok (.iaload, 1) := by decide +kernel
theorem dX11_diary_38 : decode cX11_diary 38 = .ok (.ireturn, 1) := by decide +kernel
theorem dX11_checksum_0 : decode cX11_checksum 0 = .ok (.ldc2_w 319, 3) := by decide +kernel
theorem dX11_checksum_3 : decode cX11_checksum 3 = .ok (.lstore_n 1, 1) := by decide +kernel
theorem dX11_checksum_4 : decode cX11_checksum 4 = .ok (.iconst 0, 1) := by decide +kernel
theorem dX11_checksum_5 : decode cX11_checksum 5 = .ok (.istore_n 3, 1) := by decide +kernel
theorem dX11_checksum_6 : decode cX11_checksum 6 = .ok (.iload_n 3, 1) := by decide +kernel
theorem dX11_checksum_7 : decode cX11_checksum 7 = .ok (.aload_n 0, 1) := by decide +kernel
theorem dX11_checksum_8 : decode cX11_checksum 8 = .ok (.getfield 10, 3) := by decide +kernel
theorem dX11_checksum_11 : decode cX11_checksum 11 = .ok (.getfield 115, 3) := by decide +kernel
theorem dX11_checksum_14 : decode cX11_checksum 14 = .ok (.invokevirtual 79, 3) := by decide +kernel
theorem dX11_checksum_17 : decode cX11_checksum 17 = .ok (.if_icmp .ge 51, 3) := by decide +kernel
theorem dX11_checksum_20 : decode cX11_checksum 20 = .ok (.aload_n 0, 1) := by decide +kernel
theorem dX11_checksum_21 : decode cX11_checksum 21 = .ok (.getfield 10, 3) := by decide +kernel
theorem dX11_checksum_24 : decode cX11_checksum 24 = .ok (.getfield 115, 3) := by decide +kernel
theorem dX11_checksum_27 : decode cX11_checksum 27 = .ok (.iload_n 3, 1) := by decide +kernel
theorem dX11_checksum_28 : decode cX11_checksum 28 = .ok (.invokevirtual 103, 3) := by decide +kernel
theorem dX11_checksum_31 : decode cX11_checksum 31 = .ok (.checkcast 120, 3) := by decide +kernel
theorem dX11_checksum_34 : decode cX11_checksum 34 = .ok (.astore 4, 2) := by decide +kernel
theorem dX11_checksum_36 : decode cX11_checksum 36 = .ok (.ldc2_w 321, 3) := by decide +kernel
theorem dX11_checksum_39 : decode cX11_checksum 39 = .ok (.lload_n 1, 1) := by decide +kernel
theorem dX11_checksum_40 : decode cX11_checksum 40 = .ok (.lmul, 1) := by decide +kernel
theorem dX11_checksum_41 : decode cX11_checksum 41 = .ok (.aload 4, 2) := by decide +kernel
theorem dX11_checksum_43 : decode cX11_checksum 43 = .ok (.getfield 298, 3) := by decide +kernel
theorem dX11_checksum_46 : decode cX11_checksum 46 = .ok (.i2l, 1) := by decide +kernel
theorem dX11_checksum_47 : decode cX11_checksum 47 = .ok (.ladd, 1) := by decide +kernel
theorem dX11_checksum_48 : decode cX11_checksum 48 = .ok (.lstore_n 1, 1) := by decide +kernel
theorem dX11_checksum_49 : decode cX11_checksum 49 = .ok (.ldc2_w 321, 3) := by decide +kernel
theorem dX11_checksum_52 : decode cX11_checksum 52 = .ok (.lload_n 1, 1) := by decide +kernel
theorem dX11_checksum_53 : decode cX11_checksum 53 = .ok (.lmul, 1) := by decide +kernel
theorem dX11_checksum_54 : decode cX11_checksum 54 = .ok (.aload 4, 2) := by decide +kernel
theorem dX11_checksum_56 : decode cX11_checksum 56 = .ok (.getfield 128, 3) := by decide +kernel
theorem dX11_checksum_59 : decode cX11_checksum 59 = .ok (.i2l, 1) := by decide +kernel
theorem dX11_checksum_60 : decode cX11_checksum 60 = .ok (.ladd, 1) := by decide +kernel
theorem dX11_checksum_61 : decode cX11_checksum 61 = .ok (.lstore_n 1, 1) := by decide +kernel
theorem dX11_checksum_62 : decode cX11_checksum 62 = .ok (.iinc 3 1, 3) := by decide +kernel
theorem dX11_checksum_65 : decode cX11_checksum 65 = .ok (.goto (-59), 3) := by decide +kernel
theorem dX11_checksum_68 : decode cX11_checksum 68 = .ok (.iconst 0, 1) := by decide +kernel
theorem dX11_checksum_69 : decode cX11_checksum 69 = .ok (.istore_n 3, 1) := by decide +kernel
theorem dX11_checksum_70 : decode cX11_checksum 70 = .ok (.iload_n 3, 1) := by decide +kernel
theorem dX11_checksum_71 : decode cX11_checksum 71 = .ok (.aload_n 0, 1) := by decide +kernel
theorem dX11_checksum_72 : decode cX11_checksum 72 = .ok (.getfield 10, 3) := by decide +kernel
theorem dX11_checksum_75 : decode cX11_checksum 75 = .ok (.getfield 75, 3) := by decide +kernel
theorem dX11_checksum_78 : decode cX11_checksum 78 = .ok (.invokevirtual 79, 3) := by decide +kernel
theorem dX11_checksum_81 : decode cX11_checksum 81 = .ok (.if_icmp .ge 54, 3) := by decide +kernel
theorem dX11_checksum_84 : decode cX11_checksum 84 = .ok (.aload_n 0, 1) := by decide +kernel
theorem dX11_checksum_85 : decode cX11_checksum 85 = .ok (.getfield 10, 3) := by decide +kernel
theorem dX11_checksum_88 : decode cX11_checksum 88 = .ok (.getfield 75, 3) := by decide +kernel
theorem dX11_checksum_91 : decode cX11_checksum 91 = .ok (.iload_n 3, 1) := by decide +kernel
theorem dX11_checksum_92 : decode cX11_checksum 92 = .ok (.invokevirtual 103, 3) := by decide +kernel
theorem dX11_checksum_95 : decode cX11_checksum 95 = .ok (.checkcast 90, 3) := by decide +kernel
theorem dX11_checksum_98 : decode cX11_checksum 98 = .ok (.astore 4, 2) := by decide +kernel
theorem dX11_checksum_100 : decode cX11_checksum 100 = .ok (.ldc2_w 321, 3) := by decide +kernel
theorem dX11_checksum_103 : decode cX11_checksum 103 = .ok (.lload_n 1, 1) := by decide +kernel
theorem dX11_checksum_104 : decode cX11_checksum 104 = .ok (.lmul, 1) := by decide +kernel
theorem dX11_checksum_105 : decode cX11_checksum 105 = .ok (.aload 4, 2) := by decide +kernel
theorem dX11_checksum_107 : decode cX11_checksum 107 = .ok (.getfield 190, 3) := by decide +kernel
theorem dX11_checksum_110 : decode cX11_checksum 110 = .ok (.invokevirtual 79, 3) := by decide +kernel
theorem dX11_checksum_113 : decode cX11_checksum 113 = .ok (.i2l, 1) := by decide +kernel
theorem dX11_checksum_114 : decode cX11_checksum 114 = .ok (.ladd, 1) := by decide +kernel
theorem dX11_checksum_115 : decode cX11_checksum 115 = .ok (.lstore_n 1, 1) := by decide +kernel
theorem dX11_checksum_116 : decode cX11_checksum 116 = .ok (.ldc2_w 321, 3) := by decide +kernel
theorem dX11_checksum_119 : decode cX11_checksum 119 = .ok (.lload_n 1, 1) := by decide +kernel
theorem dX11_checksum_120 : decode cX11_checksum 120 = .ok (.lmul, 1) := by decide +kernel
theorem dX11_checksum_121 : decode cX11_checksum 121 = .ok (.aload 4, 2) := by decide +kernel
theorem dX11_checksum_123 : decode cX11_checksum 123 = .ok (.getfield 323, 3) := by decide +kernel
theorem dX11_checksum_126 : decode cX11_checksum 126 = .ok (.i2l, 1) := by decide +kernel
theorem dX11_checksum_127 : decode cX11_checksum 127 = .ok (.ladd, 1) := by decide +kernel
theorem dX11_checksum_128 : decode cX11_checksum 128 = .ok (.lstore_n 1, 1) := by decide +kernel
theorem dX11_checksum_129 : decode cX11_checksum 129 = .ok (.iinc 3 1, 3) := by decide +kernel
theorem dX11_checksum_132 : decode cX11_checksum 132 = .ok (.goto (-62), 3) := by decide +kernel
theorem dX11_checksum_135 : decode cX11_checksum 135 = .ok (.ldc2_w 321, 3) := by decide +kernel
theorem dX11_checksum_138 : decode cX11_checksum 138 = .ok (.lload_n 1, 1) := by decide +kernel
theorem dX11_checksum_139 : decode cX11_checksum 139 = .ok (.lmul, 1) := by decide +kernel
theorem dX11_checksum_140 : decode cX11_checksum 140 = .ok (.aload_n 0, 1) := by decide +kernel
theorem dX11_checksum_141 : decode cX11_checksum 141 = .ok (.getfield 49, 3) := by decide +kernel
theorem dX11_checksum_144 : decode cX11_checksum 144 = .ok (.getfield 301, 3) := by decide +kernel
theorem dX11_checksum_147 : decode cX11_checksum 147 = .ok (.i2l, 1) := by decide +kernel
theorem dX11_checksum_148 : decode cX11_checksum 148 = .ok (.ladd, 1) := by decide +kernel
theorem dX11_checksum_149 : decode cX11_checksum 149 = .ok (.lstore_n 1, 1) := by decide +kernel
theorem dX11_checksum_150 : decode cX11_checksum 150 = .ok (.ldc2_w 321, 3) := by decide +kernel
theorem dX11_checksum_153 : decode cX11_checksum 153 = .ok (.lload_n 1, 1) := by decide +kernel
theorem dX11_checksum_154 : decode cX11_checksum 154 = .ok (.lmul, 1) := by decide +kernel
theorem dX11_checksum_155 : decode cX11_checksum 155 = .ok (.aload_n 0, 1) := by decide +kernel
theorem dX11_checksum_156 : decode cX11_checksum 156 = .ok (.getfield 26, 3) := by decide +kernel
theorem dX11_checksum_159 : decode cX11_checksum 159 = .ok (.getfield 184, 3) := by decide +kernel
theorem dX11_checksum_162 : decode cX11_checksum 162 = .ok (.i2l, 1) := by decide +kernel
theorem dX11_checksum_163 : decode cX11_checksum 163 = .ok (.ladd, 1) := by decide +kernel
theorem dX11_checksum_164 : decode cX11_checksum 164 = .ok (.lreturn, 1) := by decide +kernel
theorem dX11_goodShare_0 : decode cX11_goodShare 0 = .ok (.aload_n 0, 1) := by decide +kernel
theorem dX11_goodShare_1 : decode cX11_goodShare 1 = .ok (.invokevirtual 275, 3) := by decide +kernel
theorem dX11_goodShare_4 : decode cX11_goodShare 4 = .ok (.aload_n 0, 1) := by decide +kernel
theorem dX11_goodShare_5 : decode cX11_goodShare 5 = .ok (.getfield 10, 3) := by decide +kernel
theorem dX11_goodShare_8 : decode cX11_goodShare 8 = .ok (.invokevirtual 326, 3) := by decide +kernel
theorem dX11_goodShare_11 : decode cX11_goodShare 11 = .ok (.istore_n 1, 1) := by decide +kernel
theorem dX11_goodShare_12 : decode cX11_goodShare 12 = .ok (.iload_n 1, 1) := by decide +kernel
theorem dX11_goodShare_13 : decode cX11_goodShare 13 = .ok (.ifCond .gt 14, 3) := by decide +kernel
theorem dX11_goodShare_16 : decode cX11_goodShare 16 = .ok (.new 329, 3) := by decide +kernel
theorem dX11_goodShare_19 : decode cX11_goodShare 19 = .ok (.dup, 1) := by decide +kernel
theorem dX11_goodShare_20 : decode cX11_goodShare 20 = .ok (.ldc_w 331, 3) := by decide +kernel
theorem dX11_goodShare_23 : decode cX11_goodShare 23 = .ok (.invokespecial 333, 3) := by decide +kernel
theorem dX11_goodShare_26 : decode cX11_goodShare 26 = .ok (.athrow, 1) := by decide +kernel
theorem dX11_goodShare_27 : decode cX11_goodShare 27 = .ok (.aload_n 0, 1) := by decide +kernel
theorem dX11_goodShare_28 : decode cX11_goodShare 28 = .ok (.getfield 10, 3) := by decide +kernel
theorem dX11_goodShare_31 : decode cX11_goodShare 31 = .ok (.invokevirtual 334, 3) := by decide +kernel
theorem dX11_goodShare_34 : decode cX11_goodShare 34 = .ok (.i2f, 1) := by decide +kernel
theorem dX11_goodShare_35 : decode cX11_goodShare 35 = .ok (.iload_n 1, 1) := by decide +kernel
theorem dX11_goodShare_36 : decode cX11_goodShare 36 = .ok (.i2f, 1) := by decide +kernel
theorem dX11_goodShare_37 : decode cX11_goodShare 37 = .ok (.fdiv, 1) := by decide +kernel
theorem dX11_goodShare_38 : decode cX11_goodShare 38 = .ok (.freturn, 1) := by decide +kernel
theorem dX11_meanMoney_0 : decode cX11_meanMoney 0 = .ok (.aload_n 0, 1) := by decide +kernel
theorem dX11_meanMoney_1 : decode cX11_meanMoney 1 = .ok (.getfield 10, 3) := by decide +kernel
theorem dX11_meanMoney_4 : decode cX11_meanMoney 4 = .ok (.getfield 115, 3) := by decide +kernel
theorem dX11_meanMoney_7 : decode cX11_meanMoney 7 = .ok (.invokevirtual 79, 3) := by decide +kernel
theorem dX11_meanMoney_10 : decode cX11_meanMoney 10 = .ok (.istore_n 1, 1) := by decide +kernel
theorem dX11_meanMoney_11 : decode cX11_meanMoney 11 = .ok (.iload_n 1, 1) := by decide +kernel
theorem dX11_meanMoney_12 : decode cX11_meanMoney 12 = .ok (.ifCond .gt 14, 3) := by decide +kernel
theorem dX11_meanMoney_15 : decode cX11_meanMoney 15 = .ok (.new 329, 3) := by decide +kernel
theorem dX11_meanMoney_18 : decode cX11_meanMoney 18 = .ok (.dup, 1) := by decide +kernel
theorem dX11_meanMoney_19 : decode cX11_meanMoney 19 = .ok (.ldc_w 337, 3) := by decide +kernel
theorem dX11_meanMoney_22 : decode cX11_meanMoney 22 = .ok (.invokespecial 333, 3) := by decide +kernel
theorem dX11_meanMoney_25 : decode cX11_meanMoney 25 = .ok (.athrow, 1) := by decide +kernel
theorem dX11_meanMoney_26 : decode cX11_meanMoney 26 = .ok (.aload_n 0, 1) := by decide +kernel
theorem dX11_meanMoney_27 : decode cX11_meanMoney 27 = .ok (.getfield 10, 3) := by decide +kernel
theorem dX11_meanMoney_30 : decode cX11_meanMoney 30 = .ok (.invokevirtual 339, 3) := by decide +kernel
theorem dX11_meanMoney_33 : decode cX11_meanMoney 33 = .ok (.i2d, 1) := by decide +kernel
theorem dX11_meanMoney_34 : decode cX11_meanMoney 34 = .ok (.iload_n 1, 1) := by decide +kernel
theorem dX11_meanMoney_35 : decode cX11_meanMoney 35 = .ok (.i2d, 1) := by decide +kernel
theorem dX11_meanMoney_36 : decode cX11_meanMoney 36 = .ok (.ddiv, 1) := by decide +kernel
theorem dX11_meanMoney_37 : decode cX11_meanMoney 37 = .ok (.dreturn, 1) := by decide +kernel
theorem dX11_isSound_0 : decode cX11_isSound 0 = .ok (.aload_n 0, 1) := by decide +kernel
theorem dX11_isSound_1 : decode cX11_isSound 1 = .ok (.getfield 10, 3) := by decide +kernel
theorem dX11_isSound_4 : decode cX11_isSound 4 = .ok (.invokevirtual 339, 3) := by decide +kernel
theorem dX11_isSound_7 : decode cX11_isSound 7 = .ok (.aload_n 0, 1) := by decide +kernel
theorem dX11_isSound_8 : decode cX11_isSound 8 = .ok (.getfield 49, 3) := by decide +kernel
theorem dX11_isSound_11 : decode cX11_isSound 11 = .ok (.getfield 342, 3) := by decide +kernel
theorem dX11_isSound_14 : decode cX11_isSound 14 = .ok (.aload_n 0, 1) := by decide +kernel
theorem dX11_isSound_15 : decode cX11_isSound 15 = .ok (.getfield 49, 3) := by decide +kernel
theorem dX11_isSound_18 : decode cX11_isSound 18 = .ok (.getfield 301, 3) := by decide +kernel
theorem dX11_isSound_21 : decode cX11_isSound 21 = .ok (.isub, 1) := by decide +kernel
theorem dX11_isSound_22 : decode cX11_isSound 22 = .ok (.if_icmp .ne 37, 3) := by decide +kernel
theorem dX11_isSound_25 : decode cX11_isSound 25 = .ok (.aload_n 0, 1) := by decide +kernel
theorem dX11_isSound_26 : decode cX11_isSound 26 = .ok (.getfield 10, 3) := by decide +kernel
theorem dX11_isSound_29 : decode cX11_isSound 29 = .ok (.invokevirtual 345, 3) := by decide +kernel
theorem dX11_isSound_32 : decode cX11_isSound 32 = .ok (.ifCond .eq 27, 3) := by decide +kernel
theorem dX11_isSound_35 : decode cX11_isSound 35 = .ok (.aload_n 0, 1) := by decide +kernel
theorem dX11_isSound_36 : decode cX11_isSound 36 = .ok (.getfield 26, 3) := by decide +kernel
theorem dX11_isSound_39 : decode cX11_isSound 39 = .ok (.invokevirtual 349, 3) := by decide +kernel
theorem dX11_isSound_42 : decode cX11_isSound 42 = .ok (.ifCond .eq 17, 3) := by decide +kernel
theorem dX11_isSound_45 : decode cX11_isSound 45 = .ok (.aload_n 0, 1) := by decide +kernel
theorem dX11_isSound_46 : decode cX11_isSound 46 = .ok (.getfield 10, 3) := by decide +kernel
theorem dX11_isSound_49 : decode cX11_isSound 49 = .ok (.invokevirtual 352, 3) := by decide +kernel
theorem dX11_isSound_52 : decode cX11_isSound 52 = .ok (.ifCond .eq 7, 3) := by decide +kernel
theorem dX11_isSound_55 : decode cX11_isSound 55 = .ok (.iconst 1, 1) := by decide +kernel
theorem dX11_isSound_56 : decode cX11_isSound 56 = .ok (.goto 4, 3) := by decide +kernel
theorem dX11_isSound_59 : decode cX11_isSound 59 = .ok (.iconst 0, 1) := by decide +kernel
theorem dX11_isSound_60 : decode cX11_isSound 60 = .ok (.ireturn, 1) := by decide +kernel
theorem dX11_isIndex_0 : decode cX11_isIndex 0 = .ok (.iload_n 0, 1) := by decide +kernel
theorem dX11_isIndex_1 : decode cX11_isIndex 1 = .ok (.ifCond .lt 12, 3) := by decide +kernel
theorem dX11_isIndex_4 : decode cX11_isIndex 4 = .ok (.iload_n 0, 1) := by decide +kernel
theorem dX11_isIndex_5 : decode cX11_isIndex 5 = .ok (.iload_n 1, 1) := by decide +kernel
theorem dX11_isIndex_6 : decode cX11_isIndex 6 = .ok (.if_icmp .ge 7, 3) := by decide +kernel
theorem dX11_isIndex_9 : decode cX11_isIndex 9 = .ok (.iconst 1, 1) := by decide +kernel
theorem dX11_isIndex_10 : decode cX11_isIndex 10 = .ok (.goto 4, 3) := by decide +kernel
theorem dX11_isIndex_13 : decode cX11_isIndex 13 = .ok (.iconst 0, 1) := by decide +kernel
theorem dX11_isIndex_14 : decode cX11_isIndex 14 = .ok (.ireturn, 1) := by decide +kernel
theorem dX11_requireRange_0 : decode cX11_requireRange 0 = .ok (.iload_n 0, 1) := by decide +kernel
theorem dX11_requireRange_1 : decode cX11_requireRange 1 = .ok (.iload_n 1, 1) := by decide +kernel
theorem dX11_requireRange_2 : decode cX11_requireRange 2 = .ok (.if_icmp .lt 8, 3) := by decide +kernel
theorem dX11_requireRange_5 : decode cX11_requireRange 5 = .ok (.iload_n 0, 1) := by decide +kernel
theorem dX11_requireRange_6 : decode cX11_requireRange 6 = .ok (.iload_n 2, 1) := by decide +kernel
theorem dX11_requireRange_7 : decode cX11_requireRange 7 = .ok (.if_icmp .le 14, 3) := by decide +kernel
theorem dX11_requireRange_10 : decode cX11_requireRange 10 = .ok (.new 355, 3) := by decide +kernel
theorem dX11_requireRange_13 : decode cX11_requireRange 13 = .ok (.dup, 1) := by decide +kernel
theorem dX11_requireRange_14 : decode cX11_requireRange 14 = .ok (.ldc_w 357, 3) := by decide +kernel
theorem dX11_requireRange_17 : decode cX11_requireRange 17 = .ok (.invokespecial 359, 3) := by decide +kernel
theorem dX11_requireRange_20 : decode cX11_requireRange 20 = .ok (.athrow, 1) := by decide +kernel
theorem dX11_requireRange_21 : decode cX11_requireRange 21 = .ok (.return_, 1) := by decide +kernel
theorem dX11_requireThing_0 : decode cX11_requireThing 0 = .ok (.iload_n 0, 1) := by decide +kernel
theorem dX11_requireThing_1 : decode cX11_requireThing 1 = .ok (.bipush 98, 2) := by decide +kernel
theorem dX11_requireThing_3 : decode cX11_requireThing 3 = .ok (.if_icmp .eq 44, 3) := by decide +kernel
theorem dX11_requireThing_6 : decode cX11_requireThing 6 = .ok (.iload_n 0, 1) := by decide +kernel
theorem dX11_requireThing_7 : decode cX11_requireThing 7 = .ok (.bipush 101, 2) := by decide +kernel
theorem dX11_requireThing_9 : decode cX11_requireThing 9 = .ok (.if_icmp .eq 38, 3) := by decide +kernel
theorem dX11_requireThing_12 : decode cX11_requireThing 12 = .ok (.iload_n 0, 1) := by decide +kernel
theorem dX11_requireThing_13 : decode cX11_requireThing 13 = .ok (.bipush 109, 2) := by decide +kernel
theorem dX11_requireThing_15 : decode cX11_requireThing 15 = .ok (.if_icmp .eq 32, 3) := by decide +kernel
theorem dX11_requireThing_18 : decode cX11_requireThing 18 = .ok (.iload_n 0, 1) := by decide +kernel
theorem dX11_requireThing_19 : decode cX11_requireThing 19 = .ok (.bipush 115, 2) := by decide +kernel
theorem dX11_requireThing_21 : decode cX11_requireThing 21 = .ok (.if_icmp .eq 26, 3) := by decide +kernel
theorem dX11_requireThing_24 : decode cX11_requireThing 24 = .ok (.iload_n 0, 1) := by decide +kernel
theorem dX11_requireThing_25 : decode cX11_requireThing 25 = .ok (.bipush 99, 2) := by decide +kernel
theorem dX11_requireThing_27 : decode cX11_requireThing 27 = .ok (.if_icmp .eq 20, 3) := by decide +kernel
theorem dX11_requireThing_30 : decode cX11_requireThing 30 = .ok (.iload_n 0, 1) := by decide +kernel
theorem dX11_requireThing_31 : decode cX11_requireThing 31 = .ok (.bipush 100, 2) := by decide +kernel
theorem dX11_requireThing_33 : decode cX11_requireThing 33 = .ok (.if_icmp .eq 14, 3) := by decide +kernel
theorem dX11_requireThing_36 : decode cX11_requireThing 36 = .ok (.new 355, 3) := by decide +kernel
theorem dX11_requireThing_39 : decode cX11_requireThing 39 = .ok (.dup, 1) := by decide +kernel
theorem dX11_requireThing_40 : decode cX11_requireThing 40 = .ok (.ldc_w 360, 3) := by decide +kernel
theorem dX11_requireThing_43 : decode cX11_requireThing 43 = .ok (.invokespecial 359, 3) := by decide +kernel
theorem dX11_requireThing_46 : decode cX11_requireThing 46 = .ok (.athrow, 1) := by decide +kernel
theorem dX11_requireThing_47 : decode cX11_requireThing 47 = .ok (.return_, 1) := by decide +kernel
theorem dX11_requirePitch_0 : decode cX11_requirePitch 0 = .ok (.iload_n 1, 1) := by decide +kernel
theorem dX11_requirePitch_1 : decode cX11_requirePitch 1 = .ok (.aload_n 0, 1) := by decide +kernel
theorem dX11_requirePitch_2 : decode cX11_requirePitch 2 = .ok (.getfield 10, 3) := by decide +kernel
theorem dX11_requirePitch_5 : decode cX11_requirePitch 5 = .ok (.getfield 75, 3) := by decide +kernel
theorem dX11_requirePitch_8 : decode cX11_requirePitch 8 = .ok (.invokevirtual 79, 3) := by decide +kernel
theorem dX11_requirePitch_11 : decode cX11_requirePitch 11 = .ok (.invokestatic 208, 3) := by decide +kernel
theorem dX11_requirePitch_14 : decode cX11_requirePitch 14 = .ok (.ifCond .ne 14, 3) := by decide +kernel
theorem dX11_requirePitch_17 : decode cX11_requirePitch 17 = .ok (.new 211, 3) := by decide +kernel
theorem dX11_requirePitch_20 : decode cX11_requirePitch 20 = .ok (.dup, 1) := by decide +kernel
theorem dX11_requirePitch_21 : decode cX11_requirePitch 21 = .ok (.ldc_w 362, 3) := by decide +kernel
theorem dX11_requirePitch_24 : decode cX11_requirePitch 24 = .ok (.invokespecial 215, 3) := by decide +kernel
theorem dX11_requirePitch_27 : decode cX11_requirePitch 27 = .ok (.athrow, 1) := by decide +kernel
theorem dX11_requirePitch_28 : decode cX11_requirePitch 28 = .ok (.return_, 1) := by decide +kernel
theorem dX11_requireAct_0 : decode cX11_requireAct 0 = .ok (.iload_n 1, 1) := by decide +kernel
theorem dX11_requireAct_1 : decode cX11_requireAct 1 = .ok (.aload_n 0, 1) := by decide +kernel
theorem dX11_requireAct_2 : decode cX11_requireAct 2 = .ok (.getfield 10, 3) := by decide +kernel
theorem dX11_requireAct_5 : decode cX11_requireAct 5 = .ok (.getfield 115, 3) := by decide +kernel
theorem dX11_requireAct_8 : decode cX11_requireAct 8 = .ok (.invokevirtual 79, 3) := by decide +kernel
theorem dX11_requireAct_11 : decode cX11_requireAct 11 = .ok (.invokestatic 208, 3) := by decide +kernel
theorem dX11_requireAct_14 : decode cX11_requireAct 14 = .ok (.ifCond .ne 14, 3) := by decide +kernel
theorem dX11_requireAct_17 : decode cX11_requireAct 17 = .ok (.new 211, 3) := by decide +kernel
theorem dX11_requireAct_20 : decode cX11_requireAct 20 = .ok (.dup, 1) := by decide +kernel
theorem dX11_requireAct_21 : decode cX11_requireAct 21 = .ok (.ldc_w 364, 3) := by decide +kernel
theorem dX11_requireAct_24 : decode cX11_requireAct 24 = .ok (.invokespecial 215, 3) := by decide +kernel
theorem dX11_requireAct_27 : decode cX11_requireAct 27 = .ok (.athrow, 1) := by decide +kernel
theorem dX11_requireAct_28 : decode cX11_requireAct 28 = .ok (.return_, 1) := by decide +kernel
theorem dX11_requireTwoActs_0 : decode cX11_requireTwoActs 0 = .ok (.aload_n 0, 1) := by decide +kernel
theorem dX11_requireTwoActs_1 : decode cX11_requireTwoActs 1 = .ok (.iload_n 1, 1) := by decide +kernel
theorem dX11_requireTwoActs_2 : decode cX11_requireTwoActs 2 = .ok (.invokevirtual 125, 3) := by decide +kernel
theorem dX11_requireTwoActs_5 : decode cX11_requireTwoActs 5 = .ok (.aload_n 0, 1) := by decide +kernel
theorem dX11_requireTwoActs_6 : decode cX11_requireTwoActs 6 = .ok (.iload_n 2, 1) := by decide +kernel
theorem dX11_requireTwoActs_7 : decode cX11_requireTwoActs 7 = .ok (.invokevirtual 125, 3) := by decide +kernel
theorem dX11_requireTwoActs_10 : decode cX11_requireTwoActs 10 = .ok (.iload_n 1, 1) := by decide +kernel
theorem dX11_requireTwoActs_11 : decode cX11_requireTwoActs 11 = .ok (.iload_n 2, 1) := by decide +kernel
theorem dX11_requireTwoActs_12 : decode cX11_requireTwoActs 12 = .ok (.if_icmp .ne 14, 3) := by decide +kernel
theorem dX11_requireTwoActs_15 : decode cX11_requireTwoActs 15 = .ok (.new 355, 3) := by decide +kernel
theorem dX11_requireTwoActs_18 : decode cX11_requireTwoActs 18 = .ok (.dup, 1) := by decide +kernel
theorem dX11_requireTwoActs_19 : decode cX11_requireTwoActs 19 = .ok (.ldc_w 366, 3) := by decide +kernel
theorem dX11_requireTwoActs_22 : decode cX11_requireTwoActs 22 = .ok (.invokespecial 359, 3) := by decide +kernel
theorem dX11_requireTwoActs_25 : decode cX11_requireTwoActs 25 = .ok (.athrow, 1) := by decide +kernel
theorem dX11_requireTwoActs_26 : decode cX11_requireTwoActs 26 = .ok (.return_, 1) := by decide +kernel
theorem dX11_requireNotPlayed_0 : decode cX11_requireNotPlayed 0 = .ok (.aload_n 0, 1) := by decide +kernel
theorem dX11_requireNotPlayed_1 : decode cX11_requireNotPlayed 1 = .ok (.getfield 49, 3) := by decide +kernel
theorem dX11_requireNotPlayed_4 : decode cX11_requireNotPlayed 4 = .ok (.getfield 368, 3) := by decide +kernel
theorem dX11_requireNotPlayed_7 : decode cX11_requireNotPlayed 7 = .ok (.ifCond .eq 14, 3) := by decide +kernel
theorem dX11_requireNotPlayed_10 : decode cX11_requireNotPlayed 10 = .ok (.new 85, 3) := by decide +kernel
theorem dX11_requireNotPlayed_13 : decode cX11_requireNotPlayed 13 = .ok (.dup, 1) := by decide +kernel
theorem dX11_requireNotPlayed_14 : decode cX11_requireNotPlayed 14 = .ok (.ldc_w 371, 3) := by decide +kernel
theorem dX11_requireNotPlayed_17 : decode cX11_requireNotPlayed 17 = .ok (.invokespecial 89, 3) := by decide +kernel
theorem dX11_requireNotPlayed_20 : decode cX11_requireNotPlayed 20 = .ok (.athrow, 1) := by decide +kernel
theorem dX11_requireNotPlayed_21 : decode cX11_requireNotPlayed 21 = .ok (.return_, 1) := by decide +kernel
theorem dX11_requirePlayed_0 : decode cX11_requirePlayed 0 = .ok (.aload_n 0, 1) := by decide +kernel
theorem dX11_requirePlayed_1 : decode cX11_requirePlayed 1 = .ok (.getfield 49, 3) := by decide +kernel
theorem dX11_requirePlayed_4 : decode cX11_requirePlayed 4 = .ok (.getfield 368, 3) := by decide +kernel
theorem dX11_requirePlayed_7 : decode cX11_requirePlayed 7 = .ok (.ifCond .ne 14, 3) := by decide +kernel
theorem dX11_requirePlayed_10 : decode cX11_requirePlayed 10 = .ok (.new 85, 3) := by decide +kernel
theorem dX11_requirePlayed_13 : decode cX11_requirePlayed 13 = .ok (.dup, 1) := by decide +kernel
theorem dX11_requirePlayed_14 : decode cX11_requirePlayed 14 = .ok (.ldc_w 373, 3) := by decide +kernel
theorem dX11_requirePlayed_17 : decode cX11_requirePlayed 17 = .ok (.invokespecial 89, 3) := by decide +kernel
theorem dX11_requirePlayed_20 : decode cX11_requirePlayed 20 = .ok (.athrow, 1) := by decide +kernel
theorem dX11_requirePlayed_21 : decode cX11_requirePlayed 21 = .ok (.return_, 1) := by decide +kernel
theorem dX11_requirePlayedTurn_0 : decode cX11_requirePlayedTurn 0 = .ok (.aload_n 0, 1) := by decide +kernel
theorem dX11_requirePlayedTurn_1 : decode cX11_requirePlayedTurn 1 = .ok (.getfield 10, 3) := by decide +kernel
theorem dX11_requirePlayedTurn_4 : decode cX11_requirePlayedTurn 4 = .ok (.getfield 75, 3) := by decide +kernel
theorem dX11_requirePlayedTurn_7 : decode cX11_requirePlayedTurn 7 = .ok (.iload_n 1, 1) := by decide +kernel
theorem dX11_requirePlayedTurn_8 : decode cX11_requirePlayedTurn 8 = .ok (.invokevirtual 103, 3) := by decide +kernel
theorem dX11_requirePlayedTurn_11 : decode cX11_requirePlayedTurn 11 = .ok (.checkcast 90, 3) := by decide +kernel
theorem dX11_requirePlayedTurn_14 : decode cX11_requirePlayedTurn 14 = .ok (.getfield 190, 3) := by decide +kernel
theorem dX11_requirePlayedTurn_17 : decode cX11_requirePlayedTurn 17 = .ok (.astore_n 3, 1) := by decide +kernel
theorem dX11_requirePlayedTurn_18 : decode cX11_requirePlayedTurn 18 = .ok (.iload_n 2, 1) := by decide +kernel
theorem dX11_requirePlayedTurn_19 : decode cX11_requirePlayedTurn 19 = .ok (.aload_n 3, 1) := by decide +kernel
theorem dX11_requirePlayedTurn_20 : decode cX11_requirePlayedTurn 20 = .ok (.invokevirtual 79, 3) := by decide +kernel
theorem dX11_requirePlayedTurn_23 : decode cX11_requirePlayedTurn 23 = .ok (.invokestatic 208, 3) := by decide +kernel
theorem dX11_requirePlayedTurn_26 : decode cX11_requirePlayedTurn 26 = .ok (.ifCond .eq 17, 3) := by decide +kernel
theorem dX11_requirePlayedTurn_29 : decode cX11_requirePlayedTurn 29 = .ok (.aload_n 3, 1) := by decide +kernel
theorem dX11_requirePlayedTurn_30 : decode cX11_requirePlayedTurn 30 = .ok (.iload_n 2, 1) := by decide +kernel
theorem dX11_requirePlayedTurn_31 : decode cX11_requirePlayedTurn 31 = .ok (.invokevirtual 103, 3) := by decide +kernel
theorem dX11_requirePlayedTurn_34 : decode cX11_requirePlayedTurn 34 = .ok (.checkcast 198, 3) := by decide +kernel
theorem dX11_requirePlayedTurn_37 : decode cX11_requirePlayedTurn 37 = .ok (.getfield 375, 3) := by decide +kernel
theorem dX11_requirePlayedTurn_40 : decode cX11_requirePlayedTurn 40 = .ok (.ifCond .ne 14, 3) := by decide +kernel
theorem dX11_requirePlayedTurn_43 : decode cX11_requirePlayedTurn 43 = .ok (.new 158, 3) := by decide +kernel
theorem dX11_requirePlayedTurn_46 : decode cX11_requirePlayedTurn 46 = .ok (.dup, 1) := by decide +kernel
theorem dX11_requirePlayedTurn_47 : decode cX11_requirePlayedTurn 47 = .ok (.ldc_w 378, 3) := by decide +kernel
theorem dX11_requirePlayedTurn_50 : decode cX11_requirePlayedTurn 50 = .ok (.invokespecial 162, 3) := by decide +kernel
theorem dX11_requirePlayedTurn_53 : decode cX11_requirePlayedTurn 53 = .ok (.athrow, 1) := by decide +kernel
theorem dX11_requirePlayedTurn_54 : decode cX11_requirePlayedTurn 54 = .ok (.return_, 1) := by decide +kernel
theorem dX11_requireVisit_0 : decode cX11_requireVisit 0 = .ok (.iload_n 1, 1) := by decide +kernel
theorem dX11_requireVisit_1 : decode cX11_requireVisit 1 = .ok (.aload_n 0, 1) := by decide +kernel
theorem dX11_requireVisit_2 : decode cX11_requireVisit 2 = .ok (.getfield 49, 3) := by decide +kernel
theorem dX11_requireVisit_5 : decode cX11_requireVisit 5 = .ok (.getfield 251, 3) := by decide +kernel
theorem dX11_requireVisit_8 : decode cX11_requireVisit 8 = .ok (.invokevirtual 79, 3) := by decide +kernel
theorem dX11_requireVisit_11 : decode cX11_requireVisit 11 = .ok (.invokestatic 208, 3) := by decide +kernel
theorem dX11_requireVisit_14 : decode cX11_requireVisit 14 = .ok (.ifCond .ne 14, 3) := by decide +kernel
theorem dX11_requireVisit_17 : decode cX11_requireVisit 17 = .ok (.new 158, 3) := by decide +kernel
theorem dX11_requireVisit_20 : decode cX11_requireVisit 20 = .ok (.dup, 1) := by decide +kernel
theorem dX11_requireVisit_21 : decode cX11_requireVisit 21 = .ok (.ldc_w 380, 3) := by decide +kernel
theorem dX11_requireVisit_24 : decode cX11_requireVisit 24 = .ok (.invokespecial 162, 3) := by decide +kernel
theorem dX11_requireVisit_27 : decode cX11_requireVisit 27 = .ok (.athrow, 1) := by decide +kernel
theorem dX11_requireVisit_28 : decode cX11_requireVisit 28 = .ok (.return_, 1) := by decide +kernel
theorem dX11_allowsExchange_0 : decode cX11_allowsExchange 0 = .ok (.iconst 0, 1) := by decide +kernel
theorem dX11_allowsExchange_1 : decode cX11_allowsExchange 1 = .ok (.istore 4, 2) := by decide +kernel
theorem dX11_allowsExchange_3 : decode cX11_allowsExchange 3 = .ok (.aload_n 1, 1) := by decide +kernel
theorem dX11_allowsExchange_4 : decode cX11_allowsExchange 4 = .ok (.invokevirtual 79, 3) := by decide +kernel
theorem dX11_allowsExchange_7 : decode cX11_allowsExchange 7 = .ok (.iconst 1, 1) := by decide +kernel
theorem dX11_allowsExchange_8 : decode cX11_allowsExchange 8 = .ok (.isub, 1) := by decide +kernel
theorem dX11_allowsExchange_9 : decode cX11_allowsExchange 9 = .ok (.istore 5, 2) := by decide +kernel
theorem dX11_allowsExchange_11 : decode cX11_allowsExchange 11 = .ok (.iload 5, 2) := by decide +kernel
theorem dX11_allowsExchange_13 : decode cX11_allowsExchange 13 = .ok (.ifCond .lt 58, 3) := by decide +kernel
theorem dX11_allowsExchange_16 : decode cX11_allowsExchange 16 = .ok (.aload_n 1, 1) := by decide +kernel
theorem dX11_allowsExchange_17 : decode cX11_allowsExchange 17 = .ok (.iload 5, 2) := by decide +kernel
theorem dX11_allowsExchange_19 : decode cX11_allowsExchange 19 = .ok (.iload_n 2, 1) := by decide +kernel
theorem dX11_allowsExchange_20 : decode cX11_allowsExchange 20 = .ok (.iload_n 3, 1) := by decide +kernel
theorem dX11_allowsExchange_21 : decode cX11_allowsExchange 21 = .ok (.invokestatic 382, 3) := by decide +kernel
theorem dX11_allowsExchange_24 : decode cX11_allowsExchange 24 = .ok (.invokevirtual 103, 3) := by decide +kernel
theorem dX11_allowsExchange_27 : decode cX11_allowsExchange 27 = .ok (.checkcast 198, 3) := by decide +kernel
theorem dX11_allowsExchange_30 : decode cX11_allowsExchange 30 = .ok (.getfield 226, 3) := by decide +kernel
theorem dX11_allowsExchange_33 : decode cX11_allowsExchange 33 = .ok (.getfield 230, 3) := by decide +kernel
theorem dX11_allowsExchange_36 : decode cX11_allowsExchange 36 = .ok (.istore 6, 2) := by decide +kernel
theorem dX11_allowsExchange_38 : decode cX11_allowsExchange 38 = .ok (.aload_n 0, 1) := by decide +kernel
theorem dX11_allowsExchange_39 : decode cX11_allowsExchange 39 = .ok (.getfield 19, 3) := by decide +kernel
theorem dX11_allowsExchange_42 : decode cX11_allowsExchange 42 = .ok (.getfield 385, 3) := by decide +kernel
theorem dX11_allowsExchange_45 : decode cX11_allowsExchange 45 = .ok (.iload 6, 2) := by decide +kernel
theorem dX11_allowsExchange_47 : decode cX11_allowsExchange 47 = .ok (.iaload, 1) := by decide +kernel
theorem dX11_allowsExchange_48 : decode cX11_allowsExchange 48 = .ok (.iload 4, 2) := by decide +kernel
theorem dX11_allowsExchange_50 : decode cX11_allowsExchange 50 = .ok (.iand, 1) := by decide +kernel
theorem dX11_allowsExchange_51 : decode cX11_allowsExchange 51 = .ok (.ifCond .eq 5, 3) := by decide +kernel
theorem dX11_allowsExchange_54 : decode cX11_allowsExchange 54 = .ok (.iconst 0, 1) := by decide +kernel
theorem dX11_allowsExchange_55 : decode cX11_allowsExchange 55 = .ok (.ireturn, 1) := by decide +kernel
theorem dX11_allowsExchange_56 : decode cX11_allowsExchange 56 = .ok (.iload 4, 2) := by decide +kernel
theorem dX11_allowsExchange_58 : decode cX11_allowsExchange 58 = .ok (.iconst 1, 1) := by decide +kernel
theorem dX11_allowsExchange_59 : decode cX11_allowsExchange 59 = .ok (.iload 6, 2) := by decide +kernel
theorem dX11_allowsExchange_61 : decode cX11_allowsExchange 61 = .ok (.ishl, 1) := by decide +kernel
theorem dX11_allowsExchange_62 : decode cX11_allowsExchange 62 = .ok (.ior, 1) := by decide +kernel
theorem dX11_allowsExchange_63 : decode cX11_allowsExchange 63 = .ok (.istore 4, 2) := by decide +kernel
theorem dX11_allowsExchange_65 : decode cX11_allowsExchange 65 = .ok (.iinc 5 (-1), 3) := by decide +kernel
theorem dX11_allowsExchange_68 : decode cX11_allowsExchange 68 = .ok (.goto (-57), 3) := by decide +kernel
theorem dX11_allowsExchange_71 : decode cX11_allowsExchange 71 = .ok (.iconst 1, 1) := by decide +kernel
theorem dX11_allowsExchange_72 : decode cX11_allowsExchange 72 = .ok (.ireturn, 1) := by decide +kernel
theorem dX11_exchanged_0 : decode cX11_exchanged 0 = .ok (.iload_n 0, 1) := by decide +kernel
theorem dX11_exchanged_1 : decode cX11_exchanged 1 = .ok (.iload_n 1, 1) := by decide +kernel
theorem dX11_exchanged_2 : decode cX11_exchanged 2 = .ok (.if_icmp .ne 5, 3) := by decide +kernel
theorem dX11_exchanged_5 : decode cX11_exchanged 5 = .ok (.iload_n 2, 1) := by decide +kernel
theorem dX11_exchanged_6 : decode cX11_exchanged 6 = .ok (.ireturn, 1) := by decide +kernel
theorem dX11_exchanged_7 : decode cX11_exchanged 7 = .ok (.iload_n 0, 1) := by decide +kernel
theorem dX11_exchanged_8 : decode cX11_exchanged 8 = .ok (.iload_n 2, 1) := by decide +kernel
theorem dX11_exchanged_9 : decode cX11_exchanged 9 = .ok (.if_icmp .ne 7, 3) := by decide +kernel
theorem dX11_exchanged_12 : decode cX11_exchanged 12 = .ok (.iload_n 1, 1) := by decide +kernel
theorem dX11_exchanged_13 : decode cX11_exchanged 13 = .ok (.goto 4, 3) := by decide +kernel
theorem dX11_exchanged_16 : decode cX11_exchanged 16 = .ok (.iload_n 0, 1) := by decide +kernel
theorem dX11_exchanged_17 : decode cX11_exchanged 17 = .ok (.ireturn, 1) := by decide +kernel
theorem dX12_init_0 : decode cX12_init 0 = .ok (.aload_n 0, 1) := by decide +kernel
theorem dX12_init_1 : decode cX12_init 1 = .ok (.invokespecial 1, 3) := by decide +kernel
theorem dX12_init_4 : decode cX12_init 4 = .ok (.aload_n 0, 1) := by decide +kernel
theorem dX12_init_5 : decode cX12_init 5 = .ok (.iload_n 1, 1) := by decide +kernel
theorem dX12_init_6 : decode cX12_init 6 = .ok (.putfield 7, 3) := by decide +kernel
theorem dX12_init_9 : decode cX12_init 9 = .ok (.aload_n 0, 1) := by decide +kernel
theorem dX12_init_10 : decode cX12_init 10 = .ok (.iload_n 2, 1) := by decide +kernel
theorem dX12_init_11 : decode cX12_init 11 = .ok (.putfield 13, 3) := by decide +kernel
theorem dX12_init_14 : decode cX12_init 14 = .ok (.aload_n 0, 1) := by decide +kernel
theorem dX12_init_15 : decode cX12_init 15 = .ok (.iload_n 3, 1) := by decide +kernel
theorem dX12_init_16 : decode cX12_init 16 = .ok (.putfield 16, 3) := by decide +kernel
theorem dX12_init_19 : decode cX12_init 19 = .ok (.aload_n 0, 1) := by decide +kernel
theorem dX12_init_20 : decode cX12_init 20 = .ok (.iload 4, 2) := by decide +kernel
theorem dX12_init_22 : decode cX12_init 22 = .ok (.putfield 19, 3) := by decide +kernel
theorem dX12_init_25 : decode cX12_init 25 = .ok (.aload_n 0, 1) := by decide +kernel
theorem dX12_init_26 : decode cX12_init 26 = .ok (.iload 5, 2) := by decide +kernel
theorem dX12_init_28 : decode cX12_init 28 = .ok (.putfield 22, 3) := by decide +kernel
theorem dX12_init_31 : decode cX12_init 31 = .ok (.aload_n 0, 1) := by decide +kernel
theorem dX12_init_32 : decode cX12_init 32 = .ok (.iload 6, 2) := by decide +kernel
theorem dX12_init_34 : decode cX12_init 34 = .ok (.putfield 26, 3) := by decide +kernel
theorem dX12_init_37 : decode cX12_init 37 = .ok (.return_, 1) := by decide +kernel
theorem dX13_init_0 : decode cX13_init 0 = .ok (.aload_n 0, 1) := by decide +kernel
theorem dX13_init_1 : decode cX13_init 1 = .ok (.invokespecial 3, 3) := by decide +kernel
theorem dX13_init_4 : decode cX13_init 4 = .ok (.aload_n 0, 1) := by decide +kernel
theorem dX13_init_5 : decode cX13_init 5 = .ok (.bipush 10, 2) := by decide +kernel
theorem dX13_init_7 : decode cX13_init 7 = .ok (.newarray .int, 2) := by decide +kernel
theorem dX13_init_9 : decode cX13_init 9 = .ok (.putfield 9, 3) := by decide +kernel
theorem dX13_init_12 : decode cX13_init 12 = .ok (.aload_n 0, 1) := by decide +kernel
theorem dX13_init_13 : decode cX13_init 13 = .ok (.new 15, 3) := by decide +kernel
theorem dX13_init_16 : decode cX13_init 16 = .ok (.dup, 1) := by decide +kernel

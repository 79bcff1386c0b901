/-! DECODE rows (printed) -/
theorem dX16_addVisit_15 : decode cX16_addVisit 15 = .ok (.ldc2_w 92, 3) := by decide +kernel
theorem dX16_addVisit_18 : decode cX16_addVisit 18 = .ok (.ldc2_w 102, 3) := by decide +kernel
theorem dX16_addVisit_21 : decode cX16_addVisit 21 = .ok (.invokestatic 50, 3) := by decide +kernel
theorem dX16_addVisit_24 : decode cX16_addVisit 24 = .ok (.ifCond .ne 7, 3) := by decide +kernel
theorem dX16_addVisit_27 : decode cX16_addVisit 27 = .ok (.iconst 2, 1) := by decide +kernel
theorem dX16_addVisit_28 : decode cX16_addVisit 28 = .ok (.goto 27, 3) := by decide +kernel
theorem dX16_addVisit_31 : decode cX16_addVisit 31 = .ok (.aload_n 0, 1) := by decide +kernel
theorem dX16_addVisit_32 : decode cX16_addVisit 32 = .ok (.getfield 19, 3) := by decide +kernel
theorem dX16_addVisit_35 : decode cX16_addVisit 35 = .ok (.invokevirtual 46, 3) := by decide +kernel
theorem dX16_addVisit_38 : decode cX16_addVisit 38 = .ok (.bipush 6, 2) := by decide +kernel
theorem dX16_addVisit_40 : decode cX16_addVisit 40 = .ok (.if_icmp .eq 10, 3) := by decide +kernel
theorem dX16_addVisit_43 : decode cX16_addVisit 43 = .ok (.aload_n 0, 1) := by decide +kernel
theorem dX16_addVisit_44 : decode cX16_addVisit 44 = .ok (.getfield 161, 3) := by decide +kernel
theorem dX16_addVisit_47 : decode cX16_addVisit 47 = .ok (.ifCond .eq 7, 3) := by decide +kernel
theorem dX16_addVisit_50 : decode cX16_addVisit 50 = .ok (.iconst 3, 1) := by decide +kernel
theorem dX16_addVisit_51 : decode cX16_addVisit 51 = .ok (.goto 4, 3) := by decide +kernel
theorem dX16_addVisit_54 : decode cX16_addVisit 54 = .ok (.iconst 0, 1) := by decide +kernel
theorem dX16_addVisit_55 : decode cX16_addVisit 55 = .ok (.putfield 43, 3) := by decide +kernel
theorem dX16_addVisit_58 : decode cX16_addVisit 58 = .ok (.aload_n 0, 1) := by decide +kernel
theorem dX16_addVisit_59 : decode cX16_addVisit 59 = .ok (.getfield 43, 3) := by decide +kernel
theorem dX16_addVisit_62 : decode cX16_addVisit 62 = .ok (.ifCond .le 5, 3) := by decide +kernel
theorem dX16_addVisit_65 : decode cX16_addVisit 65 = .ok (.iconst 0, 1) := by decide +kernel
theorem dX16_addVisit_66 : decode cX16_addVisit 66 = .ok (.ireturn, 1) := by decide +kernel
theorem dX16_addVisit_67 : decode cX16_addVisit 67 = .ok (.aload_n 0, 1) := by decide +kernel
theorem dX16_addVisit_68 : decode cX16_addVisit 68 = .ok (.getfield 19, 3) := by decide +kernel
theorem dX16_addVisit_71 : decode cX16_addVisit 71 = .ok (.new 200, 3) := by decide +kernel
theorem dX16_addVisit_74 : decode cX16_addVisit 74 = .ok (.dup, 1) := by decide +kernel
theorem dX16_addVisit_75 : decode cX16_addVisit 75 = .ok (.iload_n 1, 1) := by decide +kernel
theorem dX16_addVisit_76 : decode cX16_addVisit 76 = .ok (.iload_n 2, 1) := by decide +kernel
theorem dX16_addVisit_77 : decode cX16_addVisit 77 = .ok (.invokespecial 202, 3) := by decide +kernel
theorem dX16_addVisit_80 : decode cX16_addVisit 80 = .ok (.invokevirtual 80, 3) := by decide +kernel
theorem dX16_addVisit_83 : decode cX16_addVisit 83 = .ok (.pop, 1) := by decide +kernel
theorem dX16_addVisit_84 : decode cX16_addVisit 84 = .ok (.aload_n 0, 1) := by decide +kernel
theorem dX16_addVisit_85 : decode cX16_addVisit 85 = .ok (.getfield 19, 3) := by decide +kernel
theorem dX16_addVisit_88 : decode cX16_addVisit 88 = .ok (.invokevirtual 46, 3) := by decide +kernel
theorem dX16_addVisit_91 : decode cX16_addVisit 91 = .ok (.ireturn, 1) := by decide +kernel
theorem dX16_partners_0 : decode cX16_partners 0 = .ok (.iconst 0, 1) := by decide +kernel
theorem dX16_partners_1 : decode cX16_partners 1 = .ok (.istore_n 2, 1) := by decide +kernel
theorem dX16_partners_2 : decode cX16_partners 2 = .ok (.aload_n 0, 1) := by decide +kernel
theorem dX16_partners_3 : decode cX16_partners 3 = .ok (.getfield 16, 3) := by decide +kernel
theorem dX16_partners_6 : decode cX16_partners 6 = .ok (.invokevirtual 54, 3) := by decide +kernel
theorem dX16_partners_9 : decode cX16_partners 9 = .ok (.astore_n 3, 1) := by decide +kernel
theorem dX16_partners_10 : decode cX16_partners 10 = .ok (.aload_n 3, 1) := by decide +kernel
theorem dX16_partners_11 : decode cX16_partners 11 = .ok (.invokeinterface 58 1, 5) := by decide +kernel
theorem dX16_partners_16 : decode cX16_partners 16 = .ok (.ifCond .eq 34, 3) := by decide +kernel
theorem dX16_partners_19 : decode cX16_partners 19 = .ok (.aload_n 3, 1) := by decide +kernel
theorem dX16_partners_20 : decode cX16_partners 20 = .ok (.invokeinterface 64 1, 5) := by decide +kernel
theorem dX16_partners_25 : decode cX16_partners 25 = .ok (.checkcast 111, 3) := by decide +kernel
theorem dX16_partners_28 : decode cX16_partners 28 = .ok (.astore 4, 2) := by decide +kernel
theorem dX16_partners_30 : decode cX16_partners 30 = .ok (.iload_n 2, 1) := by decide +kernel
theorem dX16_partners_31 : decode cX16_partners 31 = .ok (.aload 4, 2) := by decide +kernel
theorem dX16_partners_33 : decode cX16_partners 33 = .ok (.getfield 205, 3) := by decide +kernel
theorem dX16_partners_36 : decode cX16_partners 36 = .ok (.iload_n 1, 1) := by decide +kernel
theorem dX16_partners_37 : decode cX16_partners 37 = .ok (.if_icmp .ne 7, 3) := by decide +kernel
theorem dX16_partners_40 : decode cX16_partners 40 = .ok (.iconst 1, 1) := by decide +kernel
theorem dX16_partners_41 : decode cX16_partners 41 = .ok (.goto 4, 3) := by decide +kernel
theorem dX16_partners_44 : decode cX16_partners 44 = .ok (.iconst 0, 1) := by decide +kernel
theorem dX16_partners_45 : decode cX16_partners 45 = .ok (.iadd, 1) := by decide +kernel
theorem dX16_partners_46 : decode cX16_partners 46 = .ok (.istore_n 2, 1) := by decide +kernel
theorem dX16_partners_47 : decode cX16_partners 47 = .ok (.goto (-37), 3) := by decide +kernel
theorem dX16_partners_50 : decode cX16_partners 50 = .ok (.iload_n 2, 1) := by decide +kernel
theorem dX16_partners_51 : decode cX16_partners 51 = .ok (.ireturn, 1) := by decide +kernel
theorem dX16_join_0 : decode cX16_join 0 = .ok (.aload_n 0, 1) := by decide +kernel
theorem dX16_join_1 : decode cX16_join 1 = .ok (.aload_n 0, 1) := by decide +kernel
theorem dX16_join_2 : decode cX16_join 2 = .ok (.iload_n 1, 1) := by decide +kernel
theorem dX16_join_3 : decode cX16_join 3 = .ok (.invokevirtual 116, 3) := by decide +kernel
theorem dX16_join_6 : decode cX16_join 6 = .ok (.ifCond .eq 11, 3) := by decide +kernel
theorem dX16_join_9 : decode cX16_join 9 = .ok (.aload_n 0, 1) := by decide +kernel
theorem dX16_join_10 : decode cX16_join 10 = .ok (.iload_n 2, 1) := by decide +kernel
theorem dX16_join_11 : decode cX16_join 11 = .ok (.invokevirtual 116, 3) := by decide +kernel
theorem dX16_join_14 : decode cX16_join 14 = .ok (.ifCond .ne 7, 3) := by decide +kernel
theorem dX16_join_17 : decode cX16_join 17 = .ok (.iconst 1, 1) := by decide +kernel
theorem dX16_join_18 : decode cX16_join 18 = .ok (.goto 13, 3) := by decide +kernel
theorem dX16_join_21 : decode cX16_join 21 = .ok (.iload_n 1, 1) := by decide +kernel
theorem dX16_join_22 : decode cX16_join 22 = .ok (.iload_n 2, 1) := by decide +kernel
theorem dX16_join_23 : decode cX16_join 23 = .ok (.if_icmp .ne 7, 3) := by decide +kernel
theorem dX16_join_26 : decode cX16_join 26 = .ok (.iconst 2, 1) := by decide +kernel
theorem dX16_join_27 : decode cX16_join 27 = .ok (.goto 4, 3) := by decide +kernel
theorem dX16_join_30 : decode cX16_join 30 = .ok (.iconst 0, 1) := by decide +kernel
theorem dX16_join_31 : decode cX16_join 31 = .ok (.putfield 43, 3) := by decide +kernel
theorem dX16_join_34 : decode cX16_join 34 = .ok (.aload_n 0, 1) := by decide +kernel
theorem dX16_join_35 : decode cX16_join 35 = .ok (.getfield 43, 3) := by decide +kernel
theorem dX16_join_38 : decode cX16_join 38 = .ok (.ifCond .le 5, 3) := by decide +kernel
theorem dX16_join_41 : decode cX16_join 41 = .ok (.iconst 0, 1) := by decide +kernel
theorem dX16_join_42 : decode cX16_join 42 = .ok (.ireturn, 1) := by decide +kernel
theorem dX16_join_43 : decode cX16_join 43 = .ok (.aload_n 0, 1) := by decide +kernel
theorem dX16_join_44 : decode cX16_join 44 = .ok (.getfield 16, 3) := by decide +kernel
theorem dX16_join_47 : decode cX16_join 47 = .ok (.iload_n 2, 1) := by decide +kernel
theorem dX16_join_48 : decode cX16_join 48 = .ok (.invokevirtual 94, 3) := by decide +kernel
theorem dX16_join_51 : decode cX16_join 51 = .ok (.checkcast 111, 3) := by decide +kernel
theorem dX16_join_54 : decode cX16_join 54 = .ok (.getfield 205, 3) := by decide +kernel
theorem dX16_join_57 : decode cX16_join 57 = .ok (.istore_n 3, 1) := by decide +kernel
theorem dX16_join_58 : decode cX16_join 58 = .ok (.aload_n 0, 1) := by decide +kernel
theorem dX16_join_59 : decode cX16_join 59 = .ok (.getfield 16, 3) := by decide +kernel
theorem dX16_join_62 : decode cX16_join 62 = .ok (.invokevirtual 54, 3) := by decide +kernel
theorem dX16_join_65 : decode cX16_join 65 = .ok (.astore 4, 2) := by decide +kernel
theorem dX16_join_67 : decode cX16_join 67 = .ok (.aload 4, 2) := by decide +kernel
theorem dX16_join_69 : decode cX16_join 69 = .ok (.invokeinterface 58 1, 5) := by decide +kernel
theorem dX16_join_74 : decode cX16_join 74 = .ok (.ifCond .eq 54, 3) := by decide +kernel
theorem dX16_join_77 : decode cX16_join 77 = .ok (.aload 4, 2) := by decide +kernel
theorem dX16_join_79 : decode cX16_join 79 = .ok (.invokeinterface 64 1, 5) := by decide +kernel
theorem dX16_join_84 : decode cX16_join 84 = .ok (.checkcast 111, 3) := by decide +kernel
theorem dX16_join_87 : decode cX16_join 87 = .ok (.astore 5, 2) := by decide +kernel
theorem dX16_join_89 : decode cX16_join 89 = .ok (.aload 5, 2) := by decide +kernel
theorem dX16_join_91 : decode cX16_join 91 = .ok (.aload 5, 2) := by decide +kernel
theorem dX16_join_93 : decode cX16_join 93 = .ok (.getfield 205, 3) := by decide +kernel
theorem dX16_join_96 : decode cX16_join 96 = .ok (.iload_n 3, 1) := by decide +kernel
theorem dX16_join_97 : decode cX16_join 97 = .ok (.if_icmp .ne 20, 3) := by decide +kernel
theorem dX16_join_100 : decode cX16_join 100 = .ok (.aload_n 0, 1) := by decide +kernel
theorem dX16_join_101 : decode cX16_join 101 = .ok (.getfield 16, 3) := by decide +kernel
theorem dX16_join_104 : decode cX16_join 104 = .ok (.iload_n 1, 1) := by decide +kernel
theorem dX16_join_105 : decode cX16_join 105 = .ok (.invokevirtual 94, 3) := by decide +kernel
theorem dX16_join_108 : decode cX16_join 108 = .ok (.checkcast 111, 3) := by decide +kernel
theorem dX16_join_111 : decode cX16_join 111 = .ok (.getfield 205, 3) := by decide +kernel
theorem dX16_join_114 : decode cX16_join 114 = .ok (.goto 8, 3) := by decide +kernel
theorem dX16_join_117 : decode cX16_join 117 = .ok (.aload 5, 2) := by decide +kernel
theorem dX16_join_119 : decode cX16_join 119 = .ok (.getfield 205, 3) := by decide +kernel
theorem dX16_join_122 : decode cX16_join 122 = .ok (.putfield 205, 3) := by decide +kernel
theorem dX16_join_125 : decode cX16_join 125 = .ok (.goto (-58), 3) := by decide +kernel
theorem dX16_join_128 : decode cX16_join 128 = .ok (.aload_n 0, 1) := by decide +kernel
theorem dX16_join_129 : decode cX16_join 129 = .ok (.aload_n 0, 1) := by decide +kernel
theorem dX16_join_130 : decode cX16_join 130 = .ok (.getfield 16, 3) := by decide +kernel
theorem dX16_join_133 : decode cX16_join 133 = .ok (.iload_n 1, 1) := by decide +kernel
theorem dX16_join_134 : decode cX16_join 134 = .ok (.invokevirtual 94, 3) := by decide +kernel
theorem dX16_join_137 : decode cX16_join 137 = .ok (.checkcast 111, 3) := by decide +kernel
theorem dX16_join_140 : decode cX16_join 140 = .ok (.getfield 205, 3) := by decide +kernel
theorem dX16_join_143 : decode cX16_join 143 = .ok (.invokevirtual 208, 3) := by decide +kernel
theorem dX16_join_146 : decode cX16_join 146 = .ok (.ireturn, 1) := by decide +kernel
theorem dX16_rains_0 : decode cX16_rains 0 = .ok (.iload_n 1, 1) := by decide +kernel
theorem dX16_rains_1 : decode cX16_rains 1 = .ok (.i2l, 1) := by decide +kernel
theorem dX16_rains_2 : decode cX16_rains 2 = .ok (.aload_n 0, 1) := by decide +kernel
theorem dX16_rains_3 : decode cX16_rains 3 = .ok (.getfield 189, 3) := by decide +kernel
theorem dX16_rains_6 : decode cX16_rains 6 = .ok (.i2l, 1) := by decide +kernel
theorem dX16_rains_7 : decode cX16_rains 7 = .ok (.aload_n 0, 1) := by decide +kernel
theorem dX16_rains_8 : decode cX16_rains 8 = .ok (.getfield 37, 3) := by decide +kernel
theorem dX16_rains_11 : decode cX16_rains 11 = .ok (.i2l, 1) := by decide +kernel
theorem dX16_rains_12 : decode cX16_rains 12 = .ok (.invokestatic 50, 3) := by decide +kernel
theorem dX16_rains_15 : decode cX16_rains 15 = .ok (.ireturn, 1) := by decide +kernel
theorem dX16_begins_0 : decode cX16_begins 0 = .ok (.sipush 600, 3) := by decide +kernel
theorem dX16_begins_3 : decode cX16_begins 3 = .ok (.istore_n 3, 1) := by decide +kernel
theorem dX16_begins_4 : decode cX16_begins 4 = .ok (.iconst 0, 1) := by decide +kernel
theorem dX16_begins_5 : decode cX16_begins 5 = .ok (.istore 4, 2) := by decide +kernel
theorem dX16_begins_7 : decode cX16_begins 7 = .ok (.iload 4, 2) := by decide +kernel
theorem dX16_begins_9 : decode cX16_begins 9 = .ok (.aload_n 1, 1) := by decide +kernel
theorem dX16_begins_10 : decode cX16_begins 10 = .ok (.getfield 164, 3) := by decide +kernel
theorem dX16_begins_13 : decode cX16_begins 13 = .ok (.invokevirtual 46, 3) := by decide +kernel
theorem dX16_begins_16 : decode cX16_begins 16 = .ok (.if_icmp .ge 120, 3) := by decide +kernel
theorem dX16_begins_19 : decode cX16_begins 19 = .ok (.aload_n 1, 1) := by decide +kernel
theorem dX16_begins_20 : decode cX16_begins 20 = .ok (.getfield 164, 3) := by decide +kernel
theorem dX16_begins_23 : decode cX16_begins 23 = .ok (.iload 4, 2) := by decide +kernel
theorem dX16_begins_25 : decode cX16_begins 25 = .ok (.invokevirtual 94, 3) := by decide +kernel
theorem dX16_begins_28 : decode cX16_begins 28 = .ok (.checkcast 167, 3) := by decide +kernel
theorem dX16_begins_31 : decode cX16_begins 31 = .ok (.astore 5, 2) := by decide +kernel
theorem dX16_begins_33 : decode cX16_begins 33 = .ok (.aload 5, 2) := by decide +kernel
theorem dX16_begins_35 : decode cX16_begins 35 = .ok (.getfield 211, 3) := by decide +kernel
theorem dX16_begins_38 : decode cX16_begins 38 = .ok (.iconst (-1), 1) := by decide +kernel
theorem dX16_begins_39 : decode cX16_begins 39 = .ok (.if_icmp .ne 82, 3) := by decide +kernel
theorem dX16_begins_42 : decode cX16_begins 42 = .ok (.iload_n 2, 1) := by decide +kernel
theorem dX16_begins_43 : decode cX16_begins 43 = .ok (.aload_n 0, 1) := by decide +kernel
theorem dX16_begins_44 : decode cX16_begins 44 = .ok (.getfield 16, 3) := by decide +kernel
theorem dX16_begins_47 : decode cX16_begins 47 = .ok (.aload 5, 2) := by decide +kernel
theorem dX16_begins_49 : decode cX16_begins 49 = .ok (.getfield 169, 3) := by decide +kernel
theorem dX16_begins_52 : decode cX16_begins 52 = .ok (.invokevirtual 94, 3) := by decide +kernel
theorem dX16_begins_55 : decode cX16_begins 55 = .ok (.checkcast 111, 3) := by decide +kernel
theorem dX16_begins_58 : decode cX16_begins 58 = .ok (.getfield 214, 3) := by decide +kernel
theorem dX16_begins_61 : decode cX16_begins 61 = .ok (.iadd, 1) := by decide +kernel
theorem dX16_begins_62 : decode cX16_begins 62 = .ok (.iconst 1, 1) := by decide +kernel
theorem dX16_begins_63 : decode cX16_begins 63 = .ok (.isub, 1) := by decide +kernel
theorem dX16_begins_64 : decode cX16_begins 64 = .ok (.sipush 1199, 3) := by decide +kernel
theorem dX16_begins_67 : decode cX16_begins 67 = .ok (.if_icmp .gt 7, 3) := by decide +kernel
theorem dX16_begins_70 : decode cX16_begins 70 = .ok (.iconst 1, 1) := by decide +kernel
theorem dX16_begins_71 : decode cX16_begins 71 = .ok (.goto 4, 3) := by decide +kernel
theorem dX16_begins_74 : decode cX16_begins 74 = .ok (.iconst 0, 1) := by decide +kernel
theorem dX16_begins_75 : decode cX16_begins 75 = .ok (.istore 6, 2) := by decide +kernel
theorem dX16_begins_77 : decode cX16_begins 77 = .ok (.iload_n 3, 1) := by decide +kernel
theorem dX16_begins_78 : decode cX16_begins 78 = .ok (.iload_n 2, 1) := by decide +kernel
theorem dX16_begins_79 : decode cX16_begins 79 = .ok (.if_icmp .ne 41, 3) := by decide +kernel
theorem dX16_begins_82 : decode cX16_begins 82 = .ok (.iload 6, 2) := by decide +kernel
theorem dX16_begins_84 : decode cX16_begins 84 = .ok (.ifCond .eq 36, 3) := by decide +kernel
theorem dX16_begins_87 : decode cX16_begins 87 = .ok (.aload 5, 2) := by decide +kernel
theorem dX16_begins_89 : decode cX16_begins 89 = .ok (.iload_n 2, 1) := by decide +kernel
theorem dX16_begins_90 : decode cX16_begins 90 = .ok (.putfield 211, 3) := by decide +kernel
theorem dX16_begins_93 : decode cX16_begins 93 = .ok (.aload 5, 2) := by decide +kernel
theorem dX16_begins_95 : decode cX16_begins 95 = .ok (.iload_n 2, 1) := by decide +kernel
theorem dX16_begins_96 : decode cX16_begins 96 = .ok (.aload_n 0, 1) := by decide +kernel
theorem dX16_begins_97 : decode cX16_begins 97 = .ok (.getfield 16, 3) := by decide +kernel
theorem dX16_begins_100 : decode cX16_begins 100 = .ok (.aload 5, 2) := by decide +kernel
theorem dX16_begins_102 : decode cX16_begins 102 = .ok (.getfield 169, 3) := by decide +kernel
theorem dX16_begins_105 : decode cX16_begins 105 = .ok (.invokevirtual 94, 3) := by decide +kernel
theorem dX16_begins_108 : decode cX16_begins 108 = .ok (.checkcast 111, 3) := by decide +kernel
theorem dX16_begins_111 : decode cX16_begins 111 = .ok (.getfield 214, 3) := by decide +kernel
theorem dX16_begins_114 : decode cX16_begins 114 = .ok (.iadd, 1) := by decide +kernel
theorem dX16_begins_115 : decode cX16_begins 115 = .ok (.iconst 1, 1) := by decide +kernel
theorem dX16_begins_116 : decode cX16_begins 116 = .ok (.isub, 1) := by decide +kernel
theorem dX16_begins_117 : decode cX16_begins 117 = .ok (.putfield 217, 3) := by decide +kernel
theorem dX16_begins_120 : decode cX16_begins 120 = .ok (.return_, 1) := by decide +kernel
theorem dX16_begins_121 : decode cX16_begins 121 = .ok (.aload 5, 2) := by decide +kernel
theorem dX16_begins_123 : decode cX16_begins 123 = .ok (.getfield 217, 3) := by decide +kernel
theorem dX16_begins_126 : decode cX16_begins 126 = .ok (.bipush 6, 2) := by decide +kernel
theorem dX16_begins_128 : decode cX16_begins 128 = .ok (.iadd, 1) := by decide +kernel
theorem dX16_begins_129 : decode cX16_begins 129 = .ok (.istore_n 3, 1) := by decide +kernel
theorem dX16_begins_130 : decode cX16_begins 130 = .ok (.iinc 4 1, 3) := by decide +kernel
theorem dX16_begins_133 : decode cX16_begins 133 = .ok (.goto (-126), 3) := by decide +kernel
theorem dX16_begins_136 : decode cX16_begins 136 = .ok (.return_, 1) := by decide +kernel
theorem dX16_visits_0 : decode cX16_visits 0 = .ok (.iconst 0, 1) := by decide +kernel
theorem dX16_visits_1 : decode cX16_visits 1 = .ok (.istore_n 2, 1) := by decide +kernel
theorem dX16_visits_2 : decode cX16_visits 2 = .ok (.iload_n 2, 1) := by decide +kernel
theorem dX16_visits_3 : decode cX16_visits 3 = .ok (.aload_n 0, 1) := by decide +kernel
theorem dX16_visits_4 : decode cX16_visits 4 = .ok (.getfield 19, 3) := by decide +kernel
theorem dX16_visits_7 : decode cX16_visits 7 = .ok (.invokevirtual 46, 3) := by decide +kernel
theorem dX16_visits_10 : decode cX16_visits 10 = .ok (.if_icmp .ge 329, 3) := by decide +kernel
theorem dX16_visits_13 : decode cX16_visits 13 = .ok (.aload_n 0, 1) := by decide +kernel
theorem dX16_visits_14 : decode cX16_visits 14 = .ok (.getfield 19, 3) := by decide +kernel
theorem dX16_visits_17 : decode cX16_visits 17 = .ok (.iload_n 2, 1) := by decide +kernel
theorem dX16_visits_18 : decode cX16_visits 18 = .ok (.invokevirtual 94, 3) := by decide +kernel
theorem dX16_visits_21 : decode cX16_visits 21 = .ok (.checkcast 200, 3) := by decide +kernel
theorem dX16_visits_24 : decode cX16_visits 24 = .ok (.astore_n 3, 1) := by decide +kernel
theorem dX16_visits_25 : decode cX16_visits 25 = .ok (.aload_n 3, 1) := by decide +kernel
theorem dX16_visits_26 : decode cX16_visits 26 = .ok (.getfield 220, 3) := by decide +kernel
theorem dX16_visits_29 : decode cX16_visits 29 = .ok (.iload_n 1, 1) := by decide +kernel
theorem dX16_visits_30 : decode cX16_visits 30 = .ok (.if_icmp .ne 24, 3) := by decide +kernel
theorem dX16_visits_33 : decode cX16_visits 33 = .ok (.aload_n 0, 1) := by decide +kernel
theorem dX16_visits_34 : decode cX16_visits 34 = .ok (.getfield 10, 3) := by decide +kernel
theorem dX16_visits_37 : decode cX16_visits 37 = .ok (.aload_n 3, 1) := by decide +kernel
theorem dX16_visits_38 : decode cX16_visits 38 = .ok (.getfield 223, 3) := by decide +kernel
theorem dX16_visits_41 : decode cX16_visits 41 = .ok (.invokevirtual 94, 3) := by decide +kernel
theorem dX16_visits_44 : decode cX16_visits 44 = .ok (.checkcast 68, 3) := by decide +kernel
theorem dX16_visits_47 : decode cX16_visits 47 = .ok (.iload_n 1, 1) := by decide +kernel
theorem dX16_visits_48 : decode cX16_visits 48 = .ok (.invokevirtual 226, 3) := by decide +kernel
theorem dX16_visits_51 : decode cX16_visits 51 = .ok (.goto 4, 3) := by decide +kernel
theorem dX16_visits_54 : decode cX16_visits 54 = .ok (.aconst_null, 1) := by decide +kernel
theorem dX16_visits_55 : decode cX16_visits 55 = .ok (.astore 4, 2) := by decide +kernel
theorem dX16_visits_57 : decode cX16_visits 57 = .ok (.aload 4, 2) := by decide +kernel
theorem dX16_visits_59 : decode cX16_visits 59 = .ok (.ifnull 274, 3) := by decide +kernel
theorem dX16_visits_62 : decode cX16_visits 62 = .ok (.aload_n 0, 1) := by decide +kernel
theorem dX16_visits_63 : decode cX16_visits 63 = .ok (.getfield 10, 3) := by decide +kernel
theorem dX16_visits_66 : decode cX16_visits 66 = .ok (.aload_n 3, 1) := by decide +kernel
theorem dX16_visits_67 : decode cX16_visits 67 = .ok (.getfield 223, 3) := by decide +kernel
theorem dX16_visits_70 : decode cX16_visits 70 = .ok (.invokevirtual 94, 3) := by decide +kernel
theorem dX16_visits_73 : decode cX16_visits 73 = .ok (.checkcast 68, 3) := by decide +kernel
theorem dX16_visits_76 : decode cX16_visits 76 = .ok (.astore 5, 2) := by decide +kernel
theorem dX16_visits_78 : decode cX16_visits 78 = .ok (.aload_n 0, 1) := by decide +kernel
theorem dX16_visits_79 : decode cX16_visits 79 = .ok (.getfield 16, 3) := by decide +kernel
theorem dX16_visits_82 : decode cX16_visits 82 = .ok (.aload 4, 2) := by decide +kernel
theorem dX16_visits_84 : decode cX16_visits 84 = .ok (.getfield 169, 3) := by decide +kernel
theorem dX16_visits_87 : decode cX16_visits 87 = .ok (.invokevirtual 94, 3) := by decide +kernel
theorem dX16_visits_90 : decode cX16_visits 90 = .ok (.checkcast 111, 3) := by decide +kernel
theorem dX16_visits_93 : decode cX16_visits 93 = .ok (.astore 6, 2) := by decide +kernel
theorem dX16_visits_95 : decode cX16_visits 95 = .ok (.iconst 0, 1) := by decide +kernel
theorem dX16_visits_96 : decode cX16_visits 96 = .ok (.istore 7, 2) := by decide +kernel
theorem dX16_visits_98 : decode cX16_visits 98 = .ok (.aload_n 0, 1) := by decide +kernel
theorem dX16_visits_99 : decode cX16_visits 99 = .ok (.getfield 10, 3) := by decide +kernel
theorem dX16_visits_102 : decode cX16_visits 102 = .ok (.invokevirtual 54, 3) := by decide +kernel
theorem dX16_visits_105 : decode cX16_visits 105 = .ok (.astore 8, 2) := by decide +kernel
theorem dX16_visits_107 : decode cX16_visits 107 = .ok (.aload 8, 2) := by decide +kernel
theorem dX16_visits_109 : decode cX16_visits 109 = .ok (.invokeinterface 58 1, 5) := by decide +kernel
theorem dX16_visits_114 : decode cX16_visits 114 = .ok (.ifCond .eq 67, 3) := by decide +kernel
theorem dX16_visits_117 : decode cX16_visits 117 = .ok (.aload 8, 2) := by decide +kernel
theorem dX16_visits_119 : decode cX16_visits 119 = .ok (.invokeinterface 64 1, 5) := by decide +kernel
theorem dX16_visits_124 : decode cX16_visits 124 = .ok (.checkcast 68, 3) := by decide +kernel
theorem dX16_visits_127 : decode cX16_visits 127 = .ok (.astore 9, 2) := by decide +kernel
theorem dX16_visits_129 : decode cX16_visits 129 = .ok (.iload 7, 2) := by decide +kernel
theorem dX16_visits_131 : decode cX16_visits 131 = .ok (.ifCond .ne 40, 3) := by decide +kernel
theorem dX16_visits_134 : decode cX16_visits 134 = .ok (.aload 9, 2) := by decide +kernel
theorem dX16_visits_136 : decode cX16_visits 136 = .ok (.aload 5, 2) := by decide +kernel
theorem dX16_visits_138 : decode cX16_visits 138 = .ok (.if_acmp .eq 37, 3) := by decide +kernel
theorem dX16_visits_141 : decode cX16_visits 141 = .ok (.aload 9, 2) := by decide +kernel
theorem dX16_visits_143 : decode cX16_visits 143 = .ok (.iload_n 1, 1) := by decide +kernel
theorem dX16_visits_144 : decode cX16_visits 144 = .ok (.invokevirtual 226, 3) := by decide +kernel
theorem dX16_visits_147 : decode cX16_visits 147 = .ok (.ifnull 28, 3) := by decide +kernel
theorem dX16_visits_150 : decode cX16_visits 150 = .ok (.aload 9, 2) := by decide +kernel
theorem dX16_visits_152 : decode cX16_visits 152 = .ok (.getfield 70, 3) := by decide +kernel
theorem dX16_visits_155 : decode cX16_visits 155 = .ok (.aload 5, 2) := by decide +kernel
theorem dX16_visits_157 : decode cX16_visits 157 = .ok (.getfield 70, 3) := by decide +kernel
theorem dX16_visits_160 : decode cX16_visits 160 = .ok (.isub, 1) := by decide +kernel
theorem dX16_visits_161 : decode cX16_visits 161 = .ok (.invokestatic 230, 3) := by decide +kernel
theorem dX16_visits_164 : decode cX16_visits 164 = .ok (.aload_n 0, 1) := by decide +kernel
theorem dX16_visits_165 : decode cX16_visits 165 = .ok (.getfield 197, 3) := by decide +kernel
theorem dX16_visits_168 : decode cX16_visits 168 = .ok (.if_icmp .ge 7, 3) := by decide +kernel
theorem dX16_visits_171 : decode cX16_visits 171 = .ok (.iconst 1, 1) := by decide +kernel
theorem dX16_visits_172 : decode cX16_visits 172 = .ok (.goto 4, 3) := by decide +kernel
theorem dX16_visits_175 : decode cX16_visits 175 = .ok (.iconst 0, 1) := by decide +kernel
theorem dX16_visits_176 : decode cX16_visits 176 = .ok (.istore 7, 2) := by decide +kernel
theorem dX16_visits_178 : decode cX16_visits 178 = .ok (.goto (-71), 3) := by decide +kernel
theorem dX16_visits_181 : decode cX16_visits 181 = .ok (.aload 6, 2) := by decide +kernel
theorem dX16_visits_183 : decode cX16_visits 183 = .ok (.getfield 235, 3) := by decide +kernel
theorem dX16_visits_186 : decode cX16_visits 186 = .ok (.ifCond .eq 15, 3) := by decide +kernel
theorem dX16_visits_189 : decode cX16_visits 189 = .ok (.aload 6, 2) := by decide +kernel
theorem dX16_visits_191 : decode cX16_visits 191 = .ok (.getfield 125, 3) := by decide +kernel
theorem dX16_visits_194 : decode cX16_visits 194 = .ok (.ifCond .ne 7, 3) := by decide +kernel
theorem dX16_visits_197 : decode cX16_visits 197 = .ok (.iconst 1, 1) := by decide +kernel
theorem dX16_visits_198 : decode cX16_visits 198 = .ok (.goto 4, 3) := by decide +kernel
theorem dX16_visits_201 : decode cX16_visits 201 = .ok (.iconst 0, 1) := by decide +kernel
theorem dX16_visits_202 : decode cX16_visits 202 = .ok (.istore 8, 2) := by decide +kernel
theorem dX16_visits_204 : decode cX16_visits 204 = .ok (.bipush 10, 2) := by decide +kernel
theorem dX16_visits_206 : decode cX16_visits 206 = .ok (.aload 6, 2) := by decide +kernel
theorem dX16_visits_208 : decode cX16_visits 208 = .ok (.getfield 238, 3) := by decide +kernel
theorem dX16_visits_211 : decode cX16_visits 211 = .ok (.imul, 1) := by decide +kernel
theorem dX16_visits_212 : decode cX16_visits 212 = .ok (.aload 5, 2) := by decide +kernel
theorem dX16_visits_214 : decode cX16_visits 214 = .ok (.getfield 241, 3) := by decide +kernel
theorem dX16_visits_217 : decode cX16_visits 217 = .ok (.iadd, 1) := by decide +kernel
theorem dX16_visits_218 : decode cX16_visits 218 = .ok (.aload_n 0, 1) := by decide +kernel
theorem dX16_visits_219 : decode cX16_visits 219 = .ok (.getfield 40, 3) := by decide +kernel
theorem dX16_visits_222 : decode cX16_visits 222 = .ok (.if_icmp .le 7, 3) := by decide +kernel
theorem dX16_visits_225 : decode cX16_visits 225 = .ok (.iconst 1, 1) := by decide +kernel
theorem dX16_visits_226 : decode cX16_visits 226 = .ok (.goto 4, 3) := by decide +kernel
theorem dX16_visits_229 : decode cX16_visits 229 = .ok (.iconst 0, 1) := by decide +kernel
theorem dX16_visits_230 : decode cX16_visits 230 = .ok (.istore 9, 2) := by decide +kernel
theorem dX16_visits_232 : decode cX16_visits 232 = .ok (.aload_n 3, 1) := by decide +kernel
theorem dX16_visits_233 : decode cX16_visits 233 = .ok (.iload 8, 2) := by decide +kernel
theorem dX16_visits_235 : decode cX16_visits 235 = .ok (.ifCond .eq 8, 3) := by decide +kernel
theorem dX16_visits_238 : decode cX16_visits 238 = .ok (.bipush 20, 2) := by decide +kernel
theorem dX16_visits_240 : decode cX16_visits 240 = .ok (.goto 4, 3) := by decide +kernel
theorem dX16_visits_243 : decode cX16_visits 243 = .ok (.iconst 0, 1) := by decide +kernel
theorem dX16_visits_244 : decode cX16_visits 244 = .ok (.iload 9, 2) := by decide +kernel
theorem dX16_visits_246 : decode cX16_visits 246 = .ok (.ifCond .eq 8, 3) := by decide +kernel
theorem dX16_visits_249 : decode cX16_visits 249 = .ok (.bipush 10, 2) := by decide +kernel
theorem dX16_visits_251 : decode cX16_visits 251 = .ok (.goto 4, 3) := by decide +kernel
theorem dX16_visits_254 : decode cX16_visits 254 = .ok (.iconst 0, 1) := by decide +kernel
theorem dX16_visits_255 : decode cX16_visits 255 = .ok (.iadd, 1) := by decide +kernel
theorem dX16_visits_256 : decode cX16_visits 256 = .ok (.iload 7, 2) := by decide +kernel
theorem dX16_visits_258 : decode cX16_visits 258 = .ok (.ifCond .eq 7, 3) := by decide +kernel
theorem dX16_visits_261 : decode cX16_visits 261 = .ok (.iconst 5, 1) := by decide +kernel
theorem dX16_visits_262 : decode cX16_visits 262 = .ok (.goto 4, 3) := by decide +kernel
theorem dX16_visits_265 : decode cX16_visits 265 = .ok (.iconst 0, 1) := by decide +kernel
theorem dX16_visits_266 : decode cX16_visits 266 = .ok (.iadd, 1) := by decide +kernel
theorem dX16_visits_267 : decode cX16_visits 267 = .ok (.putfield 244, 3) := by decide +kernel
theorem dX16_visits_270 : decode cX16_visits 270 = .ok (.aload_n 3, 1) := by decide +kernel
theorem dX16_visits_271 : decode cX16_visits 271 = .ok (.iload 8, 2) := by decide +kernel
theorem dX16_visits_273 : decode cX16_visits 273 = .ok (.ifCond .eq 8, 3) := by decide +kernel
theorem dX16_visits_276 : decode cX16_visits 276 = .ok (.bipush 102, 2) := by decide +kernel
theorem dX16_visits_278 : decode cX16_visits 278 = .ok (.goto 25, 3) := by decide +kernel
theorem dX16_visits_281 : decode cX16_visits 281 = .ok (.iload 9, 2) := by decide +kernel
theorem dX16_visits_283 : decode cX16_visits 283 = .ok (.ifCond .eq 8, 3) := by decide +kernel
theorem dX16_visits_286 : decode cX16_visits 286 = .ok (.bipush 110, 2) := by decide +kernel
theorem dX16_visits_288 : decode cX16_visits 288 = .ok (.goto 15, 3) := by decide +kernel
theorem dX16_visits_291 : decode cX16_visits 291 = .ok (.iload 7, 2) := by decide +kernel
theorem dX16_visits_293 : decode cX16_visits 293 = .ok (.ifCond .eq 8, 3) := by decide +kernel
theorem dX16_visits_296 : decode cX16_visits 296 = .ok (.bipush 100, 2) := by decide +kernel
theorem dX16_visits_298 : decode cX16_visits 298 = .ok (.goto 5, 3) := by decide +kernel
theorem dX16_visits_301 : decode cX16_visits 301 = .ok (.bipush 45, 2) := by decide +kernel
theorem dX16_visits_303 : decode cX16_visits 303 = .ok (.putfield 247, 3) := by decide +kernel
theorem dX16_visits_306 : decode cX16_visits 306 = .ok (.aload 6, 2) := by decide +kernel
theorem dX16_visits_308 : decode cX16_visits 308 = .ok (.dup, 1) := by decide +kernel
theorem dX16_visits_309 : decode cX16_visits 309 = .ok (.getfield 251, 3) := by decide +kernel
theorem dX16_visits_312 : decode cX16_visits 312 = .ok (.aload_n 3, 1) := by decide +kernel
theorem dX16_visits_313 : decode cX16_visits 313 = .ok (.getfield 244, 3) := by decide +kernel
theorem dX16_visits_316 : decode cX16_visits 316 = .ok (.isub, 1) := by decide +kernel
theorem dX16_visits_317 : decode cX16_visits 317 = .ok (.putfield 251, 3) := by decide +kernel
theorem dX16_visits_320 : decode cX16_visits 320 = .ok (.aload_n 0, 1) := by decide +kernel
theorem dX16_visits_321 : decode cX16_visits 321 = .ok (.dup, 1) := by decide +kernel
theorem dX16_visits_322 : decode cX16_visits 322 = .ok (.getfield 254, 3) := by decide +kernel
theorem dX16_visits_325 : decode cX16_visits 325 = .ok (.aload_n 3, 1) := by decide +kernel
theorem dX16_visits_326 : decode cX16_visits 326 = .ok (.getfield 244, 3) := by decide +kernel
theorem dX16_visits_329 : decode cX16_visits 329 = .ok (.iadd, 1) := by decide +kernel
theorem dX16_visits_330 : decode cX16_visits 330 = .ok (.putfield 254, 3) := by decide +kernel
theorem dX16_visits_333 : decode cX16_visits 333 = .ok (.iinc 2 1, 3) := by decide +kernel
theorem dX16_visits_336 : decode cX16_visits 336 = .ok (.goto (-334), 3) := by decide +kernel
theorem dX16_visits_339 : decode cX16_visits 339 = .ok (.return_, 1) := by decide +kernel
theorem dX16_isDrowned_0 : decode cX16_isDrowned 0 = .ok (.iconst 0, 1) := by decide +kernel
theorem dX16_isDrowned_1 : decode cX16_isDrowned 1 = .ok (.istore 4, 2) := by decide +kernel
theorem dX16_isDrowned_3 : decode cX16_isDrowned 3 = .ok (.iconst 0, 1) := by decide +kernel
theorem dX16_isDrowned_4 : decode cX16_isDrowned 4 = .ok (.istore 5, 2) := by decide +kernel
theorem dX16_isDrowned_6 : decode cX16_isDrowned 6 = .ok (.iload 5, 2) := by decide +kernel
theorem dX16_isDrowned_8 : decode cX16_isDrowned 8 = .ok (.aload_n 0, 1) := by decide +kernel
theorem dX16_isDrowned_9 : decode cX16_isDrowned 9 = .ok (.getfield 10, 3) := by decide +kernel
theorem dX16_isDrowned_12 : decode cX16_isDrowned 12 = .ok (.invokevirtual 46, 3) := by decide +kernel
theorem dX16_isDrowned_15 : decode cX16_isDrowned 15 = .ok (.if_icmp .ge 113, 3) := by decide +kernel
theorem dX16_isDrowned_18 : decode cX16_isDrowned 18 = .ok (.aload_n 0, 1) := by decide +kernel
theorem dX16_isDrowned_19 : decode cX16_isDrowned 19 = .ok (.getfield 10, 3) := by decide +kernel
theorem dX16_isDrowned_22 : decode cX16_isDrowned 22 = .ok (.iload 5, 2) := by decide +kernel
theorem dX16_isDrowned_24 : decode cX16_isDrowned 24 = .ok (.invokevirtual 94, 3) := by decide +kernel
theorem dX16_isDrowned_27 : decode cX16_isDrowned 27 = .ok (.checkcast 68, 3) := by decide +kernel
theorem dX16_isDrowned_30 : decode cX16_isDrowned 30 = .ok (.astore 6, 2) := by decide +kernel
theorem dX16_isDrowned_32 : decode cX16_isDrowned 32 = .ok (.aload 6, 2) := by decide +kernel
theorem dX16_isDrowned_34 : decode cX16_isDrowned 34 = .ok (.aload_n 1, 1) := by decide +kernel
theorem dX16_isDrowned_35 : decode cX16_isDrowned 35 = .ok (.if_acmp .ne 7, 3) := by decide +kernel
theorem dX16_isDrowned_38 : decode cX16_isDrowned 38 = .ok (.aconst_null, 1) := by decide +kernel
theorem dX16_isDrowned_39 : decode cX16_isDrowned 39 = .ok (.goto 9, 3) := by decide +kernel
theorem dX16_isDrowned_42 : decode cX16_isDrowned 42 = .ok (.aload 6, 2) := by decide +kernel
theorem dX16_isDrowned_44 : decode cX16_isDrowned 44 = .ok (.iload_n 3, 1) := by decide +kernel
theorem dX16_isDrowned_45 : decode cX16_isDrowned 45 = .ok (.invokevirtual 226, 3) := by decide +kernel
theorem dX16_isDrowned_48 : decode cX16_isDrowned 48 = .ok (.astore 7, 2) := by decide +kernel
theorem dX16_isDrowned_50 : decode cX16_isDrowned 50 = .ok (.aload 7, 2) := by decide +kernel
theorem dX16_isDrowned_52 : decode cX16_isDrowned 52 = .ok (.ifnull 70, 3) := by decide +kernel
theorem dX16_isDrowned_55 : decode cX16_isDrowned 55 = .ok (.bipush 10, 2) := by decide +kernel
theorem dX16_isDrowned_57 : decode cX16_isDrowned 57 = .ok (.aload_n 0, 1) := by decide +kernel
theorem dX16_isDrowned_58 : decode cX16_isDrowned 58 = .ok (.getfield 16, 3) := by decide +kernel
theorem dX16_isDrowned_61 : decode cX16_isDrowned 61 = .ok (.aload 7, 2) := by decide +kernel
theorem dX16_isDrowned_63 : decode cX16_isDrowned 63 = .ok (.getfield 169, 3) := by decide +kernel
theorem dX16_isDrowned_66 : decode cX16_isDrowned 66 = .ok (.invokevirtual 94, 3) := by decide +kernel
theorem dX16_isDrowned_69 : decode cX16_isDrowned 69 = .ok (.checkcast 111, 3) := by decide +kernel
theorem dX16_isDrowned_72 : decode cX16_isDrowned 72 = .ok (.getfield 238, 3) := by decide +kernel
theorem dX16_isDrowned_75 : decode cX16_isDrowned 75 = .ok (.imul, 1) := by decide +kernel
theorem dX16_isDrowned_76 : decode cX16_isDrowned 76 = .ok (.aload 6, 2) := by decide +kernel
theorem dX16_isDrowned_78 : decode cX16_isDrowned 78 = .ok (.getfield 241, 3) := by decide +kernel
theorem dX16_isDrowned_81 : decode cX16_isDrowned 81 = .ok (.iadd, 1) := by decide +kernel
theorem dX16_isDrowned_82 : decode cX16_isDrowned 82 = .ok (.aload 6, 2) := by decide +kernel
theorem dX16_isDrowned_84 : decode cX16_isDrowned 84 = .ok (.getfield 70, 3) := by decide +kernel
theorem dX16_isDrowned_87 : decode cX16_isDrowned 87 = .ok (.aload_n 1, 1) := by decide +kernel
theorem dX16_isDrowned_88 : decode cX16_isDrowned 88 = .ok (.getfield 70, 3) := by decide +kernel
theorem dX16_isDrowned_91 : decode cX16_isDrowned 91 = .ok (.isub, 1) := by decide +kernel
theorem dX16_isDrowned_92 : decode cX16_isDrowned 92 = .ok (.invokestatic 230, 3) := by decide +kernel
theorem dX16_isDrowned_95 : decode cX16_isDrowned 95 = .ok (.isub, 1) := by decide +kernel
theorem dX16_isDrowned_96 : decode cX16_isDrowned 96 = .ok (.istore 8, 2) := by decide +kernel
theorem dX16_isDrowned_98 : decode cX16_isDrowned 98 = .ok (.iload 4, 2) := by decide +kernel
theorem dX16_isDrowned_100 : decode cX16_isDrowned 100 = .ok (.ifCond .ne 15, 3) := by decide +kernel
theorem dX16_isDrowned_103 : decode cX16_isDrowned 103 = .ok (.iload 8, 2) := by decide +kernel
theorem dX16_isDrowned_105 : decode cX16_isDrowned 105 = .ok (.bipush 10, 2) := by decide +kernel
theorem dX16_isDrowned_107 : decode cX16_isDrowned 107 = .ok (.aload_n 2, 1) := by decide +kernel
theorem dX16_isDrowned_108 : decode cX16_isDrowned 108 = .ok (.getfield 238, 3) := by decide +kernel
theorem dX16_isDrowned_111 : decode cX16_isDrowned 111 = .ok (.imul, 1) := by decide +kernel
theorem dX16_isDrowned_112 : decode cX16_isDrowned 112 = .ok (.if_icmp .le 7, 3) := by decide +kernel
theorem dX16_isDrowned_115 : decode cX16_isDrowned 115 = .ok (.iconst 1, 1) := by decide +kernel
theorem dX16_isDrowned_116 : decode cX16_isDrowned 116 = .ok (.goto 4, 3) := by decide +kernel
theorem dX16_isDrowned_119 : decode cX16_isDrowned 119 = .ok (.iconst 0, 1) := by decide +kernel
theorem dX16_isDrowned_120 : decode cX16_isDrowned 120 = .ok (.istore 4, 2) := by decide +kernel
theorem dX16_isDrowned_122 : decode cX16_isDrowned 122 = .ok (.iinc 5 1, 3) := by decide +kernel
theorem dX16_isDrowned_125 : decode cX16_isDrowned 125 = .ok (.goto (-119), 3) := by decide +kernel
theorem dX16_isDrowned_128 : decode cX16_isDrowned 128 = .ok (.iload 4, 2) := by decide +kernel
theorem dX16_isDrowned_130 : decode cX16_isDrowned 130 = .ok (.ireturn, 1) := by decide +kernel
theorem dX16_gives_0 : decode cX16_gives 0 = .ok (.aload_n 1, 1) := by decide +kernel
theorem dX16_gives_1 : decode cX16_gives 1 = .ok (.getfield 257, 3) := by decide +kernel
theorem dX16_gives_4 : decode cX16_gives 4 = .ok (.iconst 3, 1) := by decide +kernel
theorem dX16_gives_5 : decode cX16_gives 5 = .ok (.imul, 1) := by decide +kernel
theorem dX16_gives_6 : decode cX16_gives 6 = .ok (.aload_n 2, 1) := by decide +kernel
theorem dX16_gives_7 : decode cX16_gives 7 = .ok (.getfield 122, 3) := by decide +kernel
theorem dX16_gives_10 : decode cX16_gives 10 = .ok (.imul, 1) := by decide +kernel
theorem dX16_gives_11 : decode cX16_gives 11 = .ok (.bipush 100, 2) := by decide +kernel
theorem dX16_gives_13 : decode cX16_gives 13 = .ok (.idiv, 1) := by decide +kernel
theorem dX16_gives_14 : decode cX16_gives 14 = .ok (.istore 4, 2) := by decide +kernel
theorem dX16_gives_16 : decode cX16_gives 16 = .ok (.aload_n 1, 1) := by decide +kernel
theorem dX16_gives_17 : decode cX16_gives 17 = .ok (.getfield 257, 3) := by decide +kernel
theorem dX16_gives_20 : decode cX16_gives 20 = .ok (.iload 4, 2) := by decide +kernel
theorem dX16_gives_22 : decode cX16_gives 22 = .ok (.isub, 1) := by decide +kernel
theorem dX16_gives_23 : decode cX16_gives 23 = .ok (.aload_n 2, 1) := by decide +kernel
theorem dX16_gives_24 : decode cX16_gives 24 = .ok (.getfield 260, 3) := by decide +kernel
theorem dX16_gives_27 : decode cX16_gives 27 = .ok (.aload_n 2, 1) := by decide +kernel
theorem dX16_gives_28 : decode cX16_gives 28 = .ok (.getfield 122, 3) := by decide +kernel
theorem dX16_gives_31 : decode cX16_gives 31 = .ok (.iadd, 1) := by decide +kernel
theorem dX16_gives_32 : decode cX16_gives 32 = .ok (.imul, 1) := by decide +kernel
theorem dX16_gives_33 : decode cX16_gives 33 = .ok (.istore 5, 2) := by decide +kernel
theorem dX16_gives_35 : decode cX16_gives 35 = .ok (.aload_n 1, 1) := by decide +kernel
theorem dX16_gives_36 : decode cX16_gives 36 = .ok (.aload_n 0, 1) := by decide +kernel
theorem dX16_gives_37 : decode cX16_gives 37 = .ok (.iload_n 3, 1) := by decide +kernel
theorem dX16_gives_38 : decode cX16_gives 38 = .ok (.invokevirtual 263, 3) := by decide +kernel
theorem dX16_gives_41 : decode cX16_gives 41 = .ok (.ifCond .eq 10, 3) := by decide +kernel
theorem dX16_gives_44 : decode cX16_gives 44 = .ok (.iload 5, 2) := by decide +kernel
theorem dX16_gives_46 : decode cX16_gives 46 = .ok (.iconst 2, 1) := by decide +kernel
theorem dX16_gives_47 : decode cX16_gives 47 = .ok (.idiv, 1) := by decide +kernel
theorem dX16_gives_48 : decode cX16_gives 48 = .ok (.goto 5, 3) := by decide +kernel
theorem dX16_gives_51 : decode cX16_gives 51 = .ok (.iload 5, 2) := by decide +kernel
theorem dX16_gives_53 : decode cX16_gives 53 = .ok (.putfield 266, 3) := by decide +kernel
theorem dX16_gives_56 : decode cX16_gives 56 = .ok (.aload_n 0, 1) := by decide +kernel
theorem dX16_gives_57 : decode cX16_gives 57 = .ok (.dup, 1) := by decide +kernel
theorem dX16_gives_58 : decode cX16_gives 58 = .ok (.getfield 269, 3) := by decide +kernel
theorem dX16_gives_61 : decode cX16_gives 61 = .ok (.aload_n 1, 1) := by decide +kernel
theorem dX16_gives_62 : decode cX16_gives 62 = .ok (.getfield 266, 3) := by decide +kernel
theorem dX16_gives_65 : decode cX16_gives 65 = .ok (.iadd, 1) := by decide +kernel
theorem dX16_gives_66 : decode cX16_gives 66 = .ok (.putfield 269, 3) := by decide +kernel
theorem dX16_gives_69 : decode cX16_gives 69 = .ok (.aload_n 1, 1) := by decide +kernel
theorem dX16_gives_70 : decode cX16_gives 70 = .ok (.getfield 266, 3) := by decide +kernel
theorem dX16_gives_73 : decode cX16_gives 73 = .ok (.aload_n 0, 1) := by decide +kernel
theorem dX16_gives_74 : decode cX16_gives 74 = .ok (.aload_n 2, 1) := by decide +kernel
theorem dX16_gives_75 : decode cX16_gives 75 = .ok (.getfield 205, 3) := by decide +kernel
theorem dX16_gives_78 : decode cX16_gives 78 = .ok (.invokevirtual 208, 3) := by decide +kernel
theorem dX16_gives_81 : decode cX16_gives 81 = .ok (.idiv, 1) := by decide +kernel
theorem dX16_gives_82 : decode cX16_gives 82 = .ok (.istore 6, 2) := by decide +kernel
theorem dX16_gives_84 : decode cX16_gives 84 = .ok (.aload_n 0, 1) := by decide +kernel
theorem dX16_gives_85 : decode cX16_gives 85 = .ok (.getfield 16, 3) := by decide +kernel
theorem dX16_gives_88 : decode cX16_gives 88 = .ok (.invokevirtual 54, 3) := by decide +kernel
theorem dX16_gives_91 : decode cX16_gives 91 = .ok (.astore 7, 2) := by decide +kernel
theorem dX16_gives_93 : decode cX16_gives 93 = .ok (.aload 7, 2) := by decide +kernel
theorem dX16_gives_95 : decode cX16_gives 95 = .ok (.invokeinterface 58 1, 5) := by decide +kernel
theorem dX16_gives_100 : decode cX16_gives 100 = .ok (.ifCond .eq 46, 3) := by decide +kernel
theorem dX16_gives_103 : decode cX16_gives 103 = .ok (.aload 7, 2) := by decide +kernel
theorem dX16_gives_105 : decode cX16_gives 105 = .ok (.invokeinterface 64 1, 5) := by decide +kernel
theorem dX16_gives_110 : decode cX16_gives 110 = .ok (.checkcast 111, 3) := by decide +kernel
theorem dX16_gives_113 : decode cX16_gives 113 = .ok (.astore 8, 2) := by decide +kernel
theorem dX16_gives_115 : decode cX16_gives 115 = .ok (.aload 8, 2) := by decide +kernel
theorem dX16_gives_117 : decode cX16_gives 117 = .ok (.dup, 1) := by decide +kernel
theorem dX16_gives_118 : decode cX16_gives 118 = .ok (.getfield 251, 3) := by decide +kernel
theorem dX16_gives_121 : decode cX16_gives 121 = .ok (.aload 8, 2) := by decide +kernel
theorem dX16_gives_123 : decode cX16_gives 123 = .ok (.getfield 205, 3) := by decide +kernel
theorem dX16_gives_126 : decode cX16_gives 126 = .ok (.aload_n 2, 1) := by decide +kernel
theorem dX16_gives_127 : decode cX16_gives 127 = .ok (.getfield 205, 3) := by decide +kernel
theorem dX16_gives_130 : decode cX16_gives 130 = .ok (.if_icmp .ne 8, 3) := by decide +kernel
theorem dX16_gives_133 : decode cX16_gives 133 = .ok (.iload 6, 2) := by decide +kernel
theorem dX16_gives_135 : decode cX16_gives 135 = .ok (.goto 4, 3) := by decide +kernel
theorem dX16_gives_138 : decode cX16_gives 138 = .ok (.iconst 0, 1) := by decide +kernel
theorem dX16_gives_139 : decode cX16_gives 139 = .ok (.iadd, 1) := by decide +kernel
theorem dX16_gives_140 : decode cX16_gives 140 = .ok (.putfield 251, 3) := by decide +kernel
theorem dX16_gives_143 : decode cX16_gives 143 = .ok (.goto (-50), 3) := by decide +kernel
theorem dX16_gives_146 : decode cX16_gives 146 = .ok (.aload_n 2, 1) := by decide +kernel
theorem dX16_gives_147 : decode cX16_gives 147 = .ok (.dup, 1) := by decide +kernel
theorem dX16_gives_148 : decode cX16_gives 148 = .ok (.getfield 251, 3) := by decide +kernel
theorem dX16_gives_151 : decode cX16_gives 151 = .ok (.aload_n 1, 1) := by decide +kernel
theorem dX16_gives_152 : decode cX16_gives 152 = .ok (.getfield 266, 3) := by decide +kernel
theorem dX16_gives_155 : decode cX16_gives 155 = .ok (.iload 6, 2) := by decide +kernel
theorem dX16_gives_157 : decode cX16_gives 157 = .ok (.aload_n 0, 1) := by decide +kernel
theorem dX16_gives_158 : decode cX16_gives 158 = .ok (.aload_n 2, 1) := by decide +kernel
theorem dX16_gives_159 : decode cX16_gives 159 = .ok (.getfield 205, 3) := by decide +kernel
theorem dX16_gives_162 : decode cX16_gives 162 = .ok (.invokevirtual 208, 3) := by decide +kernel
theorem dX16_gives_165 : decode cX16_gives 165 = .ok (.imul, 1) := by decide +kernel
theorem dX16_gives_166 : decode cX16_gives 166 = .ok (.isub, 1) := by decide +kernel
theorem dX16_gives_167 : decode cX16_gives 167 = .ok (.iadd, 1) := by decide +kernel
theorem dX16_gives_168 : decode cX16_gives 168 = .ok (.putfield 251, 3) := by decide +kernel
theorem dX16_gives_171 : decode cX16_gives 171 = .ok (.return_, 1) := by decide +kernel
theorem dX16_goesOn_0 : decode cX16_goesOn 0 = .ok (.aload_n 0, 1) := by decide +kernel
theorem dX16_goesOn_1 : decode cX16_goesOn 1 = .ok (.getfield 16, 3) := by decide +kernel
theorem dX16_goesOn_4 : decode cX16_goesOn 4 = .ok (.aload_n 2, 1) := by decide +kernel
theorem dX16_goesOn_5 : decode cX16_goesOn 5 = .ok (.getfield 169, 3) := by decide +kernel
theorem dX16_goesOn_8 : decode cX16_goesOn 8 = .ok (.invokevirtual 94, 3) := by decide +kernel
theorem dX16_goesOn_11 : decode cX16_goesOn 11 = .ok (.checkcast 111, 3) := by decide +kernel
theorem dX16_goesOn_14 : decode cX16_goesOn 14 = .ok (.astore 5, 2) := by decide +kernel
theorem dX16_goesOn_16 : decode cX16_goesOn 16 = .ok (.aload_n 0, 1) := by decide +kernel
theorem dX16_goesOn_17 : decode cX16_goesOn 17 = .ok (.iload 4, 2) := by decide +kernel
theorem dX16_goesOn_19 : decode cX16_goesOn 19 = .ok (.invokevirtual 263, 3) := by decide +kernel
theorem dX16_goesOn_22 : decode cX16_goesOn 22 = .ok (.ifCond .eq 14, 3) := by decide +kernel
theorem dX16_goesOn_25 : decode cX16_goesOn 25 = .ok (.aload_n 1, 1) := by decide +kernel
theorem dX16_goesOn_26 : decode cX16_goesOn 26 = .ok (.getfield 270, 3) := by decide +kernel
theorem dX16_goesOn_29 : decode cX16_goesOn 29 = .ok (.ifCond .ne 7, 3) := by decide +kernel
theorem dX16_goesOn_32 : decode cX16_goesOn 32 = .ok (.iconst 1, 1) := by decide +kernel
theorem dX16_goesOn_33 : decode cX16_goesOn 33 = .ok (.goto 4, 3) := by decide +kernel
theorem dX16_goesOn_36 : decode cX16_goesOn 36 = .ok (.iconst 0, 1) := by decide +kernel
theorem dX16_goesOn_37 : decode cX16_goesOn 37 = .ok (.istore 6, 2) := by decide +kernel
theorem dX16_goesOn_39 : decode cX16_goesOn 39 = .ok (.aload_n 1, 1) := by decide +kernel
theorem dX16_goesOn_40 : decode cX16_goesOn 40 = .ok (.iload 4, 2) := by decide +kernel
theorem dX16_goesOn_42 : decode cX16_goesOn 42 = .ok (.invokevirtual 104, 3) := by decide +kernel
theorem dX16_goesOn_45 : decode cX16_goesOn 45 = .ok (.bipush 10, 2) := by decide +kernel
theorem dX16_goesOn_47 : decode cX16_goesOn 47 = .ok (.aload 5, 2) := by decide +kernel
theorem dX16_goesOn_49 : decode cX16_goesOn 49 = .ok (.getfield 260, 3) := by decide +kernel
theorem dX16_goesOn_52 : decode cX16_goesOn 52 = .ok (.imul, 1) := by decide +kernel
theorem dX16_goesOn_53 : decode cX16_goesOn 53 = .ok (.bipush 40, 2) := by decide +kernel
theorem dX16_goesOn_55 : decode cX16_goesOn 55 = .ok (.aload_n 2, 1) := by decide +kernel
theorem dX16_goesOn_56 : decode cX16_goesOn 56 = .ok (.getfield 257, 3) := by decide +kernel
theorem dX16_goesOn_59 : decode cX16_goesOn 59 = .ok (.invokestatic 273, 3) := by decide +kernel
theorem dX16_goesOn_62 : decode cX16_goesOn 62 = .ok (.iadd, 1) := by decide +kernel
theorem dX16_goesOn_63 : decode cX16_goesOn 63 = .ok (.imul, 1) := by decide +kernel
theorem dX16_goesOn_64 : decode cX16_goesOn 64 = .ok (.bipush 100, 2) := by decide +kernel
theorem dX16_goesOn_66 : decode cX16_goesOn 66 = .ok (.idiv, 1) := by decide +kernel
theorem dX16_goesOn_67 : decode cX16_goesOn 67 = .ok (.istore 7, 2) := by decide +kernel
theorem dX16_goesOn_69 : decode cX16_goesOn 69 = .ok (.iload 6, 2) := by decide +kernel
theorem dX16_goesOn_71 : decode cX16_goesOn 71 = .ok (.ifCond .eq 7, 3) := by decide +kernel
theorem dX16_goesOn_74 : decode cX16_goesOn 74 = .ok (.iconst 0, 1) := by decide +kernel
theorem dX16_goesOn_75 : decode cX16_goesOn 75 = .ok (.goto 16, 3) := by decide +kernel
theorem dX16_goesOn_78 : decode cX16_goesOn 78 = .ok (.iload_n 3, 1) := by decide +kernel
theorem dX16_goesOn_79 : decode cX16_goesOn 79 = .ok (.ifCond .eq 10, 3) := by decide +kernel
theorem dX16_goesOn_82 : decode cX16_goesOn 82 = .ok (.iload 7, 2) := by decide +kernel
theorem dX16_goesOn_84 : decode cX16_goesOn 84 = .ok (.iconst 2, 1) := by decide +kernel
theorem dX16_goesOn_85 : decode cX16_goesOn 85 = .ok (.idiv, 1) := by decide +kernel
theorem dX16_goesOn_86 : decode cX16_goesOn 86 = .ok (.goto 5, 3) := by decide +kernel
theorem dX16_goesOn_89 : decode cX16_goesOn 89 = .ok (.iload 7, 2) := by decide +kernel
theorem dX16_goesOn_91 : decode cX16_goesOn 91 = .ok (.istore 7, 2) := by decide +kernel
theorem dX16_goesOn_93 : decode cX16_goesOn 93 = .ok (.aload_n 2, 1) := by decide +kernel
theorem dX16_goesOn_94 : decode cX16_goesOn 94 = .ok (.getfield 257, 3) := by decide +kernel
theorem dX16_goesOn_97 : decode cX16_goesOn 97 = .ok (.aload_n 0, 1) := by decide +kernel
theorem dX16_goesOn_98 : decode cX16_goesOn 98 = .ok (.getfield 194, 3) := by decide +kernel
theorem dX16_goesOn_101 : decode cX16_goesOn 101 = .ok (.iload 6, 2) := by decide +kernel
theorem dX16_goesOn_103 : decode cX16_goesOn 103 = .ok (.ifCond .eq 8, 3) := by decide +kernel
theorem dX16_goesOn_106 : decode cX16_goesOn 106 = .ok (.bipush 50, 2) := by decide +kernel
theorem dX16_goesOn_108 : decode cX16_goesOn 108 = .ok (.goto 4, 3) := by decide +kernel
theorem dX16_goesOn_111 : decode cX16_goesOn 111 = .ok (.iconst 0, 1) := by decide +kernel
theorem dX16_goesOn_112 : decode cX16_goesOn 112 = .ok (.iadd, 1) := by decide +kernel
theorem dX16_goesOn_113 : decode cX16_goesOn 113 = .ok (.iload_n 3, 1) := by decide +kernel
theorem dX16_goesOn_114 : decode cX16_goesOn 114 = .ok (.ifCond .eq 8, 3) := by decide +kernel
theorem dX16_goesOn_117 : decode cX16_goesOn 117 = .ok (.bipush 10, 2) := by decide +kernel
theorem dX16_goesOn_119 : decode cX16_goesOn 119 = .ok (.goto 4, 3) := by decide +kernel
theorem dX16_goesOn_122 : decode cX16_goesOn 122 = .ok (.iconst 0, 1) := by decide +kernel
theorem dX16_goesOn_123 : decode cX16_goesOn 123 = .ok (.iadd, 1) := by decide +kernel
theorem dX16_goesOn_124 : decode cX16_goesOn 124 = .ok (.imul, 1) := by decide +kernel
theorem dX16_goesOn_125 : decode cX16_goesOn 125 = .ok (.bipush 100, 2) := by decide +kernel
theorem dX16_goesOn_127 : decode cX16_goesOn 127 = .ok (.idiv, 1) := by decide +kernel
theorem dX16_goesOn_128 : decode cX16_goesOn 128 = .ok (.istore 8, 2) := by decide +kernel
theorem dX16_goesOn_130 : decode cX16_goesOn 130 = .ok (.aload_n 2, 1) := by decide +kernel
theorem dX16_goesOn_131 : decode cX16_goesOn 131 = .ok (.dup, 1) := by decide +kernel
theorem dX16_goesOn_132 : decode cX16_goesOn 132 = .ok (.getfield 257, 3) := by decide +kernel
theorem dX16_goesOn_135 : decode cX16_goesOn 135 = .ok (.iload 7, 2) := by decide +kernel
theorem dX16_goesOn_137 : decode cX16_goesOn 137 = .ok (.iload 8, 2) := by decide +kernel
theorem dX16_goesOn_139 : decode cX16_goesOn 139 = .ok (.aload_n 2, 1) := by decide +kernel
theorem dX16_goesOn_140 : decode cX16_goesOn 140 = .ok (.getfield 257, 3) := by decide +kernel
theorem dX16_goesOn_143 : decode cX16_goesOn 143 = .ok (.invokestatic 273, 3) := by decide +kernel
theorem dX16_goesOn_146 : decode cX16_goesOn 146 = .ok (.isub, 1) := by decide +kernel
theorem dX16_goesOn_147 : decode cX16_goesOn 147 = .ok (.iadd, 1) := by decide +kernel
theorem dX16_goesOn_148 : decode cX16_goesOn 148 = .ok (.putfield 257, 3) := by decide +kernel
theorem dX16_goesOn_151 : decode cX16_goesOn 151 = .ok (.aload_n 2, 1) := by decide +kernel
theorem dX16_goesOn_152 : decode cX16_goesOn 152 = .ok (.aload_n 2, 1) := by decide +kernel
theorem dX16_goesOn_153 : decode cX16_goesOn 153 = .ok (.getfield 277, 3) := by decide +kernel
theorem dX16_goesOn_156 : decode cX16_goesOn 156 = .ok (.aload_n 2, 1) := by decide +kernel
theorem dX16_goesOn_157 : decode cX16_goesOn 157 = .ok (.getfield 257, 3) := by decide +kernel
theorem dX16_goesOn_160 : decode cX16_goesOn 160 = .ok (.invokestatic 280, 3) := by decide +kernel
theorem dX16_goesOn_163 : decode cX16_goesOn 163 = .ok (.putfield 277, 3) := by decide +kernel
theorem dX16_goesOn_166 : decode cX16_goesOn 166 = .ok (.aload_n 2, 1) := by decide +kernel
theorem dX16_goesOn_167 : decode cX16_goesOn 167 = .ok (.dup, 1) := by decide +kernel
theorem dX16_goesOn_168 : decode cX16_goesOn 168 = .ok (.getfield 283, 3) := by decide +kernel
theorem dX16_goesOn_171 : decode cX16_goesOn 171 = .ok (.iload_n 3, 1) := by decide +kernel
theorem dX16_goesOn_172 : decode cX16_goesOn 172 = .ok (.ifCond .eq 7, 3) := by decide +kernel
theorem dX16_goesOn_175 : decode cX16_goesOn 175 = .ok (.iconst 1, 1) := by decide +kernel
theorem dX16_goesOn_176 : decode cX16_goesOn 176 = .ok (.goto 4, 3) := by decide +kernel
theorem dX16_goesOn_179 : decode cX16_goesOn 179 = .ok (.iconst 0, 1) := by decide +kernel
theorem dX16_goesOn_180 : decode cX16_goesOn 180 = .ok (.iadd, 1) := by decide +kernel
theorem dX16_goesOn_181 : decode cX16_goesOn 181 = .ok (.putfield 283, 3) := by decide +kernel
theorem dX16_goesOn_184 : decode cX16_goesOn 184 = .ok (.aload_n 2, 1) := by decide +kernel
theorem dX16_goesOn_185 : decode cX16_goesOn 185 = .ok (.getfield 277, 3) := by decide +kernel
theorem dX16_goesOn_188 : decode cX16_goesOn 188 = .ok (.bipush 10, 2) := by decide +kernel
theorem dX16_goesOn_190 : decode cX16_goesOn 190 = .ok (.if_icmp .lt 25, 3) := by decide +kernel
theorem dX16_goesOn_193 : decode cX16_goesOn 193 = .ok (.aload_n 2, 1) := by decide +kernel
theorem dX16_goesOn_194 : decode cX16_goesOn 194 = .ok (.getfield 257, 3) := by decide +kernel
theorem dX16_goesOn_197 : decode cX16_goesOn 197 = .ok (.iconst 3, 1) := by decide +kernel
theorem dX16_goesOn_198 : decode cX16_goesOn 198 = .ok (.if_icmp .ge 17, 3) := by decide +kernel
theorem dX16_goesOn_201 : decode cX16_goesOn 201 = .ok (.aload_n 2, 1) := by decide +kernel
theorem dX16_goesOn_202 : decode cX16_goesOn 202 = .ok (.iconst 1, 1) := by decide +kernel
theorem dX16_goesOn_203 : decode cX16_goesOn 203 = .ok (.putfield 286, 3) := by decide +kernel
theorem dX16_goesOn_206 : decode cX16_goesOn 206 = .ok (.aload_n 2, 1) := by decide +kernel
theorem dX16_goesOn_207 : decode cX16_goesOn 207 = .ok (.iload 4, 2) := by decide +kernel
theorem dX16_goesOn_209 : decode cX16_goesOn 209 = .ok (.putfield 217, 3) := by decide +kernel
theorem dX16_goesOn_212 : decode cX16_goesOn 212 = .ok (.goto 21, 3) := by decide +kernel
theorem dX16_goesOn_215 : decode cX16_goesOn 215 = .ok (.iload 4, 2) := by decide +kernel
theorem dX16_goesOn_217 : decode cX16_goesOn 217 = .ok (.aload_n 2, 1) := by decide +kernel
theorem dX16_goesOn_218 : decode cX16_goesOn 218 = .ok (.getfield 217, 3) := by decide +kernel
theorem dX16_goesOn_221 : decode cX16_goesOn 221 = .ok (.if_icmp .ne 12, 3) := by decide +kernel
theorem dX16_goesOn_224 : decode cX16_goesOn 224 = .ok (.aload_n 0, 1) := by decide +kernel
theorem dX16_goesOn_225 : decode cX16_goesOn 225 = .ok (.aload_n 2, 1) := by decide +kernel
theorem dX16_goesOn_226 : decode cX16_goesOn 226 = .ok (.aload 5, 2) := by decide +kernel
theorem dX16_goesOn_228 : decode cX16_goesOn 228 = .ok (.iload 4, 2) := by decide +kernel
theorem dX16_goesOn_230 : decode cX16_goesOn 230 = .ok (.invokevirtual 289, 3) := by decide +kernel
theorem dX16_goesOn_233 : decode cX16_goesOn 233 = .ok (.return_, 1) := by decide +kernel
theorem dX16_play_0 : decode cX16_play 0 = .ok (.aload_n 0, 1) := by decide +kernel
theorem dX16_play_1 : decode cX16_play 1 = .ok (.aload_n 0, 1) := by decide +kernel
theorem dX16_play_2 : decode cX16_play 2 = .ok (.getfield 161, 3) := by decide +kernel
theorem dX16_play_5 : decode cX16_play 5 = .ok (.ifCond .eq 7, 3) := by decide +kernel
theorem dX16_play_8 : decode cX16_play 8 = .ok (.iconst 1, 1) := by decide +kernel
theorem dX16_play_9 : decode cX16_play 9 = .ok (.goto 4, 3) := by decide +kernel
theorem dX16_play_12 : decode cX16_play 12 = .ok (.iconst 0, 1) := by decide +kernel
theorem dX16_play_13 : decode cX16_play 13 = .ok (.putfield 43, 3) := by decide +kernel
theorem dX16_play_16 : decode cX16_play 16 = .ok (.aload_n 0, 1) := by decide +kernel
theorem dX16_play_17 : decode cX16_play 17 = .ok (.getfield 43, 3) := by decide +kernel
theorem dX16_play_20 : decode cX16_play 20 = .ok (.ifCond .le 5, 3) := by decide +kernel
theorem dX16_play_23 : decode cX16_play 23 = .ok (.iconst 0, 1) := by decide +kernel
theorem dX16_play_24 : decode cX16_play 24 = .ok (.ireturn, 1) := by decide +kernel
theorem dX16_play_25 : decode cX16_play 25 = .ok (.aload_n 0, 1) := by decide +kernel
theorem dX16_play_26 : decode cX16_play 26 = .ok (.iconst 0, 1) := by decide +kernel
theorem dX16_play_27 : decode cX16_play 27 = .ok (.putfield 269, 3) := by decide +kernel
theorem dX16_play_30 : decode cX16_play 30 = .ok (.aload_n 0, 1) := by decide +kernel
theorem dX16_play_31 : decode cX16_play 31 = .ok (.iconst 1, 1) := by decide +kernel
theorem dX16_play_32 : decode cX16_play 32 = .ok (.putfield 161, 3) := by decide +kernel
theorem dX16_play_35 : decode cX16_play 35 = .ok (.bipush 6, 2) := by decide +kernel
theorem dX16_play_37 : decode cX16_play 37 = .ok (.newarray .boolean, 2) := by decide +kernel
theorem dX16_play_39 : decode cX16_play 39 = .ok (.astore_n 1, 1) := by decide +kernel
theorem dX16_play_40 : decode cX16_play 40 = .ok (.sipush 600, 3) := by decide +kernel
theorem dX16_play_43 : decode cX16_play 43 = .ok (.istore_n 2, 1) := by decide +kernel
theorem dX16_play_44 : decode cX16_play 44 = .ok (.iload_n 2, 1) := by decide +kernel
theorem dX16_play_45 : decode cX16_play 45 = .ok (.sipush 1199, 3) := by decide +kernel
theorem dX16_play_48 : decode cX16_play 48 = .ok (.if_icmp .gt 194, 3) := by decide +kernel
theorem dX16_play_51 : decode cX16_play 51 = .ok (.iconst 0, 1) := by decide +kernel
theorem dX16_play_52 : decode cX16_play 52 = .ok (.istore_n 3, 1) := by decide +kernel
theorem dX16_play_53 : decode cX16_play 53 = .ok (.iload_n 3, 1) := by decide +kernel
theorem dX16_play_54 : decode cX16_play 54 = .ok (.aload_n 0, 1) := by decide +kernel
theorem dX16_play_55 : decode cX16_play 55 = .ok (.getfield 10, 3) := by decide +kernel
theorem dX16_play_58 : decode cX16_play 58 = .ok (.invokevirtual 46, 3) := by decide +kernel
theorem dX16_play_61 : decode cX16_play 61 = .ok (.if_icmp .ge 25, 3) := by decide +kernel
theorem dX16_play_64 : decode cX16_play 64 = .ok (.aload_n 0, 1) := by decide +kernel
theorem dX16_play_65 : decode cX16_play 65 = .ok (.aload_n 0, 1) := by decide +kernel
theorem dX16_play_66 : decode cX16_play 66 = .ok (.getfield 10, 3) := by decide +kernel
theorem dX16_play_69 : decode cX16_play 69 = .ok (.iload_n 3, 1) := by decide +kernel
theorem dX16_play_70 : decode cX16_play 70 = .ok (.invokevirtual 94, 3) := by decide +kernel
theorem dX16_play_73 : decode cX16_play 73 = .ok (.checkcast 68, 3) := by decide +kernel
theorem dX16_play_76 : decode cX16_play 76 = .ok (.iload_n 2, 1) := by decide +kernel
theorem dX16_play_77 : decode cX16_play 77 = .ok (.invokevirtual 293, 3) := by decide +kernel
theorem dX16_play_80 : decode cX16_play 80 = .ok (.iinc 3 1, 3) := by decide +kernel
theorem dX16_play_83 : decode cX16_play 83 = .ok (.goto (-30), 3) := by decide +kernel
theorem dX16_play_86 : decode cX16_play 86 = .ok (.aload_n 0, 1) := by decide +kernel
theorem dX16_play_87 : decode cX16_play 87 = .ok (.iload_n 2, 1) := by decide +kernel
theorem dX16_play_88 : decode cX16_play 88 = .ok (.invokevirtual 297, 3) := by decide +kernel
theorem dX16_play_91 : decode cX16_play 91 = .ok (.iconst 0, 1) := by decide +kernel
theorem dX16_play_92 : decode cX16_play 92 = .ok (.istore_n 3, 1) := by decide +kernel
theorem dX16_play_93 : decode cX16_play 93 = .ok (.iload_n 3, 1) := by decide +kernel
theorem dX16_play_94 : decode cX16_play 94 = .ok (.aload_n 0, 1) := by decide +kernel
theorem dX16_play_95 : decode cX16_play 95 = .ok (.getfield 10, 3) := by decide +kernel
theorem dX16_play_98 : decode cX16_play 98 = .ok (.invokevirtual 46, 3) := by decide +kernel
theorem dX16_play_101 : decode cX16_play 101 = .ok (.if_icmp .ge 73, 3) := by decide +kernel
theorem dX16_play_104 : decode cX16_play 104 = .ok (.aload_n 0, 1) := by decide +kernel
theorem dX16_play_105 : decode cX16_play 105 = .ok (.getfield 10, 3) := by decide +kernel
theorem dX16_play_108 : decode cX16_play 108 = .ok (.iload_n 3, 1) := by decide +kernel
theorem dX16_play_109 : decode cX16_play 109 = .ok (.invokevirtual 94, 3) := by decide +kernel
theorem dX16_play_112 : decode cX16_play 112 = .ok (.checkcast 68, 3) := by decide +kernel
theorem dX16_play_115 : decode cX16_play 115 = .ok (.iload_n 2, 1) := by decide +kernel
theorem dX16_play_116 : decode cX16_play 116 = .ok (.invokevirtual 226, 3) := by decide +kernel
theorem dX16_play_119 : decode cX16_play 119 = .ok (.astore 4, 2) := by decide +kernel
theorem dX16_play_121 : decode cX16_play 121 = .ok (.aload_n 1, 1) := by decide +kernel
theorem dX16_play_122 : decode cX16_play 122 = .ok (.iload_n 3, 1) := by decide +kernel
theorem dX16_play_123 : decode cX16_play 123 = .ok (.aload 4, 2) := by decide +kernel
theorem dX16_play_125 : decode cX16_play 125 = .ok (.ifnull 41, 3) := by decide +kernel
theorem dX16_play_128 : decode cX16_play 128 = .ok (.aload_n 0, 1) := by decide +kernel
theorem dX16_play_129 : decode cX16_play 129 = .ok (.aload_n 0, 1) := by decide +kernel
theorem dX16_play_130 : decode cX16_play 130 = .ok (.getfield 10, 3) := by decide +kernel
theorem dX16_play_133 : decode cX16_play 133 = .ok (.iload_n 3, 1) := by decide +kernel
theorem dX16_play_134 : decode cX16_play 134 = .ok (.invokevirtual 94, 3) := by decide +kernel
theorem dX16_play_137 : decode cX16_play 137 = .ok (.checkcast 68, 3) := by decide +kernel
theorem dX16_play_140 : decode cX16_play 140 = .ok (.aload_n 0, 1) := by decide +kernel
theorem dX16_play_141 : decode cX16_play 141 = .ok (.getfield 16, 3) := by decide +kernel
theorem dX16_play_144 : decode cX16_play 144 = .ok (.aload 4, 2) := by decide +kernel
theorem dX16_play_146 : decode cX16_play 146 = .ok (.getfield 169, 3) := by decide +kernel
theorem dX16_play_149 : decode cX16_play 149 = .ok (.invokevirtual 94, 3) := by decide +kernel
theorem dX16_play_152 : decode cX16_play 152 = .ok (.checkcast 111, 3) := by decide +kernel
theorem dX16_play_155 : decode cX16_play 155 = .ok (.iload_n 2, 1) := by decide +kernel
theorem dX16_play_156 : decode cX16_play 156 = .ok (.invokevirtual 299, 3) := by decide +kernel
theorem dX16_play_159 : decode cX16_play 159 = .ok (.ifCond .eq 7, 3) := by decide +kernel
theorem dX16_play_162 : decode cX16_play 162 = .ok (.iconst 1, 1) := by decide +kernel
theorem dX16_play_163 : decode cX16_play 163 = .ok (.goto 4, 3) := by decide +kernel
theorem dX16_play_166 : decode cX16_play 166 = .ok (.iconst 0, 1) := by decide +kernel
theorem dX16_play_167 : decode cX16_play 167 = .ok (.bastore, 1) := by decide +kernel
theorem dX16_play_168 : decode cX16_play 168 = .ok (.iinc 3 1, 3) := by decide +kernel
theorem dX16_play_171 : decode cX16_play 171 = .ok (.goto (-78), 3) := by decide +kernel
theorem dX16_play_174 : decode cX16_play 174 = .ok (.iconst 0, 1) := by decide +kernel
theorem dX16_play_175 : decode cX16_play 175 = .ok (.istore_n 3, 1) := by decide +kernel
theorem dX16_play_176 : decode cX16_play 176 = .ok (.iload_n 3, 1) := by decide +kernel
theorem dX16_play_177 : decode cX16_play 177 = .ok (.aload_n 0, 1) := by decide +kernel
theorem dX16_play_178 : decode cX16_play 178 = .ok (.getfield 10, 3) := by decide +kernel
theorem dX16_play_181 : decode cX16_play 181 = .ok (.invokevirtual 46, 3) := by decide +kernel
theorem dX16_play_184 : decode cX16_play 184 = .ok (.if_icmp .ge 52, 3) := by decide +kernel
theorem dX16_play_187 : decode cX16_play 187 = .ok (.aload_n 0, 1) := by decide +kernel
theorem dX16_play_188 : decode cX16_play 188 = .ok (.getfield 10, 3) := by decide +kernel
theorem dX16_play_191 : decode cX16_play 191 = .ok (.iload_n 3, 1) := by decide +kernel
theorem dX16_play_192 : decode cX16_play 192 = .ok (.invokevirtual 94, 3) := by decide +kernel
theorem dX16_play_195 : decode cX16_play 195 = .ok (.checkcast 68, 3) := by decide +kernel
theorem dX16_play_198 : decode cX16_play 198 = .ok (.iload_n 2, 1) := by decide +kernel
theorem dX16_play_199 : decode cX16_play 199 = .ok (.invokevirtual 226, 3) := by decide +kernel
theorem dX16_play_202 : decode cX16_play 202 = .ok (.astore 4, 2) := by decide +kernel
theorem dX16_play_204 : decode cX16_play 204 = .ok (.aload 4, 2) := by decide +kernel
theorem dX16_play_206 : decode cX16_play 206 = .ok (.ifnull 24, 3) := by decide +kernel
theorem dX16_play_209 : decode cX16_play 209 = .ok (.aload_n 0, 1) := by decide +kernel
theorem dX16_play_210 : decode cX16_play 210 = .ok (.aload_n 0, 1) := by decide +kernel
theorem dX16_play_211 : decode cX16_play 211 = .ok (.getfield 10, 3) := by decide +kernel
theorem dX16_play_214 : decode cX16_play 214 = .ok (.iload_n 3, 1) := by decide +kernel
theorem dX16_play_215 : decode cX16_play 215 = .ok (.invokevirtual 94, 3) := by decide +kernel
theorem dX16_play_218 : decode cX16_play 218 = .ok (.checkcast 68, 3) := by decide +kernel
theorem dX16_play_221 : decode cX16_play 221 = .ok (.aload 4, 2) := by decide +kernel
theorem dX16_play_223 : decode cX16_play 223 = .ok (.aload_n 1, 1) := by decide +kernel
theorem dX16_play_224 : decode cX16_play 224 = .ok (.iload_n 3, 1) := by decide +kernel
theorem dX16_play_225 : decode cX16_play 225 = .ok (.baload, 1) := by decide +kernel
theorem dX16_play_226 : decode cX16_play 226 = .ok (.iload_n 2, 1) := by decide +kernel
theorem dX16_play_227 : decode cX16_play 227 = .ok (.invokevirtual 303, 3) := by decide +kernel
theorem dX16_play_230 : decode cX16_play 230 = .ok (.iinc 3 1, 3) := by decide +kernel
theorem dX16_play_233 : decode cX16_play 233 = .ok (.goto (-57), 3) := by decide +kernel
theorem dX16_play_236 : decode cX16_play 236 = .ok (.iinc 2 1, 3) := by decide +kernel
theorem dX16_play_239 : decode cX16_play 239 = .ok (.goto (-195), 3) := by decide +kernel
theorem dX16_play_242 : decode cX16_play 242 = .ok (.aload_n 0, 1) := by decide +kernel
theorem dX16_play_243 : decode cX16_play 243 = .ok (.getfield 269, 3) := by decide +kernel
theorem dX16_play_246 : decode cX16_play 246 = .ok (.ireturn, 1) := by decide +kernel
theorem dX16_played_0 : decode cX16_played 0 = .ok (.aload_n 0, 1) := by decide +kernel
theorem dX16_played_1 : decode cX16_played 1 = .ok (.iload_n 1, 1) := by decide +kernel
theorem dX16_played_2 : decode cX16_played 2 = .ok (.invokevirtual 84, 3) := by decide +kernel
theorem dX16_played_5 : decode cX16_played 5 = .ok (.ifCond .ne 10, 3) := by decide +kernel
theorem dX16_played_8 : decode cX16_played 8 = .ok (.aload_n 0, 1) := by decide +kernel
theorem dX16_played_9 : decode cX16_played 9 = .ok (.iconst 1, 1) := by decide +kernel
theorem dX16_played_10 : decode cX16_played 10 = .ok (.putfield 43, 3) := by decide +kernel
theorem dX16_played_13 : decode cX16_played 13 = .ok (.aconst_null, 1) := by decide +kernel
theorem dX16_played_14 : decode cX16_played 14 = .ok (.areturn, 1) := by decide +kernel
theorem dX16_played_15 : decode cX16_played 15 = .ok (.iload_n 2, 1) := by decide +kernel
theorem dX16_played_16 : decode cX16_played 16 = .ok (.i2l, 1) := by decide +kernel
theorem dX16_played_17 : decode cX16_played 17 = .ok (.lconst 0, 1) := by decide +kernel
theorem dX16_played_18 : decode cX16_played 18 = .ok (.aload_n 0, 1) := by decide +kernel
theorem dX16_played_19 : decode cX16_played 19 = .ok (.getfield 10, 3) := by decide +kernel
theorem dX16_played_22 : decode cX16_played 22 = .ok (.iload_n 1, 1) := by decide +kernel
theorem dX16_played_23 : decode cX16_played 23 = .ok (.invokevirtual 94, 3) := by decide +kernel
theorem dX16_played_26 : decode cX16_played 26 = .ok (.checkcast 68, 3) := by decide +kernel
theorem dX16_played_29 : decode cX16_played 29 = .ok (.getfield 164, 3) := by decide +kernel
theorem dX16_played_32 : decode cX16_played 32 = .ok (.invokevirtual 46, 3) := by decide +kernel
theorem dX16_played_35 : decode cX16_played 35 = .ok (.iconst 1, 1) := by decide +kernel
theorem dX16_played_36 : decode cX16_played 36 = .ok (.isub, 1) := by decide +kernel
theorem dX16_played_37 : decode cX16_played 37 = .ok (.i2l, 1) := by decide +kernel
theorem dX16_played_38 : decode cX16_played 38 = .ok (.invokestatic 50, 3) := by decide +kernel
theorem dX16_played_41 : decode cX16_played 41 = .ok (.ifCond .eq 35, 3) := by decide +kernel
theorem dX16_played_44 : decode cX16_played 44 = .ok (.aload_n 0, 1) := by decide +kernel
theorem dX16_played_45 : decode cX16_played 45 = .ok (.getfield 10, 3) := by decide +kernel
theorem dX16_played_48 : decode cX16_played 48 = .ok (.iload_n 1, 1) := by decide +kernel
theorem dX16_played_49 : decode cX16_played 49 = .ok (.invokevirtual 94, 3) := by decide +kernel
theorem dX16_played_52 : decode cX16_played 52 = .ok (.checkcast 68, 3) := by decide +kernel
theorem dX16_played_55 : decode cX16_played 55 = .ok (.getfield 164, 3) := by decide +kernel
theorem dX16_played_58 : decode cX16_played 58 = .ok (.iload_n 2, 1) := by decide +kernel
theorem dX16_played_59 : decode cX16_played 59 = .ok (.invokevirtual 94, 3) := by decide +kernel
theorem dX16_played_62 : decode cX16_played 62 = .ok (.checkcast 167, 3) := by decide +kernel
theorem dX16_played_65 : decode cX16_played 65 = .ok (.getfield 211, 3) := by decide +kernel
theorem dX16_played_68 : decode cX16_played 68 = .ok (.iconst (-1), 1) := by decide +kernel
theorem dX16_played_69 : decode cX16_played 69 = .ok (.if_icmp .eq 7, 3) := by decide +kernel
theorem dX16_played_72 : decode cX16_played 72 = .ok (.iconst 1, 1) := by decide +kernel
theorem dX16_played_73 : decode cX16_played 73 = .ok (.goto 4, 3) := by decide +kernel
theorem dX16_played_76 : decode cX16_played 76 = .ok (.iconst 0, 1) := by decide +kernel
theorem dX16_played_77 : decode cX16_played 77 = .ok (.istore 4, 2) := by decide +kernel
theorem dX16_played_79 : decode cX16_played 79 = .ok (.aload_n 0, 1) := by decide +kernel
theorem dX16_played_80 : decode cX16_played 80 = .ok (.iload_n 3, 1) := by decide +kernel
theorem dX16_played_81 : decode cX16_played 81 = .ok (.ifCond .ne 7, 3) := by decide +kernel
theorem dX16_played_84 : decode cX16_played 84 = .ok (.iconst 2, 1) := by decide +kernel
theorem dX16_played_85 : decode cX16_played 85 = .ok (.goto 24, 3) := by decide +kernel
theorem dX16_played_88 : decode cX16_played 88 = .ok (.aload_n 0, 1) := by decide +kernel
theorem dX16_played_89 : decode cX16_played 89 = .ok (.getfield 161, 3) := by decide +kernel
theorem dX16_played_92 : decode cX16_played 92 = .ok (.ifCond .ne 7, 3) := by decide +kernel
theorem dX16_played_95 : decode cX16_played 95 = .ok (.iconst 3, 1) := by decide +kernel
theorem dX16_played_96 : decode cX16_played 96 = .ok (.goto 13, 3) := by decide +kernel
theorem dX16_played_99 : decode cX16_played 99 = .ok (.iload 4, 2) := by decide +kernel
theorem dX16_played_101 : decode cX16_played 101 = .ok (.ifCond .ne 7, 3) := by decide +kernel
theorem dX16_played_104 : decode cX16_played 104 = .ok (.iconst 4, 1) := by decide +kernel
theorem dX16_played_105 : decode cX16_played 105 = .ok (.goto 4, 3) := by decide +kernel
theorem dX16_played_108 : decode cX16_played 108 = .ok (.iconst 0, 1) := by decide +kernel
theorem dX16_played_109 : decode cX16_played 109 = .ok (.putfield 43, 3) := by decide +kernel
theorem dX16_played_112 : decode cX16_played 112 = .ok (.aload_n 0, 1) := by decide +kernel
theorem dX16_played_113 : decode cX16_played 113 = .ok (.getfield 43, 3) := by decide +kernel
theorem dX16_played_116 : decode cX16_played 116 = .ok (.ifCond .le 7, 3) := by decide +kernel
theorem dX16_played_119 : decode cX16_played 119 = .ok (.aconst_null, 1) := by decide +kernel
theorem dX16_played_120 : decode cX16_played 120 = .ok (.goto 24, 3) := by decide +kernel
theorem dX16_played_123 : decode cX16_played 123 = .ok (.aload_n 0, 1) := by decide +kernel
theorem dX16_played_124 : decode cX16_played 124 = .ok (.getfield 10, 3) := by decide +kernel
theorem dX16_played_127 : decode cX16_played 127 = .ok (.iload_n 1, 1) := by decide +kernel
theorem dX16_played_128 : decode cX16_played 128 = .ok (.invokevirtual 94, 3) := by decide +kernel
theorem dX16_played_131 : decode cX16_played 131 = .ok (.checkcast 68, 3) := by decide +kernel
theorem dX16_played_134 : decode cX16_played 134 = .ok (.getfield 164, 3) := by decide +kernel
theorem dX16_played_137 : decode cX16_played 137 = .ok (.iload_n 2, 1) := by decide +kernel
theorem dX16_played_138 : decode cX16_played 138 = .ok (.invokevirtual 94, 3) := by decide +kernel
theorem dX16_played_141 : decode cX16_played 141 = .ok (.checkcast 167, 3) := by decide +kernel
theorem dX16_played_144 : decode cX16_played 144 = .ok (.areturn, 1) := by decide +kernel
theorem dX16_of_0 : decode cX16_of 0 = .ok (.aload_n 0, 1) := by decide +kernel
theorem dX16_of_1 : decode cX16_of 1 = .ok (.iload_n 1, 1) := by decide +kernel
theorem dX16_of_2 : decode cX16_of 2 = .ok (.iload_n 2, 1) := by decide +kernel
theorem dX16_of_3 : decode cX16_of 3 = .ok (.ldc_w 307, 3) := by decide +kernel
theorem dX16_of_6 : decode cX16_of 6 = .ok (.iload_n 3, 1) := by decide +kernel
theorem dX16_of_7 : decode cX16_of 7 = .ok (.invokevirtual 309, 3) := by decide +kernel
theorem dX16_of_10 : decode cX16_of 10 = .ok (.ifCond .lt 7, 3) := by decide +kernel
theorem dX16_of_13 : decode cX16_of 13 = .ok (.iconst 1, 1) := by decide +kernel
theorem dX16_of_14 : decode cX16_of 14 = .ok (.goto 4, 3) := by decide +kernel
theorem dX16_of_17 : decode cX16_of 17 = .ok (.iconst 0, 1) := by decide +kernel
theorem dX16_of_18 : decode cX16_of 18 = .ok (.invokevirtual 314, 3) := by decide +kernel
theorem dX16_of_21 : decode cX16_of 21 = .ok (.astore 4, 2) := by decide +kernel
theorem dX16_of_23 : decode cX16_of 23 = .ok (.aload 4, 2) := by decide +kernel
theorem dX16_of_25 : decode cX16_of 25 = .ok (.ifnonnull 5, 3) := by decide +kernel
theorem dX16_of_28 : decode cX16_of 28 = .ok (.iconst 0, 1) := by decide +kernel
theorem dX16_of_29 : decode cX16_of 29 = .ok (.ireturn, 1) := by decide +kernel
theorem dX16_of_30 : decode cX16_of 30 = .ok (.iload_n 3, 1) := by decide +kernel
theorem dX16_of_31 : decode cX16_of 31 = .ok (.lookupswitch 79 #[(98, 49), (99, 73), (101, 55), (109, 61), (115, 67)], 49) := by decide +kernel
theorem dX16_of_80 : decode cX16_of 80 = .ok (.aload 4, 2) := by decide +kernel
theorem dX16_of_82 : decode cX16_of 82 = .ok (.getfield 211, 3) := by decide +kernel
theorem dX16_of_85 : decode cX16_of 85 = .ok (.ireturn, 1) := by decide +kernel
theorem dX16_of_86 : decode cX16_of 86 = .ok (.aload 4, 2) := by decide +kernel
theorem dX16_of_88 : decode cX16_of 88 = .ok (.getfield 217, 3) := by decide +kernel
theorem dX16_of_91 : decode cX16_of 91 = .ok (.ireturn, 1) := by decide +kernel
theorem dX16_of_92 : decode cX16_of 92 = .ok (.aload 4, 2) := by decide +kernel
theorem dX16_of_94 : decode cX16_of 94 = .ok (.getfield 277, 3) := by decide +kernel
theorem dX16_of_97 : decode cX16_of 97 = .ok (.ireturn, 1) := by decide +kernel
theorem dX16_of_98 : decode cX16_of 98 = .ok (.aload 4, 2) := by decide +kernel
theorem dX16_of_100 : decode cX16_of 100 = .ok (.getfield 257, 3) := by decide +kernel
theorem dX16_of_103 : decode cX16_of 103 = .ok (.ireturn, 1) := by decide +kernel
theorem dX16_of_104 : decode cX16_of 104 = .ok (.aload 4, 2) := by decide +kernel
theorem dX16_of_106 : decode cX16_of 106 = .ok (.getfield 266, 3) := by decide +kernel
theorem dX16_of_109 : decode cX16_of 109 = .ok (.ireturn, 1) := by decide +kernel
theorem dX16_of_110 : decode cX16_of 110 = .ok (.aload 4, 2) := by decide +kernel
theorem dX16_of_112 : decode cX16_of 112 = .ok (.getfield 283, 3) := by decide +kernel
theorem dX16_of_115 : decode cX16_of 115 = .ok (.ireturn, 1) := by decide +kernel
theorem dX16_isBroken_0 : decode cX16_isBroken 0 = .ok (.aload_n 0, 1) := by decide +kernel
theorem dX16_isBroken_1 : decode cX16_isBroken 1 = .ok (.iload_n 1, 1) := by decide +kernel
theorem dX16_isBroken_2 : decode cX16_isBroken 2 = .ok (.iload_n 2, 1) := by decide +kernel
theorem dX16_isBroken_3 : decode cX16_isBroken 3 = .ok (.iconst 1, 1) := by decide +kernel
theorem dX16_isBroken_4 : decode cX16_isBroken 4 = .ok (.invokevirtual 314, 3) := by decide +kernel
theorem dX16_isBroken_7 : decode cX16_isBroken 7 = .ok (.astore_n 3, 1) := by decide +kernel
theorem dX16_isBroken_8 : decode cX16_isBroken 8 = .ok (.aload_n 0, 1) := by decide +kernel
theorem dX16_isBroken_9 : decode cX16_isBroken 9 = .ok (.aload_n 0, 1) := by decide +kernel
theorem dX16_isBroken_10 : decode cX16_isBroken 10 = .ok (.getfield 43, 3) := by decide +kernel
theorem dX16_isBroken_13 : decode cX16_isBroken 13 = .ok (.iconst 1, 1) := by decide +kernel
theorem dX16_isBroken_14 : decode cX16_isBroken 14 = .ok (.if_icmp .le 12, 3) := by decide +kernel
theorem dX16_isBroken_17 : decode cX16_isBroken 17 = .ok (.aload_n 0, 1) := by decide +kernel
theorem dX16_isBroken_18 : decode cX16_isBroken 18 = .ok (.getfield 43, 3) := by decide +kernel
theorem dX16_isBroken_21 : decode cX16_isBroken 21 = .ok (.iconst 1, 1) := by decide +kernel
theorem dX16_isBroken_22 : decode cX16_isBroken 22 = .ok (.isub, 1) := by decide +kernel
theorem dX16_isBroken_23 : decode cX16_isBroken 23 = .ok (.goto 7, 3) := by decide +kernel
theorem dX16_isBroken_26 : decode cX16_isBroken 26 = .ok (.aload_n 0, 1) := by decide +kernel
theorem dX16_isBroken_27 : decode cX16_isBroken 27 = .ok (.getfield 43, 3) := by decide +kernel
theorem dX16_isBroken_30 : decode cX16_isBroken 30 = .ok (.putfield 43, 3) := by decide +kernel
theorem dX16_isBroken_33 : decode cX16_isBroken 33 = .ok (.aload_n 3, 1) := by decide +kernel
theorem dX16_isBroken_34 : decode cX16_isBroken 34 = .ok (.ifnull 14, 3) := by decide +kernel
theorem dX16_isBroken_37 : decode cX16_isBroken 37 = .ok (.aload_n 3, 1) := by decide +kernel
theorem dX16_isBroken_38 : decode cX16_isBroken 38 = .ok (.getfield 286, 3) := by decide +kernel
theorem dX16_isBroken_41 : decode cX16_isBroken 41 = .ok (.ifCond .eq 7, 3) := by decide +kernel
theorem dX16_isBroken_44 : decode cX16_isBroken 44 = .ok (.iconst 1, 1) := by decide +kernel
theorem dX16_isBroken_45 : decode cX16_isBroken 45 = .ok (.goto 4, 3) := by decide +kernel
theorem dX16_isBroken_48 : decode cX16_isBroken 48 = .ok (.iconst 0, 1) := by decide +kernel
theorem dX16_isBroken_49 : decode cX16_isBroken 49 = .ok (.ireturn, 1) := by decide +kernel
theorem dX16_noVisit_0 : decode cX16_noVisit 0 = .ok (.aload_n 0, 1) := by decide +kernel
theorem dX16_noVisit_1 : decode cX16_noVisit 1 = .ok (.aload_n 0, 1) := by decide +kernel
theorem dX16_noVisit_2 : decode cX16_noVisit 2 = .ok (.getfield 161, 3) := by decide +kernel
theorem dX16_noVisit_5 : decode cX16_noVisit 5 = .ok (.ifCond .ne 7, 3) := by decide +kernel
theorem dX16_noVisit_8 : decode cX16_noVisit 8 = .ok (.iconst 1, 1) := by decide +kernel
theorem dX16_noVisit_9 : decode cX16_noVisit 9 = .ok (.goto 27, 3) := by decide +kernel
theorem dX16_noVisit_12 : decode cX16_noVisit 12 = .ok (.iload_n 1, 1) := by decide +kernel
theorem dX16_noVisit_13 : decode cX16_noVisit 13 = .ok (.i2l, 1) := by decide +kernel
theorem dX16_noVisit_14 : decode cX16_noVisit 14 = .ok (.lconst 0, 1) := by decide +kernel
theorem dX16_noVisit_15 : decode cX16_noVisit 15 = .ok (.aload_n 0, 1) := by decide +kernel
theorem dX16_noVisit_16 : decode cX16_noVisit 16 = .ok (.getfield 19, 3) := by decide +kernel
theorem dX16_noVisit_19 : decode cX16_noVisit 19 = .ok (.invokevirtual 46, 3) := by decide +kernel
theorem dX16_noVisit_22 : decode cX16_noVisit 22 = .ok (.iconst 1, 1) := by decide +kernel
theorem dX16_noVisit_23 : decode cX16_noVisit 23 = .ok (.isub, 1) := by decide +kernel
theorem dX16_noVisit_24 : decode cX16_noVisit 24 = .ok (.i2l, 1) := by decide +kernel
theorem dX16_noVisit_25 : decode cX16_noVisit 25 = .ok (.invokestatic 50, 3) := by decide +kernel
theorem dX16_noVisit_28 : decode cX16_noVisit 28 = .ok (.ifCond .ne 7, 3) := by decide +kernel
theorem dX16_noVisit_31 : decode cX16_noVisit 31 = .ok (.iconst 2, 1) := by decide +kernel
theorem dX16_noVisit_32 : decode cX16_noVisit 32 = .ok (.goto 4, 3) := by decide +kernel
theorem dX16_noVisit_35 : decode cX16_noVisit 35 = .ok (.iconst 0, 1) := by decide +kernel
theorem dX16_noVisit_36 : decode cX16_noVisit 36 = .ok (.putfield 43, 3) := by decide +kernel
theorem dX16_noVisit_39 : decode cX16_noVisit 39 = .ok (.aload_n 0, 1) := by decide +kernel
theorem dX16_noVisit_40 : decode cX16_noVisit 40 = .ok (.getfield 43, 3) := by decide +kernel
theorem dX16_noVisit_43 : decode cX16_noVisit 43 = .ok (.ifCond .le 7, 3) := by decide +kernel
theorem dX16_noVisit_46 : decode cX16_noVisit 46 = .ok (.iconst 1, 1) := by decide +kernel
theorem dX16_noVisit_47 : decode cX16_noVisit 47 = .ok (.goto 4, 3) := by decide +kernel
theorem dX16_noVisit_50 : decode cX16_noVisit 50 = .ok (.iconst 0, 1) := by decide +kernel
theorem dX16_noVisit_51 : decode cX16_noVisit 51 = .ok (.ireturn, 1) := by decide +kernel
theorem dX16_fineAt_0 : decode cX16_fineAt 0 = .ok (.aload_n 0, 1) := by decide +kernel
theorem dX16_fineAt_1 : decode cX16_fineAt 1 = .ok (.iload_n 1, 1) := by decide +kernel
theorem dX16_fineAt_2 : decode cX16_fineAt 2 = .ok (.invokevirtual 318, 3) := by decide +kernel
theorem dX16_fineAt_5 : decode cX16_fineAt 5 = .ok (.ifCond .eq 8, 3) := by decide +kernel
theorem dX16_fineAt_8 : decode cX16_fineAt 8 = .ok (.bipush 32, 2) := by decide +kernel
theorem dX16_fineAt_10 : decode cX16_fineAt 10 = .ok (.goto 17, 3) := by decide +kernel
theorem dX16_fineAt_13 : decode cX16_fineAt 13 = .ok (.aload_n 0, 1) := by decide +kernel
theorem dX16_fineAt_14 : decode cX16_fineAt 14 = .ok (.getfield 19, 3) := by decide +kernel
theorem dX16_fineAt_17 : decode cX16_fineAt 17 = .ok (.iload_n 1, 1) := by decide +kernel
theorem dX16_fineAt_18 : decode cX16_fineAt 18 = .ok (.invokevirtual 94, 3) := by decide +kernel
theorem dX16_fineAt_21 : decode cX16_fineAt 21 = .ok (.checkcast 200, 3) := by decide +kernel
theorem dX16_fineAt_24 : decode cX16_fineAt 24 = .ok (.getfield 247, 3) := by decide +kernel
theorem dX16_fineAt_27 : decode cX16_fineAt 27 = .ok (.ireturn, 1) := by decide +kernel
theorem dX16_sumAt_0 : decode cX16_sumAt 0 = .ok (.aload_n 0, 1) := by decide +kernel
theorem dX16_sumAt_1 : decode cX16_sumAt 1 = .ok (.iload_n 1, 1) := by decide +kernel
theorem dX16_sumAt_2 : decode cX16_sumAt 2 = .ok (.invokevirtual 318, 3) := by decide +kernel
theorem dX16_sumAt_5 : decode cX16_sumAt 5 = .ok (.ifCond .eq 7, 3) := by decide +kernel
theorem dX16_sumAt_8 : decode cX16_sumAt 8 = .ok (.iconst 0, 1) := by decide +kernel
theorem dX16_sumAt_9 : decode cX16_sumAt 9 = .ok (.goto 17, 3) := by decide +kernel
theorem dX16_sumAt_12 : decode cX16_sumAt 12 = .ok (.aload_n 0, 1) := by decide +kernel
theorem dX16_sumAt_13 : decode cX16_sumAt 13 = .ok (.getfield 19, 3) := by decide +kernel
theorem dX16_sumAt_16 : decode cX16_sumAt 16 = .ok (.iload_n 1, 1) := by decide +kernel
theorem dX16_sumAt_17 : decode cX16_sumAt 17 = .ok (.invokevirtual 94, 3) := by decide +kernel
theorem dX16_sumAt_20 : decode cX16_sumAt 20 = .ok (.checkcast 200, 3) := by decide +kernel
theorem dX16_sumAt_23 : decode cX16_sumAt 23 = .ok (.getfield 244, 3) := by decide +kernel
theorem dX16_sumAt_26 : decode cX16_sumAt 26 = .ok (.ireturn, 1) := by decide +kernel
theorem dX16_money_0 : decode cX16_money 0 = .ok (.aload_n 0, 1) := by decide +kernel
theorem dX16_money_1 : decode cX16_money 1 = .ok (.iload_n 1, 1) := by decide +kernel
theorem dX16_money_2 : decode cX16_money 2 = .ok (.invokevirtual 119, 3) := by decide +kernel
theorem dX16_money_5 : decode cX16_money 5 = .ok (.ifCond .eq 7, 3) := by decide +kernel
theorem dX16_money_8 : decode cX16_money 8 = .ok (.iconst 0, 1) := by decide +kernel
theorem dX16_money_9 : decode cX16_money 9 = .ok (.goto 17, 3) := by decide +kernel
theorem dX16_money_12 : decode cX16_money 12 = .ok (.aload_n 0, 1) := by decide +kernel
theorem dX16_money_13 : decode cX16_money 13 = .ok (.getfield 16, 3) := by decide +kernel
theorem dX16_money_16 : decode cX16_money 16 = .ok (.iload_n 1, 1) := by decide +kernel
theorem dX16_money_17 : decode cX16_money 17 = .ok (.invokevirtual 94, 3) := by decide +kernel
theorem dX16_money_20 : decode cX16_money 20 = .ok (.checkcast 111, 3) := by decide +kernel
theorem dX16_money_23 : decode cX16_money 23 = .ok (.getfield 251, 3) := by decide +kernel
theorem dX16_money_26 : decode cX16_money 26 = .ok (.ireturn, 1) := by decide +kernel
theorem dX16_fines_0 : decode cX16_fines 0 = .ok (.aload_n 0, 1) := by decide +kernel
theorem dX16_fines_1 : decode cX16_fines 1 = .ok (.iconst 0, 1) := by decide +kernel
theorem dX16_fines_2 : decode cX16_fines 2 = .ok (.putfield 43, 3) := by decide +kernel
theorem dX16_fines_5 : decode cX16_fines 5 = .ok (.aload_n 0, 1) := by decide +kernel
theorem dX16_fines_6 : decode cX16_fines 6 = .ok (.getfield 254, 3) := by decide +kernel
theorem dX16_fines_9 : decode cX16_fines 9 = .ok (.ireturn, 1) := by decide +kernel
theorem dX16_nextDay_0 : decode cX16_nextDay 0 = .ok (.aload_n 0, 1) := by decide +kernel
theorem dX16_nextDay_1 : decode cX16_nextDay 1 = .ok (.aload_n 0, 1) := by decide +kernel
theorem dX16_nextDay_2 : decode cX16_nextDay 2 = .ok (.getfield 161, 3) := by decide +kernel
theorem dX16_nextDay_5 : decode cX16_nextDay 5 = .ok (.ifCond .eq 7, 3) := by decide +kernel
theorem dX16_nextDay_8 : decode cX16_nextDay 8 = .ok (.iconst 0, 1) := by decide +kernel
theorem dX16_nextDay_9 : decode cX16_nextDay 9 = .ok (.goto 4, 3) := by decide +kernel
theorem dX16_nextDay_12 : decode cX16_nextDay 12 = .ok (.iconst 1, 1) := by decide +kernel
theorem dX16_nextDay_13 : decode cX16_nextDay 13 = .ok (.putfield 43, 3) := by decide +kernel
theorem dX16_nextDay_16 : decode cX16_nextDay 16 = .ok (.aload_n 0, 1) := by decide +kernel
theorem dX16_nextDay_17 : decode cX16_nextDay 17 = .ok (.getfield 43, 3) := by decide +kernel
theorem dX16_nextDay_20 : decode cX16_nextDay 20 = .ok (.ifCond .le 5, 3) := by decide +kernel
theorem dX16_nextDay_23 : decode cX16_nextDay 23 = .ok (.iconst 0, 1) := by decide +kernel
theorem dX16_nextDay_24 : decode cX16_nextDay 24 = .ok (.ireturn, 1) := by decide +kernel
theorem dX16_nextDay_25 : decode cX16_nextDay 25 = .ok (.aload_n 0, 1) := by decide +kernel
theorem dX16_nextDay_26 : decode cX16_nextDay 26 = .ok (.getfield 10, 3) := by decide +kernel
theorem dX16_nextDay_29 : decode cX16_nextDay 29 = .ok (.invokevirtual 54, 3) := by decide +kernel
theorem dX16_nextDay_32 : decode cX16_nextDay 32 = .ok (.astore_n 1, 1) := by decide +kernel
theorem dX16_nextDay_33 : decode cX16_nextDay 33 = .ok (.aload_n 1, 1) := by decide +kernel
theorem dX16_nextDay_34 : decode cX16_nextDay 34 = .ok (.invokeinterface 58 1, 5) := by decide +kernel
theorem dX16_nextDay_39 : decode cX16_nextDay 39 = .ok (.ifCond .eq 23, 3) := by decide +kernel
theorem dX16_nextDay_42 : decode cX16_nextDay 42 = .ok (.aload_n 1, 1) := by decide +kernel
theorem dX16_nextDay_43 : decode cX16_nextDay 43 = .ok (.invokeinterface 64 1, 5) := by decide +kernel
theorem dX16_nextDay_48 : decode cX16_nextDay 48 = .ok (.checkcast 68, 3) := by decide +kernel
theorem dX16_nextDay_51 : decode cX16_nextDay 51 = .ok (.astore_n 2, 1) := by decide +kernel
theorem dX16_nextDay_52 : decode cX16_nextDay 52 = .ok (.aload_n 2, 1) := by decide +kernel
theorem dX16_nextDay_53 : decode cX16_nextDay 53 = .ok (.getfield 164, 3) := by decide +kernel
theorem dX16_nextDay_56 : decode cX16_nextDay 56 = .ok (.invokevirtual 140, 3) := by decide +kernel
theorem dX16_nextDay_59 : decode cX16_nextDay 59 = .ok (.goto (-26), 3) := by decide +kernel
theorem dX16_nextDay_62 : decode cX16_nextDay 62 = .ok (.aload_n 0, 1) := by decide +kernel
theorem dX16_nextDay_63 : decode cX16_nextDay 63 = .ok (.getfield 19, 3) := by decide +kernel
theorem dX16_nextDay_66 : decode cX16_nextDay 66 = .ok (.invokevirtual 140, 3) := by decide +kernel
theorem dX16_nextDay_69 : decode cX16_nextDay 69 = .ok (.aload_n 0, 1) := by decide +kernel
theorem dX16_nextDay_70 : decode cX16_nextDay 70 = .ok (.iconst 0, 1) := by decide +kernel
theorem dX16_nextDay_71 : decode cX16_nextDay 71 = .ok (.putfield 189, 3) := by decide +kernel
theorem dX16_nextDay_74 : decode cX16_nextDay 74 = .ok (.aload_n 0, 1) := by decide +kernel
theorem dX16_nextDay_75 : decode cX16_nextDay 75 = .ok (.iconst (-1), 1) := by decide +kernel
theorem dX16_nextDay_76 : decode cX16_nextDay 76 = .ok (.putfield 37, 3) := by decide +kernel
theorem dX16_nextDay_79 : decode cX16_nextDay 79 = .ok (.aload_n 0, 1) := by decide +kernel
theorem dX16_nextDay_80 : decode cX16_nextDay 80 = .ok (.iconst 0, 1) := by decide +kernel
theorem dX16_nextDay_81 : decode cX16_nextDay 81 = .ok (.putfield 161, 3) := by decide +kernel
theorem dX16_nextDay_84 : decode cX16_nextDay 84 = .ok (.aload_n 0, 1) := by decide +kernel
theorem dX16_nextDay_85 : decode cX16_nextDay 85 = .ok (.getfield 25, 3) := by decide +kernel
theorem dX16_nextDay_88 : decode cX16_nextDay 88 = .ok (.aload_n 0, 1) := by decide +kernel
theorem dX16_nextDay_89 : decode cX16_nextDay 89 = .ok (.getfield 269, 3) := by decide +kernel
theorem dX16_nextDay_92 : decode cX16_nextDay 92 = .ok (.invokestatic 146, 3) := by decide +kernel
theorem dX16_nextDay_95 : decode cX16_nextDay 95 = .ok (.invokevirtual 80, 3) := by decide +kernel
theorem dX16_nextDay_98 : decode cX16_nextDay 98 = .ok (.pop, 1) := by decide +kernel
theorem dX16_nextDay_99 : decode cX16_nextDay 99 = .ok (.aload_n 0, 1) := by decide +kernel
theorem dX16_nextDay_100 : decode cX16_nextDay 100 = .ok (.getfield 25, 3) := by decide +kernel
theorem dX16_nextDay_103 : decode cX16_nextDay 103 = .ok (.invokevirtual 46, 3) := by decide +kernel
theorem dX16_nextDay_106 : decode cX16_nextDay 106 = .ok (.bipush 10, 2) := by decide +kernel
theorem dX16_nextDay_108 : decode cX16_nextDay 108 = .ok (.if_icmp .le 18, 3) := by decide +kernel
theorem dX16_nextDay_111 : decode cX16_nextDay 111 = .ok (.aload_n 0, 1) := by decide +kernel
theorem dX16_nextDay_112 : decode cX16_nextDay 112 = .ok (.getfield 25, 3) := by decide +kernel
theorem dX16_nextDay_115 : decode cX16_nextDay 115 = .ok (.iconst 0, 1) := by decide +kernel
theorem dX16_nextDay_116 : decode cX16_nextDay 116 = .ok (.invokevirtual 321, 3) := by decide +kernel
theorem dX16_nextDay_119 : decode cX16_nextDay 119 = .ok (.checkcast 147, 3) := by decide +kernel
theorem dX16_nextDay_122 : decode cX16_nextDay 122 = .ok (.invokevirtual 156, 3) := by decide +kernel
theorem dX16_nextDay_125 : decode cX16_nextDay 125 = .ok (.istore_n 1, 1) := by decide +kernel
theorem dX16_nextDay_126 : decode cX16_nextDay 126 = .ok (.aload_n 0, 1) := by decide +kernel
theorem dX16_nextDay_127 : decode cX16_nextDay 127 = .ok (.dup, 1) := by decide +kernel
theorem dX16_nextDay_128 : decode cX16_nextDay 128 = .ok (.getfield 324, 3) := by decide +kernel
theorem dX16_nextDay_131 : decode cX16_nextDay 131 = .ok (.iconst 1, 1) := by decide +kernel
theorem dX16_nextDay_132 : decode cX16_nextDay 132 = .ok (.iadd, 1) := by decide +kernel
theorem dX16_nextDay_133 : decode cX16_nextDay 133 = .ok (.putfield 324, 3) := by decide +kernel
theorem dX16_nextDay_136 : decode cX16_nextDay 136 = .ok (.aload_n 0, 1) := by decide +kernel
theorem dX16_nextDay_137 : decode cX16_nextDay 137 = .ok (.getfield 324, 3) := by decide +kernel
theorem dX16_nextDay_140 : decode cX16_nextDay 140 = .ok (.ireturn, 1) := by decide +kernel
theorem dX16_diary_0 : decode cX16_diary 0 = .ok (.aload_n 0, 1) := by decide +kernel
theorem dX16_diary_1 : decode cX16_diary 1 = .ok (.iload_n 1, 1) := by decide +kernel
theorem dX16_diary_2 : decode cX16_diary 2 = .ok (.i2l, 1) := by decide +kernel
theorem dX16_diary_3 : decode cX16_diary 3 = .ok (.lconst 1, 1) := by decide +kernel
theorem dX16_diary_4 : decode cX16_diary 4 = .ok (.aload_n 0, 1) := by decide +kernel
theorem dX16_diary_5 : decode cX16_diary 5 = .ok (.getfield 25, 3) := by decide +kernel
theorem dX16_diary_8 : decode cX16_diary 8 = .ok (.invokevirtual 46, 3) := by decide +kernel
theorem dX16_diary_11 : decode cX16_diary 11 = .ok (.i2l, 1) := by decide +kernel
theorem dX16_diary_12 : decode cX16_diary 12 = .ok (.invokestatic 50, 3) := by decide +kernel
theorem dX16_diary_15 : decode cX16_diary 15 = .ok (.ifCond .eq 7, 3) := by decide +kernel
theorem dX16_diary_18 : decode cX16_diary 18 = .ok (.iconst 0, 1) := by decide +kernel
theorem dX16_diary_19 : decode cX16_diary 19 = .ok (.goto 4, 3) := by decide +kernel
theorem dX16_diary_22 : decode cX16_diary 22 = .ok (.iconst 1, 1) := by decide +kernel
theorem dX16_diary_23 : decode cX16_diary 23 = .ok (.putfield 43, 3) := by decide +kernel
theorem dX16_diary_26 : decode cX16_diary 26 = .ok (.aload_n 0, 1) := by decide +kernel
theorem dX16_diary_27 : decode cX16_diary 27 = .ok (.getfield 43, 3) := by decide +kernel
theorem dX16_diary_30 : decode cX16_diary 30 = .ok (.ifCond .le 7, 3) := by decide +kernel
theorem dX16_diary_33 : decode cX16_diary 33 = .ok (.iconst 0, 1) := by decide +kernel
theorem dX16_diary_34 : decode cX16_diary 34 = .ok (.goto 25, 3) := by decide +kernel
theorem dX16_diary_37 : decode cX16_diary 37 = .ok (.aload_n 0, 1) := by decide +kernel
theorem dX16_diary_38 : decode cX16_diary 38 = .ok (.getfield 25, 3) := by decide +kernel
theorem dX16_diary_41 : decode cX16_diary 41 = .ok (.aload_n 0, 1) := by decide +kernel
theorem dX16_diary_42 : decode cX16_diary 42 = .ok (.getfield 25, 3) := by decide +kernel
theorem dX16_diary_45 : decode cX16_diary 45 = .ok (.invokevirtual 46, 3) := by decide +kernel
theorem dX16_diary_48 : decode cX16_diary 48 = .ok (.iload_n 1, 1) := by decide +kernel
theorem dX16_diary_49 : decode cX16_diary 49 = .ok (.isub, 1) := by decide +kernel
theorem dX16_diary_50 : decode cX16_diary 50 = .ok (.invokevirtual 94, 3) := by decide +kernel
theorem dX16_diary_53 : decode cX16_diary 53 = .ok (.checkcast 147, 3) := by decide +kernel
theorem dX16_diary_56 : decode cX16_diary 56 = .ok (.invokevirtual 156, 3) := by decide +kernel
theorem dX16_diary_59 : decode cX16_diary 59 = .ok (.ireturn, 1) := by decide +kernel
theorem dX16_checksum_0 : decode cX16_checksum 0 = .ok (.aload_n 0, 1) := by decide +kernel
theorem dX16_checksum_1 : decode cX16_checksum 1 = .ok (.iconst 0, 1) := by decide +kernel
theorem dX16_checksum_2 : decode cX16_checksum 2 = .ok (.putfield 43, 3) := by decide +kernel
theorem dX16_checksum_5 : decode cX16_checksum 5 = .ok (.ldc2_w 327, 3) := by decide +kernel
theorem dX16_checksum_8 : decode cX16_checksum 8 = .ok (.lstore_n 1, 1) := by decide +kernel
theorem dX16_checksum_9 : decode cX16_checksum 9 = .ok (.aload_n 0, 1) := by decide +kernel
theorem dX16_checksum_10 : decode cX16_checksum 10 = .ok (.getfield 16, 3) := by decide +kernel
theorem dX16_checksum_13 : decode cX16_checksum 13 = .ok (.invokevirtual 54, 3) := by decide +kernel
theorem dX16_checksum_16 : decode cX16_checksum 16 = .ok (.astore_n 3, 1) := by decide +kernel
theorem dX16_checksum_17 : decode cX16_checksum 17 = .ok (.aload_n 3, 1) := by decide +kernel
theorem dX16_checksum_18 : decode cX16_checksum 18 = .ok (.invokeinterface 58 1, 5) := by decide +kernel
theorem dX16_checksum_23 : decode cX16_checksum 23 = .ok (.ifCond .eq 43, 3) := by decide +kernel
theorem dX16_checksum_26 : decode cX16_checksum 26 = .ok (.aload_n 3, 1) := by decide +kernel
theorem dX16_checksum_27 : decode cX16_checksum 27 = .ok (.invokeinterface 64 1, 5) := by decide +kernel
theorem dX16_checksum_32 : decode cX16_checksum 32 = .ok (.checkcast 111, 3) := by decide +kernel
theorem dX16_checksum_35 : decode cX16_checksum 35 = .ok (.astore 4, 2) := by decide +kernel
theorem dX16_checksum_37 : decode cX16_checksum 37 = .ok (.ldc2_w 329, 3) := by decide +kernel
theorem dX16_checksum_40 : decode cX16_checksum 40 = .ok (.lload_n 1, 1) := by decide +kernel
theorem dX16_checksum_41 : decode cX16_checksum 41 = .ok (.lmul, 1) := by decide +kernel
theorem dX16_checksum_42 : decode cX16_checksum 42 = .ok (.aload 4, 2) := by decide +kernel
theorem dX16_checksum_44 : decode cX16_checksum 44 = .ok (.getfield 251, 3) := by decide +kernel
theorem dX16_checksum_47 : decode cX16_checksum 47 = .ok (.i2l, 1) := by decide +kernel
theorem dX16_checksum_48 : decode cX16_checksum 48 = .ok (.ladd, 1) := by decide +kernel
theorem dX16_checksum_49 : decode cX16_checksum 49 = .ok (.lstore_n 1, 1) := by decide +kernel
theorem dX16_checksum_50 : decode cX16_checksum 50 = .ok (.ldc2_w 329, 3) := by decide +kernel
theorem dX16_checksum_53 : decode cX16_checksum 53 = .ok (.lload_n 1, 1) := by decide +kernel
theorem dX16_checksum_54 : decode cX16_checksum 54 = .ok (.lmul, 1) := by decide +kernel
theorem dX16_checksum_55 : decode cX16_checksum 55 = .ok (.aload 4, 2) := by decide +kernel
theorem dX16_checksum_57 : decode cX16_checksum 57 = .ok (.getfield 122, 3) := by decide +kernel
theorem dX16_checksum_60 : decode cX16_checksum 60 = .ok (.i2l, 1) := by decide +kernel
theorem dX16_checksum_61 : decode cX16_checksum 61 = .ok (.ladd, 1) := by decide +kernel
theorem dX16_checksum_62 : decode cX16_checksum 62 = .ok (.lstore_n 1, 1) := by decide +kernel
theorem dX16_checksum_63 : decode cX16_checksum 63 = .ok (.goto (-46), 3) := by decide +kernel
theorem dX16_checksum_66 : decode cX16_checksum 66 = .ok (.aload_n 0, 1) := by decide +kernel
theorem dX16_checksum_67 : decode cX16_checksum 67 = .ok (.getfield 10, 3) := by decide +kernel
theorem dX16_checksum_70 : decode cX16_checksum 70 = .ok (.invokevirtual 54, 3) := by decide +kernel
theorem dX16_checksum_73 : decode cX16_checksum 73 = .ok (.astore_n 3, 1) := by decide +kernel
theorem dX16_checksum_74 : decode cX16_checksum 74 = .ok (.aload_n 3, 1) := by decide +kernel
theorem dX16_checksum_75 : decode cX16_checksum 75 = .ok (.invokeinterface 58 1, 5) := by decide +kernel
theorem dX16_checksum_80 : decode cX16_checksum 80 = .ok (.ifCond .eq 46, 3) := by decide +kernel
theorem dX16_checksum_83 : decode cX16_checksum 83 = .ok (.aload_n 3, 1) := by decide +kernel
theorem dX16_checksum_84 : decode cX16_checksum 84 = .ok (.invokeinterface 64 1, 5) := by decide +kernel
theorem dX16_checksum_89 : decode cX16_checksum 89 = .ok (.checkcast 68, 3) := by decide +kernel
theorem dX16_checksum_92 : decode cX16_checksum 92 = .ok (.astore 4, 2) := by decide +kernel
theorem dX16_checksum_94 : decode cX16_checksum 94 = .ok (.ldc2_w 329, 3) := by decide +kernel
theorem dX16_checksum_97 : decode cX16_checksum 97 = .ok (.lload_n 1, 1) := by decide +kernel
theorem dX16_checksum_98 : decode cX16_checksum 98 = .ok (.lmul, 1) := by decide +kernel
theorem dX16_checksum_99 : decode cX16_checksum 99 = .ok (.aload 4, 2) := by decide +kernel
theorem dX16_checksum_101 : decode cX16_checksum 101 = .ok (.getfield 164, 3) := by decide +kernel
theorem dX16_checksum_104 : decode cX16_checksum 104 = .ok (.invokevirtual 46, 3) := by decide +kernel
theorem dX16_checksum_107 : decode cX16_checksum 107 = .ok (.i2l, 1) := by decide +kernel
theorem dX16_checksum_108 : decode cX16_checksum 108 = .ok (.ladd, 1) := by decide +kernel
theorem dX16_checksum_109 : decode cX16_checksum 109 = .ok (.lstore_n 1, 1) := by decide +kernel
theorem dX16_checksum_110 : decode cX16_checksum 110 = .ok (.ldc2_w 329, 3) := by decide +kernel
theorem dX16_checksum_113 : decode cX16_checksum 113 = .ok (.lload_n 1, 1) := by decide +kernel
theorem dX16_checksum_114 : decode cX16_checksum 114 = .ok (.lmul, 1) := by decide +kernel
theorem dX16_checksum_115 : decode cX16_checksum 115 = .ok (.aload 4, 2) := by decide +kernel
theorem dX16_checksum_117 : decode cX16_checksum 117 = .ok (.getfield 70, 3) := by decide +kernel
theorem dX16_checksum_120 : decode cX16_checksum 120 = .ok (.i2l, 1) := by decide +kernel
theorem dX16_checksum_121 : decode cX16_checksum 121 = .ok (.ladd, 1) := by decide +kernel
theorem dX16_checksum_122 : decode cX16_checksum 122 = .ok (.lstore_n 1, 1) := by decide +kernel
theorem dX16_checksum_123 : decode cX16_checksum 123 = .ok (.goto (-49), 3) := by decide +kernel
theorem dX16_checksum_126 : decode cX16_checksum 126 = .ok (.ldc2_w 329, 3) := by decide +kernel
theorem dX16_checksum_129 : decode cX16_checksum 129 = .ok (.lload_n 1, 1) := by decide +kernel
theorem dX16_checksum_130 : decode cX16_checksum 130 = .ok (.lmul, 1) := by decide +kernel
theorem dX16_checksum_131 : decode cX16_checksum 131 = .ok (.aload_n 0, 1) := by decide +kernel
theorem dX16_checksum_132 : decode cX16_checksum 132 = .ok (.getfield 254, 3) := by decide +kernel
theorem dX16_checksum_135 : decode cX16_checksum 135 = .ok (.i2l, 1) := by decide +kernel
theorem dX16_checksum_136 : decode cX16_checksum 136 = .ok (.ladd, 1) := by decide +kernel
theorem dX16_checksum_137 : decode cX16_checksum 137 = .ok (.lstore_n 1, 1) := by decide +kernel
theorem dX16_checksum_138 : decode cX16_checksum 138 = .ok (.ldc2_w 329, 3) := by decide +kernel
theorem dX16_checksum_141 : decode cX16_checksum 141 = .ok (.lload_n 1, 1) := by decide +kernel
theorem dX16_checksum_142 : decode cX16_checksum 142 = .ok (.lmul, 1) := by decide +kernel
theorem dX16_checksum_143 : decode cX16_checksum 143 = .ok (.aload_n 0, 1) := by decide +kernel
theorem dX16_checksum_144 : decode cX16_checksum 144 = .ok (.getfield 33, 3) := by decide +kernel
theorem dX16_checksum_147 : decode cX16_checksum 147 = .ok (.i2l, 1) := by decide +kernel
theorem dX16_checksum_148 : decode cX16_checksum 148 = .ok (.ladd, 1) := by decide +kernel
theorem dX16_checksum_149 : decode cX16_checksum 149 = .ok (.lreturn, 1) := by decide +kernel
theorem dX16_goodShare_0 : decode cX16_goodShare 0 = .ok (.iconst 0, 1) := by decide +kernel
theorem dX16_goodShare_1 : decode cX16_goodShare 1 = .ok (.istore_n 1, 1) := by decide +kernel
theorem dX16_goodShare_2 : decode cX16_goodShare 2 = .ok (.iconst 0, 1) := by decide +kernel
theorem dX16_goodShare_3 : decode cX16_goodShare 3 = .ok (.istore_n 2, 1) := by decide +kernel
theorem dX16_goodShare_4 : decode cX16_goodShare 4 = .ok (.aload_n 0, 1) := by decide +kernel
theorem dX16_goodShare_5 : decode cX16_goodShare 5 = .ok (.getfield 10, 3) := by decide +kernel
theorem dX16_goodShare_8 : decode cX16_goodShare 8 = .ok (.invokevirtual 54, 3) := by decide +kernel
theorem dX16_goodShare_11 : decode cX16_goodShare 11 = .ok (.astore_n 3, 1) := by decide +kernel
theorem dX16_goodShare_12 : decode cX16_goodShare 12 = .ok (.aload_n 3, 1) := by decide +kernel
theorem dX16_goodShare_13 : decode cX16_goodShare 13 = .ok (.invokeinterface 58 1, 5) := by decide +kernel
theorem dX16_goodShare_18 : decode cX16_goodShare 18 = .ok (.ifCond .eq 80, 3) := by decide +kernel
theorem dX16_goodShare_21 : decode cX16_goodShare 21 = .ok (.aload_n 3, 1) := by decide +kernel
theorem dX16_goodShare_22 : decode cX16_goodShare 22 = .ok (.invokeinterface 64 1, 5) := by decide +kernel
theorem dX16_goodShare_27 : decode cX16_goodShare 27 = .ok (.checkcast 68, 3) := by decide +kernel
theorem dX16_goodShare_30 : decode cX16_goodShare 30 = .ok (.astore 4, 2) := by decide +kernel
theorem dX16_goodShare_32 : decode cX16_goodShare 32 = .ok (.aload 4, 2) := by decide +kernel
theorem dX16_goodShare_34 : decode cX16_goodShare 34 = .ok (.getfield 164, 3) := by decide +kernel
theorem dX16_goodShare_37 : decode cX16_goodShare 37 = .ok (.invokevirtual 54, 3) := by decide +kernel
theorem dX16_goodShare_40 : decode cX16_goodShare 40 = .ok (.astore 5, 2) := by decide +kernel
theorem dX16_goodShare_42 : decode cX16_goodShare 42 = .ok (.aload 5, 2) := by decide +kernel
theorem dX16_goodShare_44 : decode cX16_goodShare 44 = .ok (.invokeinterface 58 1, 5) := by decide +kernel
theorem dX16_goodShare_49 : decode cX16_goodShare 49 = .ok (.ifCond .eq 46, 3) := by decide +kernel
theorem dX16_goodShare_52 : decode cX16_goodShare 52 = .ok (.aload 5, 2) := by decide +kernel
theorem dX16_goodShare_54 : decode cX16_goodShare 54 = .ok (.invokeinterface 64 1, 5) := by decide +kernel
theorem dX16_goodShare_59 : decode cX16_goodShare 59 = .ok (.checkcast 167, 3) := by decide +kernel
theorem dX16_goodShare_62 : decode cX16_goodShare 62 = .ok (.astore 6, 2) := by decide +kernel
theorem dX16_goodShare_64 : decode cX16_goodShare 64 = .ok (.iinc 1 1, 3) := by decide +kernel
theorem dX16_goodShare_67 : decode cX16_goodShare 67 = .ok (.iload_n 2, 1) := by decide +kernel
theorem dX16_goodShare_68 : decode cX16_goodShare 68 = .ok (.aload 6, 2) := by decide +kernel
theorem dX16_goodShare_70 : decode cX16_goodShare 70 = .ok (.getfield 211, 3) := by decide +kernel
theorem dX16_goodShare_73 : decode cX16_goodShare 73 = .ok (.iconst (-1), 1) := by decide +kernel
theorem dX16_goodShare_74 : decode cX16_goodShare 74 = .ok (.if_icmp .eq 15, 3) := by decide +kernel
theorem dX16_goodShare_77 : decode cX16_goodShare 77 = .ok (.aload 6, 2) := by decide +kernel
theorem dX16_goodShare_79 : decode cX16_goodShare 79 = .ok (.getfield 286, 3) := by decide +kernel
theorem dX16_goodShare_82 : decode cX16_goodShare 82 = .ok (.ifCond .ne 7, 3) := by decide +kernel
theorem dX16_goodShare_85 : decode cX16_goodShare 85 = .ok (.iconst 1, 1) := by decide +kernel
theorem dX16_goodShare_86 : decode cX16_goodShare 86 = .ok (.goto 4, 3) := by decide +kernel
theorem dX16_goodShare_89 : decode cX16_goodShare 89 = .ok (.iconst 0, 1) := by decide +kernel
theorem dX16_goodShare_90 : decode cX16_goodShare 90 = .ok (.iadd, 1) := by decide +kernel
theorem dX16_goodShare_91 : decode cX16_goodShare 91 = .ok (.istore_n 2, 1) := by decide +kernel
theorem dX16_goodShare_92 : decode cX16_goodShare 92 = .ok (.goto (-50), 3) := by decide +kernel
theorem dX16_goodShare_95 : decode cX16_goodShare 95 = .ok (.goto (-83), 3) := by decide +kernel
theorem dX16_goodShare_98 : decode cX16_goodShare 98 = .ok (.aload_n 0, 1) := by decide +kernel
theorem dX16_goodShare_99 : decode cX16_goodShare 99 = .ok (.aload_n 0, 1) := by decide +kernel
theorem dX16_goodShare_100 : decode cX16_goodShare 100 = .ok (.getfield 161, 3) := by decide +kernel
theorem dX16_goodShare_103 : decode cX16_goodShare 103 = .ok (.ifCond .ne 7, 3) := by decide +kernel
theorem dX16_goodShare_106 : decode cX16_goodShare 106 = .ok (.iconst 1, 1) := by decide +kernel
theorem dX16_goodShare_107 : decode cX16_goodShare 107 = .ok (.goto 12, 3) := by decide +kernel
theorem dX16_goodShare_110 : decode cX16_goodShare 110 = .ok (.iload_n 1, 1) := by decide +kernel
theorem dX16_goodShare_111 : decode cX16_goodShare 111 = .ok (.ifCond .ne 7, 3) := by decide +kernel
theorem dX16_goodShare_114 : decode cX16_goodShare 114 = .ok (.iconst 2, 1) := by decide +kernel
theorem dX16_goodShare_115 : decode cX16_goodShare 115 = .ok (.goto 4, 3) := by decide +kernel
theorem dX16_goodShare_118 : decode cX16_goodShare 118 = .ok (.iconst 0, 1) := by decide +kernel
theorem dX16_goodShare_119 : decode cX16_goodShare 119 = .ok (.putfield 43, 3) := by decide +kernel
theorem dX16_goodShare_122 : decode cX16_goodShare 122 = .ok (.aload_n 0, 1) := by decide +kernel
theorem dX16_goodShare_123 : decode cX16_goodShare 123 = .ok (.getfield 43, 3) := by decide +kernel
theorem dX16_goodShare_126 : decode cX16_goodShare 126 = .ok (.ifCond .le 7, 3) := by decide +kernel
theorem dX16_goodShare_129 : decode cX16_goodShare 129 = .ok (.fconst 0, 1) := by decide +kernel
theorem dX16_goodShare_130 : decode cX16_goodShare 130 = .ok (.goto 8, 3) := by decide +kernel
theorem dX16_goodShare_133 : decode cX16_goodShare 133 = .ok (.iload_n 2, 1) := by decide +kernel
theorem dX16_goodShare_134 : decode cX16_goodShare 134 = .ok (.i2f, 1) := by decide +kernel
theorem dX16_goodShare_135 : decode cX16_goodShare 135 = .ok (.iload_n 1, 1) := by decide +kernel
theorem dX16_goodShare_136 : decode cX16_goodShare 136 = .ok (.i2f, 1) := by decide +kernel
theorem dX16_goodShare_137 : decode cX16_goodShare 137 = .ok (.fdiv, 1) := by decide +kernel
theorem dX16_goodShare_138 : decode cX16_goodShare 138 = .ok (.freturn, 1) := by decide +kernel
theorem dX16_meanMoney_0 : decode cX16_meanMoney 0 = .ok (.iconst 0, 1) := by decide +kernel
theorem dX16_meanMoney_1 : decode cX16_meanMoney 1 = .ok (.istore_n 1, 1) := by decide +kernel
theorem dX16_meanMoney_2 : decode cX16_meanMoney 2 = .ok (.aload_n 0, 1) := by decide +kernel
theorem dX16_meanMoney_3 : decode cX16_meanMoney 3 = .ok (.getfield 16, 3) := by decide +kernel
theorem dX16_meanMoney_6 : decode cX16_meanMoney 6 = .ok (.invokevirtual 54, 3) := by decide +kernel
theorem dX16_meanMoney_9 : decode cX16_meanMoney 9 = .ok (.astore_n 2, 1) := by decide +kernel
theorem dX16_meanMoney_10 : decode cX16_meanMoney 10 = .ok (.aload_n 2, 1) := by decide +kernel
theorem dX16_meanMoney_11 : decode cX16_meanMoney 11 = .ok (.invokeinterface 58 1, 5) := by decide +kernel
theorem dX16_meanMoney_16 : decode cX16_meanMoney 16 = .ok (.ifCond .eq 23, 3) := by decide +kernel
theorem dX16_meanMoney_19 : decode cX16_meanMoney 19 = .ok (.aload_n 2, 1) := by decide +kernel
theorem dX16_meanMoney_20 : decode cX16_meanMoney 20 = .ok (.invokeinterface 64 1, 5) := by decide +kernel
theorem dX16_meanMoney_25 : decode cX16_meanMoney 25 = .ok (.checkcast 111, 3) := by decide +kernel
theorem dX16_meanMoney_28 : decode cX16_meanMoney 28 = .ok (.astore_n 3, 1) := by decide +kernel
theorem dX16_meanMoney_29 : decode cX16_meanMoney 29 = .ok (.iload_n 1, 1) := by decide +kernel
theorem dX16_meanMoney_30 : decode cX16_meanMoney 30 = .ok (.aload_n 3, 1) := by decide +kernel
theorem dX16_meanMoney_31 : decode cX16_meanMoney 31 = .ok (.getfield 251, 3) := by decide +kernel
theorem dX16_meanMoney_34 : decode cX16_meanMoney 34 = .ok (.iadd, 1) := by decide +kernel
theorem dX16_meanMoney_35 : decode cX16_meanMoney 35 = .ok (.istore_n 1, 1) := by decide +kernel
theorem dX16_meanMoney_36 : decode cX16_meanMoney 36 = .ok (.goto (-26), 3) := by decide +kernel
theorem dX16_meanMoney_39 : decode cX16_meanMoney 39 = .ok (.aload_n 0, 1) := by decide +kernel
theorem dX16_meanMoney_40 : decode cX16_meanMoney 40 = .ok (.aload_n 0, 1) := by decide +kernel
theorem dX16_meanMoney_41 : decode cX16_meanMoney 41 = .ok (.getfield 16, 3) := by decide +kernel
theorem dX16_meanMoney_44 : decode cX16_meanMoney 44 = .ok (.invokevirtual 175, 3) := by decide +kernel
theorem dX16_meanMoney_47 : decode cX16_meanMoney 47 = .ok (.ifCond .eq 7, 3) := by decide +kernel
theorem dX16_meanMoney_50 : decode cX16_meanMoney 50 = .ok (.iconst 1, 1) := by decide +kernel
theorem dX16_meanMoney_51 : decode cX16_meanMoney 51 = .ok (.goto 4, 3) := by decide +kernel
theorem dX16_meanMoney_54 : decode cX16_meanMoney 54 = .ok (.iconst 0, 1) := by decide +kernel
theorem dX16_meanMoney_55 : decode cX16_meanMoney 55 = .ok (.putfield 43, 3) := by decide +kernel
theorem dX16_meanMoney_58 : decode cX16_meanMoney 58 = .ok (.aload_n 0, 1) := by decide +kernel
theorem dX16_meanMoney_59 : decode cX16_meanMoney 59 = .ok (.getfield 43, 3) := by decide +kernel
theorem dX16_meanMoney_62 : decode cX16_meanMoney 62 = .ok (.ifCond .le 7, 3) := by decide +kernel
theorem dX16_meanMoney_65 : decode cX16_meanMoney 65 = .ok (.dconst 0, 1) := by decide +kernel
theorem dX16_meanMoney_66 : decode cX16_meanMoney 66 = .ok (.goto 14, 3) := by decide +kernel
theorem dX16_meanMoney_69 : decode cX16_meanMoney 69 = .ok (.iload_n 1, 1) := by decide +kernel
theorem dX16_meanMoney_70 : decode cX16_meanMoney 70 = .ok (.i2d, 1) := by decide +kernel
theorem dX16_meanMoney_71 : decode cX16_meanMoney 71 = .ok (.aload_n 0, 1) := by decide +kernel
theorem dX16_meanMoney_72 : decode cX16_meanMoney 72 = .ok (.getfield 16, 3) := by decide +kernel
theorem dX16_meanMoney_75 : decode cX16_meanMoney 75 = .ok (.invokevirtual 46, 3) := by decide +kernel
theorem dX16_meanMoney_78 : decode cX16_meanMoney 78 = .ok (.i2d, 1) := by decide +kernel
theorem dX16_meanMoney_79 : decode cX16_meanMoney 79 = .ok (.ddiv, 1) := by decide +kernel
theorem dX16_meanMoney_80 : decode cX16_meanMoney 80 = .ok (.dreturn, 1) := by decide +kernel
theorem dX16_isSound_0 : decode cX16_isSound 0 = .ok (.aload_n 0, 1) := by decide +kernel
theorem dX16_isSound_1 : decode cX16_isSound 1 = .ok (.iconst 0, 1) := by decide +kernel
theorem dX16_isSound_2 : decode cX16_isSound 2 = .ok (.putfield 43, 3) := by decide +kernel
theorem dX16_isSound_5 : decode cX16_isSound 5 = .ok (.iconst 1, 1) := by decide +kernel
theorem dX16_isSound_6 : decode cX16_isSound 6 = .ok (.ireturn, 1) := by decide +kernel
theorem dJx00060_init_a7421_0 : decode cJx00060_init_a7421 0 = .ok (.aload_n 0, 1) := by decide +kernel
theorem dJx00060_init_a7421_1 : decode cJx00060_init_a7421 1 = .ok (.aload_n 1, 1) := by decide +kernel
theorem dJx00060_init_a7421_2 : decode cJx00060_init_a7421 2 = .ok (.invokespecial 7, 3) := by decide +kernel
theorem dJx00060_init_a7421_5 : decode cJx00060_init_a7421 5 = .ok (.return_, 1) := by decide +kernel
theorem dJ11_isValidCodePoint_9a6ad_0 : decode cJ11_isValidCodePoint_9a6ad 0 = .ok (.iload_n 0, 1) := by decide +kernel
theorem dJ11_isValidCodePoint_9a6ad_1 : decode cJ11_isValidCodePoint_9a6ad 1 = .ok (.bipush 16, 2) := by decide +kernel
theorem dJ11_isValidCodePoint_9a6ad_3 : decode cJ11_isValidCodePoint_9a6ad 3 = .ok (.iushr, 1) := by decide +kernel
theorem dJ11_isValidCodePoint_9a6ad_4 : decode cJ11_isValidCodePoint_9a6ad 4 = .ok (.istore_n 1, 1) := by decide +kernel
theorem dJ11_isValidCodePoint_9a6ad_5 : decode cJ11_isValidCodePoint_9a6ad 5 = .ok (.iload_n 1, 1) := by decide +kernel
theorem dJ11_isValidCodePoint_9a6ad_6 : decode cJ11_isValidCodePoint_9a6ad 6 = .ok (.bipush 17, 2) := by decide +kernel
theorem dJ11_isValidCodePoint_9a6ad_8 : decode cJ11_isValidCodePoint_9a6ad 8 = .ok (.if_icmp .ge 7, 3) := by decide +kernel
theorem dJ11_isValidCodePoint_9a6ad_11 : decode cJ11_isValidCodePoint_9a6ad 11 = .ok (.iconst 1, 1) := by decide +kernel
theorem dJ11_isValidCodePoint_9a6ad_12 : decode cJ11_isValidCodePoint_9a6ad 12 = .ok (.goto 4, 3) := by decide +kernel
theorem dJ11_isValidCodePoint_9a6ad_15 : decode cJ11_isValidCodePoint_9a6ad 15 = .ok (.iconst 0, 1) := by decide +kernel
theorem dJ11_isValidCodePoint_9a6ad_16 : decode cJ11_isValidCodePoint_9a6ad 16 = .ok (.ireturn, 1) := by decide +kernel
theorem dJ11_highSurrogate_5068e_0 : decode cJ11_highSurrogate_5068e 0 = .ok (.iload_n 0, 1) := by decide +kernel
theorem dJ11_highSurrogate_5068e_1 : decode cJ11_highSurrogate_5068e 1 = .ok (.bipush 10, 2) := by decide +kernel
theorem dJ11_highSurrogate_5068e_3 : decode cJ11_highSurrogate_5068e 3 = .ok (.iushr, 1) := by decide +kernel
theorem dJ11_highSurrogate_5068e_4 : decode cJ11_highSurrogate_5068e 4 = .ok (.ldc 110, 2) := by decide +kernel
theorem dJ11_highSurrogate_5068e_6 : decode cJ11_highSurrogate_5068e 6 = .ok (.iadd, 1) := by decide +kernel
theorem dJ11_highSurrogate_5068e_7 : decode cJ11_highSurrogate_5068e 7 = .ok (.i2c, 1) := by decide +kernel
theorem dJ11_highSurrogate_5068e_8 : decode cJ11_highSurrogate_5068e 8 = .ok (.ireturn, 1) := by decide +kernel
theorem dJ11_lowSurrogate_5068e_0 : decode cJ11_lowSurrogate_5068e 0 = .ok (.iload_n 0, 1) := by decide +kernel
theorem dJ11_lowSurrogate_5068e_1 : decode cJ11_lowSurrogate_5068e 1 = .ok (.sipush 1023, 3) := by decide +kernel
theorem dJ11_lowSurrogate_5068e_4 : decode cJ11_lowSurrogate_5068e 4 = .ok (.iand, 1) := by decide +kernel
theorem dJ11_lowSurrogate_5068e_5 : decode cJ11_lowSurrogate_5068e 5 = .ok (.ldc 76, 2) := by decide +kernel
theorem dJ11_lowSurrogate_5068e_7 : decode cJ11_lowSurrogate_5068e 7 = .ok (.iadd, 1) := by decide +kernel
theorem dJ11_lowSurrogate_5068e_8 : decode cJ11_lowSurrogate_5068e 8 = .ok (.i2c, 1) := by decide +kernel
theorem dJ11_lowSurrogate_5068e_9 : decode cJ11_lowSurrogate_5068e 9 = .ok (.ireturn, 1) := by decide +kernel
theorem dJ6_valueOf_2dffe_0 : decode cJ6_valueOf_2dffe 0 = .ok (.iload_n 0, 1) := by decide +kernel
theorem dJ6_valueOf_2dffe_1 : decode cJ6_valueOf_2dffe 1 = .ok (.bipush (-128), 2) := by decide +kernel
theorem dJ6_valueOf_2dffe_3 : decode cJ6_valueOf_2dffe 3 = .ok (.if_icmp .lt 20, 3) := by decide +kernel
theorem dJ6_valueOf_2dffe_6 : decode cJ6_valueOf_2dffe 6 = .ok (.iload_n 0, 1) := by decide +kernel
theorem dJ6_valueOf_2dffe_7 : decode cJ6_valueOf_2dffe 7 = .ok (.getstatic 191, 3) := by decide +kernel
theorem dJ6_valueOf_2dffe_10 : decode cJ6_valueOf_2dffe 10 = .ok (.if_icmp .gt 13, 3) := by decide +kernel
theorem dJ6_valueOf_2dffe_13 : decode cJ6_valueOf_2dffe 13 = .ok (.getstatic 195, 3) := by decide +kernel
theorem dJ6_valueOf_2dffe_16 : decode cJ6_valueOf_2dffe 16 = .ok (.iload_n 0, 1) := by decide +kernel
theorem dJ6_valueOf_2dffe_17 : decode cJ6_valueOf_2dffe 17 = .ok (.sipush 128, 3) := by decide +kernel
theorem dJ6_valueOf_2dffe_20 : decode cJ6_valueOf_2dffe 20 = .ok (.iadd, 1) := by decide +kernel
theorem dJ6_valueOf_2dffe_21 : decode cJ6_valueOf_2dffe 21 = .ok (.aaload, 1) := by decide +kernel
theorem dJ6_valueOf_2dffe_22 : decode cJ6_valueOf_2dffe 22 = .ok (.areturn, 1) := by decide +kernel
theorem dJ6_valueOf_2dffe_23 : decode cJ6_valueOf_2dffe 23 = .ok (.new 1, 3) := by decide +kernel
theorem dJ6_valueOf_2dffe_26 : decode cJ6_valueOf_2dffe 26 = .ok (.dup, 1) := by decide +kernel
theorem dJ6_valueOf_2dffe_27 : decode cJ6_valueOf_2dffe 27 = .ok (.iload_n 0, 1) := by decide +kernel
theorem dJ6_valueOf_2dffe_28 : decode cJ6_valueOf_2dffe 28 = .ok (.invokespecial 199, 3) := by decide +kernel
theorem dJ6_valueOf_2dffe_31 : decode cJ6_valueOf_2dffe 31 = .ok (.areturn, 1) := by decide +kernel
theorem dJ6_init_d00df_0 : decode cJ6_init_d00df 0 = .ok (.aload_n 0, 1) := by decide +kernel
theorem dJ6_init_d00df_1 : decode cJ6_init_d00df 1 = .ok (.invokespecial 202, 3) := by decide +kernel
theorem dJ6_init_d00df_4 : decode cJ6_init_d00df 4 = .ok (.aload_n 0, 1) := by decide +kernel
theorem dJ6_init_d00df_5 : decode cJ6_init_d00df 5 = .ok (.iload_n 1, 1) := by decide +kernel
theorem dJ6_init_d00df_6 : decode cJ6_init_d00df 6 = .ok (.putfield 205, 3) := by decide +kernel
theorem dJ6_init_d00df_9 : decode cJ6_init_d00df 9 = .ok (.return_, 1) := by decide +kernel
theorem dJ6_intValue_8abf5_0 : decode cJ6_intValue_8abf5 0 = .ok (.aload_n 0, 1) := by decide +kernel
theorem dJ6_intValue_8abf5_1 : decode cJ6_intValue_8abf5 1 = .ok (.getfield 205, 3) := by decide +kernel
theorem dJ6_intValue_8abf5_4 : decode cJ6_intValue_8abf5 4 = .ok (.ireturn, 1) := by decide +kernel
theorem dJ6_bitCount_0f7a4_0 : decode cJ6_bitCount_0f7a4 0 = .ok (.iload_n 0, 1) := by decide +kernel
theorem dJ6_bitCount_0f7a4_1 : decode cJ6_bitCount_0f7a4 1 = .ok (.iload_n 0, 1) := by decide +kernel
theorem dJ6_bitCount_0f7a4_2 : decode cJ6_bitCount_0f7a4 2 = .ok (.iconst 1, 1) := by decide +kernel
theorem dJ6_bitCount_0f7a4_3 : decode cJ6_bitCount_0f7a4 3 = .ok (.iushr, 1) := by decide +kernel
theorem dJ6_bitCount_0f7a4_4 : decode cJ6_bitCount_0f7a4 4 = .ok (.ldc_w 265, 3) := by decide +kernel
theorem dJ6_bitCount_0f7a4_7 : decode cJ6_bitCount_0f7a4 7 = .ok (.iand, 1) := by decide +kernel
theorem dJ6_bitCount_0f7a4_8 : decode cJ6_bitCount_0f7a4 8 = .ok (.isub, 1) := by decide +kernel
theorem dJ6_bitCount_0f7a4_9 : decode cJ6_bitCount_0f7a4 9 = .ok (.istore_n 0, 1) := by decide +kernel
theorem dJ6_bitCount_0f7a4_10 : decode cJ6_bitCount_0f7a4 10 = .ok (.iload_n 0, 1) := by decide +kernel
theorem dJ6_bitCount_0f7a4_11 : decode cJ6_bitCount_0f7a4 11 = .ok (.ldc_w 266, 3) := by decide +kernel
theorem dJ6_bitCount_0f7a4_14 : decode cJ6_bitCount_0f7a4 14 = .ok (.iand, 1) := by decide +kernel
theorem dJ6_bitCount_0f7a4_15 : decode cJ6_bitCount_0f7a4 15 = .ok (.iload_n 0, 1) := by decide +kernel
theorem dJ6_bitCount_0f7a4_16 : decode cJ6_bitCount_0f7a4 16 = .ok (.iconst 2, 1) := by decide +kernel
theorem dJ6_bitCount_0f7a4_17 : decode cJ6_bitCount_0f7a4 17 = .ok (.iushr, 1) := by decide +kernel
theorem dJ6_bitCount_0f7a4_18 : decode cJ6_bitCount_0f7a4 18 = .ok (.ldc_w 266, 3) := by decide +kernel
theorem dJ6_bitCount_0f7a4_21 : decode cJ6_bitCount_0f7a4 21 = .ok (.iand, 1) := by decide +kernel
theorem dJ6_bitCount_0f7a4_22 : decode cJ6_bitCount_0f7a4 22 = .ok (.iadd, 1) := by decide +kernel
theorem dJ6_bitCount_0f7a4_23 : decode cJ6_bitCount_0f7a4 23 = .ok (.istore_n 0, 1) := by decide +kernel
theorem dJ6_bitCount_0f7a4_24 : decode cJ6_bitCount_0f7a4 24 = .ok (.iload_n 0, 1) := by decide +kernel
theorem dJ6_bitCount_0f7a4_25 : decode cJ6_bitCount_0f7a4 25 = .ok (.iload_n 0, 1) := by decide +kernel
theorem dJ6_bitCount_0f7a4_26 : decode cJ6_bitCount_0f7a4 26 = .ok (.iconst 4, 1) := by decide +kernel
theorem dJ6_bitCount_0f7a4_27 : decode cJ6_bitCount_0f7a4 27 = .ok (.iushr, 1) := by decide +kernel
theorem dJ6_bitCount_0f7a4_28 : decode cJ6_bitCount_0f7a4 28 = .ok (.iadd, 1) := by decide +kernel
theorem dJ6_bitCount_0f7a4_29 : decode cJ6_bitCount_0f7a4 29 = .ok (.ldc_w 267, 3) := by decide +kernel
theorem dJ6_bitCount_0f7a4_32 : decode cJ6_bitCount_0f7a4 32 = .ok (.iand, 1) := by decide +kernel
theorem dJ6_bitCount_0f7a4_33 : decode cJ6_bitCount_0f7a4 33 = .ok (.istore_n 0, 1) := by decide +kernel
theorem dJ6_bitCount_0f7a4_34 : decode cJ6_bitCount_0f7a4 34 = .ok (.iload_n 0, 1) := by decide +kernel
theorem dJ6_bitCount_0f7a4_35 : decode cJ6_bitCount_0f7a4 35 = .ok (.iload_n 0, 1) := by decide +kernel
theorem dJ6_bitCount_0f7a4_36 : decode cJ6_bitCount_0f7a4 36 = .ok (.bipush 8, 2) := by decide +kernel
theorem dJ6_bitCount_0f7a4_38 : decode cJ6_bitCount_0f7a4 38 = .ok (.iushr, 1) := by decide +kernel
theorem dJ6_bitCount_0f7a4_39 : decode cJ6_bitCount_0f7a4 39 = .ok (.iadd, 1) := by decide +kernel
theorem dJ6_bitCount_0f7a4_40 : decode cJ6_bitCount_0f7a4 40 = .ok (.istore_n 0, 1) := by decide +kernel
theorem dJ6_bitCount_0f7a4_41 : decode cJ6_bitCount_0f7a4 41 = .ok (.iload_n 0, 1) := by decide +kernel
theorem dJ6_bitCount_0f7a4_42 : decode cJ6_bitCount_0f7a4 42 = .ok (.iload_n 0, 1) := by decide +kernel
theorem dJ6_bitCount_0f7a4_43 : decode cJ6_bitCount_0f7a4 43 = .ok (.bipush 16, 2) := by decide +kernel
theorem dJ6_bitCount_0f7a4_45 : decode cJ6_bitCount_0f7a4 45 = .ok (.iushr, 1) := by decide +kernel
theorem dJ6_bitCount_0f7a4_46 : decode cJ6_bitCount_0f7a4 46 = .ok (.iadd, 1) := by decide +kernel
theorem dJ6_bitCount_0f7a4_47 : decode cJ6_bitCount_0f7a4 47 = .ok (.istore_n 0, 1) := by decide +kernel
theorem dJ6_bitCount_0f7a4_48 : decode cJ6_bitCount_0f7a4 48 = .ok (.iload_n 0, 1) := by decide +kernel
theorem dJ6_bitCount_0f7a4_49 : decode cJ6_bitCount_0f7a4 49 = .ok (.bipush 63, 2) := by decide +kernel
theorem dJ6_bitCount_0f7a4_51 : decode cJ6_bitCount_0f7a4 51 = .ok (.iand, 1) := by decide +kernel
theorem dJ6_bitCount_0f7a4_52 : decode cJ6_bitCount_0f7a4 52 = .ok (.ireturn, 1) := by decide +kernel
theorem dJ9_abs_0f7a4_0 : decode cJ9_abs_0f7a4 0 = .ok (.iload_n 0, 1) := by decide +kernel
theorem dJ9_abs_0f7a4_1 : decode cJ9_abs_0f7a4 1 = .ok (.ifCond .ge 8, 3) := by decide +kernel
theorem dJ9_abs_0f7a4_4 : decode cJ9_abs_0f7a4 4 = .ok (.iload_n 0, 1) := by decide +kernel
theorem dJ9_abs_0f7a4_5 : decode cJ9_abs_0f7a4 5 = .ok (.ineg, 1) := by decide +kernel
theorem dJ9_abs_0f7a4_6 : decode cJ9_abs_0f7a4 6 = .ok (.goto 4, 3) := by decide +kernel
theorem dJ9_abs_0f7a4_9 : decode cJ9_abs_0f7a4 9 = .ok (.iload_n 0, 1) := by decide +kernel
theorem dJ9_abs_0f7a4_10 : decode cJ9_abs_0f7a4 10 = .ok (.ireturn, 1) := by decide +kernel
theorem dJ9_max_7cf53_0 : decode cJ9_max_7cf53 0 = .ok (.iload_n 0, 1) := by decide +kernel
theorem dJ9_max_7cf53_1 : decode cJ9_max_7cf53 1 = .ok (.iload_n 1, 1) := by decide +kernel
theorem dJ9_max_7cf53_2 : decode cJ9_max_7cf53 2 = .ok (.if_icmp .lt 7, 3) := by decide +kernel
theorem dJ9_max_7cf53_5 : decode cJ9_max_7cf53 5 = .ok (.iload_n 0, 1) := by decide +kernel
theorem dJ9_max_7cf53_6 : decode cJ9_max_7cf53 6 = .ok (.goto 4, 3) := by decide +kernel
theorem dJ9_max_7cf53_9 : decode cJ9_max_7cf53 9 = .ok (.iload_n 1, 1) := by decide +kernel
theorem dJ9_max_7cf53_10 : decode cJ9_max_7cf53 10 = .ok (.ireturn, 1) := by decide +kernel
theorem dJ9_min_7cf53_0 : decode cJ9_min_7cf53 0 = .ok (.iload_n 0, 1) := by decide +kernel
theorem dJ9_min_7cf53_1 : decode cJ9_min_7cf53 1 = .ok (.iload_n 1, 1) := by decide +kernel
theorem dJ9_min_7cf53_2 : decode cJ9_min_7cf53 2 = .ok (.if_icmp .gt 7, 3) := by decide +kernel
theorem dJ9_min_7cf53_5 : decode cJ9_min_7cf53 5 = .ok (.iload_n 0, 1) := by decide +kernel
theorem dJ9_min_7cf53_6 : decode cJ9_min_7cf53 6 = .ok (.goto 4, 3) := by decide +kernel
theorem dJ9_min_7cf53_9 : decode cJ9_min_7cf53 9 = .ok (.iload_n 1, 1) := by decide +kernel
theorem dJ9_min_7cf53_10 : decode cJ9_min_7cf53 10 = .ok (.ireturn, 1) := by decide +kernel
theorem dJxd2413_init_da8c8_0 : decode cJxd2413_init_da8c8 0 = .ok (.aload_n 0, 1) := by decide +kernel
theorem dJxd2413_init_da8c8_1 : decode cJxd2413_init_da8c8 1 = .ok (.invokespecial 1, 3) := by decide +kernel
theorem dJxd2413_init_da8c8_4 : decode cJxd2413_init_da8c8 4 = .ok (.return_, 1) := by decide +kernel
theorem dJ0_length_8abf5_0 : decode cJ0_length_8abf5 0 = .ok (.aload_n 0, 1) := by decide +kernel
theorem dJ0_length_8abf5_1 : decode cJ0_length_8abf5 1 = .ok (.getfield 9, 3) := by decide +kernel
theorem dJ0_length_8abf5_4 : decode cJ0_length_8abf5 4 = .ok (.arraylength, 1) := by decide +kernel
theorem dJ0_length_8abf5_5 : decode cJ0_length_8abf5 5 = .ok (.aload_n 0, 1) := by decide +kernel
theorem dJ0_length_8abf5_6 : decode cJ0_length_8abf5 6 = .ok (.invokevirtual 335, 3) := by decide +kernel
theorem dJ0_length_8abf5_9 : decode cJ0_length_8abf5 9 = .ok (.ishr, 1) := by decide +kernel
theorem dJ0_length_8abf5_10 : decode cJ0_length_8abf5 10 = .ok (.ireturn, 1) := by decide +kernel
theorem dJ0_indexOf_0f7a4_0 : decode cJ0_indexOf_0f7a4 0 = .ok (.aload_n 0, 1) := by decide +kernel
theorem dJ0_indexOf_0f7a4_1 : decode cJ0_indexOf_0f7a4 1 = .ok (.iload_n 1, 1) := by decide +kernel
theorem dJ0_indexOf_0f7a4_2 : decode cJ0_indexOf_0f7a4 2 = .ok (.iconst 0, 1) := by decide +kernel
theorem dJ0_indexOf_0f7a4_3 : decode cJ0_indexOf_0f7a4 3 = .ok (.invokevirtual 633, 3) := by decide +kernel
theorem dJ0_indexOf_0f7a4_6 : decode cJ0_indexOf_0f7a4 6 = .ok (.ireturn, 1) := by decide +kernel
theorem dJ0_indexOf_7cf53_0 : decode cJ0_indexOf_7cf53 0 = .ok (.aload_n 0, 1) := by decide +kernel
theorem dJ0_indexOf_7cf53_1 : decode cJ0_indexOf_7cf53 1 = .ok (.invokevirtual 492, 3) := by decide +kernel
theorem dJ0_indexOf_7cf53_4 : decode cJ0_indexOf_7cf53 4 = .ok (.ifCond .eq 19, 3) := by decide +kernel
theorem dJ0_indexOf_7cf53_7 : decode cJ0_indexOf_7cf53 7 = .ok (.aload_n 0, 1) := by decide +kernel
theorem dJ0_indexOf_7cf53_8 : decode cJ0_indexOf_7cf53 8 = .ok (.getfield 9, 3) := by decide +kernel
theorem dJ0_indexOf_7cf53_11 : decode cJ0_indexOf_7cf53 11 = .ok (.iload_n 1, 1) := by decide +kernel
theorem dJ0_indexOf_7cf53_12 : decode cJ0_indexOf_7cf53 12 = .ok (.iload_n 2, 1) := by decide +kernel
theorem dJ0_indexOf_7cf53_13 : decode cJ0_indexOf_7cf53 13 = .ok (.aload_n 0, 1) := by decide +kernel
theorem dJ0_indexOf_7cf53_14 : decode cJ0_indexOf_7cf53 14 = .ok (.invokevirtual 505, 3) := by decide +kernel
theorem dJ0_indexOf_7cf53_17 : decode cJ0_indexOf_7cf53 17 = .ok (.invokestatic 637, 3) := by decide +kernel
theorem dJ0_indexOf_7cf53_20 : decode cJ0_indexOf_7cf53 20 = .ok (.goto 16, 3) := by decide +kernel
theorem dJ0_indexOf_7cf53_23 : decode cJ0_indexOf_7cf53 23 = .ok (.aload_n 0, 1) := by decide +kernel
theorem dJ0_indexOf_7cf53_24 : decode cJ0_indexOf_7cf53 24 = .ok (.getfield 9, 3) := by decide +kernel
theorem dJ0_indexOf_7cf53_27 : decode cJ0_indexOf_7cf53 27 = .ok (.iload_n 1, 1) := by decide +kernel
theorem dJ0_indexOf_7cf53_28 : decode cJ0_indexOf_7cf53 28 = .ok (.iload_n 2, 1) := by decide +kernel
theorem dJ0_indexOf_7cf53_29 : decode cJ0_indexOf_7cf53 29 = .ok (.aload_n 0, 1) := by decide +kernel
theorem dJ0_indexOf_7cf53_30 : decode cJ0_indexOf_7cf53 30 = .ok (.invokevirtual 505, 3) := by decide +kernel
theorem dJ0_indexOf_7cf53_33 : decode cJ0_indexOf_7cf53 33 = .ok (.invokestatic 640, 3) := by decide +kernel
theorem dJ0_indexOf_7cf53_36 : decode cJ0_indexOf_7cf53 36 = .ok (.ireturn, 1) := by decide +kernel
theorem dJ0_coder_7d493_0 : decode cJ0_coder_7d493 0 = .ok (.getstatic 38, 3) := by decide +kernel
theorem dJ0_coder_7d493_3 : decode cJ0_coder_7d493 3 = .ok (.ifCond .eq 10, 3) := by decide +kernel
theorem dJ0_coder_7d493_6 : decode cJ0_coder_7d493 6 = .ok (.aload_n 0, 1) := by decide +kernel

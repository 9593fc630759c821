theorem dX5_init_0 : decode cX5_init 0 = .ok (.aload_n 0, 1) := by decide +kernel
theorem dX5_init_1 : decode cX5_init 1 = .ok (.invokespecial 1, 3) := by decide +kernel
theorem dX5_init_4 : decode cX5_init 4 = .ok (.aload_n 0, 1) := by decide +kernel
theorem dX5_init_5 : decode cX5_init 5 = .ok (.iconst 4, 1) := by decide +kernel
theorem dX5_init_6 : decode cX5_init 6 = .ok (.newarray .int, 2) := by decide +kernel
theorem dX5_init_8 : decode cX5_init 8 = .ok (.putfield 9, 3) := by decide +kernel
theorem dX5_init_11 : decode cX5_init 11 = .ok (.aload_n 0, 1) := by decide +kernel
theorem dX5_init_12 : decode cX5_init 12 = .ok (.iconst 4, 1) := by decide +kernel
theorem dX5_init_13 : decode cX5_init 13 = .ok (.newarray .int, 2) := by decide +kernel
theorem dX5_init_15 : decode cX5_init 15 = .ok (.putfield 13, 3) := by decide +kernel
theorem dX5_init_18 : decode cX5_init 18 = .ok (.aload_n 0, 1) := by decide +kernel
theorem dX5_init_19 : decode cX5_init 19 = .ok (.iconst 4, 1) := by decide +kernel
theorem dX5_init_20 : decode cX5_init 20 = .ok (.newarray .boolean, 2) := by decide +kernel
theorem dX5_init_22 : decode cX5_init 22 = .ok (.putfield 16, 3) := by decide +kernel
theorem dX5_init_25 : decode cX5_init 25 = .ok (.aload_n 0, 1) := by decide +kernel
theorem dX5_init_26 : decode cX5_init 26 = .ok (.bipush 6, 2) := by decide +kernel
theorem dX5_init_28 : decode cX5_init 28 = .ok (.newarray .boolean, 2) := by decide +kernel
theorem dX5_init_30 : decode cX5_init 30 = .ok (.putfield 20, 3) := by decide +kernel
theorem dX5_init_33 : decode cX5_init 33 = .ok (.aload_n 0, 1) := by decide +kernel
theorem dX5_init_34 : decode cX5_init 34 = .ok (.bipush 16, 2) := by decide +kernel
theorem dX5_init_36 : decode cX5_init 36 = .ok (.anewarray 23, 3) := by decide +kernel
theorem dX5_init_39 : decode cX5_init 39 = .ok (.putfield 25, 3) := by decide +kernel
theorem dX5_init_42 : decode cX5_init 42 = .ok (.aload_n 0, 1) := by decide +kernel
theorem dX5_init_43 : decode cX5_init 43 = .ok (.new 29, 3) := by decide +kernel
theorem dX5_init_46 : decode cX5_init 46 = .ok (.dup, 1) := by decide +kernel
theorem dX5_init_47 : decode cX5_init 47 = .ok (.invokespecial 31, 3) := by decide +kernel
theorem dX5_init_50 : decode cX5_init 50 = .ok (.putfield 32, 3) := by decide +kernel
theorem dX5_init_53 : decode cX5_init 53 = .ok (.aload_n 0, 1) := by decide +kernel
theorem dX5_init_54 : decode cX5_init 54 = .ok (.new 29, 3) := by decide +kernel
theorem dX5_init_57 : decode cX5_init 57 = .ok (.dup, 1) := by decide +kernel
theorem dX5_init_58 : decode cX5_init 58 = .ok (.invokespecial 31, 3) := by decide +kernel
theorem dX5_init_61 : decode cX5_init 61 = .ok (.putfield 36, 3) := by decide +kernel
theorem dX5_init_64 : decode cX5_init 64 = .ok (.aload_n 0, 1) := by decide +kernel
theorem dX5_init_65 : decode cX5_init 65 = .ok (.iconst 4, 1) := by decide +kernel
theorem dX5_init_66 : decode cX5_init 66 = .ok (.newarray .int, 2) := by decide +kernel
theorem dX5_init_68 : decode cX5_init 68 = .ok (.putfield 39, 3) := by decide +kernel
theorem dX5_init_71 : decode cX5_init 71 = .ok (.aload_n 0, 1) := by decide +kernel
theorem dX5_init_72 : decode cX5_init 72 = .ok (.bipush 64, 2) := by decide +kernel
theorem dX5_init_74 : decode cX5_init 74 = .ok (.newarray .int, 2) := by decide +kernel
theorem dX5_init_76 : decode cX5_init 76 = .ok (.putfield 42, 3) := by decide +kernel
theorem dX5_init_79 : decode cX5_init 79 = .ok (.aload_n 0, 1) := by decide +kernel
theorem dX5_init_80 : decode cX5_init 80 = .ok (.bipush 64, 2) := by decide +kernel
theorem dX5_init_82 : decode cX5_init 82 = .ok (.newarray .int, 2) := by decide +kernel
theorem dX5_init_84 : decode cX5_init 84 = .ok (.putfield 45, 3) := by decide +kernel
theorem dX5_init_87 : decode cX5_init 87 = .ok (.aload_n 0, 1) := by decide +kernel
theorem dX5_init_88 : decode cX5_init 88 = .ok (.new 48, 3) := by decide +kernel
theorem dX5_init_91 : decode cX5_init 91 = .ok (.dup, 1) := by decide +kernel
theorem dX5_init_92 : decode cX5_init 92 = .ok (.invokespecial 50, 3) := by decide +kernel
theorem dX5_init_95 : decode cX5_init 95 = .ok (.putfield 51, 3) := by decide +kernel
theorem dX5_init_98 : decode cX5_init 98 = .ok (.iconst 0, 1) := by decide +kernel
theorem dX5_init_99 : decode cX5_init 99 = .ok (.istore_n 1, 1) := by decide +kernel
theorem dX5_init_100 : decode cX5_init 100 = .ok (.iload_n 1, 1) := by decide +kernel
theorem dX5_init_101 : decode cX5_init 101 = .ok (.iconst 4, 1) := by decide +kernel
theorem dX5_init_102 : decode cX5_init 102 = .ok (.if_icmp .ge 16, 3) := by decide +kernel
theorem dX5_init_105 : decode cX5_init 105 = .ok (.aload_n 0, 1) := by decide +kernel
theorem dX5_init_106 : decode cX5_init 106 = .ok (.getfield 13, 3) := by decide +kernel
theorem dX5_init_109 : decode cX5_init 109 = .ok (.iload_n 1, 1) := by decide +kernel
theorem dX5_init_110 : decode cX5_init 110 = .ok (.iconst 1, 1) := by decide +kernel
theorem dX5_init_111 : decode cX5_init 111 = .ok (.iastore, 1) := by decide +kernel
theorem dX5_init_112 : decode cX5_init 112 = .ok (.iinc 1 1, 3) := by decide +kernel
theorem dX5_init_115 : decode cX5_init 115 = .ok (.goto (-15), 3) := by decide +kernel
theorem dX5_init_118 : decode cX5_init 118 = .ok (.iconst 0, 1) := by decide +kernel
theorem dX5_init_119 : decode cX5_init 119 = .ok (.istore_n 1, 1) := by decide +kernel
theorem dX5_init_120 : decode cX5_init 120 = .ok (.iload_n 1, 1) := by decide +kernel
theorem dX5_init_121 : decode cX5_init 121 = .ok (.bipush 16, 2) := by decide +kernel
theorem dX5_init_123 : decode cX5_init 123 = .ok (.if_icmp .ge 22, 3) := by decide +kernel
theorem dX5_init_126 : decode cX5_init 126 = .ok (.aload_n 0, 1) := by decide +kernel
theorem dX5_init_127 : decode cX5_init 127 = .ok (.getfield 25, 3) := by decide +kernel
theorem dX5_init_130 : decode cX5_init 130 = .ok (.iload_n 1, 1) := by decide +kernel
theorem dX5_init_131 : decode cX5_init 131 = .ok (.new 23, 3) := by decide +kernel
theorem dX5_init_134 : decode cX5_init 134 = .ok (.dup, 1) := by decide +kernel
theorem dX5_init_135 : decode cX5_init 135 = .ok (.invokespecial 55, 3) := by decide +kernel
theorem dX5_init_138 : decode cX5_init 138 = .ok (.aastore, 1) := by decide +kernel
theorem dX5_init_139 : decode cX5_init 139 = .ok (.iinc 1 1, 3) := by decide +kernel
theorem dX5_init_142 : decode cX5_init 142 = .ok (.goto (-22), 3) := by decide +kernel
theorem dX5_init_145 : decode cX5_init 145 = .ok (.return_, 1) := by decide +kernel
theorem dX5_setOwner_0 : decode cX5_setOwner 0 = .ok (.iload_n 1, 1) := by decide +kernel
theorem dX5_setOwner_1 : decode cX5_setOwner 1 = .ok (.invokestatic 56, 3) := by decide +kernel
theorem dX5_setOwner_4 : decode cX5_setOwner 4 = .ok (.iload_n 2, 1) := by decide +kernel
theorem dX5_setOwner_5 : decode cX5_setOwner 5 = .ok (.invokestatic 60, 3) := by decide +kernel
theorem dX5_setOwner_8 : decode cX5_setOwner 8 = .ok (.iload_n 3, 1) := by decide +kernel
theorem dX5_setOwner_9 : decode cX5_setOwner 9 = .ok (.invokestatic 60, 3) := by decide +kernel
theorem dX5_setOwner_12 : decode cX5_setOwner 12 = .ok (.iload_n 2, 1) := by decide +kernel
theorem dX5_setOwner_13 : decode cX5_setOwner 13 = .ok (.iload_n 3, 1) := by decide +kernel
theorem dX5_setOwner_14 : decode cX5_setOwner 14 = .ok (.if_icmp .ne 13, 3) := by decide +kernel
theorem dX5_setOwner_17 : decode cX5_setOwner 17 = .ok (.new 63, 3) := by decide +kernel
theorem dX5_setOwner_20 : decode cX5_setOwner 20 = .ok (.dup, 1) := by decide +kernel
theorem dX5_setOwner_21 : decode cX5_setOwner 21 = .ok (.ldc 65, 2) := by decide +kernel
theorem dX5_setOwner_23 : decode cX5_setOwner 23 = .ok (.invokespecial 67, 3) := by decide +kernel
theorem dX5_setOwner_26 : decode cX5_setOwner 26 = .ok (.athrow, 1) := by decide +kernel
theorem dX5_setOwner_27 : decode cX5_setOwner 27 = .ok (.aload_n 0, 1) := by decide +kernel
theorem dX5_setOwner_28 : decode cX5_setOwner 28 = .ok (.getfield 9, 3) := by decide +kernel
theorem dX5_setOwner_31 : decode cX5_setOwner 31 = .ok (.iload_n 1, 1) := by decide +kernel
theorem dX5_setOwner_32 : decode cX5_setOwner 32 = .ok (.iaload, 1) := by decide +kernel
theorem dX5_setOwner_33 : decode cX5_setOwner 33 = .ok (.istore 4, 2) := by decide +kernel
theorem dX5_setOwner_35 : decode cX5_setOwner 35 = .ok (.aload_n 0, 1) := by decide +kernel
theorem dX5_setOwner_36 : decode cX5_setOwner 36 = .ok (.getfield 9, 3) := by decide +kernel
theorem dX5_setOwner_39 : decode cX5_setOwner 39 = .ok (.iload_n 1, 1) := by decide +kernel
theorem dX5_setOwner_40 : decode cX5_setOwner 40 = .ok (.iload_n 2, 1) := by decide +kernel
theorem dX5_setOwner_41 : decode cX5_setOwner 41 = .ok (.iastore, 1) := by decide +kernel
theorem dX5_setOwner_42 : decode cX5_setOwner 42 = .ok (.aload_n 0, 1) := by decide +kernel
theorem dX5_setOwner_43 : decode cX5_setOwner 43 = .ok (.getfield 13, 3) := by decide +kernel
theorem dX5_setOwner_46 : decode cX5_setOwner 46 = .ok (.iload_n 1, 1) := by decide +kernel
theorem dX5_setOwner_47 : decode cX5_setOwner 47 = .ok (.iload_n 3, 1) := by decide +kernel
theorem dX5_setOwner_48 : decode cX5_setOwner 48 = .ok (.iastore, 1) := by decide +kernel
theorem dX5_setOwner_49 : decode cX5_setOwner 49 = .ok (.iload 4, 2) := by decide +kernel
theorem dX5_setOwner_51 : decode cX5_setOwner 51 = .ok (.ireturn, 1) := by decide +kernel
theorem dX5_setAway_0 : decode cX5_setAway 0 = .ok (.iload_n 1, 1) := by decide +kernel
theorem dX5_setAway_1 : decode cX5_setAway 1 = .ok (.invokestatic 60, 3) := by decide +kernel
theorem dX5_setAway_4 : decode cX5_setAway 4 = .ok (.aload_n 0, 1) := by decide +kernel
theorem dX5_setAway_5 : decode cX5_setAway 5 = .ok (.getfield 20, 3) := by decide +kernel
theorem dX5_setAway_8 : decode cX5_setAway 8 = .ok (.iload_n 1, 1) := by decide +kernel
theorem dX5_setAway_9 : decode cX5_setAway 9 = .ok (.baload, 1) := by decide +kernel
theorem dX5_setAway_10 : decode cX5_setAway 10 = .ok (.istore_n 3, 1) := by decide +kernel
theorem dX5_setAway_11 : decode cX5_setAway 11 = .ok (.aload_n 0, 1) := by decide +kernel
theorem dX5_setAway_12 : decode cX5_setAway 12 = .ok (.getfield 20, 3) := by decide +kernel
theorem dX5_setAway_15 : decode cX5_setAway 15 = .ok (.iload_n 1, 1) := by decide +kernel
theorem dX5_setAway_16 : decode cX5_setAway 16 = .ok (.iload_n 2, 1) := by decide +kernel
theorem dX5_setAway_17 : decode cX5_setAway 17 = .ok (.bastore, 1) := by decide +kernel
theorem dX5_setAway_18 : decode cX5_setAway 18 = .ok (.iload_n 3, 1) := by decide +kernel
theorem dX5_setAway_19 : decode cX5_setAway 19 = .ok (.ireturn, 1) := by decide +kernel
theorem dX5_open_0 : decode cX5_open 0 = .ok (.iload_n 1, 1) := by decide +kernel
theorem dX5_open_1 : decode cX5_open 1 = .ok (.invokestatic 60, 3) := by decide +kernel
theorem dX5_open_4 : decode cX5_open 4 = .ok (.aload_n 0, 1) := by decide +kernel
theorem dX5_open_5 : decode cX5_open 5 = .ok (.getfield 70, 3) := by decide +kernel
theorem dX5_open_8 : decode cX5_open 8 = .ok (.bipush 16, 2) := by decide +kernel
theorem dX5_open_10 : decode cX5_open 10 = .ok (.if_icmp .lt 13, 3) := by decide +kernel
theorem dX5_open_13 : decode cX5_open 13 = .ok (.new 74, 3) := by decide +kernel
theorem dX5_open_16 : decode cX5_open 16 = .ok (.dup, 1) := by decide +kernel
theorem dX5_open_17 : decode cX5_open 17 = .ok (.ldc 76, 2) := by decide +kernel
theorem dX5_open_19 : decode cX5_open 19 = .ok (.invokespecial 78, 3) := by decide +kernel
theorem dX5_open_22 : decode cX5_open 22 = .ok (.athrow, 1) := by decide +kernel
theorem dX5_open_23 : decode cX5_open 23 = .ok (.aload_n 0, 1) := by decide +kernel
theorem dX5_open_24 : decode cX5_open 24 = .ok (.getfield 70, 3) := by decide +kernel
theorem dX5_open_27 : decode cX5_open 27 = .ok (.istore_n 2, 1) := by decide +kernel
theorem dX5_open_28 : decode cX5_open 28 = .ok (.aload_n 0, 1) := by decide +kernel
theorem dX5_open_29 : decode cX5_open 29 = .ok (.getfield 25, 3) := by decide +kernel
theorem dX5_open_32 : decode cX5_open 32 = .ok (.iload_n 2, 1) := by decide +kernel
theorem dX5_open_33 : decode cX5_open 33 = .ok (.aaload, 1) := by decide +kernel
theorem dX5_open_34 : decode cX5_open 34 = .ok (.iload_n 1, 1) := by decide +kernel
theorem dX5_open_35 : decode cX5_open 35 = .ok (.putfield 79, 3) := by decide +kernel
theorem dX5_open_38 : decode cX5_open 38 = .ok (.aload_n 0, 1) := by decide +kernel
theorem dX5_open_39 : decode cX5_open 39 = .ok (.dup, 1) := by decide +kernel
theorem dX5_open_40 : decode cX5_open 40 = .ok (.getfield 70, 3) := by decide +kernel
theorem dX5_open_43 : decode cX5_open 43 = .ok (.iconst 1, 1) := by decide +kernel
theorem dX5_open_44 : decode cX5_open 44 = .ok (.iadd, 1) := by decide +kernel
theorem dX5_open_45 : decode cX5_open 45 = .ok (.putfield 70, 3) := by decide +kernel
theorem dX5_open_48 : decode cX5_open 48 = .ok (.iload_n 2, 1) := by decide +kernel
theorem dX5_open_49 : decode cX5_open 49 = .ok (.ireturn, 1) := by decide +kernel
theorem dX5_edit_0 : decode cX5_edit 0 = .ok (.aload_n 0, 1) := by decide +kernel
theorem dX5_edit_1 : decode cX5_edit 1 = .ok (.iload_n 1, 1) := by decide +kernel
theorem dX5_edit_2 : decode cX5_edit 2 = .ok (.invokevirtual 82, 3) := by decide +kernel
theorem dX5_edit_5 : decode cX5_edit 5 = .ok (.astore 5, 2) := by decide +kernel
theorem dX5_edit_7 : decode cX5_edit 7 = .ok (.iload_n 2, 1) := by decide +kernel
theorem dX5_edit_8 : decode cX5_edit 8 = .ok (.iload_n 3, 1) := by decide +kernel
theorem dX5_edit_9 : decode cX5_edit 9 = .ok (.invokestatic 86, 3) := by decide +kernel
theorem dX5_edit_12 : decode cX5_edit 12 = .ok (.istore 6, 2) := by decide +kernel
theorem dX5_edit_14 : decode cX5_edit 14 = .ok (.iload 4, 2) := by decide +kernel
theorem dX5_edit_16 : decode cX5_edit 16 = .ok (.ifCond .lt 10, 3) := by decide +kernel
theorem dX5_edit_19 : decode cX5_edit 19 = .ok (.iload 4, 2) := by decide +kernel
theorem dX5_edit_21 : decode cX5_edit 21 = .ok (.bipush 99, 2) := by decide +kernel
theorem dX5_edit_23 : decode cX5_edit 23 = .ok (.if_icmp .le 13, 3) := by decide +kernel
theorem dX5_edit_26 : decode cX5_edit 26 = .ok (.new 63, 3) := by decide +kernel
theorem dX5_edit_29 : decode cX5_edit 29 = .ok (.dup, 1) := by decide +kernel
theorem dX5_edit_30 : decode cX5_edit 30 = .ok (.ldc 90, 2) := by decide +kernel
theorem dX5_edit_32 : decode cX5_edit 32 = .ok (.invokespecial 67, 3) := by decide +kernel
theorem dX5_edit_35 : decode cX5_edit 35 = .ok (.athrow, 1) := by decide +kernel
theorem dX5_edit_36 : decode cX5_edit 36 = .ok (.aload 5, 2) := by decide +kernel
theorem dX5_edit_38 : decode cX5_edit 38 = .ok (.invokestatic 92, 3) := by decide +kernel
theorem dX5_edit_41 : decode cX5_edit 41 = .ok (.aload 5, 2) := by decide +kernel
theorem dX5_edit_43 : decode cX5_edit 43 = .ok (.iload 6, 2) := by decide +kernel
theorem dX5_edit_45 : decode cX5_edit 45 = .ok (.iload 4, 2) := by decide +kernel
theorem dX5_edit_47 : decode cX5_edit 47 = .ok (.invokevirtual 96, 3) := by decide +kernel
theorem dX5_edit_50 : decode cX5_edit 50 = .ok (.aload 5, 2) := by decide +kernel
theorem dX5_edit_52 : decode cX5_edit 52 = .ok (.invokevirtual 100, 3) := by decide +kernel
theorem dX5_edit_55 : decode cX5_edit 55 = .ok (.ireturn, 1) := by decide +kernel
theorem dX5_take_0 : decode cX5_take 0 = .ok (.aload_n 0, 1) := by decide +kernel
theorem dX5_take_1 : decode cX5_take 1 = .ok (.iload_n 1, 1) := by decide +kernel
theorem dX5_take_2 : decode cX5_take 2 = .ok (.invokevirtual 82, 3) := by decide +kernel
theorem dX5_take_5 : decode cX5_take 5 = .ok (.astore 4, 2) := by decide +kernel
theorem dX5_take_7 : decode cX5_take 7 = .ok (.iload_n 2, 1) := by decide +kernel
theorem dX5_take_8 : decode cX5_take 8 = .ok (.iload_n 3, 1) := by decide +kernel
theorem dX5_take_9 : decode cX5_take 9 = .ok (.invokestatic 86, 3) := by decide +kernel
theorem dX5_take_12 : decode cX5_take 12 = .ok (.istore 5, 2) := by decide +kernel
theorem dX5_take_14 : decode cX5_take 14 = .ok (.aload 4, 2) := by decide +kernel
theorem dX5_take_16 : decode cX5_take 16 = .ok (.invokestatic 92, 3) := by decide +kernel
theorem dX5_take_19 : decode cX5_take 19 = .ok (.aload 4, 2) := by decide +kernel
theorem dX5_take_21 : decode cX5_take 21 = .ok (.iload 5, 2) := by decide +kernel
theorem dX5_take_23 : decode cX5_take 23 = .ok (.invokevirtual 104, 3) := by decide +kernel
theorem dX5_take_26 : decode cX5_take 26 = .ok (.ifCond .ne 13, 3) := by decide +kernel
theorem dX5_take_29 : decode cX5_take 29 = .ok (.new 74, 3) := by decide +kernel
theorem dX5_take_32 : decode cX5_take 32 = .ok (.dup, 1) := by decide +kernel
theorem dX5_take_33 : decode cX5_take 33 = .ok (.ldc 108, 2) := by decide +kernel
theorem dX5_take_35 : decode cX5_take 35 = .ok (.invokespecial 78, 3) := by decide +kernel
theorem dX5_take_38 : decode cX5_take 38 = .ok (.athrow, 1) := by decide +kernel
theorem dX5_take_39 : decode cX5_take 39 = .ok (.aload 4, 2) := by decide +kernel
theorem dX5_take_41 : decode cX5_take 41 = .ok (.iload 5, 2) := by decide +kernel
theorem dX5_take_43 : decode cX5_take 43 = .ok (.invokevirtual 110, 3) := by decide +kernel
theorem dX5_take_46 : decode cX5_take 46 = .ok (.aload 4, 2) := by decide +kernel
theorem dX5_take_48 : decode cX5_take 48 = .ok (.invokevirtual 100, 3) := by decide +kernel
theorem dX5_take_51 : decode cX5_take 51 = .ok (.ireturn, 1) := by decide +kernel
theorem dX5_close_0 : decode cX5_close 0 = .ok (.aload_n 0, 1) := by decide +kernel
theorem dX5_close_1 : decode cX5_close 1 = .ok (.iload_n 1, 1) := by decide +kernel
theorem dX5_close_2 : decode cX5_close 2 = .ok (.invokevirtual 82, 3) := by decide +kernel
theorem dX5_close_5 : decode cX5_close 5 = .ok (.astore_n 2, 1) := by decide +kernel
theorem dX5_close_6 : decode cX5_close 6 = .ok (.aload_n 2, 1) := by decide +kernel
theorem dX5_close_7 : decode cX5_close 7 = .ok (.invokestatic 92, 3) := by decide +kernel
theorem dX5_close_10 : decode cX5_close 10 = .ok (.aload_n 2, 1) := by decide +kernel
theorem dX5_close_11 : decode cX5_close 11 = .ok (.bipush 120, 2) := by decide +kernel
theorem dX5_close_13 : decode cX5_close 13 = .ok (.putfield 113, 3) := by decide +kernel
theorem dX5_close_16 : decode cX5_close 16 = .ok (.aload_n 2, 1) := by decide +kernel
theorem dX5_close_17 : decode cX5_close 17 = .ok (.invokevirtual 100, 3) := by decide +kernel
theorem dX5_close_20 : decode cX5_close 20 = .ok (.ireturn, 1) := by decide +kernel
theorem dX5_vote_0 : decode cX5_vote 0 = .ok (.aload_n 0, 1) := by decide +kernel
theorem dX5_vote_1 : decode cX5_vote 1 = .ok (.iload_n 1, 1) := by decide +kernel
theorem dX5_vote_2 : decode cX5_vote 2 = .ok (.invokevirtual 82, 3) := by decide +kernel
theorem dX5_vote_5 : decode cX5_vote 5 = .ok (.astore 4, 2) := by decide +kernel
theorem dX5_vote_7 : decode cX5_vote 7 = .ok (.iload_n 2, 1) := by decide +kernel
theorem dX5_vote_8 : decode cX5_vote 8 = .ok (.invokestatic 60, 3) := by decide +kernel
theorem dX5_vote_11 : decode cX5_vote 11 = .ok (.iload_n 2, 1) := by decide +kernel
theorem dX5_vote_12 : decode cX5_vote 12 = .ok (.aload 4, 2) := by decide +kernel
theorem dX5_vote_14 : decode cX5_vote 14 = .ok (.getfield 79, 3) := by decide +kernel
theorem dX5_vote_17 : decode cX5_vote 17 = .ok (.if_icmp .ne 13, 3) := by decide +kernel
theorem dX5_vote_20 : decode cX5_vote 20 = .ok (.new 63, 3) := by decide +kernel
theorem dX5_vote_23 : decode cX5_vote 23 = .ok (.dup, 1) := by decide +kernel
theorem dX5_vote_24 : decode cX5_vote 24 = .ok (.ldc 117, 2) := by decide +kernel
theorem dX5_vote_26 : decode cX5_vote 26 = .ok (.invokespecial 67, 3) := by decide +kernel
theorem dX5_vote_29 : decode cX5_vote 29 = .ok (.athrow, 1) := by decide +kernel
theorem dX5_vote_30 : decode cX5_vote 30 = .ok (.aload 4, 2) := by decide +kernel
theorem dX5_vote_32 : decode cX5_vote 32 = .ok (.invokestatic 92, 3) := by decide +kernel
theorem dX5_vote_35 : decode cX5_vote 35 = .ok (.iload_n 3, 1) := by decide +kernel
theorem dX5_vote_36 : decode cX5_vote 36 = .ok (.ifCond .eq 15, 3) := by decide +kernel
theorem dX5_vote_39 : decode cX5_vote 39 = .ok (.aload 4, 2) := by decide +kernel
theorem dX5_vote_41 : decode cX5_vote 41 = .ok (.iload_n 2, 1) := by decide +kernel
theorem dX5_vote_42 : decode cX5_vote 42 = .ok (.invokevirtual 119, 3) := by decide +kernel
theorem dX5_vote_45 : decode cX5_vote 45 = .ok (.aload 4, 2) := by decide +kernel
theorem dX5_vote_47 : decode cX5_vote 47 = .ok (.invokevirtual 100, 3) := by decide +kernel
theorem dX5_vote_50 : decode cX5_vote 50 = .ok (.ireturn, 1) := by decide +kernel
theorem dX5_vote_51 : decode cX5_vote 51 = .ok (.aload 4, 2) := by decide +kernel
theorem dX5_vote_53 : decode cX5_vote 53 = .ok (.iload_n 2, 1) := by decide +kernel
theorem dX5_vote_54 : decode cX5_vote 54 = .ok (.invokevirtual 122, 3) := by decide +kernel
theorem dX5_vote_57 : decode cX5_vote 57 = .ok (.iconst 0, 1) := by decide +kernel
theorem dX5_vote_58 : decode cX5_vote 58 = .ok (.ireturn, 1) := by decide +kernel
theorem dX5_verdict_0 : decode cX5_verdict 0 = .ok (.aload_n 0, 1) := by decide +kernel
theorem dX5_verdict_1 : decode cX5_verdict 1 = .ok (.iload_n 1, 1) := by decide +kernel
theorem dX5_verdict_2 : decode cX5_verdict 2 = .ok (.invokevirtual 82, 3) := by decide +kernel
theorem dX5_verdict_5 : decode cX5_verdict 5 = .ok (.astore_n 3, 1) := by decide +kernel
theorem dX5_verdict_6 : decode cX5_verdict 6 = .ok (.iload_n 2, 1) := by decide +kernel
theorem dX5_verdict_7 : decode cX5_verdict 7 = .ok (.invokestatic 56, 3) := by decide +kernel
theorem dX5_verdict_10 : decode cX5_verdict 10 = .ok (.aload_n 0, 1) := by decide +kernel
theorem dX5_verdict_11 : decode cX5_verdict 11 = .ok (.aload_n 3, 1) := by decide +kernel
theorem dX5_verdict_12 : decode cX5_verdict 12 = .ok (.iload_n 2, 1) := by decide +kernel
theorem dX5_verdict_13 : decode cX5_verdict 13 = .ok (.invokevirtual 125, 3) := by decide +kernel
theorem dX5_verdict_16 : decode cX5_verdict 16 = .ok (.ireturn, 1) := by decide +kernel
theorem dX5_asked_0 : decode cX5_asked 0 = .ok (.aload_n 0, 1) := by decide +kernel
theorem dX5_asked_1 : decode cX5_asked 1 = .ok (.iload_n 1, 1) := by decide +kernel
theorem dX5_asked_2 : decode cX5_asked 2 = .ok (.invokevirtual 82, 3) := by decide +kernel
theorem dX5_asked_5 : decode cX5_asked 5 = .ok (.astore_n 3, 1) := by decide +kernel
theorem dX5_asked_6 : decode cX5_asked 6 = .ok (.iload_n 2, 1) := by decide +kernel
theorem dX5_asked_7 : decode cX5_asked 7 = .ok (.invokestatic 56, 3) := by decide +kernel
theorem dX5_asked_10 : decode cX5_asked 10 = .ok (.aload_n 0, 1) := by decide +kernel
theorem dX5_asked_11 : decode cX5_asked 11 = .ok (.aload_n 3, 1) := by decide +kernel
theorem dX5_asked_12 : decode cX5_asked 12 = .ok (.iload_n 2, 1) := by decide +kernel
theorem dX5_asked_13 : decode cX5_asked 13 = .ok (.invokevirtual 129, 3) := by decide +kernel
theorem dX5_asked_16 : decode cX5_asked 16 = .ok (.istore 4, 2) := by decide +kernel
theorem dX5_asked_18 : decode cX5_asked 18 = .ok (.iload 4, 2) := by decide +kernel
theorem dX5_asked_20 : decode cX5_asked 20 = .ok (.iconst (-1), 1) := by decide +kernel
theorem dX5_asked_21 : decode cX5_asked 21 = .ok (.if_icmp .ne 13, 3) := by decide +kernel
theorem dX5_asked_24 : decode cX5_asked 24 = .ok (.new 133, 3) := by decide +kernel
theorem dX5_asked_27 : decode cX5_asked 27 = .ok (.dup, 1) := by decide +kernel
theorem dX5_asked_28 : decode cX5_asked 28 = .ok (.ldc 135, 2) := by decide +kernel
theorem dX5_asked_30 : decode cX5_asked 30 = .ok (.invokespecial 137, 3) := by decide +kernel
theorem dX5_asked_33 : decode cX5_asked 33 = .ok (.athrow, 1) := by decide +kernel
theorem dX5_asked_34 : decode cX5_asked 34 = .ok (.iload 4, 2) := by decide +kernel
theorem dX5_asked_36 : decode cX5_asked 36 = .ok (.ireturn, 1) := by decide +kernel
theorem dX5_missing_0 : decode cX5_missing 0 = .ok (.aload_n 0, 1) := by decide +kernel
theorem dX5_missing_1 : decode cX5_missing 1 = .ok (.aload_n 0, 1) := by decide +kernel
theorem dX5_missing_2 : decode cX5_missing 2 = .ok (.iload_n 1, 1) := by decide +kernel
theorem dX5_missing_3 : decode cX5_missing 3 = .ok (.invokevirtual 82, 3) := by decide +kernel
theorem dX5_missing_6 : decode cX5_missing 6 = .ok (.invokevirtual 138, 3) := by decide +kernel
theorem dX5_missing_9 : decode cX5_missing 9 = .ok (.ireturn, 1) := by decide +kernel
theorem dX5_queue_0 : decode cX5_queue 0 = .ok (.aload_n 0, 1) := by decide +kernel
theorem dX5_queue_1 : decode cX5_queue 1 = .ok (.iload_n 1, 1) := by decide +kernel
theorem dX5_queue_2 : decode cX5_queue 2 = .ok (.invokevirtual 82, 3) := by decide +kernel
theorem dX5_queue_5 : decode cX5_queue 5 = .ok (.astore_n 2, 1) := by decide +kernel
theorem dX5_queue_6 : decode cX5_queue 6 = .ok (.aload_n 2, 1) := by decide +kernel
theorem dX5_queue_7 : decode cX5_queue 7 = .ok (.invokestatic 92, 3) := by decide +kernel
theorem dX5_queue_10 : decode cX5_queue 10 = .ok (.aload_n 2, 1) := by decide +kernel
theorem dX5_queue_11 : decode cX5_queue 11 = .ok (.getfield 142, 3) := by decide +kernel
theorem dX5_queue_14 : decode cX5_queue 14 = .ok (.lconst 0, 1) := by decide +kernel
theorem dX5_queue_15 : decode cX5_queue 15 = .ok (.lcmp, 1) := by decide +kernel
theorem dX5_queue_16 : decode cX5_queue 16 = .ok (.ifCond .eq 12, 3) := by decide +kernel
theorem dX5_queue_19 : decode cX5_queue 19 = .ok (.aload_n 2, 1) := by decide +kernel
theorem dX5_queue_20 : decode cX5_queue 20 = .ok (.getfield 146, 3) := by decide +kernel
theorem dX5_queue_23 : decode cX5_queue 23 = .ok (.lconst 0, 1) := by decide +kernel
theorem dX5_queue_24 : decode cX5_queue 24 = .ok (.lcmp, 1) := by decide +kernel
theorem dX5_queue_25 : decode cX5_queue 25 = .ok (.ifCond .eq 13, 3) := by decide +kernel
theorem dX5_queue_28 : decode cX5_queue 28 = .ok (.new 74, 3) := by decide +kernel
theorem dX5_queue_31 : decode cX5_queue 31 = .ok (.dup, 1) := by decide +kernel
theorem dX5_queue_32 : decode cX5_queue 32 = .ok (.ldc 149, 2) := by decide +kernel
theorem dX5_queue_34 : decode cX5_queue 34 = .ok (.invokespecial 78, 3) := by decide +kernel
theorem dX5_queue_37 : decode cX5_queue 37 = .ok (.athrow, 1) := by decide +kernel
theorem dX5_queue_38 : decode cX5_queue 38 = .ok (.aload_n 0, 1) := by decide +kernel
theorem dX5_queue_39 : decode cX5_queue 39 = .ok (.aload_n 2, 1) := by decide +kernel
theorem dX5_queue_40 : decode cX5_queue 40 = .ok (.invokevirtual 138, 3) := by decide +kernel
theorem dX5_queue_43 : decode cX5_queue 43 = .ok (.ifCond .le 13, 3) := by decide +kernel
theorem dX5_queue_46 : decode cX5_queue 46 = .ok (.new 151, 3) := by decide +kernel
theorem dX5_queue_49 : decode cX5_queue 49 = .ok (.dup, 1) := by decide +kernel
theorem dX5_queue_50 : decode cX5_queue 50 = .ok (.ldc 153, 2) := by decide +kernel
theorem dX5_queue_52 : decode cX5_queue 52 = .ok (.invokespecial 155, 3) := by decide +kernel
theorem dX5_queue_55 : decode cX5_queue 55 = .ok (.athrow, 1) := by decide +kernel
theorem dX5_queue_56 : decode cX5_queue 56 = .ok (.aload_n 2, 1) := by decide +kernel
theorem dX5_queue_57 : decode cX5_queue 57 = .ok (.bipush 113, 2) := by decide +kernel
theorem dX5_queue_59 : decode cX5_queue 59 = .ok (.putfield 113, 3) := by decide +kernel
theorem dX5_queue_62 : decode cX5_queue 62 = .ok (.aload_n 0, 1) := by decide +kernel
theorem dX5_queue_63 : decode cX5_queue 63 = .ok (.getfield 32, 3) := by decide +kernel
theorem dX5_queue_66 : decode cX5_queue 66 = .ok (.iload_n 1, 1) := by decide +kernel
theorem dX5_queue_67 : decode cX5_queue 67 = .ok (.invokevirtual 156, 3) := by decide +kernel
theorem dX5_queue_70 : decode cX5_queue 70 = .ok (.aload_n 0, 1) := by decide +kernel
theorem dX5_queue_71 : decode cX5_queue 71 = .ok (.getfield 32, 3) := by decide +kernel
theorem dX5_queue_74 : decode cX5_queue 74 = .ok (.getfield 159, 3) := by decide +kernel
theorem dX5_queue_77 : decode cX5_queue 77 = .ok (.ireturn, 1) := by decide +kernel
theorem dX5_unqueue_0 : decode cX5_unqueue 0 = .ok (.aload_n 0, 1) := by decide +kernel
theorem dX5_unqueue_1 : decode cX5_unqueue 1 = .ok (.iload_n 1, 1) := by decide +kernel
theorem dX5_unqueue_2 : decode cX5_unqueue 2 = .ok (.invokevirtual 82, 3) := by decide +kernel
theorem dX5_unqueue_5 : decode cX5_unqueue 5 = .ok (.astore_n 2, 1) := by decide +kernel
theorem dX5_unqueue_6 : decode cX5_unqueue 6 = .ok (.aload_n 2, 1) := by decide +kernel
theorem dX5_unqueue_7 : decode cX5_unqueue 7 = .ok (.getfield 113, 3) := by decide +kernel
theorem dX5_unqueue_10 : decode cX5_unqueue 10 = .ok (.bipush 113, 2) := by decide +kernel
theorem dX5_unqueue_12 : decode cX5_unqueue 12 = .ok (.if_icmp .eq 13, 3) := by decide +kernel
theorem dX5_unqueue_15 : decode cX5_unqueue 15 = .ok (.new 74, 3) := by decide +kernel
theorem dX5_unqueue_18 : decode cX5_unqueue 18 = .ok (.dup, 1) := by decide +kernel
theorem dX5_unqueue_19 : decode cX5_unqueue 19 = .ok (.ldc 162, 2) := by decide +kernel
theorem dX5_unqueue_21 : decode cX5_unqueue 21 = .ok (.invokespecial 78, 3) := by decide +kernel
theorem dX5_unqueue_24 : decode cX5_unqueue 24 = .ok (.athrow, 1) := by decide +kernel
theorem dX5_unqueue_25 : decode cX5_unqueue 25 = .ok (.aload_n 0, 1) := by decide +kernel
theorem dX5_unqueue_26 : decode cX5_unqueue 26 = .ok (.iload_n 1, 1) := by decide +kernel
theorem dX5_unqueue_27 : decode cX5_unqueue 27 = .ok (.invokevirtual 164, 3) := by decide +kernel
theorem dX5_unqueue_30 : decode cX5_unqueue 30 = .ok (.aload_n 0, 1) := by decide +kernel
theorem dX5_unqueue_31 : decode cX5_unqueue 31 = .ok (.getfield 32, 3) := by decide +kernel
theorem dX5_unqueue_34 : decode cX5_unqueue 34 = .ok (.getfield 159, 3) := by decide +kernel
theorem dX5_unqueue_37 : decode cX5_unqueue 37 = .ok (.ireturn, 1) := by decide +kernel
theorem dX5_queueAt_0 : decode cX5_queueAt 0 = .ok (.aload_n 0, 1) := by decide +kernel
theorem dX5_queueAt_1 : decode cX5_queueAt 1 = .ok (.getfield 32, 3) := by decide +kernel
theorem dX5_queueAt_4 : decode cX5_queueAt 4 = .ok (.iload_n 1, 1) := by decide +kernel
theorem dX5_queueAt_5 : decode cX5_queueAt 5 = .ok (.invokestatic 167, 3) := by decide +kernel
theorem dX5_queueAt_8 : decode cX5_queueAt 8 = .ok (.aload_n 0, 1) := by decide +kernel
theorem dX5_queueAt_9 : decode cX5_queueAt 9 = .ok (.getfield 32, 3) := by decide +kernel
theorem dX5_queueAt_12 : decode cX5_queueAt 12 = .ok (.iload_n 1, 1) := by decide +kernel
theorem dX5_queueAt_13 : decode cX5_queueAt 13 = .ok (.invokevirtual 171, 3) := by decide +kernel
theorem dX5_queueAt_16 : decode cX5_queueAt 16 = .ok (.ireturn, 1) := by decide +kernel
theorem dX5_step_0 : decode cX5_step 0 = .ok (.aload_n 0, 1) := by decide +kernel
theorem dX5_step_1 : decode cX5_step 1 = .ok (.invokevirtual 175, 3) := by decide +kernel
theorem dX5_step_4 : decode cX5_step 4 = .ok (.istore_n 1, 1) := by decide +kernel
theorem dX5_step_5 : decode cX5_step 5 = .ok (.iload_n 1, 1) := by decide +kernel
theorem dX5_step_6 : decode cX5_step 6 = .ok (.ifCond .ne 13, 3) := by decide +kernel
theorem dX5_step_9 : decode cX5_step 9 = .ok (.new 133, 3) := by decide +kernel
theorem dX5_step_12 : decode cX5_step 12 = .ok (.dup, 1) := by decide +kernel
theorem dX5_step_13 : decode cX5_step 13 = .ok (.ldc 178, 2) := by decide +kernel
theorem dX5_step_15 : decode cX5_step 15 = .ok (.invokespecial 137, 3) := by decide +kernel
theorem dX5_step_18 : decode cX5_step 18 = .ok (.athrow, 1) := by decide +kernel
theorem dX5_step_19 : decode cX5_step 19 = .ok (.aload_n 0, 1) := by decide +kernel
theorem dX5_step_20 : decode cX5_step 20 = .ok (.iconst 0, 1) := by decide +kernel
theorem dX5_step_21 : decode cX5_step 21 = .ok (.iload_n 1, 1) := by decide +kernel
theorem dX5_step_22 : decode cX5_step 22 = .ok (.iconst 0, 1) := by decide +kernel
theorem dX5_step_23 : decode cX5_step 23 = .ok (.invokevirtual 180, 3) := by decide +kernel
theorem dX5_step_26 : decode cX5_step 26 = .ok (.ireturn, 1) := by decide +kernel
theorem dX5_setFrozen_0 : decode cX5_setFrozen 0 = .ok (.iload_n 1, 1) := by decide +kernel
theorem dX5_setFrozen_1 : decode cX5_setFrozen 1 = .ok (.invokestatic 56, 3) := by decide +kernel
theorem dX5_setFrozen_4 : decode cX5_setFrozen 4 = .ok (.aload_n 0, 1) := by decide +kernel
theorem dX5_setFrozen_5 : decode cX5_setFrozen 5 = .ok (.getfield 16, 3) := by decide +kernel
theorem dX5_setFrozen_8 : decode cX5_setFrozen 8 = .ok (.iload_n 1, 1) := by decide +kernel
theorem dX5_setFrozen_9 : decode cX5_setFrozen 9 = .ok (.baload, 1) := by decide +kernel
theorem dX5_setFrozen_10 : decode cX5_setFrozen 10 = .ok (.istore_n 3, 1) := by decide +kernel
theorem dX5_setFrozen_11 : decode cX5_setFrozen 11 = .ok (.aload_n 0, 1) := by decide +kernel
theorem dX5_setFrozen_12 : decode cX5_setFrozen 12 = .ok (.getfield 16, 3) := by decide +kernel
theorem dX5_setFrozen_15 : decode cX5_setFrozen 15 = .ok (.iload_n 1, 1) := by decide +kernel
theorem dX5_setFrozen_16 : decode cX5_setFrozen 16 = .ok (.iload_n 2, 1) := by decide +kernel
theorem dX5_setFrozen_17 : decode cX5_setFrozen 17 = .ok (.bastore, 1) := by decide +kernel
theorem dX5_setFrozen_18 : decode cX5_setFrozen 18 = .ok (.iload_n 3, 1) := by decide +kernel
theorem dX5_setFrozen_19 : decode cX5_setFrozen 19 = .ok (.ireturn, 1) := by decide +kernel
theorem dX5_stateOf_0 : decode cX5_stateOf 0 = .ok (.aload_n 0, 1) := by decide +kernel
theorem dX5_stateOf_1 : decode cX5_stateOf 1 = .ok (.iload_n 1, 1) := by decide +kernel
theorem dX5_stateOf_2 : decode cX5_stateOf 2 = .ok (.invokevirtual 82, 3) := by decide +kernel
theorem dX5_stateOf_5 : decode cX5_stateOf 5 = .ok (.getfield 113, 3) := by decide +kernel
theorem dX5_stateOf_8 : decode cX5_stateOf 8 = .ok (.ireturn, 1) := by decide +kernel
theorem dX5_hasFailed_0 : decode cX5_hasFailed 0 = .ok (.aload_n 0, 1) := by decide +kernel
theorem dX5_hasFailed_1 : decode cX5_hasFailed 1 = .ok (.iload_n 1, 1) := by decide +kernel
theorem dX5_hasFailed_2 : decode cX5_hasFailed 2 = .ok (.invokevirtual 82, 3) := by decide +kernel
theorem dX5_hasFailed_5 : decode cX5_hasFailed 5 = .ok (.getfield 184, 3) := by decide +kernel
theorem dX5_hasFailed_8 : decode cX5_hasFailed 8 = .ok (.ireturn, 1) := by decide +kernel
theorem dX5_clashes_0 : decode cX5_clashes 0 = .ok (.aload_n 0, 1) := by decide +kernel
theorem dX5_clashes_1 : decode cX5_clashes 1 = .ok (.iload_n 1, 1) := by decide +kernel
theorem dX5_clashes_2 : decode cX5_clashes 2 = .ok (.invokevirtual 82, 3) := by decide +kernel
theorem dX5_clashes_5 : decode cX5_clashes 5 = .ok (.invokevirtual 188, 3) := by decide +kernel
theorem dX5_clashes_8 : decode cX5_clashes 8 = .ok (.ireturn, 1) := by decide +kernel
theorem dX5_update_0 : decode cX5_update 0 = .ok (.aload_n 0, 1) := by decide +kernel
theorem dX5_update_1 : decode cX5_update 1 = .ok (.iload_n 1, 1) := by decide +kernel
theorem dX5_update_2 : decode cX5_update 2 = .ok (.invokevirtual 82, 3) := by decide +kernel
theorem dX5_update_5 : decode cX5_update 5 = .ok (.astore_n 2, 1) := by decide +kernel
theorem dX5_update_6 : decode cX5_update 6 = .ok (.aload_n 2, 1) := by decide +kernel
theorem dX5_update_7 : decode cX5_update 7 = .ok (.invokestatic 92, 3) := by decide +kernel
theorem dX5_update_10 : decode cX5_update 10 = .ok (.aload_n 2, 1) := by decide +kernel
theorem dX5_update_11 : decode cX5_update 11 = .ok (.invokevirtual 188, 3) := by decide +kernel
theorem dX5_update_14 : decode cX5_update 14 = .ok (.istore_n 3, 1) := by decide +kernel
theorem dX5_update_15 : decode cX5_update 15 = .ok (.aload_n 2, 1) := by decide +kernel
theorem dX5_update_16 : decode cX5_update 16 = .ok (.invokevirtual 191, 3) := by decide +kernel
theorem dX5_update_19 : decode cX5_update 19 = .ok (.iload_n 3, 1) := by decide +kernel
theorem dX5_update_20 : decode cX5_update 20 = .ok (.ireturn, 1) := by decide +kernel
theorem dX5_addTest_0 : decode cX5_addTest 0 = .ok (.iload_n 1, 1) := by decide +kernel
theorem dX5_addTest_1 : decode cX5_addTest 1 = .ok (.iload_n 2, 1) := by decide +kernel
theorem dX5_addTest_2 : decode cX5_addTest 2 = .ok (.invokestatic 86, 3) := by decide +kernel
theorem dX5_addTest_5 : decode cX5_addTest 5 = .ok (.istore 6, 2) := by decide +kernel
theorem dX5_addTest_7 : decode cX5_addTest 7 = .ok (.iload_n 3, 1) := by decide +kernel
theorem dX5_addTest_8 : decode cX5_addTest 8 = .ok (.iload 4, 2) := by decide +kernel
theorem dX5_addTest_10 : decode cX5_addTest 10 = .ok (.invokestatic 86, 3) := by decide +kernel
theorem dX5_addTest_13 : decode cX5_addTest 13 = .ok (.istore 7, 2) := by decide +kernel
theorem dX5_addTest_15 : decode cX5_addTest 15 = .ok (.iload 5, 2) := by decide +kernel
theorem dX5_addTest_17 : decode cX5_addTest 17 = .ok (.ifCond .lt 11, 3) := by decide +kernel
theorem dX5_addTest_20 : decode cX5_addTest 20 = .ok (.iload 5, 2) := by decide +kernel
theorem dX5_addTest_22 : decode cX5_addTest 22 = .ok (.sipush 198, 3) := by decide +kernel
theorem dX5_addTest_25 : decode cX5_addTest 25 = .ok (.if_icmp .le 13, 3) := by decide +kernel
theorem dX5_addTest_28 : decode cX5_addTest 28 = .ok (.new 63, 3) := by decide +kernel
theorem dX5_addTest_31 : decode cX5_addTest 31 = .ok (.dup, 1) := by decide +kernel
theorem dX5_addTest_32 : decode cX5_addTest 32 = .ok (.ldc 194, 2) := by decide +kernel
theorem dX5_addTest_34 : decode cX5_addTest 34 = .ok (.invokespecial 67, 3) := by decide +kernel
theorem dX5_addTest_37 : decode cX5_addTest 37 = .ok (.athrow, 1) := by decide +kernel
theorem dX5_addTest_38 : decode cX5_addTest 38 = .ok (.aload_n 0, 1) := by decide +kernel
theorem dX5_addTest_39 : decode cX5_addTest 39 = .ok (.getfield 51, 3) := by decide +kernel
theorem dX5_addTest_42 : decode cX5_addTest 42 = .ok (.getfield 196, 3) := by decide +kernel
theorem dX5_addTest_45 : decode cX5_addTest 45 = .ok (.bipush 12, 2) := by decide +kernel
theorem dX5_addTest_47 : decode cX5_addTest 47 = .ok (.if_icmp .lt 13, 3) := by decide +kernel
theorem dX5_addTest_50 : decode cX5_addTest 50 = .ok (.new 74, 3) := by decide +kernel
theorem dX5_addTest_53 : decode cX5_addTest 53 = .ok (.dup, 1) := by decide +kernel
theorem dX5_addTest_54 : decode cX5_addTest 54 = .ok (.ldc 199, 2) := by decide +kernel
theorem dX5_addTest_56 : decode cX5_addTest 56 = .ok (.invokespecial 78, 3) := by decide +kernel
theorem dX5_addTest_59 : decode cX5_addTest 59 = .ok (.athrow, 1) := by decide +kernel
theorem dX5_addTest_60 : decode cX5_addTest 60 = .ok (.aload_n 0, 1) := by decide +kernel
theorem dX5_addTest_61 : decode cX5_addTest 61 = .ok (.getfield 42, 3) := by decide +kernel
theorem dX5_addTest_64 : decode cX5_addTest 64 = .ok (.iload 6, 2) := by decide +kernel
theorem dX5_addTest_66 : decode cX5_addTest 66 = .ok (.iaload, 1) := by decide +kernel
theorem dX5_addTest_67 : decode cX5_addTest 67 = .ok (.aload_n 0, 1) := by decide +kernel
theorem dX5_addTest_68 : decode cX5_addTest 68 = .ok (.getfield 42, 3) := by decide +kernel
theorem dX5_addTest_71 : decode cX5_addTest 71 = .ok (.iload 7, 2) := by decide +kernel
theorem dX5_addTest_73 : decode cX5_addTest 73 = .ok (.iaload, 1) := by decide +kernel
theorem dX5_addTest_74 : decode cX5_addTest 74 = .ok (.iadd, 1) := by decide +kernel
theorem dX5_addTest_75 : decode cX5_addTest 75 = .ok (.iload 5, 2) := by decide +kernel
theorem dX5_addTest_77 : decode cX5_addTest 77 = .ok (.if_icmp .le 13, 3) := by decide +kernel
theorem dX5_addTest_80 : decode cX5_addTest 80 = .ok (.new 151, 3) := by decide +kernel
theorem dX5_addTest_83 : decode cX5_addTest 83 = .ok (.dup, 1) := by decide +kernel
theorem dX5_addTest_84 : decode cX5_addTest 84 = .ok (.ldc 201, 2) := by decide +kernel
theorem dX5_addTest_86 : decode cX5_addTest 86 = .ok (.invokespecial 155, 3) := by decide +kernel
theorem dX5_addTest_89 : decode cX5_addTest 89 = .ok (.athrow, 1) := by decide +kernel
theorem dX5_addTest_90 : decode cX5_addTest 90 = .ok (.aload_n 0, 1) := by decide +kernel
theorem dX5_addTest_91 : decode cX5_addTest 91 = .ok (.getfield 51, 3) := by decide +kernel
theorem dX5_addTest_94 : decode cX5_addTest 94 = .ok (.iload 6, 2) := by decide +kernel
theorem dX5_addTest_96 : decode cX5_addTest 96 = .ok (.iload 7, 2) := by decide +kernel
theorem dX5_addTest_98 : decode cX5_addTest 98 = .ok (.iload 5, 2) := by decide +kernel
theorem dX5_addTest_100 : decode cX5_addTest 100 = .ok (.invokevirtual 203, 3) := by decide +kernel
theorem dX5_addTest_103 : decode cX5_addTest 103 = .ok (.ireturn, 1) := by decide +kernel
theorem dX5_dropTest_0 : decode cX5_dropTest 0 = .ok (.iload_n 1, 1) := by decide +kernel
theorem dX5_dropTest_1 : decode cX5_dropTest 1 = .ok (.ifCond .lt 29, 3) := by decide +kernel
theorem dX5_dropTest_4 : decode cX5_dropTest 4 = .ok (.iload_n 1, 1) := by decide +kernel
theorem dX5_dropTest_5 : decode cX5_dropTest 5 = .ok (.aload_n 0, 1) := by decide +kernel
theorem dX5_dropTest_6 : decode cX5_dropTest 6 = .ok (.getfield 51, 3) := by decide +kernel
theorem dX5_dropTest_9 : decode cX5_dropTest 9 = .ok (.getfield 196, 3) := by decide +kernel
theorem dX5_dropTest_12 : decode cX5_dropTest 12 = .ok (.if_icmp .ge 18, 3) := by decide +kernel
theorem dX5_dropTest_15 : decode cX5_dropTest 15 = .ok (.aload_n 0, 1) := by decide +kernel
theorem dX5_dropTest_16 : decode cX5_dropTest 16 = .ok (.getfield 51, 3) := by decide +kernel
theorem dX5_dropTest_19 : decode cX5_dropTest 19 = .ok (.getfield 206, 3) := by decide +kernel
theorem dX5_dropTest_22 : decode cX5_dropTest 22 = .ok (.iload_n 1, 1) := by decide +kernel
theorem dX5_dropTest_23 : decode cX5_dropTest 23 = .ok (.aaload, 1) := by decide +kernel
theorem dX5_dropTest_24 : decode cX5_dropTest 24 = .ok (.getfield 210, 3) := by decide +kernel
theorem dX5_dropTest_27 : decode cX5_dropTest 27 = .ok (.ifCond .ne 13, 3) := by decide +kernel
theorem dX5_dropTest_30 : decode cX5_dropTest 30 = .ok (.new 133, 3) := by decide +kernel
theorem dX5_dropTest_33 : decode cX5_dropTest 33 = .ok (.dup, 1) := by decide +kernel
theorem dX5_dropTest_34 : decode cX5_dropTest 34 = .ok (.ldc 215, 2) := by decide +kernel
theorem dX5_dropTest_36 : decode cX5_dropTest 36 = .ok (.invokespecial 137, 3) := by decide +kernel
theorem dX5_dropTest_39 : decode cX5_dropTest 39 = .ok (.athrow, 1) := by decide +kernel
theorem dX5_dropTest_40 : decode cX5_dropTest 40 = .ok (.aload_n 0, 1) := by decide +kernel
theorem dX5_dropTest_41 : decode cX5_dropTest 41 = .ok (.getfield 51, 3) := by decide +kernel
theorem dX5_dropTest_44 : decode cX5_dropTest 44 = .ok (.iload_n 1, 1) := by decide +kernel
theorem dX5_dropTest_45 : decode cX5_dropTest 45 = .ok (.invokevirtual 217, 3) := by decide +kernel
theorem dX5_dropTest_48 : decode cX5_dropTest 48 = .ok (.ireturn, 1) := by decide +kernel
theorem dX5_value_0 : decode cX5_value 0 = .ok (.aload_n 0, 1) := by decide +kernel
theorem dX5_value_1 : decode cX5_value 1 = .ok (.getfield 42, 3) := by decide +kernel
theorem dX5_value_4 : decode cX5_value 4 = .ok (.iload_n 1, 1) := by decide +kernel
theorem dX5_value_5 : decode cX5_value 5 = .ok (.iload_n 2, 1) := by decide +kernel
theorem dX5_value_6 : decode cX5_value 6 = .ok (.invokestatic 86, 3) := by decide +kernel
theorem dX5_value_9 : decode cX5_value 9 = .ok (.iaload, 1) := by decide +kernel
theorem dX5_value_10 : decode cX5_value 10 = .ok (.ireturn, 1) := by decide +kernel
theorem dX5_valueByMerges_0 : decode cX5_valueByMerges 0 = .ok (.aload_n 0, 1) := by decide +kernel
theorem dX5_valueByMerges_1 : decode cX5_valueByMerges 1 = .ok (.iload_n 1, 1) := by decide +kernel
theorem dX5_valueByMerges_2 : decode cX5_valueByMerges 2 = .ok (.iload_n 2, 1) := by decide +kernel
theorem dX5_valueByMerges_3 : decode cX5_valueByMerges 3 = .ok (.invokestatic 86, 3) := by decide +kernel
theorem dX5_valueByMerges_6 : decode cX5_valueByMerges 6 = .ok (.invokevirtual 220, 3) := by decide +kernel
theorem dX5_valueByMerges_9 : decode cX5_valueByMerges 9 = .ok (.ireturn, 1) := by decide +kernel
theorem dX5_valueWith_0 : decode cX5_valueWith 0 = .ok (.aload_n 0, 1) := by decide +kernel
theorem dX5_valueWith_1 : decode cX5_valueWith 1 = .ok (.iload_n 1, 1) := by decide +kernel
theorem dX5_valueWith_2 : decode cX5_valueWith 2 = .ok (.invokevirtual 82, 3) := by decide +kernel
theorem dX5_valueWith_5 : decode cX5_valueWith 5 = .ok (.astore 4, 2) := by decide +kernel
theorem dX5_valueWith_7 : decode cX5_valueWith 7 = .ok (.iload_n 2, 1) := by decide +kernel
theorem dX5_valueWith_8 : decode cX5_valueWith 8 = .ok (.iload_n 3, 1) := by decide +kernel
theorem dX5_valueWith_9 : decode cX5_valueWith 9 = .ok (.invokestatic 86, 3) := by decide +kernel
theorem dX5_valueWith_12 : decode cX5_valueWith 12 = .ok (.istore 5, 2) := by decide +kernel
theorem dX5_valueWith_14 : decode cX5_valueWith 14 = .ok (.aload 4, 2) := by decide +kernel
theorem dX5_valueWith_16 : decode cX5_valueWith 16 = .ok (.iload 5, 2) := by decide +kernel
theorem dX5_valueWith_18 : decode cX5_valueWith 18 = .ok (.invokevirtual 104, 3) := by decide +kernel
theorem dX5_valueWith_21 : decode cX5_valueWith 21 = .ok (.ifCond .eq 14, 3) := by decide +kernel
theorem dX5_valueWith_24 : decode cX5_valueWith 24 = .ok (.aload 4, 2) := by decide +kernel
theorem dX5_valueWith_26 : decode cX5_valueWith 26 = .ok (.getfield 223, 3) := by decide +kernel
theorem dX5_valueWith_29 : decode cX5_valueWith 29 = .ok (.iload 5, 2) := by decide +kernel
theorem dX5_valueWith_31 : decode cX5_valueWith 31 = .ok (.iaload, 1) := by decide +kernel
theorem dX5_valueWith_32 : decode cX5_valueWith 32 = .ok (.goto 10, 3) := by decide +kernel
theorem dX5_valueWith_35 : decode cX5_valueWith 35 = .ok (.aload_n 0, 1) := by decide +kernel
theorem dX5_valueWith_36 : decode cX5_valueWith 36 = .ok (.getfield 42, 3) := by decide +kernel
theorem dX5_valueWith_39 : decode cX5_valueWith 39 = .ok (.iload 5, 2) := by decide +kernel
theorem dX5_valueWith_41 : decode cX5_valueWith 41 = .ok (.iaload, 1) := by decide +kernel
theorem dX5_valueWith_42 : decode cX5_valueWith 42 = .ok (.ireturn, 1) := by decide +kernel
theorem dX5_along_0 : decode cX5_along 0 = .ok (.aload_n 0, 1) := by decide +kernel
theorem dX5_along_1 : decode cX5_along 1 = .ok (.iload_n 1, 1) := by decide +kernel
theorem dX5_along_2 : decode cX5_along 2 = .ok (.invokevirtual 82, 3) := by decide +kernel
theorem dX5_along_5 : decode cX5_along 5 = .ok (.invokestatic 226, 3) := by decide +kernel
theorem dX5_along_8 : decode cX5_along 8 = .ok (.aload_n 0, 1) := by decide +kernel
theorem dX5_along_9 : decode cX5_along 9 = .ok (.iload_n 1, 1) := by decide +kernel
theorem dX5_along_10 : decode cX5_along 10 = .ok (.invokevirtual 229, 3) := by decide +kernel
theorem dX5_along_13 : decode cX5_along 13 = .ok (.invokestatic 232, 3) := by decide +kernel
theorem dX5_along_16 : decode cX5_along 16 = .ok (.ireturn, 1) := by decide +kernel
theorem dX5_revert_0 : decode cX5_revert 0 = .ok (.aload_n 0, 1) := by decide +kernel
theorem dX5_revert_1 : decode cX5_revert 1 = .ok (.iload_n 1, 1) := by decide +kernel
theorem dX5_revert_2 : decode cX5_revert 2 = .ok (.invokevirtual 82, 3) := by decide +kernel
theorem dX5_revert_5 : decode cX5_revert 5 = .ok (.invokestatic 226, 3) := by decide +kernel
theorem dX5_revert_8 : decode cX5_revert 8 = .ok (.aload_n 0, 1) := by decide +kernel
theorem dX5_revert_9 : decode cX5_revert 9 = .ok (.iload_n 1, 1) := by decide +kernel
theorem dX5_revert_10 : decode cX5_revert 10 = .ok (.invokevirtual 229, 3) := by decide +kernel
theorem dX5_revert_13 : decode cX5_revert 13 = .ok (.istore_n 2, 1) := by decide +kernel
theorem dX5_revert_14 : decode cX5_revert 14 = .ok (.aload_n 0, 1) := by decide +kernel
theorem dX5_revert_15 : decode cX5_revert 15 = .ok (.iload_n 2, 1) := by decide +kernel
theorem dX5_revert_16 : decode cX5_revert 16 = .ok (.invokevirtual 237, 3) := by decide +kernel
theorem dX5_revert_19 : decode cX5_revert 19 = .ok (.ifCond .ne 13, 3) := by decide +kernel
theorem dX5_revert_22 : decode cX5_revert 22 = .ok (.new 151, 3) := by decide +kernel
theorem dX5_revert_25 : decode cX5_revert 25 = .ok (.dup, 1) := by decide +kernel
theorem dX5_revert_26 : decode cX5_revert 26 = .ok (.ldc 240, 2) := by decide +kernel
theorem dX5_revert_28 : decode cX5_revert 28 = .ok (.invokespecial 155, 3) := by decide +kernel
theorem dX5_revert_31 : decode cX5_revert 31 = .ok (.athrow, 1) := by decide +kernel
theorem dX5_revert_32 : decode cX5_revert 32 = .ok (.aload_n 0, 1) := by decide +kernel
theorem dX5_revert_33 : decode cX5_revert 33 = .ok (.getfield 45, 3) := by decide +kernel
theorem dX5_revert_36 : decode cX5_revert 36 = .ok (.iconst 0, 1) := by decide +kernel
theorem dX5_revert_37 : decode cX5_revert 37 = .ok (.aload_n 0, 1) := by decide +kernel
theorem dX5_revert_38 : decode cX5_revert 38 = .ok (.getfield 42, 3) := by decide +kernel
theorem dX5_revert_41 : decode cX5_revert 41 = .ok (.iconst 0, 1) := by decide +kernel
theorem dX5_revert_42 : decode cX5_revert 42 = .ok (.bipush 64, 2) := by decide +kernel
theorem dX5_revert_44 : decode cX5_revert 44 = .ok (.invokestatic 242, 3) := by decide +kernel
theorem dX5_revert_47 : decode cX5_revert 47 = .ok (.aload_n 0, 1) := by decide +kernel
theorem dX5_revert_48 : decode cX5_revert 48 = .ok (.iload_n 2, 1) := by decide +kernel
theorem dX5_revert_49 : decode cX5_revert 49 = .ok (.invokevirtual 248, 3) := by decide +kernel
theorem dX5_revert_52 : decode cX5_revert 52 = .ok (.iload_n 2, 1) := by decide +kernel
theorem dX5_revert_53 : decode cX5_revert 53 = .ok (.invokestatic 232, 3) := by decide +kernel
theorem dX5_revert_56 : decode cX5_revert 56 = .ok (.ireturn, 1) := by decide +kernel
theorem dX5_mergedAt_0 : decode cX5_mergedAt 0 = .ok (.aload_n 0, 1) := by decide +kernel
theorem dX5_mergedAt_1 : decode cX5_mergedAt 1 = .ok (.getfield 36, 3) := by decide +kernel
theorem dX5_mergedAt_4 : decode cX5_mergedAt 4 = .ok (.iload_n 1, 1) := by decide +kernel
theorem dX5_mergedAt_5 : decode cX5_mergedAt 5 = .ok (.invokestatic 167, 3) := by decide +kernel
theorem dX5_mergedAt_8 : decode cX5_mergedAt 8 = .ok (.aload_n 0, 1) := by decide +kernel
theorem dX5_mergedAt_9 : decode cX5_mergedAt 9 = .ok (.getfield 36, 3) := by decide +kernel
theorem dX5_mergedAt_12 : decode cX5_mergedAt 12 = .ok (.iload_n 1, 1) := by decide +kernel
theorem dX5_mergedAt_13 : decode cX5_mergedAt 13 = .ok (.invokevirtual 171, 3) := by decide +kernel
theorem dX5_mergedAt_16 : decode cX5_mergedAt 16 = .ok (.ireturn, 1) := by decide +kernel
theorem dX5_isGood_0 : decode cX5_isGood 0 = .ok (.iload_n 1, 1) := by decide +kernel
theorem dX5_isGood_1 : decode cX5_isGood 1 = .ok (.invokestatic 56, 3) := by decide +kernel
theorem dX5_isGood_4 : decode cX5_isGood 4 = .ok (.aload_n 0, 1) := by decide +kernel
theorem dX5_isGood_5 : decode cX5_isGood 5 = .ok (.getfield 51, 3) := by decide +kernel
theorem dX5_isGood_8 : decode cX5_isGood 8 = .ok (.iload_n 1, 1) := by decide +kernel
theorem dX5_isGood_9 : decode cX5_isGood 9 = .ok (.aload_n 0, 1) := by decide +kernel
theorem dX5_isGood_10 : decode cX5_isGood 10 = .ok (.getfield 42, 3) := by decide +kernel
theorem dX5_isGood_13 : decode cX5_isGood 13 = .ok (.invokevirtual 251, 3) := by decide +kernel
theorem dX5_isGood_16 : decode cX5_isGood 16 = .ok (.ireturn, 1) := by decide +kernel
theorem dX5_builds_0 : decode cX5_builds 0 = .ok (.aload_n 0, 1) := by decide +kernel
theorem dX5_builds_1 : decode cX5_builds 1 = .ok (.getfield 51, 3) := by decide +kernel
theorem dX5_builds_4 : decode cX5_builds 4 = .ok (.getfield 255, 3) := by decide +kernel
theorem dX5_builds_7 : decode cX5_builds 7 = .ok (.ireturn, 1) := by decide +kernel
theorem dX5_taken_0 : decode cX5_taken 0 = .ok (.aload_n 0, 1) := by decide +kernel
theorem dX5_taken_1 : decode cX5_taken 1 = .ok (.getfield 51, 3) := by decide +kernel
theorem dX5_taken_4 : decode cX5_taken 4 = .ok (.getfield 258, 3) := by decide +kernel
theorem dX5_taken_7 : decode cX5_taken 7 = .ok (.lreturn, 1) := by decide +kernel
theorem dX5_takenShare_0 : decode cX5_takenShare 0 = .ok (.aload_n 0, 1) := by decide +kernel
theorem dX5_takenShare_1 : decode cX5_takenShare 1 = .ok (.getfield 51, 3) := by decide +kernel
theorem dX5_takenShare_4 : decode cX5_takenShare 4 = .ok (.getfield 258, 3) := by decide +kernel
theorem dX5_takenShare_7 : decode cX5_takenShare 7 = .ok (.aload_n 0, 1) := by decide +kernel
theorem dX5_takenShare_8 : decode cX5_takenShare 8 = .ok (.getfield 51, 3) := by decide +kernel
theorem dX5_takenShare_11 : decode cX5_takenShare 11 = .ok (.getfield 255, 3) := by decide +kernel
theorem dX5_takenShare_14 : decode cX5_takenShare 14 = .ok (.i2l, 1) := by decide +kernel
theorem dX5_takenShare_15 : decode cX5_takenShare 15 = .ok (.ladd, 1) := by decide +kernel
theorem dX5_takenShare_16 : decode cX5_takenShare 16 = .ok (.lstore_n 1, 1) := by decide +kernel
theorem dX5_takenShare_17 : decode cX5_takenShare 17 = .ok (.lload_n 1, 1) := by decide +kernel
theorem dX5_takenShare_18 : decode cX5_takenShare 18 = .ok (.lconst 0, 1) := by decide +kernel
theorem dX5_takenShare_19 : decode cX5_takenShare 19 = .ok (.lcmp, 1) := by decide +kernel
theorem dX5_takenShare_20 : decode cX5_takenShare 20 = .ok (.ifCond .ne 14, 3) := by decide +kernel
theorem dX5_takenShare_23 : decode cX5_takenShare 23 = .ok (.new 261, 3) := by decide +kernel
theorem dX5_takenShare_26 : decode cX5_takenShare 26 = .ok (.dup, 1) := by decide +kernel
theorem dX5_takenShare_27 : decode cX5_takenShare 27 = .ok (.ldc_w 263, 3) := by decide +kernel
theorem dX5_takenShare_30 : decode cX5_takenShare 30 = .ok (.invokespecial 265, 3) := by decide +kernel
theorem dX5_takenShare_33 : decode cX5_takenShare 33 = .ok (.athrow, 1) := by decide +kernel
theorem dX5_takenShare_34 : decode cX5_takenShare 34 = .ok (.aload_n 0, 1) := by decide +kernel
theorem dX5_takenShare_35 : decode cX5_takenShare 35 = .ok (.getfield 51, 3) := by decide +kernel
theorem dX5_takenShare_38 : decode cX5_takenShare 38 = .ok (.getfield 258, 3) := by decide +kernel
theorem dX5_takenShare_41 : decode cX5_takenShare 41 = .ok (.l2f, 1) := by decide +kernel
theorem dX5_takenShare_42 : decode cX5_takenShare 42 = .ok (.lload_n 1, 1) := by decide +kernel
theorem dX5_takenShare_43 : decode cX5_takenShare 43 = .ok (.l2f, 1) := by decide +kernel
theorem dX5_takenShare_44 : decode cX5_takenShare 44 = .ok (.fdiv, 1) := by decide +kernel
theorem dX5_takenShare_45 : decode cX5_takenShare 45 = .ok (.freturn, 1) := by decide +kernel
theorem dX5_meanEdits_0 : decode cX5_meanEdits 0 = .ok (.aload_n 0, 1) := by decide +kernel
theorem dX5_meanEdits_1 : decode cX5_meanEdits 1 = .ok (.getfield 36, 3) := by decide +kernel
theorem dX5_meanEdits_4 : decode cX5_meanEdits 4 = .ok (.getfield 159, 3) := by decide +kernel
theorem dX5_meanEdits_7 : decode cX5_meanEdits 7 = .ok (.ifCond .ne 14, 3) := by decide +kernel
theorem dX5_meanEdits_10 : decode cX5_meanEdits 10 = .ok (.new 261, 3) := by decide +kernel
theorem dX5_meanEdits_13 : decode cX5_meanEdits 13 = .ok (.dup, 1) := by decide +kernel
theorem dX5_meanEdits_14 : decode cX5_meanEdits 14 = .ok (.ldc_w 266, 3) := by decide +kernel
theorem dX5_meanEdits_17 : decode cX5_meanEdits 17 = .ok (.invokespecial 265, 3) := by decide +kernel
theorem dX5_meanEdits_20 : decode cX5_meanEdits 20 = .ok (.athrow, 1) := by decide +kernel
theorem dX5_meanEdits_21 : decode cX5_meanEdits 21 = .ok (.iconst 0, 1) := by decide +kernel
theorem dX5_meanEdits_22 : decode cX5_meanEdits 22 = .ok (.istore_n 1, 1) := by decide +kernel
theorem dX5_meanEdits_23 : decode cX5_meanEdits 23 = .ok (.iconst 0, 1) := by decide +kernel
theorem dX5_meanEdits_24 : decode cX5_meanEdits 24 = .ok (.istore_n 2, 1) := by decide +kernel
theorem dX5_meanEdits_25 : decode cX5_meanEdits 25 = .ok (.iload_n 2, 1) := by decide +kernel
theorem dX5_meanEdits_26 : decode cX5_meanEdits 26 = .ok (.aload_n 0, 1) := by decide +kernel
theorem dX5_meanEdits_27 : decode cX5_meanEdits 27 = .ok (.getfield 36, 3) := by decide +kernel
theorem dX5_meanEdits_30 : decode cX5_meanEdits 30 = .ok (.getfield 159, 3) := by decide +kernel
theorem dX5_meanEdits_33 : decode cX5_meanEdits 33 = .ok (.if_icmp .ge 28, 3) := by decide +kernel
theorem dX5_meanEdits_36 : decode cX5_meanEdits 36 = .ok (.iload_n 1, 1) := by decide +kernel
theorem dX5_meanEdits_37 : decode cX5_meanEdits 37 = .ok (.aload_n 0, 1) := by decide +kernel
theorem dX5_meanEdits_38 : decode cX5_meanEdits 38 = .ok (.getfield 25, 3) := by decide +kernel
theorem dX5_meanEdits_41 : decode cX5_meanEdits 41 = .ok (.aload_n 0, 1) := by decide +kernel
theorem dX5_meanEdits_42 : decode cX5_meanEdits 42 = .ok (.getfield 36, 3) := by decide +kernel
theorem dX5_meanEdits_45 : decode cX5_meanEdits 45 = .ok (.iload_n 2, 1) := by decide +kernel
theorem dX5_meanEdits_46 : decode cX5_meanEdits 46 = .ok (.invokevirtual 171, 3) := by decide +kernel
theorem dX5_meanEdits_49 : decode cX5_meanEdits 49 = .ok (.aaload, 1) := by decide +kernel
theorem dX5_meanEdits_50 : decode cX5_meanEdits 50 = .ok (.invokevirtual 100, 3) := by decide +kernel
theorem dX5_meanEdits_53 : decode cX5_meanEdits 53 = .ok (.iadd, 1) := by decide +kernel
theorem dX5_meanEdits_54 : decode cX5_meanEdits 54 = .ok (.istore_n 1, 1) := by decide +kernel
theorem dX5_meanEdits_55 : decode cX5_meanEdits 55 = .ok (.iinc 2 1, 3) := by decide +kernel
theorem dX5_meanEdits_58 : decode cX5_meanEdits 58 = .ok (.goto (-33), 3) := by decide +kernel
theorem dX5_meanEdits_61 : decode cX5_meanEdits 61 = .ok (.iload_n 1, 1) := by decide +kernel
theorem dX5_meanEdits_62 : decode cX5_meanEdits 62 = .ok (.i2d, 1) := by decide +kernel
theorem dX5_meanEdits_63 : decode cX5_meanEdits 63 = .ok (.aload_n 0, 1) := by decide +kernel
theorem dX5_meanEdits_64 : decode cX5_meanEdits 64 = .ok (.getfield 36, 3) := by decide +kernel
theorem dX5_meanEdits_67 : decode cX5_meanEdits 67 = .ok (.getfield 159, 3) := by decide +kernel
theorem dX5_meanEdits_70 : decode cX5_meanEdits 70 = .ok (.i2d, 1) := by decide +kernel
theorem dX5_meanEdits_71 : decode cX5_meanEdits 71 = .ok (.ddiv, 1) := by decide +kernel
theorem dX5_meanEdits_72 : decode cX5_meanEdits 72 = .ok (.dreturn, 1) := by decide +kernel
theorem dX5_isSound_0 : decode cX5_isSound 0 = .ok (.iconst 0, 1) := by decide +kernel
theorem dX5_isSound_1 : decode cX5_isSound 1 = .ok (.istore_n 1, 1) := by decide +kernel
theorem dX5_isSound_2 : decode cX5_isSound 2 = .ok (.iload_n 1, 1) := by decide +kernel
theorem dX5_isSound_3 : decode cX5_isSound 3 = .ok (.iconst 4, 1) := by decide +kernel
theorem dX5_isSound_4 : decode cX5_isSound 4 = .ok (.if_icmp .ge 26, 3) := by decide +kernel
theorem dX5_isSound_7 : decode cX5_isSound 7 = .ok (.aload_n 0, 1) := by decide +kernel
theorem dX5_isSound_8 : decode cX5_isSound 8 = .ok (.getfield 51, 3) := by decide +kernel
theorem dX5_isSound_11 : decode cX5_isSound 11 = .ok (.iload_n 1, 1) := by decide +kernel
theorem dX5_isSound_12 : decode cX5_isSound 12 = .ok (.aload_n 0, 1) := by decide +kernel
theorem dX5_isSound_13 : decode cX5_isSound 13 = .ok (.getfield 42, 3) := by decide +kernel
theorem dX5_isSound_16 : decode cX5_isSound 16 = .ok (.invokevirtual 251, 3) := by decide +kernel
theorem dX5_isSound_19 : decode cX5_isSound 19 = .ok (.ifCond .ne 5, 3) := by decide +kernel
theorem dX5_isSound_22 : decode cX5_isSound 22 = .ok (.iconst 0, 1) := by decide +kernel
theorem dX5_isSound_23 : decode cX5_isSound 23 = .ok (.ireturn, 1) := by decide +kernel
theorem dX5_isSound_24 : decode cX5_isSound 24 = .ok (.iinc 1 1, 3) := by decide +kernel
theorem dX5_isSound_27 : decode cX5_isSound 27 = .ok (.goto (-25), 3) := by decide +kernel
theorem dX5_isSound_30 : decode cX5_isSound 30 = .ok (.iconst 0, 1) := by decide +kernel
theorem dX5_isSound_31 : decode cX5_isSound 31 = .ok (.istore_n 1, 1) := by decide +kernel
theorem dX5_isSound_32 : decode cX5_isSound 32 = .ok (.iload_n 1, 1) := by decide +kernel
theorem dX5_isSound_33 : decode cX5_isSound 33 = .ok (.bipush 64, 2) := by decide +kernel
theorem dX5_isSound_35 : decode cX5_isSound 35 = .ok (.if_icmp .ge 25, 3) := by decide +kernel
theorem dX5_isSound_38 : decode cX5_isSound 38 = .ok (.aload_n 0, 1) := by decide +kernel
theorem dX5_isSound_39 : decode cX5_isSound 39 = .ok (.getfield 42, 3) := by decide +kernel
theorem dX5_isSound_42 : decode cX5_isSound 42 = .ok (.iload_n 1, 1) := by decide +kernel
theorem dX5_isSound_43 : decode cX5_isSound 43 = .ok (.iaload, 1) := by decide +kernel
theorem dX5_isSound_44 : decode cX5_isSound 44 = .ok (.aload_n 0, 1) := by decide +kernel
theorem dX5_isSound_45 : decode cX5_isSound 45 = .ok (.iload_n 1, 1) := by decide +kernel
theorem dX5_isSound_46 : decode cX5_isSound 46 = .ok (.invokevirtual 220, 3) := by decide +kernel
theorem dX5_isSound_49 : decode cX5_isSound 49 = .ok (.if_icmp .eq 5, 3) := by decide +kernel
theorem dX5_isSound_52 : decode cX5_isSound 52 = .ok (.iconst 0, 1) := by decide +kernel
theorem dX5_isSound_53 : decode cX5_isSound 53 = .ok (.ireturn, 1) := by decide +kernel
theorem dX5_isSound_54 : decode cX5_isSound 54 = .ok (.iinc 1 1, 3) := by decide +kernel
theorem dX5_isSound_57 : decode cX5_isSound 57 = .ok (.goto (-25), 3) := by decide +kernel
theorem dX5_isSound_60 : decode cX5_isSound 60 = .ok (.iconst 1, 1) := by decide +kernel
theorem dX5_isSound_61 : decode cX5_isSound 61 = .ok (.ireturn, 1) := by decide +kernel
theorem dX5_checkDirectory_0 : decode cX5_checkDirectory 0 = .ok (.iload_n 0, 1) := by decide +kernel
theorem dX5_checkDirectory_1 : decode cX5_checkDirectory 1 = .ok (.ifCond .lt 8, 3) := by decide +kernel
theorem dX5_checkDirectory_4 : decode cX5_checkDirectory 4 = .ok (.iload_n 0, 1) := by decide +kernel
theorem dX5_checkDirectory_5 : decode cX5_checkDirectory 5 = .ok (.iconst 4, 1) := by decide +kernel
theorem dX5_checkDirectory_6 : decode cX5_checkDirectory 6 = .ok (.if_icmp .lt 14, 3) := by decide +kernel
theorem dX5_checkDirectory_9 : decode cX5_checkDirectory 9 = .ok (.new 268, 3) := by decide +kernel
theorem dX5_checkDirectory_12 : decode cX5_checkDirectory 12 = .ok (.dup, 1) := by decide +kernel
theorem dX5_checkDirectory_13 : decode cX5_checkDirectory 13 = .ok (.ldc_w 270, 3) := by decide +kernel
theorem dX5_checkDirectory_16 : decode cX5_checkDirectory 16 = .ok (.invokespecial 272, 3) := by decide +kernel
theorem dX5_checkDirectory_19 : decode cX5_checkDirectory 19 = .ok (.athrow, 1) := by decide +kernel
theorem dX5_checkDirectory_20 : decode cX5_checkDirectory 20 = .ok (.return_, 1) := by decide +kernel
theorem dX5_checkPerson_0 : decode cX5_checkPerson 0 = .ok (.iload_n 0, 1) := by decide +kernel
theorem dX5_checkPerson_1 : decode cX5_checkPerson 1 = .ok (.ifCond .lt 9, 3) := by decide +kernel
theorem dX5_checkPerson_4 : decode cX5_checkPerson 4 = .ok (.iload_n 0, 1) := by decide +kernel
theorem dX5_checkPerson_5 : decode cX5_checkPerson 5 = .ok (.bipush 6, 2) := by decide +kernel
theorem dX5_checkPerson_7 : decode cX5_checkPerson 7 = .ok (.if_icmp .lt 14, 3) := by decide +kernel
theorem dX5_checkPerson_10 : decode cX5_checkPerson 10 = .ok (.new 63, 3) := by decide +kernel
theorem dX5_checkPerson_13 : decode cX5_checkPerson 13 = .ok (.dup, 1) := by decide +kernel
theorem dX5_checkPerson_14 : decode cX5_checkPerson 14 = .ok (.ldc_w 273, 3) := by decide +kernel
theorem dX5_checkPerson_17 : decode cX5_checkPerson 17 = .ok (.invokespecial 67, 3) := by decide +kernel
theorem dX5_checkPerson_20 : decode cX5_checkPerson 20 = .ok (.athrow, 1) := by decide +kernel
theorem dX5_checkPerson_21 : decode cX5_checkPerson 21 = .ok (.return_, 1) := by decide +kernel
theorem dX5_checkIndex_0 : decode cX5_checkIndex 0 = .ok (.iload_n 1, 1) := by decide +kernel
theorem dX5_checkIndex_1 : decode cX5_checkIndex 1 = .ok (.ifCond .lt 11, 3) := by decide +kernel
theorem dX5_checkIndex_4 : decode cX5_checkIndex 4 = .ok (.iload_n 1, 1) := by decide +kernel
theorem dX5_checkIndex_5 : decode cX5_checkIndex 5 = .ok (.aload_n 0, 1) := by decide +kernel
theorem dX5_checkIndex_6 : decode cX5_checkIndex 6 = .ok (.getfield 159, 3) := by decide +kernel
theorem dX5_checkIndex_9 : decode cX5_checkIndex 9 = .ok (.if_icmp .lt 14, 3) := by decide +kernel
theorem dX5_checkIndex_12 : decode cX5_checkIndex 12 = .ok (.new 268, 3) := by decide +kernel
theorem dX5_checkIndex_15 : decode cX5_checkIndex 15 = .ok (.dup, 1) := by decide +kernel
theorem dX5_checkIndex_16 : decode cX5_checkIndex 16 = .ok (.ldc_w 275, 3) := by decide +kernel
theorem dX5_checkIndex_19 : decode cX5_checkIndex 19 = .ok (.invokespecial 272, 3) := by decide +kernel
theorem dX5_checkIndex_22 : decode cX5_checkIndex 22 = .ok (.athrow, 1) := by decide +kernel
theorem dX5_checkIndex_23 : decode cX5_checkIndex 23 = .ok (.return_, 1) := by decide +kernel
theorem dX5_checkOpen_0 : decode cX5_checkOpen 0 = .ok (.aload_n 0, 1) := by decide +kernel
theorem dX5_checkOpen_1 : decode cX5_checkOpen 1 = .ok (.getfield 113, 3) := by decide +kernel
theorem dX5_checkOpen_4 : decode cX5_checkOpen 4 = .ok (.bipush 111, 2) := by decide +kernel
theorem dX5_checkOpen_6 : decode cX5_checkOpen 6 = .ok (.if_icmp .eq 14, 3) := by decide +kernel
theorem dX5_checkOpen_9 : decode cX5_checkOpen 9 = .ok (.new 74, 3) := by decide +kernel
theorem dX5_checkOpen_12 : decode cX5_checkOpen 12 = .ok (.dup, 1) := by decide +kernel
theorem dX5_checkOpen_13 : decode cX5_checkOpen 13 = .ok (.ldc_w 277, 3) := by decide +kernel
theorem dX5_checkOpen_16 : decode cX5_checkOpen 16 = .ok (.invokespecial 78, 3) := by decide +kernel
theorem dX5_checkOpen_19 : decode cX5_checkOpen 19 = .ok (.athrow, 1) := by decide +kernel
theorem dX5_checkOpen_20 : decode cX5_checkOpen 20 = .ok (.return_, 1) := by decide +kernel
theorem dX5_checkMerged_0 : decode cX5_checkMerged 0 = .ok (.aload_n 0, 1) := by decide +kernel
theorem dX5_checkMerged_1 : decode cX5_checkMerged 1 = .ok (.getfield 113, 3) := by decide +kernel
theorem dX5_checkMerged_4 : decode cX5_checkMerged 4 = .ok (.bipush 109, 2) := by decide +kernel
theorem dX5_checkMerged_6 : decode cX5_checkMerged 6 = .ok (.if_icmp .eq 14, 3) := by decide +kernel
theorem dX5_checkMerged_9 : decode cX5_checkMerged 9 = .ok (.new 74, 3) := by decide +kernel
theorem dX5_checkMerged_12 : decode cX5_checkMerged 12 = .ok (.dup, 1) := by decide +kernel
theorem dX5_checkMerged_13 : decode cX5_checkMerged 13 = .ok (.ldc_w 279, 3) := by decide +kernel
theorem dX5_checkMerged_16 : decode cX5_checkMerged 16 = .ok (.invokespecial 78, 3) := by decide +kernel
theorem dX5_checkMerged_19 : decode cX5_checkMerged 19 = .ok (.athrow, 1) := by decide +kernel
theorem dX5_checkMerged_20 : decode cX5_checkMerged 20 = .ok (.return_, 1) := by decide +kernel
theorem dX5_placeOf_0 : decode cX5_placeOf 0 = .ok (.iload_n 0, 1) := by decide +kernel
theorem dX5_placeOf_1 : decode cX5_placeOf 1 = .ok (.ifCond .lt 18, 3) := by decide +kernel
theorem dX5_placeOf_4 : decode cX5_placeOf 4 = .ok (.iload_n 0, 1) := by decide +kernel
theorem dX5_placeOf_5 : decode cX5_placeOf 5 = .ok (.bipush 16, 2) := by decide +kernel
theorem dX5_placeOf_7 : decode cX5_placeOf 7 = .ok (.if_icmp .ge 12, 3) := by decide +kernel
theorem dX5_placeOf_10 : decode cX5_placeOf 10 = .ok (.iload_n 1, 1) := by decide +kernel
theorem dX5_placeOf_11 : decode cX5_placeOf 11 = .ok (.ifCond .lt 8, 3) := by decide +kernel
theorem dX5_placeOf_14 : decode cX5_placeOf 14 = .ok (.iload_n 1, 1) := by decide +kernel
theorem dX5_placeOf_15 : decode cX5_placeOf 15 = .ok (.iconst 4, 1) := by decide +kernel
theorem dX5_placeOf_16 : decode cX5_placeOf 16 = .ok (.if_icmp .lt 14, 3) := by decide +kernel
theorem dX5_placeOf_19 : decode cX5_placeOf 19 = .ok (.new 268, 3) := by decide +kernel
theorem dX5_placeOf_22 : decode cX5_placeOf 22 = .ok (.dup, 1) := by decide +kernel
theorem dX5_placeOf_23 : decode cX5_placeOf 23 = .ok (.ldc_w 281, 3) := by decide +kernel
theorem dX5_placeOf_26 : decode cX5_placeOf 26 = .ok (.invokespecial 272, 3) := by decide +kernel
theorem dX5_placeOf_29 : decode cX5_placeOf 29 = .ok (.athrow, 1) := by decide +kernel
theorem dX5_placeOf_30 : decode cX5_placeOf 30 = .ok (.iload_n 0, 1) := by decide +kernel
theorem dX5_placeOf_31 : decode cX5_placeOf 31 = .ok (.iconst 4, 1) := by decide +kernel
theorem dX5_placeOf_32 : decode cX5_placeOf 32 = .ok (.imul, 1) := by decide +kernel
theorem dX5_placeOf_33 : decode cX5_placeOf 33 = .ok (.iload_n 1, 1) := by decide +kernel
theorem dX5_placeOf_34 : decode cX5_placeOf 34 = .ok (.iadd, 1) := by decide +kernel
theorem dX5_placeOf_35 : decode cX5_placeOf 35 = .ok (.ireturn, 1) := by decide +kernel
theorem dX5_changeOf_0 : decode cX5_changeOf 0 = .ok (.iload_n 1, 1) := by decide +kernel
theorem dX5_changeOf_1 : decode cX5_changeOf 1 = .ok (.ifCond .lt 11, 3) := by decide +kernel
theorem dX5_changeOf_4 : decode cX5_changeOf 4 = .ok (.iload_n 1, 1) := by decide +kernel
theorem dX5_changeOf_5 : decode cX5_changeOf 5 = .ok (.aload_n 0, 1) := by decide +kernel
theorem dX5_changeOf_6 : decode cX5_changeOf 6 = .ok (.getfield 70, 3) := by decide +kernel
theorem dX5_changeOf_9 : decode cX5_changeOf 9 = .ok (.if_icmp .lt 14, 3) := by decide +kernel
theorem dX5_changeOf_12 : decode cX5_changeOf 12 = .ok (.new 133, 3) := by decide +kernel
theorem dX5_changeOf_15 : decode cX5_changeOf 15 = .ok (.dup, 1) := by decide +kernel
theorem dX5_changeOf_16 : decode cX5_changeOf 16 = .ok (.ldc_w 275, 3) := by decide +kernel
theorem dX5_changeOf_19 : decode cX5_changeOf 19 = .ok (.invokespecial 137, 3) := by decide +kernel
theorem dX5_changeOf_22 : decode cX5_changeOf 22 = .ok (.athrow, 1) := by decide +kernel
theorem dX5_changeOf_23 : decode cX5_changeOf 23 = .ok (.aload_n 0, 1) := by decide +kernel
theorem dX5_changeOf_24 : decode cX5_changeOf 24 = .ok (.getfield 25, 3) := by decide +kernel
theorem dX5_changeOf_27 : decode cX5_changeOf 27 = .ok (.iload_n 1, 1) := by decide +kernel
theorem dX5_changeOf_28 : decode cX5_changeOf 28 = .ok (.aaload, 1) := by decide +kernel
theorem dX5_changeOf_29 : decode cX5_changeOf 29 = .ok (.areturn, 1) := by decide +kernel
theorem dX5_personAsked_0 : decode cX5_personAsked 0 = .ok (.aload_n 0, 1) := by decide +kernel
theorem dX5_personAsked_1 : decode cX5_personAsked 1 = .ok (.getfield 9, 3) := by decide +kernel
theorem dX5_personAsked_4 : decode cX5_personAsked 4 = .ok (.iload_n 2, 1) := by decide +kernel
theorem dX5_personAsked_5 : decode cX5_personAsked 5 = .ok (.iaload, 1) := by decide +kernel
theorem dX5_personAsked_6 : decode cX5_personAsked 6 = .ok (.istore_n 3, 1) := by decide +kernel
theorem dX5_personAsked_7 : decode cX5_personAsked 7 = .ok (.aload_n 0, 1) := by decide +kernel
theorem dX5_personAsked_8 : decode cX5_personAsked 8 = .ok (.getfield 20, 3) := by decide +kernel
theorem dX5_personAsked_11 : decode cX5_personAsked 11 = .ok (.iload_n 3, 1) := by decide +kernel
theorem dX5_personAsked_12 : decode cX5_personAsked 12 = .ok (.baload, 1) := by decide +kernel
theorem dX5_personAsked_13 : decode cX5_personAsked 13 = .ok (.ifCond .ne 13, 3) := by decide +kernel
theorem dX5_personAsked_16 : decode cX5_personAsked 16 = .ok (.iload_n 3, 1) := by decide +kernel
theorem dX5_personAsked_17 : decode cX5_personAsked 17 = .ok (.aload_n 1, 1) := by decide +kernel
theorem dX5_personAsked_18 : decode cX5_personAsked 18 = .ok (.getfield 79, 3) := by decide +kernel
theorem dX5_personAsked_21 : decode cX5_personAsked 21 = .ok (.if_icmp .eq 5, 3) := by decide +kernel
theorem dX5_personAsked_24 : decode cX5_personAsked 24 = .ok (.iload_n 3, 1) := by decide +kernel
theorem dX5_personAsked_25 : decode cX5_personAsked 25 = .ok (.ireturn, 1) := by decide +kernel
theorem dX5_personAsked_26 : decode cX5_personAsked 26 = .ok (.aload_n 0, 1) := by decide +kernel
theorem dX5_personAsked_27 : decode cX5_personAsked 27 = .ok (.getfield 13, 3) := by decide +kernel
theorem dX5_personAsked_30 : decode cX5_personAsked 30 = .ok (.iload_n 2, 1) := by decide +kernel
theorem dX5_personAsked_31 : decode cX5_personAsked 31 = .ok (.iaload, 1) := by decide +kernel
theorem dX5_personAsked_32 : decode cX5_personAsked 32 = .ok (.istore 4, 2) := by decide +kernel
theorem dX5_personAsked_34 : decode cX5_personAsked 34 = .ok (.iload 4, 2) := by decide +kernel
theorem dX5_personAsked_36 : decode cX5_personAsked 36 = .ok (.aload_n 1, 1) := by decide +kernel
theorem dX5_personAsked_37 : decode cX5_personAsked 37 = .ok (.getfield 79, 3) := by decide +kernel
theorem dX5_personAsked_40 : decode cX5_personAsked 40 = .ok (.if_icmp .ne 7, 3) := by decide +kernel
theorem dX5_personAsked_43 : decode cX5_personAsked 43 = .ok (.iconst (-1), 1) := by decide +kernel
theorem dX5_personAsked_44 : decode cX5_personAsked 44 = .ok (.goto 5, 3) := by decide +kernel
theorem dX5_personAsked_47 : decode cX5_personAsked 47 = .ok (.iload 4, 2) := by decide +kernel
theorem dX5_personAsked_49 : decode cX5_personAsked 49 = .ok (.ireturn, 1) := by decide +kernel
theorem dX5_verdictOf_0 : decode cX5_verdictOf 0 = .ok (.aload_n 1, 1) := by decide +kernel
theorem dX5_verdictOf_1 : decode cX5_verdictOf 1 = .ok (.iload_n 2, 1) := by decide +kernel
theorem dX5_verdictOf_2 : decode cX5_verdictOf 2 = .ok (.invokevirtual 283, 3) := by decide +kernel
theorem dX5_verdictOf_5 : decode cX5_verdictOf 5 = .ok (.ifCond .ne 6, 3) := by decide +kernel
theorem dX5_verdictOf_8 : decode cX5_verdictOf 8 = .ok (.bipush 45, 2) := by decide +kernel
theorem dX5_verdictOf_10 : decode cX5_verdictOf 10 = .ok (.ireturn, 1) := by decide +kernel
theorem dX5_verdictOf_11 : decode cX5_verdictOf 11 = .ok (.aload_n 0, 1) := by decide +kernel
theorem dX5_verdictOf_12 : decode cX5_verdictOf 12 = .ok (.aload_n 1, 1) := by decide +kernel
theorem dX5_verdictOf_13 : decode cX5_verdictOf 13 = .ok (.iload_n 2, 1) := by decide +kernel
theorem dX5_verdictOf_14 : decode cX5_verdictOf 14 = .ok (.invokevirtual 129, 3) := by decide +kernel
theorem dX5_verdictOf_17 : decode cX5_verdictOf 17 = .ok (.istore_n 3, 1) := by decide +kernel
theorem dX5_verdictOf_18 : decode cX5_verdictOf 18 = .ok (.iload_n 3, 1) := by decide +kernel
theorem dX5_verdictOf_19 : decode cX5_verdictOf 19 = .ok (.iconst (-1), 1) := by decide +kernel
theorem dX5_verdictOf_20 : decode cX5_verdictOf 20 = .ok (.if_icmp .ne 8, 3) := by decide +kernel
theorem dX5_verdictOf_23 : decode cX5_verdictOf 23 = .ok (.bipush 102, 2) := by decide +kernel
theorem dX5_verdictOf_25 : decode cX5_verdictOf 25 = .ok (.goto 9, 3) := by decide +kernel
theorem dX5_verdictOf_28 : decode cX5_verdictOf 28 = .ok (.aload_n 1, 1) := by decide +kernel
theorem dX5_verdictOf_29 : decode cX5_verdictOf 29 = .ok (.iload_n 3, 1) := by decide +kernel
theorem dX5_verdictOf_30 : decode cX5_verdictOf 30 = .ok (.iload_n 2, 1) := by decide +kernel
theorem dX5_verdictOf_31 : decode cX5_verdictOf 31 = .ok (.invokevirtual 286, 3) := by decide +kernel
theorem dX5_verdictOf_34 : decode cX5_verdictOf 34 = .ok (.ireturn, 1) := by decide +kernel
theorem dX5_missingVerdicts_0 : decode cX5_missingVerdicts 0 = .ok (.iconst 0, 1) := by decide +kernel
theorem dX5_missingVerdicts_1 : decode cX5_missingVerdicts 1 = .ok (.istore_n 2, 1) := by decide +kernel
theorem dX5_missingVerdicts_2 : decode cX5_missingVerdicts 2 = .ok (.iconst 0, 1) := by decide +kernel
theorem dX5_missingVerdicts_3 : decode cX5_missingVerdicts 3 = .ok (.istore_n 3, 1) := by decide +kernel
theorem dX5_missingVerdicts_4 : decode cX5_missingVerdicts 4 = .ok (.iload_n 3, 1) := by decide +kernel
theorem dX5_missingVerdicts_5 : decode cX5_missingVerdicts 5 = .ok (.iconst 4, 1) := by decide +kernel
theorem dX5_missingVerdicts_6 : decode cX5_missingVerdicts 6 = .ok (.if_icmp .ge 41, 3) := by decide +kernel
theorem dX5_missingVerdicts_9 : decode cX5_missingVerdicts 9 = .ok (.aload_n 0, 1) := by decide +kernel
theorem dX5_missingVerdicts_10 : decode cX5_missingVerdicts 10 = .ok (.aload_n 1, 1) := by decide +kernel
theorem dX5_missingVerdicts_11 : decode cX5_missingVerdicts 11 = .ok (.iload_n 3, 1) := by decide +kernel
theorem dX5_missingVerdicts_12 : decode cX5_missingVerdicts 12 = .ok (.invokevirtual 125, 3) := by decide +kernel
theorem dX5_missingVerdicts_15 : decode cX5_missingVerdicts 15 = .ok (.istore 4, 2) := by decide +kernel
theorem dX5_missingVerdicts_17 : decode cX5_missingVerdicts 17 = .ok (.iload 4, 2) := by decide +kernel
theorem dX5_missingVerdicts_19 : decode cX5_missingVerdicts 19 = .ok (.bipush 63, 2) := by decide +kernel
theorem dX5_missingVerdicts_21 : decode cX5_missingVerdicts 21 = .ok (.if_icmp .eq 17, 3) := by decide +kernel
theorem dX5_missingVerdicts_24 : decode cX5_missingVerdicts 24 = .ok (.iload 4, 2) := by decide +kernel
theorem dX5_missingVerdicts_26 : decode cX5_missingVerdicts 26 = .ok (.bipush 110, 2) := by decide +kernel
theorem dX5_missingVerdicts_28 : decode cX5_missingVerdicts 28 = .ok (.if_icmp .eq 10, 3) := by decide +kernel
theorem dX5_missingVerdicts_31 : decode cX5_missingVerdicts 31 = .ok (.iload 4, 2) := by decide +kernel
theorem dX5_missingVerdicts_33 : decode cX5_missingVerdicts 33 = .ok (.bipush 115, 2) := by decide +kernel
theorem dX5_missingVerdicts_35 : decode cX5_missingVerdicts 35 = .ok (.if_icmp .ne 6, 3) := by decide +kernel
theorem dX5_missingVerdicts_38 : decode cX5_missingVerdicts 38 = .ok (.iinc 2 1, 3) := by decide +kernel
theorem dX5_missingVerdicts_41 : decode cX5_missingVerdicts 41 = .ok (.iinc 3 1, 3) := by decide +kernel
theorem dX5_missingVerdicts_44 : decode cX5_missingVerdicts 44 = .ok (.goto (-40), 3) := by decide +kernel
theorem dX5_missingVerdicts_47 : decode cX5_missingVerdicts 47 = .ok (.iload_n 2, 1) := by decide +kernel
theorem dX5_missingVerdicts_48 : decode cX5_missingVerdicts 48 = .ok (.ireturn, 1) := by decide +kernel
theorem dX5_reopen_0 : decode cX5_reopen 0 = .ok (.aload_n 0, 1) := by decide +kernel
theorem dX5_reopen_1 : decode cX5_reopen 1 = .ok (.getfield 32, 3) := by decide +kernel
theorem dX5_reopen_4 : decode cX5_reopen 4 = .ok (.iload_n 1, 1) := by decide +kernel
theorem dX5_reopen_5 : decode cX5_reopen 5 = .ok (.invokevirtual 290, 3) := by decide +kernel
theorem dX5_reopen_8 : decode cX5_reopen 8 = .ok (.aload_n 0, 1) := by decide +kernel
theorem dX5_reopen_9 : decode cX5_reopen 9 = .ok (.getfield 25, 3) := by decide +kernel
theorem dX5_reopen_12 : decode cX5_reopen 12 = .ok (.iload_n 1, 1) := by decide +kernel
theorem dX5_reopen_13 : decode cX5_reopen 13 = .ok (.aaload, 1) := by decide +kernel
theorem dX5_reopen_14 : decode cX5_reopen 14 = .ok (.bipush 111, 2) := by decide +kernel
theorem dX5_reopen_16 : decode cX5_reopen 16 = .ok (.putfield 113, 3) := by decide +kernel
theorem dX5_reopen_19 : decode cX5_reopen 19 = .ok (.return_, 1) := by decide +kernel
theorem dX5_touchesFrozen_0 : decode cX5_touchesFrozen 0 = .ok (.iconst 0, 1) := by decide +kernel
theorem dX5_touchesFrozen_1 : decode cX5_touchesFrozen 1 = .ok (.istore_n 2, 1) := by decide +kernel
theorem dX5_touchesFrozen_2 : decode cX5_touchesFrozen 2 = .ok (.iload_n 2, 1) := by decide +kernel
theorem dX5_touchesFrozen_3 : decode cX5_touchesFrozen 3 = .ok (.iconst 4, 1) := by decide +kernel
theorem dX5_touchesFrozen_4 : decode cX5_touchesFrozen 4 = .ok (.if_icmp .ge 28, 3) := by decide +kernel
theorem dX5_touchesFrozen_7 : decode cX5_touchesFrozen 7 = .ok (.aload_n 0, 1) := by decide +kernel
theorem dX5_touchesFrozen_8 : decode cX5_touchesFrozen 8 = .ok (.getfield 16, 3) := by decide +kernel
theorem dX5_touchesFrozen_11 : decode cX5_touchesFrozen 11 = .ok (.iload_n 2, 1) := by decide +kernel
theorem dX5_touchesFrozen_12 : decode cX5_touchesFrozen 12 = .ok (.baload, 1) := by decide +kernel
theorem dX5_touchesFrozen_13 : decode cX5_touchesFrozen 13 = .ok (.ifCond .eq 13, 3) := by decide +kernel
theorem dX5_touchesFrozen_16 : decode cX5_touchesFrozen 16 = .ok (.aload_n 1, 1) := by decide +kernel
theorem dX5_touchesFrozen_17 : decode cX5_touchesFrozen 17 = .ok (.iload_n 2, 1) := by decide +kernel
theorem dX5_touchesFrozen_18 : decode cX5_touchesFrozen 18 = .ok (.invokevirtual 283, 3) := by decide +kernel
theorem dX5_touchesFrozen_21 : decode cX5_touchesFrozen 21 = .ok (.ifCond .eq 5, 3) := by decide +kernel
theorem dX5_touchesFrozen_24 : decode cX5_touchesFrozen 24 = .ok (.iconst 1, 1) := by decide +kernel
theorem dX5_touchesFrozen_25 : decode cX5_touchesFrozen 25 = .ok (.ireturn, 1) := by decide +kernel
theorem dX5_touchesFrozen_26 : decode cX5_touchesFrozen 26 = .ok (.iinc 2 1, 3) := by decide +kernel
theorem dX5_touchesFrozen_29 : decode cX5_touchesFrozen 29 = .ok (.goto (-27), 3) := by decide +kernel
theorem dX5_touchesFrozen_32 : decode cX5_touchesFrozen 32 = .ok (.iconst 0, 1) := by decide +kernel
theorem dX5_touchesFrozen_33 : decode cX5_touchesFrozen 33 = .ok (.ireturn, 1) := by decide +kernel
theorem dX5_pickBatch_0 : decode cX5_pickBatch 0 = .ok (.iconst 0, 1) := by decide +kernel
theorem dX5_pickBatch_1 : decode cX5_pickBatch 1 = .ok (.istore_n 1, 1) := by decide +kernel
theorem dX5_pickBatch_2 : decode cX5_pickBatch 2 = .ok (.lconst 0, 1) := by decide +kernel
theorem dX5_pickBatch_3 : decode cX5_pickBatch 3 = .ok (.lstore_n 2, 1) := by decide +kernel
theorem dX5_pickBatch_4 : decode cX5_pickBatch 4 = .ok (.iconst 0, 1) := by decide +kernel
theorem dX5_pickBatch_5 : decode cX5_pickBatch 5 = .ok (.istore 4, 2) := by decide +kernel
theorem dX5_pickBatch_7 : decode cX5_pickBatch 7 = .ok (.iload 4, 2) := by decide +kernel
theorem dX5_pickBatch_9 : decode cX5_pickBatch 9 = .ok (.aload_n 0, 1) := by decide +kernel
theorem dX5_pickBatch_10 : decode cX5_pickBatch 10 = .ok (.getfield 32, 3) := by decide +kernel
theorem dX5_pickBatch_13 : decode cX5_pickBatch 13 = .ok (.getfield 159, 3) := by decide +kernel
theorem dX5_pickBatch_16 : decode cX5_pickBatch 16 = .ok (.if_icmp .ge 74, 3) := by decide +kernel
theorem dX5_pickBatch_19 : decode cX5_pickBatch 19 = .ok (.iload_n 1, 1) := by decide +kernel
theorem dX5_pickBatch_20 : decode cX5_pickBatch 20 = .ok (.iconst 4, 1) := by decide +kernel
theorem dX5_pickBatch_21 : decode cX5_pickBatch 21 = .ok (.if_icmp .ge 69, 3) := by decide +kernel
theorem dX5_pickBatch_24 : decode cX5_pickBatch 24 = .ok (.aload_n 0, 1) := by decide +kernel
theorem dX5_pickBatch_25 : decode cX5_pickBatch 25 = .ok (.getfield 32, 3) := by decide +kernel
theorem dX5_pickBatch_28 : decode cX5_pickBatch 28 = .ok (.iload 4, 2) := by decide +kernel
theorem dX5_pickBatch_30 : decode cX5_pickBatch 30 = .ok (.invokevirtual 171, 3) := by decide +kernel
theorem dX5_pickBatch_33 : decode cX5_pickBatch 33 = .ok (.istore 5, 2) := by decide +kernel
theorem dX5_pickBatch_35 : decode cX5_pickBatch 35 = .ok (.aload_n 0, 1) := by decide +kernel
theorem dX5_pickBatch_36 : decode cX5_pickBatch 36 = .ok (.getfield 25, 3) := by decide +kernel
theorem dX5_pickBatch_39 : decode cX5_pickBatch 39 = .ok (.iload 5, 2) := by decide +kernel
theorem dX5_pickBatch_41 : decode cX5_pickBatch 41 = .ok (.aaload, 1) := by decide +kernel
theorem dX5_pickBatch_42 : decode cX5_pickBatch 42 = .ok (.astore 6, 2) := by decide +kernel
theorem dX5_pickBatch_44 : decode cX5_pickBatch 44 = .ok (.aload_n 0, 1) := by decide +kernel
theorem dX5_pickBatch_45 : decode cX5_pickBatch 45 = .ok (.aload 6, 2) := by decide +kernel
theorem dX5_pickBatch_47 : decode cX5_pickBatch 47 = .ok (.invokevirtual 292, 3) := by decide +kernel
theorem dX5_pickBatch_50 : decode cX5_pickBatch 50 = .ok (.ifCond .ne 34, 3) := by decide +kernel
theorem dX5_pickBatch_53 : decode cX5_pickBatch 53 = .ok (.aload 6, 2) := by decide +kernel
theorem dX5_pickBatch_55 : decode cX5_pickBatch 55 = .ok (.getfield 142, 3) := by decide +kernel
theorem dX5_pickBatch_58 : decode cX5_pickBatch 58 = .ok (.lload_n 2, 1) := by decide +kernel
theorem dX5_pickBatch_59 : decode cX5_pickBatch 59 = .ok (.land, 1) := by decide +kernel
theorem dX5_pickBatch_60 : decode cX5_pickBatch 60 = .ok (.lconst 0, 1) := by decide +kernel
theorem dX5_pickBatch_61 : decode cX5_pickBatch 61 = .ok (.lcmp, 1) := by decide +kernel
theorem dX5_pickBatch_62 : decode cX5_pickBatch 62 = .ok (.ifCond .ne 22, 3) := by decide +kernel
theorem dX5_pickBatch_65 : decode cX5_pickBatch 65 = .ok (.aload_n 0, 1) := by decide +kernel
theorem dX5_pickBatch_66 : decode cX5_pickBatch 66 = .ok (.getfield 39, 3) := by decide +kernel
theorem dX5_pickBatch_69 : decode cX5_pickBatch 69 = .ok (.iload_n 1, 1) := by decide +kernel
theorem dX5_pickBatch_70 : decode cX5_pickBatch 70 = .ok (.iload 5, 2) := by decide +kernel
theorem dX5_pickBatch_72 : decode cX5_pickBatch 72 = .ok (.iastore, 1) := by decide +kernel
theorem dX5_pickBatch_73 : decode cX5_pickBatch 73 = .ok (.iinc 1 1, 3) := by decide +kernel
theorem dX5_pickBatch_76 : decode cX5_pickBatch 76 = .ok (.lload_n 2, 1) := by decide +kernel
theorem dX5_pickBatch_77 : decode cX5_pickBatch 77 = .ok (.aload 6, 2) := by decide +kernel
theorem dX5_pickBatch_79 : decode cX5_pickBatch 79 = .ok (.getfield 142, 3) := by decide +kernel
theorem dX5_pickBatch_82 : decode cX5_pickBatch 82 = .ok (.lor, 1) := by decide +kernel
theorem dX5_pickBatch_83 : decode cX5_pickBatch 83 = .ok (.lstore_n 2, 1) := by decide +kernel
theorem dX5_pickBatch_84 : decode cX5_pickBatch 84 = .ok (.iinc 4 1, 3) := by decide +kernel
theorem dX5_pickBatch_87 : decode cX5_pickBatch 87 = .ok (.goto (-80), 3) := by decide +kernel
theorem dX5_pickBatch_90 : decode cX5_pickBatch 90 = .ok (.iload_n 1, 1) := by decide +kernel
theorem dX5_pickBatch_91 : decode cX5_pickBatch 91 = .ok (.ireturn, 1) := by decide +kernel
theorem dX5_tryTogether_0 : decode cX5_tryTogether 0 = .ok (.aload_n 0, 1) := by decide +kernel
theorem dX5_tryTogether_1 : decode cX5_tryTogether 1 = .ok (.iload_n 1, 1) := by decide +kernel
theorem dX5_tryTogether_2 : decode cX5_tryTogether 2 = .ok (.iload_n 2, 1) := by decide +kernel
theorem dX5_tryTogether_3 : decode cX5_tryTogether 3 = .ok (.invokevirtual 296, 3) := by decide +kernel
theorem dX5_tryTogether_6 : decode cX5_tryTogether 6 = .ok (.ifCond .eq 33, 3) := by decide +kernel
theorem dX5_tryTogether_9 : decode cX5_tryTogether 9 = .ok (.iload_n 1, 1) := by decide +kernel
theorem dX5_tryTogether_10 : decode cX5_tryTogether 10 = .ok (.istore 4, 2) := by decide +kernel
theorem dX5_tryTogether_12 : decode cX5_tryTogether 12 = .ok (.iload 4, 2) := by decide +kernel
theorem dX5_tryTogether_14 : decode cX5_tryTogether 14 = .ok (.iload_n 2, 1) := by decide +kernel
theorem dX5_tryTogether_15 : decode cX5_tryTogether 15 = .ok (.if_icmp .ge 20, 3) := by decide +kernel
theorem dX5_tryTogether_18 : decode cX5_tryTogether 18 = .ok (.aload_n 0, 1) := by decide +kernel
theorem dX5_tryTogether_19 : decode cX5_tryTogether 19 = .ok (.aload_n 0, 1) := by decide +kernel
theorem dX5_tryTogether_20 : decode cX5_tryTogether 20 = .ok (.getfield 39, 3) := by decide +kernel
theorem dX5_tryTogether_23 : decode cX5_tryTogether 23 = .ok (.iload 4, 2) := by decide +kernel
theorem dX5_tryTogether_25 : decode cX5_tryTogether 25 = .ok (.iaload, 1) := by decide +kernel
theorem dX5_tryTogether_26 : decode cX5_tryTogether 26 = .ok (.invokevirtual 300, 3) := by decide +kernel
theorem dX5_tryTogether_29 : decode cX5_tryTogether 29 = .ok (.iinc 4 1, 3) := by decide +kernel
theorem dX5_tryTogether_32 : decode cX5_tryTogether 32 = .ok (.goto (-20), 3) := by decide +kernel
theorem dX5_tryTogether_35 : decode cX5_tryTogether 35 = .ok (.iload_n 2, 1) := by decide +kernel
theorem dX5_tryTogether_36 : decode cX5_tryTogether 36 = .ok (.iload_n 1, 1) := by decide +kernel
theorem dX5_tryTogether_37 : decode cX5_tryTogether 37 = .ok (.isub, 1) := by decide +kernel
theorem dX5_tryTogether_38 : decode cX5_tryTogether 38 = .ok (.ireturn, 1) := by decide +kernel
theorem dX5_tryTogether_39 : decode cX5_tryTogether 39 = .ok (.iload_n 2, 1) := by decide +kernel
theorem dX5_tryTogether_40 : decode cX5_tryTogether 40 = .ok (.iload_n 1, 1) := by decide +kernel
theorem dX5_tryTogether_41 : decode cX5_tryTogether 41 = .ok (.isub, 1) := by decide +kernel
theorem dX5_tryTogether_42 : decode cX5_tryTogether 42 = .ok (.iconst 1, 1) := by decide +kernel
theorem dX5_tryTogether_43 : decode cX5_tryTogether 43 = .ok (.if_icmp .le 13, 3) := by decide +kernel
theorem dX5_tryTogether_46 : decode cX5_tryTogether 46 = .ok (.aload_n 0, 1) := by decide +kernel
theorem dX5_tryTogether_47 : decode cX5_tryTogether 47 = .ok (.iload_n 1, 1) := by decide +kernel
theorem dX5_tryTogether_48 : decode cX5_tryTogether 48 = .ok (.iload_n 2, 1) := by decide +kernel
theorem dX5_tryTogether_49 : decode cX5_tryTogether 49 = .ok (.iload_n 3, 1) := by decide +kernel
theorem dX5_tryTogether_50 : decode cX5_tryTogether 50 = .ok (.iconst 1, 1) := by decide +kernel
theorem dX5_tryTogether_51 : decode cX5_tryTogether 51 = .ok (.iadd, 1) := by decide +kernel
theorem dX5_tryTogether_52 : decode cX5_tryTogether 52 = .ok (.invokevirtual 303, 3) := by decide +kernel
theorem dX5_tryTogether_55 : decode cX5_tryTogether 55 = .ok (.ireturn, 1) := by decide +kernel
theorem dX5_tryTogether_56 : decode cX5_tryTogether 56 = .ok (.aload_n 0, 1) := by decide +kernel
theorem dX5_tryTogether_57 : decode cX5_tryTogether 57 = .ok (.aload_n 0, 1) := by decide +kernel
theorem dX5_tryTogether_58 : decode cX5_tryTogether 58 = .ok (.getfield 39, 3) := by decide +kernel
theorem dX5_tryTogether_61 : decode cX5_tryTogether 61 = .ok (.iload_n 1, 1) := by decide +kernel
theorem dX5_tryTogether_62 : decode cX5_tryTogether 62 = .ok (.iaload, 1) := by decide +kernel
theorem dX5_tryTogether_63 : decode cX5_tryTogether 63 = .ok (.invokevirtual 164, 3) := by decide +kernel
theorem dX5_tryTogether_66 : decode cX5_tryTogether 66 = .ok (.aload_n 0, 1) := by decide +kernel
theorem dX5_tryTogether_67 : decode cX5_tryTogether 67 = .ok (.getfield 25, 3) := by decide +kernel
theorem dX5_tryTogether_70 : decode cX5_tryTogether 70 = .ok (.aload_n 0, 1) := by decide +kernel
theorem dX5_tryTogether_71 : decode cX5_tryTogether 71 = .ok (.getfield 39, 3) := by decide +kernel
theorem dX5_tryTogether_74 : decode cX5_tryTogether 74 = .ok (.iload_n 1, 1) := by decide +kernel
theorem dX5_tryTogether_75 : decode cX5_tryTogether 75 = .ok (.iaload, 1) := by decide +kernel
theorem dX5_tryTogether_76 : decode cX5_tryTogether 76 = .ok (.aaload, 1) := by decide +kernel
theorem dX5_tryTogether_77 : decode cX5_tryTogether 77 = .ok (.iconst 1, 1) := by decide +kernel
theorem dX5_tryTogether_78 : decode cX5_tryTogether 78 = .ok (.putfield 184, 3) := by decide +kernel
theorem dX5_tryTogether_81 : decode cX5_tryTogether 81 = .ok (.iconst 0, 1) := by decide +kernel
theorem dX5_tryTogether_82 : decode cX5_tryTogether 82 = .ok (.ireturn, 1) := by decide +kernel
theorem dX5_tryHalves_0 : decode cX5_tryHalves 0 = .ok (.iload_n 3, 1) := by decide +kernel
theorem dX5_tryHalves_1 : decode cX5_tryHalves 1 = .ok (.iconst 2, 1) := by decide +kernel
theorem dX5_tryHalves_2 : decode cX5_tryHalves 2 = .ok (.if_icmp .le 5, 3) := by decide +kernel
theorem dX5_tryHalves_5 : decode cX5_tryHalves 5 = .ok (.iconst 0, 1) := by decide +kernel
theorem dX5_tryHalves_6 : decode cX5_tryHalves 6 = .ok (.ireturn, 1) := by decide +kernel
theorem dX5_tryHalves_7 : decode cX5_tryHalves 7 = .ok (.iload_n 1, 1) := by decide +kernel
theorem dX5_tryHalves_8 : decode cX5_tryHalves 8 = .ok (.iload_n 2, 1) := by decide +kernel
theorem dX5_tryHalves_9 : decode cX5_tryHalves 9 = .ok (.iload_n 1, 1) := by decide +kernel
theorem dX5_tryHalves_10 : decode cX5_tryHalves 10 = .ok (.isub, 1) := by decide +kernel
theorem dX5_tryHalves_11 : decode cX5_tryHalves 11 = .ok (.iconst 2, 1) := by decide +kernel
theorem dX5_tryHalves_12 : decode cX5_tryHalves 12 = .ok (.idiv, 1) := by decide +kernel
theorem dX5_tryHalves_13 : decode cX5_tryHalves 13 = .ok (.iadd, 1) := by decide +kernel
theorem dX5_tryHalves_14 : decode cX5_tryHalves 14 = .ok (.istore 4, 2) := by decide +kernel
theorem dX5_tryHalves_16 : decode cX5_tryHalves 16 = .ok (.aload_n 0, 1) := by decide +kernel
theorem dX5_tryHalves_17 : decode cX5_tryHalves 17 = .ok (.iload_n 1, 1) := by decide +kernel
theorem dX5_tryHalves_18 : decode cX5_tryHalves 18 = .ok (.iload 4, 2) := by decide +kernel
theorem dX5_tryHalves_20 : decode cX5_tryHalves 20 = .ok (.iload_n 3, 1) := by decide +kernel
theorem dX5_tryHalves_21 : decode cX5_tryHalves 21 = .ok (.invokevirtual 180, 3) := by decide +kernel
theorem dX5_tryHalves_24 : decode cX5_tryHalves 24 = .ok (.istore 5, 2) := by decide +kernel
theorem dX5_tryHalves_26 : decode cX5_tryHalves 26 = .ok (.iload 5, 2) := by decide +kernel
theorem dX5_tryHalves_28 : decode cX5_tryHalves 28 = .ok (.aload_n 0, 1) := by decide +kernel
theorem dX5_tryHalves_29 : decode cX5_tryHalves 29 = .ok (.iload 4, 2) := by decide +kernel
theorem dX5_tryHalves_31 : decode cX5_tryHalves 31 = .ok (.iload_n 2, 1) := by decide +kernel
theorem dX5_tryHalves_32 : decode cX5_tryHalves 32 = .ok (.iload_n 3, 1) := by decide +kernel
theorem dX5_tryHalves_33 : decode cX5_tryHalves 33 = .ok (.invokevirtual 180, 3) := by decide +kernel
theorem dX5_tryHalves_36 : decode cX5_tryHalves 36 = .ok (.iadd, 1) := by decide +kernel
theorem dX5_tryHalves_37 : decode cX5_tryHalves 37 = .ok (.ireturn, 1) := by decide +kernel
theorem dX5_isGoodWithBatch_0 : decode cX5_isGoodWithBatch 0 = .ok (.aload_n 0, 1) := by decide +kernel
theorem dX5_isGoodWithBatch_1 : decode cX5_isGoodWithBatch 1 = .ok (.getfield 42, 3) := by decide +kernel
theorem dX5_isGoodWithBatch_4 : decode cX5_isGoodWithBatch 4 = .ok (.iconst 0, 1) := by decide +kernel
theorem dX5_isGoodWithBatch_5 : decode cX5_isGoodWithBatch 5 = .ok (.aload_n 0, 1) := by decide +kernel
theorem dX5_isGoodWithBatch_6 : decode cX5_isGoodWithBatch 6 = .ok (.getfield 45, 3) := by decide +kernel
theorem dX5_isGoodWithBatch_9 : decode cX5_isGoodWithBatch 9 = .ok (.iconst 0, 1) := by decide +kernel
theorem dX5_isGoodWithBatch_10 : decode cX5_isGoodWithBatch 10 = .ok (.bipush 64, 2) := by decide +kernel
theorem dX5_isGoodWithBatch_12 : decode cX5_isGoodWithBatch 12 = .ok (.invokestatic 242, 3) := by decide +kernel
theorem dX5_isGoodWithBatch_15 : decode cX5_isGoodWithBatch 15 = .ok (.iload_n 1, 1) := by decide +kernel
theorem dX5_isGoodWithBatch_16 : decode cX5_isGoodWithBatch 16 = .ok (.istore_n 3, 1) := by decide +kernel
theorem dX5_isGoodWithBatch_17 : decode cX5_isGoodWithBatch 17 = .ok (.iload_n 3, 1) := by decide +kernel
theorem dX5_isGoodWithBatch_18 : decode cX5_isGoodWithBatch 18 = .ok (.iload_n 2, 1) := by decide +kernel
theorem dX5_isGoodWithBatch_19 : decode cX5_isGoodWithBatch 19 = .ok (.if_icmp .ge 27, 3) := by decide +kernel
theorem dX5_isGoodWithBatch_22 : decode cX5_isGoodWithBatch 22 = .ok (.aload_n 0, 1) := by decide +kernel
theorem dX5_isGoodWithBatch_23 : decode cX5_isGoodWithBatch 23 = .ok (.getfield 25, 3) := by decide +kernel
theorem dX5_isGoodWithBatch_26 : decode cX5_isGoodWithBatch 26 = .ok (.aload_n 0, 1) := by decide +kernel
theorem dX5_isGoodWithBatch_27 : decode cX5_isGoodWithBatch 27 = .ok (.getfield 39, 3) := by decide +kernel
theorem dX5_isGoodWithBatch_30 : decode cX5_isGoodWithBatch 30 = .ok (.iload_n 3, 1) := by decide +kernel
theorem dX5_isGoodWithBatch_31 : decode cX5_isGoodWithBatch 31 = .ok (.iaload, 1) := by decide +kernel
theorem dX5_isGoodWithBatch_32 : decode cX5_isGoodWithBatch 32 = .ok (.aaload, 1) := by decide +kernel
theorem dX5_isGoodWithBatch_33 : decode cX5_isGoodWithBatch 33 = .ok (.aload_n 0, 1) := by decide +kernel
theorem dX5_isGoodWithBatch_34 : decode cX5_isGoodWithBatch 34 = .ok (.getfield 45, 3) := by decide +kernel
theorem dX5_isGoodWithBatch_37 : decode cX5_isGoodWithBatch 37 = .ok (.invokevirtual 306, 3) := by decide +kernel
theorem dX5_isGoodWithBatch_40 : decode cX5_isGoodWithBatch 40 = .ok (.iinc 3 1, 3) := by decide +kernel
theorem dX5_isGoodWithBatch_43 : decode cX5_isGoodWithBatch 43 = .ok (.goto (-26), 3) := by decide +kernel
theorem dX5_isGoodWithBatch_46 : decode cX5_isGoodWithBatch 46 = .ok (.aload_n 0, 1) := by decide +kernel
theorem dX5_isGoodWithBatch_47 : decode cX5_isGoodWithBatch 47 = .ok (.getfield 51, 3) := by decide +kernel
theorem dX5_isGoodWithBatch_50 : decode cX5_isGoodWithBatch 50 = .ok (.aload_n 0, 1) := by decide +kernel
theorem dX5_isGoodWithBatch_51 : decode cX5_isGoodWithBatch 51 = .ok (.getfield 45, 3) := by decide +kernel
theorem dX5_isGoodWithBatch_54 : decode cX5_isGoodWithBatch 54 = .ok (.invokevirtual 310, 3) := by decide +kernel
theorem dX5_isGoodWithBatch_57 : decode cX5_isGoodWithBatch 57 = .ok (.ireturn, 1) := by decide +kernel
theorem dX5_merge_0 : decode cX5_merge 0 = .ok (.aload_n 0, 1) := by decide +kernel
theorem dX5_merge_1 : decode cX5_merge 1 = .ok (.getfield 25, 3) := by decide +kernel
theorem dX5_merge_4 : decode cX5_merge 4 = .ok (.iload_n 1, 1) := by decide +kernel
theorem dX5_merge_5 : decode cX5_merge 5 = .ok (.aaload, 1) := by decide +kernel
theorem dX5_merge_6 : decode cX5_merge 6 = .ok (.astore_n 2, 1) := by decide +kernel
theorem dX5_merge_7 : decode cX5_merge 7 = .ok (.aload_n 0, 1) := by decide +kernel
theorem dX5_merge_8 : decode cX5_merge 8 = .ok (.getfield 32, 3) := by decide +kernel
theorem dX5_merge_11 : decode cX5_merge 11 = .ok (.iload_n 1, 1) := by decide +kernel
theorem dX5_merge_12 : decode cX5_merge 12 = .ok (.invokevirtual 290, 3) := by decide +kernel
theorem dX5_merge_15 : decode cX5_merge 15 = .ok (.aload_n 0, 1) := by decide +kernel
theorem dX5_merge_16 : decode cX5_merge 16 = .ok (.getfield 36, 3) := by decide +kernel
theorem dX5_merge_19 : decode cX5_merge 19 = .ok (.iload_n 1, 1) := by decide +kernel
theorem dX5_merge_20 : decode cX5_merge 20 = .ok (.invokevirtual 156, 3) := by decide +kernel
theorem dX5_merge_23 : decode cX5_merge 23 = .ok (.aload_n 2, 1) := by decide +kernel
theorem dX5_merge_24 : decode cX5_merge 24 = .ok (.bipush 109, 2) := by decide +kernel
theorem dX5_merge_26 : decode cX5_merge 26 = .ok (.putfield 113, 3) := by decide +kernel
theorem dX5_merge_29 : decode cX5_merge 29 = .ok (.aload_n 2, 1) := by decide +kernel
theorem dX5_merge_30 : decode cX5_merge 30 = .ok (.iconst 0, 1) := by decide +kernel
theorem dX5_merge_31 : decode cX5_merge 31 = .ok (.putfield 184, 3) := by decide +kernel
theorem dX5_merge_34 : decode cX5_merge 34 = .ok (.aload_n 2, 1) := by decide +kernel
theorem dX5_merge_35 : decode cX5_merge 35 = .ok (.aload_n 0, 1) := by decide +kernel
theorem dX5_merge_36 : decode cX5_merge 36 = .ok (.getfield 42, 3) := by decide +kernel
theorem dX5_merge_39 : decode cX5_merge 39 = .ok (.invokevirtual 306, 3) := by decide +kernel
theorem dX5_merge_42 : decode cX5_merge 42 = .ok (.iconst 0, 1) := by decide +kernel
theorem dX5_merge_43 : decode cX5_merge 43 = .ok (.istore_n 3, 1) := by decide +kernel
theorem dX5_merge_44 : decode cX5_merge 44 = .ok (.iload_n 3, 1) := by decide +kernel
theorem dX5_merge_45 : decode cX5_merge 45 = .ok (.aload_n 0, 1) := by decide +kernel
theorem dX5_merge_46 : decode cX5_merge 46 = .ok (.getfield 70, 3) := by decide +kernel
theorem dX5_merge_49 : decode cX5_merge 49 = .ok (.if_icmp .ge 23, 3) := by decide +kernel
theorem dX5_merge_52 : decode cX5_merge 52 = .ok (.iload_n 3, 1) := by decide +kernel
theorem dX5_merge_53 : decode cX5_merge 53 = .ok (.iload_n 1, 1) := by decide +kernel
theorem dX5_merge_54 : decode cX5_merge 54 = .ok (.if_icmp .eq 12, 3) := by decide +kernel
theorem dX5_merge_57 : decode cX5_merge 57 = .ok (.aload_n 0, 1) := by decide +kernel
theorem dX5_merge_58 : decode cX5_merge 58 = .ok (.iload_n 3, 1) := by decide +kernel
theorem dX5_merge_59 : decode cX5_merge 59 = .ok (.aload_n 2, 1) := by decide +kernel
theorem dX5_merge_60 : decode cX5_merge 60 = .ok (.getfield 142, 3) := by decide +kernel
theorem dX5_merge_63 : decode cX5_merge 63 = .ok (.invokevirtual 314, 3) := by decide +kernel
theorem dX5_merge_66 : decode cX5_merge 66 = .ok (.iinc 3 1, 3) := by decide +kernel
theorem dX5_merge_69 : decode cX5_merge 69 = .ok (.goto (-25), 3) := by decide +kernel
theorem dX5_merge_72 : decode cX5_merge 72 = .ok (.return_, 1) := by decide +kernel
theorem dX5_clashIfShared_0 : decode cX5_clashIfShared 0 = .ok (.aload_n 0, 1) := by decide +kernel
theorem dX5_clashIfShared_1 : decode cX5_clashIfShared 1 = .ok (.getfield 25, 3) := by decide +kernel
theorem dX5_clashIfShared_4 : decode cX5_clashIfShared 4 = .ok (.iload_n 1, 1) := by decide +kernel
theorem dX5_clashIfShared_5 : decode cX5_clashIfShared 5 = .ok (.aaload, 1) := by decide +kernel
theorem dX5_clashIfShared_6 : decode cX5_clashIfShared 6 = .ok (.astore 4, 2) := by decide +kernel
theorem dX5_clashIfShared_8 : decode cX5_clashIfShared 8 = .ok (.aload 4, 2) := by decide +kernel
theorem dX5_clashIfShared_10 : decode cX5_clashIfShared 10 = .ok (.getfield 142, 3) := by decide +kernel
theorem dX5_clashIfShared_13 : decode cX5_clashIfShared 13 = .ok (.lload_n 2, 1) := by decide +kernel
theorem dX5_clashIfShared_14 : decode cX5_clashIfShared 14 = .ok (.land, 1) := by decide +kernel
theorem dX5_clashIfShared_15 : decode cX5_clashIfShared 15 = .ok (.lstore 5, 2) := by decide +kernel
theorem dX5_clashIfShared_17 : decode cX5_clashIfShared 17 = .ok (.lload 5, 2) := by decide +kernel
theorem dX5_clashIfShared_19 : decode cX5_clashIfShared 19 = .ok (.lconst 0, 1) := by decide +kernel
theorem dX5_clashIfShared_20 : decode cX5_clashIfShared 20 = .ok (.lcmp, 1) := by decide +kernel
theorem dX5_clashIfShared_21 : decode cX5_clashIfShared 21 = .ok (.ifCond .eq 23, 3) := by decide +kernel
theorem dX5_clashIfShared_24 : decode cX5_clashIfShared 24 = .ok (.aload 4, 2) := by decide +kernel
theorem dX5_clashIfShared_26 : decode cX5_clashIfShared 26 = .ok (.getfield 113, 3) := by decide +kernel
theorem dX5_clashIfShared_29 : decode cX5_clashIfShared 29 = .ok (.bipush 111, 2) := by decide +kernel
theorem dX5_clashIfShared_31 : decode cX5_clashIfShared 31 = .ok (.if_icmp .eq 14, 3) := by decide +kernel
theorem dX5_clashIfShared_34 : decode cX5_clashIfShared 34 = .ok (.aload 4, 2) := by decide +kernel
theorem dX5_clashIfShared_36 : decode cX5_clashIfShared 36 = .ok (.getfield 113, 3) := by decide +kernel
theorem dX5_clashIfShared_39 : decode cX5_clashIfShared 39 = .ok (.bipush 113, 2) := by decide +kernel
theorem dX5_clashIfShared_41 : decode cX5_clashIfShared 41 = .ok (.if_icmp .eq 4, 3) := by decide +kernel
theorem dX5_clashIfShared_44 : decode cX5_clashIfShared 44 = .ok (.return_, 1) := by decide +kernel
theorem dX5_clashIfShared_45 : decode cX5_clashIfShared 45 = .ok (.aload 4, 2) := by decide +kernel
theorem dX5_clashIfShared_47 : decode cX5_clashIfShared 47 = .ok (.dup, 1) := by decide +kernel
theorem dX5_clashIfShared_48 : decode cX5_clashIfShared 48 = .ok (.getfield 146, 3) := by decide +kernel
theorem dX5_clashIfShared_51 : decode cX5_clashIfShared 51 = .ok (.lload 5, 2) := by decide +kernel
theorem dX5_clashIfShared_53 : decode cX5_clashIfShared 53 = .ok (.lor, 1) := by decide +kernel
theorem dX5_clashIfShared_54 : decode cX5_clashIfShared 54 = .ok (.putfield 146, 3) := by decide +kernel
theorem dX5_clashIfShared_57 : decode cX5_clashIfShared 57 = .ok (.aload 4, 2) := by decide +kernel
theorem dX5_clashIfShared_59 : decode cX5_clashIfShared 59 = .ok (.getfield 113, 3) := by decide +kernel
theorem dX5_clashIfShared_62 : decode cX5_clashIfShared 62 = .ok (.bipush 113, 2) := by decide +kernel
theorem dX5_clashIfShared_64 : decode cX5_clashIfShared 64 = .ok (.if_icmp .ne 8, 3) := by decide +kernel
theorem dX5_clashIfShared_67 : decode cX5_clashIfShared 67 = .ok (.aload_n 0, 1) := by decide +kernel
theorem dX5_clashIfShared_68 : decode cX5_clashIfShared 68 = .ok (.iload_n 1, 1) := by decide +kernel
theorem dX5_clashIfShared_69 : decode cX5_clashIfShared 69 = .ok (.invokevirtual 164, 3) := by decide +kernel
theorem dX5_clashIfShared_72 : decode cX5_clashIfShared 72 = .ok (.return_, 1) := by decide +kernel
theorem dX5_replayedValue_0 : decode cX5_replayedValue 0 = .ok (.iconst 0, 1) := by decide +kernel
theorem dX5_replayedValue_1 : decode cX5_replayedValue 1 = .ok (.istore_n 2, 1) := by decide +kernel
theorem dX5_replayedValue_2 : decode cX5_replayedValue 2 = .ok (.iconst 0, 1) := by decide +kernel
theorem dX5_replayedValue_3 : decode cX5_replayedValue 3 = .ok (.istore_n 3, 1) := by decide +kernel
theorem dX5_replayedValue_4 : decode cX5_replayedValue 4 = .ok (.iload_n 3, 1) := by decide +kernel
theorem dX5_replayedValue_5 : decode cX5_replayedValue 5 = .ok (.aload_n 0, 1) := by decide +kernel
theorem dX5_replayedValue_6 : decode cX5_replayedValue 6 = .ok (.getfield 36, 3) := by decide +kernel
theorem dX5_replayedValue_9 : decode cX5_replayedValue 9 = .ok (.getfield 159, 3) := by decide +kernel
theorem dX5_replayedValue_12 : decode cX5_replayedValue 12 = .ok (.if_icmp .ge 41, 3) := by decide +kernel
theorem dX5_replayedValue_15 : decode cX5_replayedValue 15 = .ok (.aload_n 0, 1) := by decide +kernel
theorem dX5_replayedValue_16 : decode cX5_replayedValue 16 = .ok (.getfield 25, 3) := by decide +kernel
theorem dX5_replayedValue_19 : decode cX5_replayedValue 19 = .ok (.aload_n 0, 1) := by decide +kernel
theorem dX5_replayedValue_20 : decode cX5_replayedValue 20 = .ok (.getfield 36, 3) := by decide +kernel
theorem dX5_replayedValue_23 : decode cX5_replayedValue 23 = .ok (.iload_n 3, 1) := by decide +kernel
theorem dX5_replayedValue_24 : decode cX5_replayedValue 24 = .ok (.invokevirtual 171, 3) := by decide +kernel
theorem dX5_replayedValue_27 : decode cX5_replayedValue 27 = .ok (.aaload, 1) := by decide +kernel
theorem dX5_replayedValue_28 : decode cX5_replayedValue 28 = .ok (.astore 4, 2) := by decide +kernel
theorem dX5_replayedValue_30 : decode cX5_replayedValue 30 = .ok (.aload 4, 2) := by decide +kernel
theorem dX5_replayedValue_32 : decode cX5_replayedValue 32 = .ok (.iload_n 1, 1) := by decide +kernel
theorem dX5_replayedValue_33 : decode cX5_replayedValue 33 = .ok (.invokevirtual 104, 3) := by decide +kernel
theorem dX5_replayedValue_36 : decode cX5_replayedValue 36 = .ok (.ifCond .eq 11, 3) := by decide +kernel
theorem dX5_replayedValue_39 : decode cX5_replayedValue 39 = .ok (.aload 4, 2) := by decide +kernel
theorem dX5_replayedValue_41 : decode cX5_replayedValue 41 = .ok (.getfield 223, 3) := by decide +kernel
theorem dX5_replayedValue_44 : decode cX5_replayedValue 44 = .ok (.iload_n 1, 1) := by decide +kernel
theorem dX5_replayedValue_45 : decode cX5_replayedValue 45 = .ok (.iaload, 1) := by decide +kernel
theorem dX5_replayedValue_46 : decode cX5_replayedValue 46 = .ok (.istore_n 2, 1) := by decide +kernel
theorem dX5_replayedValue_47 : decode cX5_replayedValue 47 = .ok (.iinc 3 1, 3) := by decide +kernel
theorem dX5_replayedValue_50 : decode cX5_replayedValue 50 = .ok (.goto (-46), 3) := by decide +kernel
theorem dX5_replayedValue_53 : decode cX5_replayedValue 53 = .ok (.iload_n 2, 1) := by decide +kernel
theorem dX5_replayedValue_54 : decode cX5_replayedValue 54 = .ok (.ireturn, 1) := by decide +kernel
theorem dX5_goingAlong_0 : decode cX5_goingAlong 0 = .ok (.iconst 0, 1) := by decide +kernel
theorem dX5_goingAlong_1 : decode cX5_goingAlong 1 = .ok (.istore_n 2, 1) := by decide +kernel
theorem dX5_goingAlong_2 : decode cX5_goingAlong 2 = .ok (.lconst 0, 1) := by decide +kernel
theorem dX5_goingAlong_3 : decode cX5_goingAlong 3 = .ok (.lstore_n 3, 1) := by decide +kernel
theorem dX5_goingAlong_4 : decode cX5_goingAlong 4 = .ok (.iconst 0, 1) := by decide +kernel
theorem dX5_goingAlong_5 : decode cX5_goingAlong 5 = .ok (.istore 5, 2) := by decide +kernel
theorem dX5_goingAlong_7 : decode cX5_goingAlong 7 = .ok (.iload 5, 2) := by decide +kernel
theorem dX5_goingAlong_9 : decode cX5_goingAlong 9 = .ok (.aload_n 0, 1) := by decide +kernel
theorem dX5_goingAlong_10 : decode cX5_goingAlong 10 = .ok (.getfield 36, 3) := by decide +kernel
theorem dX5_goingAlong_13 : decode cX5_goingAlong 13 = .ok (.getfield 159, 3) := by decide +kernel
theorem dX5_goingAlong_16 : decode cX5_goingAlong 16 = .ok (.if_icmp .ge 62, 3) := by decide +kernel
theorem dX5_goingAlong_19 : decode cX5_goingAlong 19 = .ok (.aload_n 0, 1) := by decide +kernel
theorem dX5_goingAlong_20 : decode cX5_goingAlong 20 = .ok (.getfield 36, 3) := by decide +kernel
theorem dX5_goingAlong_23 : decode cX5_goingAlong 23 = .ok (.iload 5, 2) := by decide +kernel
theorem dX5_goingAlong_25 : decode cX5_goingAlong 25 = .ok (.invokevirtual 171, 3) := by decide +kernel
theorem dX5_goingAlong_28 : decode cX5_goingAlong 28 = .ok (.istore 6, 2) := by decide +kernel
theorem dX5_goingAlong_30 : decode cX5_goingAlong 30 = .ok (.aload_n 0, 1) := by decide +kernel
theorem dX5_goingAlong_31 : decode cX5_goingAlong 31 = .ok (.getfield 25, 3) := by decide +kernel
theorem dX5_goingAlong_34 : decode cX5_goingAlong 34 = .ok (.iload 6, 2) := by decide +kernel
theorem dX5_goingAlong_36 : decode cX5_goingAlong 36 = .ok (.aaload, 1) := by decide +kernel
theorem dX5_goingAlong_37 : decode cX5_goingAlong 37 = .ok (.astore 7, 2) := by decide +kernel
theorem dX5_goingAlong_39 : decode cX5_goingAlong 39 = .ok (.iload 6, 2) := by decide +kernel
theorem dX5_goingAlong_41 : decode cX5_goingAlong 41 = .ok (.iload_n 1, 1) := by decide +kernel
theorem dX5_goingAlong_42 : decode cX5_goingAlong 42 = .ok (.if_icmp .eq 15, 3) := by decide +kernel
theorem dX5_goingAlong_45 : decode cX5_goingAlong 45 = .ok (.aload 7, 2) := by decide +kernel
theorem dX5_goingAlong_47 : decode cX5_goingAlong 47 = .ok (.getfield 142, 3) := by decide +kernel
theorem dX5_goingAlong_50 : decode cX5_goingAlong 50 = .ok (.lload_n 3, 1) := by decide +kernel
theorem dX5_goingAlong_51 : decode cX5_goingAlong 51 = .ok (.land, 1) := by decide +kernel
theorem dX5_goingAlong_52 : decode cX5_goingAlong 52 = .ok (.lconst 0, 1) := by decide +kernel
theorem dX5_goingAlong_53 : decode cX5_goingAlong 53 = .ok (.lcmp, 1) := by decide +kernel
theorem dX5_goingAlong_54 : decode cX5_goingAlong 54 = .ok (.ifCond .eq 18, 3) := by decide +kernel
theorem dX5_goingAlong_57 : decode cX5_goingAlong 57 = .ok (.iload_n 2, 1) := by decide +kernel
theorem dX5_goingAlong_58 : decode cX5_goingAlong 58 = .ok (.iconst 1, 1) := by decide +kernel
theorem dX5_goingAlong_59 : decode cX5_goingAlong 59 = .ok (.iload 6, 2) := by decide +kernel
theorem dX5_goingAlong_61 : decode cX5_goingAlong 61 = .ok (.ishl, 1) := by decide +kernel
theorem dX5_goingAlong_62 : decode cX5_goingAlong 62 = .ok (.ior, 1) := by decide +kernel
theorem dX5_goingAlong_63 : decode cX5_goingAlong 63 = .ok (.istore_n 2, 1) := by decide +kernel
theorem dX5_goingAlong_64 : decode cX5_goingAlong 64 = .ok (.lload_n 3, 1) := by decide +kernel
theorem dX5_goingAlong_65 : decode cX5_goingAlong 65 = .ok (.aload 7, 2) := by decide +kernel
theorem dX5_goingAlong_67 : decode cX5_goingAlong 67 = .ok (.getfield 142, 3) := by decide +kernel
theorem dX5_goingAlong_70 : decode cX5_goingAlong 70 = .ok (.lor, 1) := by decide +kernel
theorem dX5_goingAlong_71 : decode cX5_goingAlong 71 = .ok (.lstore_n 3, 1) := by decide +kernel
theorem dX5_goingAlong_72 : decode cX5_goingAlong 72 = .ok (.iinc 5 1, 3) := by decide +kernel
theorem dX5_goingAlong_75 : decode cX5_goingAlong 75 = .ok (.goto (-68), 3) := by decide +kernel
theorem dX5_goingAlong_78 : decode cX5_goingAlong 78 = .ok (.iload_n 2, 1) := by decide +kernel
theorem dX5_goingAlong_79 : decode cX5_goingAlong 79 = .ok (.ireturn, 1) := by decide +kernel
theorem dX5_isGoodWithout_0 : decode cX5_isGoodWithout 0 = .ok (.aload_n 0, 1) := by decide +kernel
theorem dX5_isGoodWithout_1 : decode cX5_isGoodWithout 1 = .ok (.getfield 45, 3) := by decide +kernel
theorem dX5_isGoodWithout_4 : decode cX5_isGoodWithout 4 = .ok (.iconst 0, 1) := by decide +kernel
theorem dX5_isGoodWithout_5 : decode cX5_isGoodWithout 5 = .ok (.invokestatic 318, 3) := by decide +kernel
theorem dX5_isGoodWithout_8 : decode cX5_isGoodWithout 8 = .ok (.iconst 0, 1) := by decide +kernel
theorem dX5_isGoodWithout_9 : decode cX5_isGoodWithout 9 = .ok (.istore_n 2, 1) := by decide +kernel
theorem dX5_isGoodWithout_10 : decode cX5_isGoodWithout 10 = .ok (.iload_n 2, 1) := by decide +kernel
theorem dX5_isGoodWithout_11 : decode cX5_isGoodWithout 11 = .ok (.aload_n 0, 1) := by decide +kernel
theorem dX5_isGoodWithout_12 : decode cX5_isGoodWithout 12 = .ok (.getfield 36, 3) := by decide +kernel
theorem dX5_isGoodWithout_15 : decode cX5_isGoodWithout 15 = .ok (.getfield 159, 3) := by decide +kernel
theorem dX5_isGoodWithout_18 : decode cX5_isGoodWithout 18 = .ok (.if_icmp .ge 39, 3) := by decide +kernel
theorem dX5_isGoodWithout_21 : decode cX5_isGoodWithout 21 = .ok (.aload_n 0, 1) := by decide +kernel
theorem dX5_isGoodWithout_22 : decode cX5_isGoodWithout 22 = .ok (.getfield 36, 3) := by decide +kernel
theorem dX5_isGoodWithout_25 : decode cX5_isGoodWithout 25 = .ok (.iload_n 2, 1) := by decide +kernel
theorem dX5_isGoodWithout_26 : decode cX5_isGoodWithout 26 = .ok (.invokevirtual 171, 3) := by decide +kernel
theorem dX5_isGoodWithout_29 : decode cX5_isGoodWithout 29 = .ok (.istore_n 3, 1) := by decide +kernel
theorem dX5_isGoodWithout_30 : decode cX5_isGoodWithout 30 = .ok (.iload_n 1, 1) := by decide +kernel
theorem dX5_isGoodWithout_31 : decode cX5_isGoodWithout 31 = .ok (.iconst 1, 1) := by decide +kernel
theorem dX5_isGoodWithout_32 : decode cX5_isGoodWithout 32 = .ok (.iload_n 3, 1) := by decide +kernel
theorem dX5_isGoodWithout_33 : decode cX5_isGoodWithout 33 = .ok (.ishl, 1) := by decide +kernel
theorem dX5_isGoodWithout_34 : decode cX5_isGoodWithout 34 = .ok (.iand, 1) := by decide +kernel
theorem dX5_isGoodWithout_35 : decode cX5_isGoodWithout 35 = .ok (.ifCond .ne 16, 3) := by decide +kernel
theorem dX5_isGoodWithout_38 : decode cX5_isGoodWithout 38 = .ok (.aload_n 0, 1) := by decide +kernel
theorem dX5_isGoodWithout_39 : decode cX5_isGoodWithout 39 = .ok (.getfield 25, 3) := by decide +kernel
theorem dX5_isGoodWithout_42 : decode cX5_isGoodWithout 42 = .ok (.iload_n 3, 1) := by decide +kernel
theorem dX5_isGoodWithout_43 : decode cX5_isGoodWithout 43 = .ok (.aaload, 1) := by decide +kernel
theorem dX5_isGoodWithout_44 : decode cX5_isGoodWithout 44 = .ok (.aload_n 0, 1) := by decide +kernel
theorem dX5_isGoodWithout_45 : decode cX5_isGoodWithout 45 = .ok (.getfield 45, 3) := by decide +kernel
theorem dX5_isGoodWithout_48 : decode cX5_isGoodWithout 48 = .ok (.invokevirtual 306, 3) := by decide +kernel
theorem dX5_isGoodWithout_51 : decode cX5_isGoodWithout 51 = .ok (.iinc 2 1, 3) := by decide +kernel
theorem dX5_isGoodWithout_54 : decode cX5_isGoodWithout 54 = .ok (.goto (-44), 3) := by decide +kernel
theorem dX5_isGoodWithout_57 : decode cX5_isGoodWithout 57 = .ok (.aload_n 0, 1) := by decide +kernel
theorem dX5_isGoodWithout_58 : decode cX5_isGoodWithout 58 = .ok (.getfield 51, 3) := by decide +kernel
theorem dX5_isGoodWithout_61 : decode cX5_isGoodWithout 61 = .ok (.aload_n 0, 1) := by decide +kernel
theorem dX5_isGoodWithout_62 : decode cX5_isGoodWithout 62 = .ok (.getfield 45, 3) := by decide +kernel
theorem dX5_isGoodWithout_65 : decode cX5_isGoodWithout 65 = .ok (.invokevirtual 310, 3) := by decide +kernel
theorem dX5_isGoodWithout_68 : decode cX5_isGoodWithout 68 = .ok (.ireturn, 1) := by decide +kernel
theorem dX5_takeBack_0 : decode cX5_takeBack 0 = .ok (.iconst 0, 1) := by decide +kernel
theorem dX5_takeBack_1 : decode cX5_takeBack 1 = .ok (.istore_n 2, 1) := by decide +kernel
theorem dX5_takeBack_2 : decode cX5_takeBack 2 = .ok (.iload_n 2, 1) := by decide +kernel
theorem dX5_takeBack_3 : decode cX5_takeBack 3 = .ok (.aload_n 0, 1) := by decide +kernel
theorem dX5_takeBack_4 : decode cX5_takeBack 4 = .ok (.getfield 70, 3) := by decide +kernel
theorem dX5_takeBack_7 : decode cX5_takeBack 7 = .ok (.if_icmp .ge 36, 3) := by decide +kernel
theorem dX5_takeBack_10 : decode cX5_takeBack 10 = .ok (.iload_n 1, 1) := by decide +kernel
theorem dX5_takeBack_11 : decode cX5_takeBack 11 = .ok (.iconst 1, 1) := by decide +kernel
theorem dX5_takeBack_12 : decode cX5_takeBack 12 = .ok (.iload_n 2, 1) := by decide +kernel
theorem dX5_takeBack_13 : decode cX5_takeBack 13 = .ok (.ishl, 1) := by decide +kernel
theorem dX5_takeBack_14 : decode cX5_takeBack 14 = .ok (.iand, 1) := by decide +kernel
theorem dX5_takeBack_15 : decode cX5_takeBack 15 = .ok (.ifCond .eq 22, 3) := by decide +kernel
theorem dX5_takeBack_18 : decode cX5_takeBack 18 = .ok (.aload_n 0, 1) := by decide +kernel
theorem dX5_takeBack_19 : decode cX5_takeBack 19 = .ok (.getfield 36, 3) := by decide +kernel
theorem dX5_takeBack_22 : decode cX5_takeBack 22 = .ok (.iload_n 2, 1) := by decide +kernel
theorem dX5_takeBack_23 : decode cX5_takeBack 23 = .ok (.invokevirtual 290, 3) := by decide +kernel
theorem dX5_takeBack_26 : decode cX5_takeBack 26 = .ok (.aload_n 0, 1) := by decide +kernel
theorem dX5_takeBack_27 : decode cX5_takeBack 27 = .ok (.getfield 25, 3) := by decide +kernel
theorem dX5_takeBack_30 : decode cX5_takeBack 30 = .ok (.iload_n 2, 1) := by decide +kernel
theorem dX5_takeBack_31 : decode cX5_takeBack 31 = .ok (.aaload, 1) := by decide +kernel
theorem dX5_takeBack_32 : decode cX5_takeBack 32 = .ok (.bipush 118, 2) := by decide +kernel
theorem dX5_takeBack_34 : decode cX5_takeBack 34 = .ok (.putfield 113, 3) := by decide +kernel
theorem dX5_takeBack_37 : decode cX5_takeBack 37 = .ok (.iinc 2 1, 3) := by decide +kernel
theorem dX5_takeBack_40 : decode cX5_takeBack 40 = .ok (.goto (-38), 3) := by decide +kernel
theorem dX5_takeBack_43 : decode cX5_takeBack 43 = .ok (.return_, 1) := by decide +kernel

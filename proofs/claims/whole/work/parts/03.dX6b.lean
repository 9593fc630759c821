theorem dX6_isBuilt_53 : decode cX6_isBuilt 53 = .ok (.getfield 85, 3) := by decide +kernel
theorem dX6_isBuilt_56 : decode cX6_isBuilt 56 = .ok (.aload_n 3, 1) := by decide +kernel
theorem dX6_isBuilt_57 : decode cX6_isBuilt 57 = .ok (.invokevirtual 190, 3) := by decide +kernel
theorem dX6_isBuilt_60 : decode cX6_isBuilt 60 = .ok (.pop, 1) := by decide +kernel
theorem dX6_isBuilt_61 : decode cX6_isBuilt 61 = .ok (.aload_n 3, 1) := by decide +kernel
theorem dX6_isBuilt_62 : decode cX6_isBuilt 62 = .ok (.iconst 1, 1) := by decide +kernel
theorem dX6_isBuilt_63 : decode cX6_isBuilt 63 = .ok (.iaload, 1) := by decide +kernel
theorem dX6_isBuilt_64 : decode cX6_isBuilt 64 = .ok (.ifCond .ne 5, 3) := by decide +kernel
theorem dX6_isBuilt_67 : decode cX6_isBuilt 67 = .ok (.iconst 0, 1) := by decide +kernel
theorem dX6_isBuilt_68 : decode cX6_isBuilt 68 = .ok (.ireturn, 1) := by decide +kernel
theorem dX6_isBuilt_69 : decode cX6_isBuilt 69 = .ok (.iinc 2 1, 3) := by decide +kernel
theorem dX6_isBuilt_72 : decode cX6_isBuilt 72 = .ok (.goto (-70), 3) := by decide +kernel
theorem dX6_isBuilt_75 : decode cX6_isBuilt 75 = .ok (.iconst 1, 1) := by decide +kernel
theorem dX6_isBuilt_76 : decode cX6_isBuilt 76 = .ok (.ireturn, 1) := by decide +kernel
theorem dX6_shares_0 : decode cX6_shares 0 = .ok (.iconst 0, 1) := by decide +kernel
theorem dX6_shares_1 : decode cX6_shares 1 = .ok (.istore_n 3, 1) := by decide +kernel
theorem dX6_shares_2 : decode cX6_shares 2 = .ok (.iload_n 3, 1) := by decide +kernel
theorem dX6_shares_3 : decode cX6_shares 3 = .ok (.bipush 64, 2) := by decide +kernel
theorem dX6_shares_5 : decode cX6_shares 5 = .ok (.if_icmp .ge 33, 3) := by decide +kernel
theorem dX6_shares_8 : decode cX6_shares 8 = .ok (.aload_n 0, 1) := by decide +kernel
theorem dX6_shares_9 : decode cX6_shares 9 = .ok (.getfield 48, 3) := by decide +kernel
theorem dX6_shares_12 : decode cX6_shares 12 = .ok (.iload_n 1, 1) := by decide +kernel
theorem dX6_shares_13 : decode cX6_shares 13 = .ok (.aaload, 1) := by decide +kernel
theorem dX6_shares_14 : decode cX6_shares 14 = .ok (.iload_n 3, 1) := by decide +kernel
theorem dX6_shares_15 : decode cX6_shares 15 = .ok (.iaload, 1) := by decide +kernel
theorem dX6_shares_16 : decode cX6_shares 16 = .ok (.ifCond .lt 16, 3) := by decide +kernel
theorem dX6_shares_19 : decode cX6_shares 19 = .ok (.aload_n 0, 1) := by decide +kernel
theorem dX6_shares_20 : decode cX6_shares 20 = .ok (.getfield 48, 3) := by decide +kernel
theorem dX6_shares_23 : decode cX6_shares 23 = .ok (.iload_n 2, 1) := by decide +kernel
theorem dX6_shares_24 : decode cX6_shares 24 = .ok (.aaload, 1) := by decide +kernel
theorem dX6_shares_25 : decode cX6_shares 25 = .ok (.iload_n 3, 1) := by decide +kernel
theorem dX6_shares_26 : decode cX6_shares 26 = .ok (.iaload, 1) := by decide +kernel
theorem dX6_shares_27 : decode cX6_shares 27 = .ok (.ifCond .lt 5, 3) := by decide +kernel
theorem dX6_shares_30 : decode cX6_shares 30 = .ok (.iconst 1, 1) := by decide +kernel
theorem dX6_shares_31 : decode cX6_shares 31 = .ok (.ireturn, 1) := by decide +kernel
theorem dX6_shares_32 : decode cX6_shares 32 = .ok (.iinc 3 1, 3) := by decide +kernel
theorem dX6_shares_35 : decode cX6_shares 35 = .ok (.goto (-33), 3) := by decide +kernel
theorem dX6_shares_38 : decode cX6_shares 38 = .ok (.iconst 0, 1) := by decide +kernel
theorem dX6_shares_39 : decode cX6_shares 39 = .ok (.ireturn, 1) := by decide +kernel
theorem dX6_isHeld_0 : decode cX6_isHeld 0 = .ok (.iconst 0, 1) := by decide +kernel
theorem dX6_isHeld_1 : decode cX6_isHeld 1 = .ok (.istore_n 2, 1) := by decide +kernel
theorem dX6_isHeld_2 : decode cX6_isHeld 2 = .ok (.iload_n 2, 1) := by decide +kernel
theorem dX6_isHeld_3 : decode cX6_isHeld 3 = .ok (.iconst 4, 1) := by decide +kernel
theorem dX6_isHeld_4 : decode cX6_isHeld 4 = .ok (.if_icmp .ge 29, 3) := by decide +kernel
theorem dX6_isHeld_7 : decode cX6_isHeld 7 = .ok (.aload_n 0, 1) := by decide +kernel
theorem dX6_isHeld_8 : decode cX6_isHeld 8 = .ok (.getfield 40, 3) := by decide +kernel
theorem dX6_isHeld_11 : decode cX6_isHeld 11 = .ok (.iload_n 2, 1) := by decide +kernel
theorem dX6_isHeld_12 : decode cX6_isHeld 12 = .ok (.baload, 1) := by decide +kernel
theorem dX6_isHeld_13 : decode cX6_isHeld 13 = .ok (.ifCond .eq 14, 3) := by decide +kernel
theorem dX6_isHeld_16 : decode cX6_isHeld 16 = .ok (.aload_n 0, 1) := by decide +kernel
theorem dX6_isHeld_17 : decode cX6_isHeld 17 = .ok (.iload_n 1, 1) := by decide +kernel
theorem dX6_isHeld_18 : decode cX6_isHeld 18 = .ok (.iload_n 2, 1) := by decide +kernel
theorem dX6_isHeld_19 : decode cX6_isHeld 19 = .ok (.invokevirtual 123, 3) := by decide +kernel
theorem dX6_isHeld_22 : decode cX6_isHeld 22 = .ok (.ifCond .eq 5, 3) := by decide +kernel
theorem dX6_isHeld_25 : decode cX6_isHeld 25 = .ok (.iconst 1, 1) := by decide +kernel
theorem dX6_isHeld_26 : decode cX6_isHeld 26 = .ok (.ireturn, 1) := by decide +kernel
theorem dX6_isHeld_27 : decode cX6_isHeld 27 = .ok (.iinc 2 1, 3) := by decide +kernel
theorem dX6_isHeld_30 : decode cX6_isHeld 30 = .ok (.goto (-28), 3) := by decide +kernel
theorem dX6_isHeld_33 : decode cX6_isHeld 33 = .ok (.iconst 0, 1) := by decide +kernel
theorem dX6_isHeld_34 : decode cX6_isHeld 34 = .ok (.ireturn, 1) := by decide +kernel
theorem dX6_lays_0 : decode cX6_lays 0 = .ok (.iconst 0, 1) := by decide +kernel
theorem dX6_lays_1 : decode cX6_lays 1 = .ok (.istore_n 3, 1) := by decide +kernel
theorem dX6_lays_2 : decode cX6_lays 2 = .ok (.iload_n 3, 1) := by decide +kernel
theorem dX6_lays_3 : decode cX6_lays 3 = .ok (.bipush 64, 2) := by decide +kernel
theorem dX6_lays_5 : decode cX6_lays 5 = .ok (.if_icmp .ge 37, 3) := by decide +kernel
theorem dX6_lays_8 : decode cX6_lays 8 = .ok (.aload_n 2, 1) := by decide +kernel
theorem dX6_lays_9 : decode cX6_lays 9 = .ok (.iload_n 3, 1) := by decide +kernel
theorem dX6_lays_10 : decode cX6_lays 10 = .ok (.aload_n 0, 1) := by decide +kernel
theorem dX6_lays_11 : decode cX6_lays 11 = .ok (.getfield 48, 3) := by decide +kernel
theorem dX6_lays_14 : decode cX6_lays 14 = .ok (.iload_n 1, 1) := by decide +kernel
theorem dX6_lays_15 : decode cX6_lays 15 = .ok (.aaload, 1) := by decide +kernel
theorem dX6_lays_16 : decode cX6_lays 16 = .ok (.iload_n 3, 1) := by decide +kernel
theorem dX6_lays_17 : decode cX6_lays 17 = .ok (.iaload, 1) := by decide +kernel
theorem dX6_lays_18 : decode cX6_lays 18 = .ok (.ifCond .ge 9, 3) := by decide +kernel
theorem dX6_lays_21 : decode cX6_lays 21 = .ok (.aload_n 2, 1) := by decide +kernel
theorem dX6_lays_22 : decode cX6_lays 22 = .ok (.iload_n 3, 1) := by decide +kernel
theorem dX6_lays_23 : decode cX6_lays 23 = .ok (.iaload, 1) := by decide +kernel
theorem dX6_lays_24 : decode cX6_lays 24 = .ok (.goto 11, 3) := by decide +kernel
theorem dX6_lays_27 : decode cX6_lays 27 = .ok (.aload_n 0, 1) := by decide +kernel
theorem dX6_lays_28 : decode cX6_lays 28 = .ok (.getfield 48, 3) := by decide +kernel
theorem dX6_lays_31 : decode cX6_lays 31 = .ok (.iload_n 1, 1) := by decide +kernel
theorem dX6_lays_32 : decode cX6_lays 32 = .ok (.aaload, 1) := by decide +kernel
theorem dX6_lays_33 : decode cX6_lays 33 = .ok (.iload_n 3, 1) := by decide +kernel
theorem dX6_lays_34 : decode cX6_lays 34 = .ok (.iaload, 1) := by decide +kernel
theorem dX6_lays_35 : decode cX6_lays 35 = .ok (.iastore, 1) := by decide +kernel
theorem dX6_lays_36 : decode cX6_lays 36 = .ok (.iinc 3 1, 3) := by decide +kernel
theorem dX6_lays_39 : decode cX6_lays 39 = .ok (.goto (-37), 3) := by decide +kernel
theorem dX6_lays_42 : decode cX6_lays 42 = .ok (.return_, 1) := by decide +kernel
theorem dX6_merges_0 : decode cX6_merges 0 = .ok (.aload_n 0, 1) := by decide +kernel
theorem dX6_merges_1 : decode cX6_merges 1 = .ok (.iload_n 1, 1) := by decide +kernel
theorem dX6_merges_2 : decode cX6_merges 2 = .ok (.invokevirtual 146, 3) := by decide +kernel
theorem dX6_merges_5 : decode cX6_merges 5 = .ok (.aload_n 0, 1) := by decide +kernel
theorem dX6_merges_6 : decode cX6_merges 6 = .ok (.getfield 75, 3) := by decide +kernel
theorem dX6_merges_9 : decode cX6_merges 9 = .ok (.iload_n 1, 1) := by decide +kernel
theorem dX6_merges_10 : decode cX6_merges 10 = .ok (.bipush 109, 2) := by decide +kernel
theorem dX6_merges_12 : decode cX6_merges 12 = .ok (.castore, 1) := by decide +kernel
theorem dX6_merges_13 : decode cX6_merges 13 = .ok (.aload_n 0, 1) := by decide +kernel
theorem dX6_merges_14 : decode cX6_merges 14 = .ok (.getfield 79, 3) := by decide +kernel
theorem dX6_merges_17 : decode cX6_merges 17 = .ok (.iload_n 1, 1) := by decide +kernel
theorem dX6_merges_18 : decode cX6_merges 18 = .ok (.iconst 0, 1) := by decide +kernel
theorem dX6_merges_19 : decode cX6_merges 19 = .ok (.bastore, 1) := by decide +kernel
theorem dX6_merges_20 : decode cX6_merges 20 = .ok (.aload_n 0, 1) := by decide +kernel
theorem dX6_merges_21 : decode cX6_merges 21 = .ok (.iload_n 1, 1) := by decide +kernel
theorem dX6_merges_22 : decode cX6_merges 22 = .ok (.aload_n 0, 1) := by decide +kernel
theorem dX6_merges_23 : decode cX6_merges 23 = .ok (.getfield 17, 3) := by decide +kernel
theorem dX6_merges_26 : decode cX6_merges 26 = .ok (.invokevirtual 194, 3) := by decide +kernel
theorem dX6_merges_29 : decode cX6_merges 29 = .ok (.aload_n 0, 1) := by decide +kernel
theorem dX6_merges_30 : decode cX6_merges 30 = .ok (.getfield 72, 3) := by decide +kernel
theorem dX6_merges_33 : decode cX6_merges 33 = .ok (.aload_n 0, 1) := by decide +kernel
theorem dX6_merges_34 : decode cX6_merges 34 = .ok (.getfield 198, 3) := by decide +kernel
theorem dX6_merges_37 : decode cX6_merges 37 = .ok (.iload_n 1, 1) := by decide +kernel
theorem dX6_merges_38 : decode cX6_merges 38 = .ok (.iastore, 1) := by decide +kernel
theorem dX6_merges_39 : decode cX6_merges 39 = .ok (.aload_n 0, 1) := by decide +kernel
theorem dX6_merges_40 : decode cX6_merges 40 = .ok (.dup, 1) := by decide +kernel
theorem dX6_merges_41 : decode cX6_merges 41 = .ok (.getfield 198, 3) := by decide +kernel
theorem dX6_merges_44 : decode cX6_merges 44 = .ok (.iconst 1, 1) := by decide +kernel
theorem dX6_merges_45 : decode cX6_merges 45 = .ok (.iadd, 1) := by decide +kernel
theorem dX6_merges_46 : decode cX6_merges 46 = .ok (.putfield 198, 3) := by decide +kernel
theorem dX6_merges_49 : decode cX6_merges 49 = .ok (.iconst 0, 1) := by decide +kernel
theorem dX6_merges_50 : decode cX6_merges 50 = .ok (.istore_n 2, 1) := by decide +kernel
theorem dX6_merges_51 : decode cX6_merges 51 = .ok (.iload_n 2, 1) := by decide +kernel
theorem dX6_merges_52 : decode cX6_merges 52 = .ok (.aload_n 0, 1) := by decide +kernel
theorem dX6_merges_53 : decode cX6_merges 53 = .ok (.getfield 89, 3) := by decide +kernel
theorem dX6_merges_56 : decode cX6_merges 56 = .ok (.if_icmp .ge 119, 3) := by decide +kernel
theorem dX6_merges_59 : decode cX6_merges 59 = .ok (.aload_n 0, 1) := by decide +kernel
theorem dX6_merges_60 : decode cX6_merges 60 = .ok (.getfield 75, 3) := by decide +kernel
theorem dX6_merges_63 : decode cX6_merges 63 = .ok (.iload_n 2, 1) := by decide +kernel
theorem dX6_merges_64 : decode cX6_merges 64 = .ok (.caload, 1) := by decide +kernel
theorem dX6_merges_65 : decode cX6_merges 65 = .ok (.bipush 111, 2) := by decide +kernel
theorem dX6_merges_67 : decode cX6_merges 67 = .ok (.if_icmp .eq 14, 3) := by decide +kernel
theorem dX6_merges_70 : decode cX6_merges 70 = .ok (.aload_n 0, 1) := by decide +kernel
theorem dX6_merges_71 : decode cX6_merges 71 = .ok (.getfield 75, 3) := by decide +kernel
theorem dX6_merges_74 : decode cX6_merges 74 = .ok (.iload_n 2, 1) := by decide +kernel
theorem dX6_merges_75 : decode cX6_merges 75 = .ok (.caload, 1) := by decide +kernel
theorem dX6_merges_76 : decode cX6_merges 76 = .ok (.bipush 113, 2) := by decide +kernel
theorem dX6_merges_78 : decode cX6_merges 78 = .ok (.if_icmp .ne 91, 3) := by decide +kernel
theorem dX6_merges_81 : decode cX6_merges 81 = .ok (.aload_n 0, 1) := by decide +kernel
theorem dX6_merges_82 : decode cX6_merges 82 = .ok (.iload_n 1, 1) := by decide +kernel
theorem dX6_merges_83 : decode cX6_merges 83 = .ok (.iload_n 2, 1) := by decide +kernel
theorem dX6_merges_84 : decode cX6_merges 84 = .ok (.invokevirtual 201, 3) := by decide +kernel
theorem dX6_merges_87 : decode cX6_merges 87 = .ok (.ifCond .ne 6, 3) := by decide +kernel
theorem dX6_merges_90 : decode cX6_merges 90 = .ok (.goto 79, 3) := by decide +kernel
theorem dX6_merges_93 : decode cX6_merges 93 = .ok (.iconst 0, 1) := by decide +kernel
theorem dX6_merges_94 : decode cX6_merges 94 = .ok (.istore_n 3, 1) := by decide +kernel
theorem dX6_merges_95 : decode cX6_merges 95 = .ok (.iload_n 3, 1) := by decide +kernel
theorem dX6_merges_96 : decode cX6_merges 96 = .ok (.bipush 64, 2) := by decide +kernel
theorem dX6_merges_98 : decode cX6_merges 98 = .ok (.if_icmp .ge 47, 3) := by decide +kernel
theorem dX6_merges_101 : decode cX6_merges 101 = .ok (.aload_n 0, 1) := by decide +kernel
theorem dX6_merges_102 : decode cX6_merges 102 = .ok (.getfield 53, 3) := by decide +kernel
theorem dX6_merges_105 : decode cX6_merges 105 = .ok (.iload_n 2, 1) := by decide +kernel
theorem dX6_merges_106 : decode cX6_merges 106 = .ok (.aaload, 1) := by decide +kernel
theorem dX6_merges_107 : decode cX6_merges 107 = .ok (.iload_n 3, 1) := by decide +kernel
theorem dX6_merges_108 : decode cX6_merges 108 = .ok (.dup2, 1) := by decide +kernel
theorem dX6_merges_109 : decode cX6_merges 109 = .ok (.baload, 1) := by decide +kernel
theorem dX6_merges_110 : decode cX6_merges 110 = .ok (.aload_n 0, 1) := by decide +kernel
theorem dX6_merges_111 : decode cX6_merges 111 = .ok (.getfield 48, 3) := by decide +kernel
theorem dX6_merges_114 : decode cX6_merges 114 = .ok (.iload_n 1, 1) := by decide +kernel
theorem dX6_merges_115 : decode cX6_merges 115 = .ok (.aaload, 1) := by decide +kernel
theorem dX6_merges_116 : decode cX6_merges 116 = .ok (.iload_n 3, 1) := by decide +kernel
theorem dX6_merges_117 : decode cX6_merges 117 = .ok (.iaload, 1) := by decide +kernel
theorem dX6_merges_118 : decode cX6_merges 118 = .ok (.ifCond .lt 18, 3) := by decide +kernel
theorem dX6_merges_121 : decode cX6_merges 121 = .ok (.aload_n 0, 1) := by decide +kernel
theorem dX6_merges_122 : decode cX6_merges 122 = .ok (.getfield 48, 3) := by decide +kernel
theorem dX6_merges_125 : decode cX6_merges 125 = .ok (.iload_n 2, 1) := by decide +kernel
theorem dX6_merges_126 : decode cX6_merges 126 = .ok (.aaload, 1) := by decide +kernel
theorem dX6_merges_127 : decode cX6_merges 127 = .ok (.iload_n 3, 1) := by decide +kernel
theorem dX6_merges_128 : decode cX6_merges 128 = .ok (.iaload, 1) := by decide +kernel
theorem dX6_merges_129 : decode cX6_merges 129 = .ok (.ifCond .lt 7, 3) := by decide +kernel
theorem dX6_merges_132 : decode cX6_merges 132 = .ok (.iconst 1, 1) := by decide +kernel
theorem dX6_merges_133 : decode cX6_merges 133 = .ok (.goto 4, 3) := by decide +kernel
theorem dX6_merges_136 : decode cX6_merges 136 = .ok (.iconst 0, 1) := by decide +kernel
theorem dX6_merges_137 : decode cX6_merges 137 = .ok (.ior, 1) := by decide +kernel
theorem dX6_merges_138 : decode cX6_merges 138 = .ok (.bastore, 1) := by decide +kernel
theorem dX6_merges_139 : decode cX6_merges 139 = .ok (.iinc 3 1, 3) := by decide +kernel
theorem dX6_merges_142 : decode cX6_merges 142 = .ok (.goto (-47), 3) := by decide +kernel
theorem dX6_merges_145 : decode cX6_merges 145 = .ok (.aload_n 0, 1) := by decide +kernel
theorem dX6_merges_146 : decode cX6_merges 146 = .ok (.getfield 75, 3) := by decide +kernel
theorem dX6_merges_149 : decode cX6_merges 149 = .ok (.iload_n 2, 1) := by decide +kernel
theorem dX6_merges_150 : decode cX6_merges 150 = .ok (.caload, 1) := by decide +kernel
theorem dX6_merges_151 : decode cX6_merges 151 = .ok (.bipush 113, 2) := by decide +kernel
theorem dX6_merges_153 : decode cX6_merges 153 = .ok (.if_icmp .ne 16, 3) := by decide +kernel
theorem dX6_merges_156 : decode cX6_merges 156 = .ok (.aload_n 0, 1) := by decide +kernel
theorem dX6_merges_157 : decode cX6_merges 157 = .ok (.iload_n 2, 1) := by decide +kernel
theorem dX6_merges_158 : decode cX6_merges 158 = .ok (.invokevirtual 146, 3) := by decide +kernel
theorem dX6_merges_161 : decode cX6_merges 161 = .ok (.aload_n 0, 1) := by decide +kernel
theorem dX6_merges_162 : decode cX6_merges 162 = .ok (.getfield 75, 3) := by decide +kernel
theorem dX6_merges_165 : decode cX6_merges 165 = .ok (.iload_n 2, 1) := by decide +kernel
theorem dX6_merges_166 : decode cX6_merges 166 = .ok (.bipush 111, 2) := by decide +kernel
theorem dX6_merges_168 : decode cX6_merges 168 = .ok (.castore, 1) := by decide +kernel
theorem dX6_merges_169 : decode cX6_merges 169 = .ok (.iinc 2 1, 3) := by decide +kernel
theorem dX6_merges_172 : decode cX6_merges 172 = .ok (.goto (-121), 3) := by decide +kernel
theorem dX6_merges_175 : decode cX6_merges 175 = .ok (.return_, 1) := by decide +kernel
theorem dX6_tries_0 : decode cX6_tries 0 = .ok (.bipush 64, 2) := by decide +kernel
theorem dX6_tries_2 : decode cX6_tries 2 = .ok (.newarray .int, 2) := by decide +kernel
theorem dX6_tries_4 : decode cX6_tries 4 = .ok (.astore 4, 2) := by decide +kernel
theorem dX6_tries_6 : decode cX6_tries 6 = .ok (.iconst 0, 1) := by decide +kernel
theorem dX6_tries_7 : decode cX6_tries 7 = .ok (.istore 5, 2) := by decide +kernel
theorem dX6_tries_9 : decode cX6_tries 9 = .ok (.iload 5, 2) := by decide +kernel
theorem dX6_tries_11 : decode cX6_tries 11 = .ok (.bipush 64, 2) := by decide +kernel
theorem dX6_tries_13 : decode cX6_tries 13 = .ok (.if_icmp .ge 21, 3) := by decide +kernel
theorem dX6_tries_16 : decode cX6_tries 16 = .ok (.aload 4, 2) := by decide +kernel
theorem dX6_tries_18 : decode cX6_tries 18 = .ok (.iload 5, 2) := by decide +kernel
theorem dX6_tries_20 : decode cX6_tries 20 = .ok (.aload_n 0, 1) := by decide +kernel
theorem dX6_tries_21 : decode cX6_tries 21 = .ok (.getfield 17, 3) := by decide +kernel
theorem dX6_tries_24 : decode cX6_tries 24 = .ok (.iload 5, 2) := by decide +kernel
theorem dX6_tries_26 : decode cX6_tries 26 = .ok (.iaload, 1) := by decide +kernel
theorem dX6_tries_27 : decode cX6_tries 27 = .ok (.iastore, 1) := by decide +kernel
theorem dX6_tries_28 : decode cX6_tries 28 = .ok (.iinc 5 1, 3) := by decide +kernel
theorem dX6_tries_31 : decode cX6_tries 31 = .ok (.goto (-22), 3) := by decide +kernel
theorem dX6_tries_34 : decode cX6_tries 34 = .ok (.iload_n 2, 1) := by decide +kernel
theorem dX6_tries_35 : decode cX6_tries 35 = .ok (.istore 5, 2) := by decide +kernel
theorem dX6_tries_37 : decode cX6_tries 37 = .ok (.iload 5, 2) := by decide +kernel
theorem dX6_tries_39 : decode cX6_tries 39 = .ok (.iload_n 3, 1) := by decide +kernel
theorem dX6_tries_40 : decode cX6_tries 40 = .ok (.if_icmp .ge 19, 3) := by decide +kernel
theorem dX6_tries_43 : decode cX6_tries 43 = .ok (.aload_n 0, 1) := by decide +kernel
theorem dX6_tries_44 : decode cX6_tries 44 = .ok (.aload_n 1, 1) := by decide +kernel
theorem dX6_tries_45 : decode cX6_tries 45 = .ok (.iload 5, 2) := by decide +kernel
theorem dX6_tries_47 : decode cX6_tries 47 = .ok (.iaload, 1) := by decide +kernel
theorem dX6_tries_48 : decode cX6_tries 48 = .ok (.aload 4, 2) := by decide +kernel
theorem dX6_tries_50 : decode cX6_tries 50 = .ok (.invokevirtual 194, 3) := by decide +kernel
theorem dX6_tries_53 : decode cX6_tries 53 = .ok (.iinc 5 1, 3) := by decide +kernel
theorem dX6_tries_56 : decode cX6_tries 56 = .ok (.goto (-19), 3) := by decide +kernel
theorem dX6_tries_59 : decode cX6_tries 59 = .ok (.aload_n 0, 1) := by decide +kernel
theorem dX6_tries_60 : decode cX6_tries 60 = .ok (.aload 4, 2) := by decide +kernel
theorem dX6_tries_62 : decode cX6_tries 62 = .ok (.invokevirtual 204, 3) := by decide +kernel
theorem dX6_tries_65 : decode cX6_tries 65 = .ok (.istore 5, 2) := by decide +kernel
theorem dX6_tries_67 : decode cX6_tries 67 = .ok (.iload_n 3, 1) := by decide +kernel
theorem dX6_tries_68 : decode cX6_tries 68 = .ok (.iload_n 2, 1) := by decide +kernel
theorem dX6_tries_69 : decode cX6_tries 69 = .ok (.isub, 1) := by decide +kernel
theorem dX6_tries_70 : decode cX6_tries 70 = .ok (.iconst 1, 1) := by decide +kernel
theorem dX6_tries_71 : decode cX6_tries 71 = .ok (.if_icmp .ne 24, 3) := by decide +kernel
theorem dX6_tries_74 : decode cX6_tries 74 = .ok (.aload_n 0, 1) := by decide +kernel
theorem dX6_tries_75 : decode cX6_tries 75 = .ok (.getfield 79, 3) := by decide +kernel
theorem dX6_tries_78 : decode cX6_tries 78 = .ok (.aload_n 1, 1) := by decide +kernel
theorem dX6_tries_79 : decode cX6_tries 79 = .ok (.iload_n 2, 1) := by decide +kernel
theorem dX6_tries_80 : decode cX6_tries 80 = .ok (.iaload, 1) := by decide +kernel
theorem dX6_tries_81 : decode cX6_tries 81 = .ok (.dup2, 1) := by decide +kernel
theorem dX6_tries_82 : decode cX6_tries 82 = .ok (.baload, 1) := by decide +kernel
theorem dX6_tries_83 : decode cX6_tries 83 = .ok (.iload 5, 2) := by decide +kernel
theorem dX6_tries_85 : decode cX6_tries 85 = .ok (.ifCond .ne 7, 3) := by decide +kernel
theorem dX6_tries_88 : decode cX6_tries 88 = .ok (.iconst 1, 1) := by decide +kernel
theorem dX6_tries_89 : decode cX6_tries 89 = .ok (.goto 4, 3) := by decide +kernel
theorem dX6_tries_92 : decode cX6_tries 92 = .ok (.iconst 0, 1) := by decide +kernel
theorem dX6_tries_93 : decode cX6_tries 93 = .ok (.ior, 1) := by decide +kernel
theorem dX6_tries_94 : decode cX6_tries 94 = .ok (.bastore, 1) := by decide +kernel
theorem dX6_tries_95 : decode cX6_tries 95 = .ok (.iload 5, 2) := by decide +kernel
theorem dX6_tries_97 : decode cX6_tries 97 = .ok (.ifCond .eq 30, 3) := by decide +kernel
theorem dX6_tries_100 : decode cX6_tries 100 = .ok (.iload_n 2, 1) := by decide +kernel
theorem dX6_tries_101 : decode cX6_tries 101 = .ok (.istore 6, 2) := by decide +kernel
theorem dX6_tries_103 : decode cX6_tries 103 = .ok (.iload 6, 2) := by decide +kernel
theorem dX6_tries_105 : decode cX6_tries 105 = .ok (.iload_n 3, 1) := by decide +kernel
theorem dX6_tries_106 : decode cX6_tries 106 = .ok (.if_icmp .ge 17, 3) := by decide +kernel
theorem dX6_tries_109 : decode cX6_tries 109 = .ok (.aload_n 0, 1) := by decide +kernel
theorem dX6_tries_110 : decode cX6_tries 110 = .ok (.aload_n 1, 1) := by decide +kernel
theorem dX6_tries_111 : decode cX6_tries 111 = .ok (.iload 6, 2) := by decide +kernel
theorem dX6_tries_113 : decode cX6_tries 113 = .ok (.iaload, 1) := by decide +kernel
theorem dX6_tries_114 : decode cX6_tries 114 = .ok (.invokevirtual 207, 3) := by decide +kernel
theorem dX6_tries_117 : decode cX6_tries 117 = .ok (.iinc 6 1, 3) := by decide +kernel
theorem dX6_tries_120 : decode cX6_tries 120 = .ok (.goto (-17), 3) := by decide +kernel
theorem dX6_tries_123 : decode cX6_tries 123 = .ok (.iload_n 3, 1) := by decide +kernel
theorem dX6_tries_124 : decode cX6_tries 124 = .ok (.iload_n 2, 1) := by decide +kernel
theorem dX6_tries_125 : decode cX6_tries 125 = .ok (.isub, 1) := by decide +kernel
theorem dX6_tries_126 : decode cX6_tries 126 = .ok (.ireturn, 1) := by decide +kernel
theorem dX6_tries_127 : decode cX6_tries 127 = .ok (.iload_n 3, 1) := by decide +kernel
theorem dX6_tries_128 : decode cX6_tries 128 = .ok (.iload_n 2, 1) := by decide +kernel
theorem dX6_tries_129 : decode cX6_tries 129 = .ok (.isub, 1) := by decide +kernel
theorem dX6_tries_130 : decode cX6_tries 130 = .ok (.iconst 1, 1) := by decide +kernel
theorem dX6_tries_131 : decode cX6_tries 131 = .ok (.if_icmp .ne 22, 3) := by decide +kernel
theorem dX6_tries_134 : decode cX6_tries 134 = .ok (.aload_n 0, 1) := by decide +kernel
theorem dX6_tries_135 : decode cX6_tries 135 = .ok (.aload_n 1, 1) := by decide +kernel
theorem dX6_tries_136 : decode cX6_tries 136 = .ok (.iload_n 2, 1) := by decide +kernel
theorem dX6_tries_137 : decode cX6_tries 137 = .ok (.iaload, 1) := by decide +kernel
theorem dX6_tries_138 : decode cX6_tries 138 = .ok (.invokevirtual 146, 3) := by decide +kernel
theorem dX6_tries_141 : decode cX6_tries 141 = .ok (.aload_n 0, 1) := by decide +kernel
theorem dX6_tries_142 : decode cX6_tries 142 = .ok (.getfield 75, 3) := by decide +kernel
theorem dX6_tries_145 : decode cX6_tries 145 = .ok (.aload_n 1, 1) := by decide +kernel
theorem dX6_tries_146 : decode cX6_tries 146 = .ok (.iload_n 2, 1) := by decide +kernel
theorem dX6_tries_147 : decode cX6_tries 147 = .ok (.iaload, 1) := by decide +kernel
theorem dX6_tries_148 : decode cX6_tries 148 = .ok (.bipush 111, 2) := by decide +kernel
theorem dX6_tries_150 : decode cX6_tries 150 = .ok (.castore, 1) := by decide +kernel
theorem dX6_tries_151 : decode cX6_tries 151 = .ok (.iconst 0, 1) := by decide +kernel
theorem dX6_tries_152 : decode cX6_tries 152 = .ok (.ireturn, 1) := by decide +kernel
theorem dX6_tries_153 : decode cX6_tries 153 = .ok (.iload_n 2, 1) := by decide +kernel
theorem dX6_tries_154 : decode cX6_tries 154 = .ok (.iload_n 3, 1) := by decide +kernel
theorem dX6_tries_155 : decode cX6_tries 155 = .ok (.iload_n 2, 1) := by decide +kernel
theorem dX6_tries_156 : decode cX6_tries 156 = .ok (.isub, 1) := by decide +kernel
theorem dX6_tries_157 : decode cX6_tries 157 = .ok (.iconst 2, 1) := by decide +kernel
theorem dX6_tries_158 : decode cX6_tries 158 = .ok (.idiv, 1) := by decide +kernel
theorem dX6_tries_159 : decode cX6_tries 159 = .ok (.iadd, 1) := by decide +kernel
theorem dX6_tries_160 : decode cX6_tries 160 = .ok (.istore 6, 2) := by decide +kernel
theorem dX6_tries_162 : decode cX6_tries 162 = .ok (.aload_n 0, 1) := by decide +kernel
theorem dX6_tries_163 : decode cX6_tries 163 = .ok (.aload_n 1, 1) := by decide +kernel
theorem dX6_tries_164 : decode cX6_tries 164 = .ok (.iload_n 2, 1) := by decide +kernel
theorem dX6_tries_165 : decode cX6_tries 165 = .ok (.iload 6, 2) := by decide +kernel
theorem dX6_tries_167 : decode cX6_tries 167 = .ok (.invokevirtual 210, 3) := by decide +kernel
theorem dX6_tries_170 : decode cX6_tries 170 = .ok (.istore 7, 2) := by decide +kernel
theorem dX6_tries_172 : decode cX6_tries 172 = .ok (.iload 7, 2) := by decide +kernel
theorem dX6_tries_174 : decode cX6_tries 174 = .ok (.aload_n 0, 1) := by decide +kernel
theorem dX6_tries_175 : decode cX6_tries 175 = .ok (.aload_n 1, 1) := by decide +kernel
theorem dX6_tries_176 : decode cX6_tries 176 = .ok (.iload 6, 2) := by decide +kernel
theorem dX6_tries_178 : decode cX6_tries 178 = .ok (.iload_n 3, 1) := by decide +kernel
theorem dX6_tries_179 : decode cX6_tries 179 = .ok (.invokevirtual 210, 3) := by decide +kernel
theorem dX6_tries_182 : decode cX6_tries 182 = .ok (.iadd, 1) := by decide +kernel
theorem dX6_tries_183 : decode cX6_tries 183 = .ok (.ireturn, 1) := by decide +kernel
theorem dX6_step_0 : decode cX6_step 0 = .ok (.aload_n 0, 1) := by decide +kernel
theorem dX6_step_1 : decode cX6_step 1 = .ok (.iconst 0, 1) := by decide +kernel
theorem dX6_step_2 : decode cX6_step 2 = .ok (.putfield 1, 3) := by decide +kernel
theorem dX6_step_5 : decode cX6_step 5 = .ok (.iconst 4, 1) := by decide +kernel
theorem dX6_step_6 : decode cX6_step 6 = .ok (.newarray .int, 2) := by decide +kernel
theorem dX6_step_8 : decode cX6_step 8 = .ok (.astore_n 1, 1) := by decide +kernel
theorem dX6_step_9 : decode cX6_step 9 = .ok (.iconst 0, 1) := by decide +kernel
theorem dX6_step_10 : decode cX6_step 10 = .ok (.istore_n 2, 1) := by decide +kernel
theorem dX6_step_11 : decode cX6_step 11 = .ok (.iconst 0, 1) := by decide +kernel
theorem dX6_step_12 : decode cX6_step 12 = .ok (.istore_n 3, 1) := by decide +kernel
theorem dX6_step_13 : decode cX6_step 13 = .ok (.iload_n 3, 1) := by decide +kernel
theorem dX6_step_14 : decode cX6_step 14 = .ok (.aload_n 0, 1) := by decide +kernel
theorem dX6_step_15 : decode cX6_step 15 = .ok (.getfield 143, 3) := by decide +kernel
theorem dX6_step_18 : decode cX6_step 18 = .ok (.if_icmp .ge 96, 3) := by decide +kernel
theorem dX6_step_21 : decode cX6_step 21 = .ok (.iload_n 2, 1) := by decide +kernel
theorem dX6_step_22 : decode cX6_step 22 = .ok (.iconst 4, 1) := by decide +kernel
theorem dX6_step_23 : decode cX6_step 23 = .ok (.if_icmp .ge 91, 3) := by decide +kernel
theorem dX6_step_26 : decode cX6_step 26 = .ok (.aload_n 0, 1) := by decide +kernel
theorem dX6_step_27 : decode cX6_step 27 = .ok (.aload_n 0, 1) := by decide +kernel
theorem dX6_step_28 : decode cX6_step 28 = .ok (.getfield 69, 3) := by decide +kernel
theorem dX6_step_31 : decode cX6_step 31 = .ok (.iload_n 3, 1) := by decide +kernel
theorem dX6_step_32 : decode cX6_step 32 = .ok (.iaload, 1) := by decide +kernel
theorem dX6_step_33 : decode cX6_step 33 = .ok (.invokevirtual 214, 3) := by decide +kernel
theorem dX6_step_36 : decode cX6_step 36 = .ok (.ifCond .ne 7, 3) := by decide +kernel
theorem dX6_step_39 : decode cX6_step 39 = .ok (.iconst 1, 1) := by decide +kernel
theorem dX6_step_40 : decode cX6_step 40 = .ok (.goto 4, 3) := by decide +kernel
theorem dX6_step_43 : decode cX6_step 43 = .ok (.iconst 0, 1) := by decide +kernel
theorem dX6_step_44 : decode cX6_step 44 = .ok (.istore 4, 2) := by decide +kernel
theorem dX6_step_46 : decode cX6_step 46 = .ok (.iconst 0, 1) := by decide +kernel
theorem dX6_step_47 : decode cX6_step 47 = .ok (.istore 5, 2) := by decide +kernel
theorem dX6_step_49 : decode cX6_step 49 = .ok (.iload 5, 2) := by decide +kernel
theorem dX6_step_51 : decode cX6_step 51 = .ok (.iload_n 2, 1) := by decide +kernel
theorem dX6_step_52 : decode cX6_step 52 = .ok (.if_icmp .ge 36, 3) := by decide +kernel
theorem dX6_step_55 : decode cX6_step 55 = .ok (.iload 4, 2) := by decide +kernel
theorem dX6_step_57 : decode cX6_step 57 = .ok (.aload_n 0, 1) := by decide +kernel
theorem dX6_step_58 : decode cX6_step 58 = .ok (.aload_n 0, 1) := by decide +kernel
theorem dX6_step_59 : decode cX6_step 59 = .ok (.getfield 69, 3) := by decide +kernel
theorem dX6_step_62 : decode cX6_step 62 = .ok (.iload_n 3, 1) := by decide +kernel
theorem dX6_step_63 : decode cX6_step 63 = .ok (.iaload, 1) := by decide +kernel
theorem dX6_step_64 : decode cX6_step 64 = .ok (.aload_n 1, 1) := by decide +kernel
theorem dX6_step_65 : decode cX6_step 65 = .ok (.iload 5, 2) := by decide +kernel
theorem dX6_step_67 : decode cX6_step 67 = .ok (.iaload, 1) := by decide +kernel
theorem dX6_step_68 : decode cX6_step 68 = .ok (.invokevirtual 201, 3) := by decide +kernel
theorem dX6_step_71 : decode cX6_step 71 = .ok (.ifCond .ne 7, 3) := by decide +kernel
theorem dX6_step_74 : decode cX6_step 74 = .ok (.iconst 1, 1) := by decide +kernel
theorem dX6_step_75 : decode cX6_step 75 = .ok (.goto 4, 3) := by decide +kernel
theorem dX6_step_78 : decode cX6_step 78 = .ok (.iconst 0, 1) := by decide +kernel
theorem dX6_step_79 : decode cX6_step 79 = .ok (.iand, 1) := by decide +kernel
theorem dX6_step_80 : decode cX6_step 80 = .ok (.istore 4, 2) := by decide +kernel
theorem dX6_step_82 : decode cX6_step 82 = .ok (.iinc 5 1, 3) := by decide +kernel
theorem dX6_step_85 : decode cX6_step 85 = .ok (.goto (-36), 3) := by decide +kernel
theorem dX6_step_88 : decode cX6_step 88 = .ok (.iload 4, 2) := by decide +kernel
theorem dX6_step_90 : decode cX6_step 90 = .ok (.ifCond .ne 6, 3) := by decide +kernel
theorem dX6_step_93 : decode cX6_step 93 = .ok (.goto 15, 3) := by decide +kernel
theorem dX6_step_96 : decode cX6_step 96 = .ok (.aload_n 1, 1) := by decide +kernel
theorem dX6_step_97 : decode cX6_step 97 = .ok (.iload_n 2, 1) := by decide +kernel
theorem dX6_step_98 : decode cX6_step 98 = .ok (.aload_n 0, 1) := by decide +kernel
theorem dX6_step_99 : decode cX6_step 99 = .ok (.getfield 69, 3) := by decide +kernel
theorem dX6_step_102 : decode cX6_step 102 = .ok (.iload_n 3, 1) := by decide +kernel
theorem dX6_step_103 : decode cX6_step 103 = .ok (.iaload, 1) := by decide +kernel
theorem dX6_step_104 : decode cX6_step 104 = .ok (.iastore, 1) := by decide +kernel
theorem dX6_step_105 : decode cX6_step 105 = .ok (.iinc 2 1, 3) := by decide +kernel
theorem dX6_step_108 : decode cX6_step 108 = .ok (.iinc 3 1, 3) := by decide +kernel
theorem dX6_step_111 : decode cX6_step 111 = .ok (.goto (-98), 3) := by decide +kernel
theorem dX6_step_114 : decode cX6_step 114 = .ok (.iload_n 2, 1) := by decide +kernel
theorem dX6_step_115 : decode cX6_step 115 = .ok (.ifCond .ne 11, 3) := by decide +kernel
theorem dX6_step_118 : decode cX6_step 118 = .ok (.aload_n 0, 1) := by decide +kernel
theorem dX6_step_119 : decode cX6_step 119 = .ok (.iconst 1, 1) := by decide +kernel
theorem dX6_step_120 : decode cX6_step 120 = .ok (.invokevirtual 96, 3) := by decide +kernel
theorem dX6_step_123 : decode cX6_step 123 = .ok (.goto 10, 3) := by decide +kernel
theorem dX6_step_126 : decode cX6_step 126 = .ok (.aload_n 0, 1) := by decide +kernel
theorem dX6_step_127 : decode cX6_step 127 = .ok (.aload_n 1, 1) := by decide +kernel
theorem dX6_step_128 : decode cX6_step 128 = .ok (.iconst 0, 1) := by decide +kernel
theorem dX6_step_129 : decode cX6_step 129 = .ok (.iload_n 2, 1) := by decide +kernel
theorem dX6_step_130 : decode cX6_step 130 = .ok (.invokevirtual 210, 3) := by decide +kernel
theorem dX6_step_133 : decode cX6_step 133 = .ok (.ireturn, 1) := by decide +kernel
theorem dX6_setFrozen_0 : decode cX6_setFrozen 0 = .ok (.aload_n 0, 1) := by decide +kernel
theorem dX6_setFrozen_1 : decode cX6_setFrozen 1 = .ok (.iconst 0, 1) := by decide +kernel
theorem dX6_setFrozen_2 : decode cX6_setFrozen 2 = .ok (.putfield 1, 3) := by decide +kernel
theorem dX6_setFrozen_5 : decode cX6_setFrozen 5 = .ok (.iload_n 1, 1) := by decide +kernel
theorem dX6_setFrozen_6 : decode cX6_setFrozen 6 = .ok (.invokestatic 92, 3) := by decide +kernel
theorem dX6_setFrozen_9 : decode cX6_setFrozen 9 = .ok (.ifCond .ne 9, 3) := by decide +kernel
theorem dX6_setFrozen_12 : decode cX6_setFrozen 12 = .ok (.aload_n 0, 1) := by decide +kernel
theorem dX6_setFrozen_13 : decode cX6_setFrozen 13 = .ok (.iconst 1, 1) := by decide +kernel
theorem dX6_setFrozen_14 : decode cX6_setFrozen 14 = .ok (.invokevirtual 103, 3) := by decide +kernel
theorem dX6_setFrozen_17 : decode cX6_setFrozen 17 = .ok (.ireturn, 1) := by decide +kernel
theorem dX6_setFrozen_18 : decode cX6_setFrozen 18 = .ok (.aload_n 0, 1) := by decide +kernel
theorem dX6_setFrozen_19 : decode cX6_setFrozen 19 = .ok (.getfield 40, 3) := by decide +kernel
theorem dX6_setFrozen_22 : decode cX6_setFrozen 22 = .ok (.iload_n 1, 1) := by decide +kernel
theorem dX6_setFrozen_23 : decode cX6_setFrozen 23 = .ok (.baload, 1) := by decide +kernel
theorem dX6_setFrozen_24 : decode cX6_setFrozen 24 = .ok (.istore_n 3, 1) := by decide +kernel
theorem dX6_setFrozen_25 : decode cX6_setFrozen 25 = .ok (.aload_n 0, 1) := by decide +kernel
theorem dX6_setFrozen_26 : decode cX6_setFrozen 26 = .ok (.getfield 40, 3) := by decide +kernel
theorem dX6_setFrozen_29 : decode cX6_setFrozen 29 = .ok (.iload_n 1, 1) := by decide +kernel
theorem dX6_setFrozen_30 : decode cX6_setFrozen 30 = .ok (.iload_n 2, 1) := by decide +kernel
theorem dX6_setFrozen_31 : decode cX6_setFrozen 31 = .ok (.bastore, 1) := by decide +kernel
theorem dX6_setFrozen_32 : decode cX6_setFrozen 32 = .ok (.iload_n 3, 1) := by decide +kernel
theorem dX6_setFrozen_33 : decode cX6_setFrozen 33 = .ok (.ireturn, 1) := by decide +kernel
theorem dX6_stateOf_0 : decode cX6_stateOf 0 = .ok (.aload_n 0, 1) := by decide +kernel
theorem dX6_stateOf_1 : decode cX6_stateOf 1 = .ok (.iconst 0, 1) := by decide +kernel
theorem dX6_stateOf_2 : decode cX6_stateOf 2 = .ok (.putfield 1, 3) := by decide +kernel
theorem dX6_stateOf_5 : decode cX6_stateOf 5 = .ok (.aload_n 0, 1) := by decide +kernel
theorem dX6_stateOf_6 : decode cX6_stateOf 6 = .ok (.iload_n 1, 1) := by decide +kernel
theorem dX6_stateOf_7 : decode cX6_stateOf 7 = .ok (.invokevirtual 106, 3) := by decide +kernel
theorem dX6_stateOf_10 : decode cX6_stateOf 10 = .ok (.ifCond .eq 12, 3) := by decide +kernel
theorem dX6_stateOf_13 : decode cX6_stateOf 13 = .ok (.aload_n 0, 1) := by decide +kernel
theorem dX6_stateOf_14 : decode cX6_stateOf 14 = .ok (.getfield 75, 3) := by decide +kernel
theorem dX6_stateOf_17 : decode cX6_stateOf 17 = .ok (.iload_n 1, 1) := by decide +kernel
theorem dX6_stateOf_18 : decode cX6_stateOf 18 = .ok (.caload, 1) := by decide +kernel
theorem dX6_stateOf_19 : decode cX6_stateOf 19 = .ok (.goto 9, 3) := by decide +kernel
theorem dX6_stateOf_22 : decode cX6_stateOf 22 = .ok (.aload_n 0, 1) := by decide +kernel
theorem dX6_stateOf_23 : decode cX6_stateOf 23 = .ok (.iconst 1, 1) := by decide +kernel
theorem dX6_stateOf_24 : decode cX6_stateOf 24 = .ok (.invokevirtual 96, 3) := by decide +kernel
theorem dX6_stateOf_27 : decode cX6_stateOf 27 = .ok (.i2c, 1) := by decide +kernel
theorem dX6_stateOf_28 : decode cX6_stateOf 28 = .ok (.ireturn, 1) := by decide +kernel
theorem dX6_hasFailed_0 : decode cX6_hasFailed 0 = .ok (.aload_n 0, 1) := by decide +kernel
theorem dX6_hasFailed_1 : decode cX6_hasFailed 1 = .ok (.iconst 0, 1) := by decide +kernel
theorem dX6_hasFailed_2 : decode cX6_hasFailed 2 = .ok (.putfield 1, 3) := by decide +kernel
theorem dX6_hasFailed_5 : decode cX6_hasFailed 5 = .ok (.aload_n 0, 1) := by decide +kernel
theorem dX6_hasFailed_6 : decode cX6_hasFailed 6 = .ok (.iload_n 1, 1) := by decide +kernel
theorem dX6_hasFailed_7 : decode cX6_hasFailed 7 = .ok (.invokevirtual 106, 3) := by decide +kernel
theorem dX6_hasFailed_10 : decode cX6_hasFailed 10 = .ok (.ifCond .eq 12, 3) := by decide +kernel
theorem dX6_hasFailed_13 : decode cX6_hasFailed 13 = .ok (.aload_n 0, 1) := by decide +kernel
theorem dX6_hasFailed_14 : decode cX6_hasFailed 14 = .ok (.getfield 79, 3) := by decide +kernel
theorem dX6_hasFailed_17 : decode cX6_hasFailed 17 = .ok (.iload_n 1, 1) := by decide +kernel
theorem dX6_hasFailed_18 : decode cX6_hasFailed 18 = .ok (.baload, 1) := by decide +kernel
theorem dX6_hasFailed_19 : decode cX6_hasFailed 19 = .ok (.goto 8, 3) := by decide +kernel
theorem dX6_hasFailed_22 : decode cX6_hasFailed 22 = .ok (.aload_n 0, 1) := by decide +kernel
theorem dX6_hasFailed_23 : decode cX6_hasFailed 23 = .ok (.iconst 1, 1) := by decide +kernel
theorem dX6_hasFailed_24 : decode cX6_hasFailed 24 = .ok (.invokevirtual 103, 3) := by decide +kernel
theorem dX6_hasFailed_27 : decode cX6_hasFailed 27 = .ok (.ireturn, 1) := by decide +kernel
theorem dX6_clashes_0 : decode cX6_clashes 0 = .ok (.aload_n 0, 1) := by decide +kernel
theorem dX6_clashes_1 : decode cX6_clashes 1 = .ok (.iconst 0, 1) := by decide +kernel
theorem dX6_clashes_2 : decode cX6_clashes 2 = .ok (.putfield 1, 3) := by decide +kernel
theorem dX6_clashes_5 : decode cX6_clashes 5 = .ok (.aload_n 0, 1) := by decide +kernel
theorem dX6_clashes_6 : decode cX6_clashes 6 = .ok (.iload_n 1, 1) := by decide +kernel
theorem dX6_clashes_7 : decode cX6_clashes 7 = .ok (.invokevirtual 106, 3) := by decide +kernel
theorem dX6_clashes_10 : decode cX6_clashes 10 = .ok (.ifCond .eq 11, 3) := by decide +kernel
theorem dX6_clashes_13 : decode cX6_clashes 13 = .ok (.aload_n 0, 1) := by decide +kernel
theorem dX6_clashes_14 : decode cX6_clashes 14 = .ok (.iload_n 1, 1) := by decide +kernel
theorem dX6_clashes_15 : decode cX6_clashes 15 = .ok (.invokevirtual 140, 3) := by decide +kernel
theorem dX6_clashes_18 : decode cX6_clashes 18 = .ok (.goto 8, 3) := by decide +kernel
theorem dX6_clashes_21 : decode cX6_clashes 21 = .ok (.aload_n 0, 1) := by decide +kernel
theorem dX6_clashes_22 : decode cX6_clashes 22 = .ok (.iconst 1, 1) := by decide +kernel
theorem dX6_clashes_23 : decode cX6_clashes 23 = .ok (.invokevirtual 96, 3) := by decide +kernel
theorem dX6_clashes_26 : decode cX6_clashes 26 = .ok (.ireturn, 1) := by decide +kernel
theorem dX6_update_0 : decode cX6_update 0 = .ok (.aload_n 0, 1) := by decide +kernel
theorem dX6_update_1 : decode cX6_update 1 = .ok (.iload_n 1, 1) := by decide +kernel
theorem dX6_update_2 : decode cX6_update 2 = .ok (.bipush 111, 2) := by decide +kernel
theorem dX6_update_4 : decode cX6_update 4 = .ok (.invokevirtual 116, 3) := by decide +kernel
theorem dX6_update_7 : decode cX6_update 7 = .ok (.ifCond .eq 5, 3) := by decide +kernel
theorem dX6_update_10 : decode cX6_update 10 = .ok (.iconst 0, 1) := by decide +kernel
theorem dX6_update_11 : decode cX6_update 11 = .ok (.ireturn, 1) := by decide +kernel
theorem dX6_update_12 : decode cX6_update 12 = .ok (.aload_n 0, 1) := by decide +kernel
theorem dX6_update_13 : decode cX6_update 13 = .ok (.iload_n 1, 1) := by decide +kernel
theorem dX6_update_14 : decode cX6_update 14 = .ok (.invokevirtual 140, 3) := by decide +kernel
theorem dX6_update_17 : decode cX6_update 17 = .ok (.istore_n 2, 1) := by decide +kernel
theorem dX6_update_18 : decode cX6_update 18 = .ok (.iconst 0, 1) := by decide +kernel
theorem dX6_update_19 : decode cX6_update 19 = .ok (.istore_n 3, 1) := by decide +kernel
theorem dX6_update_20 : decode cX6_update 20 = .ok (.iload_n 3, 1) := by decide +kernel
theorem dX6_update_21 : decode cX6_update 21 = .ok (.bipush 64, 2) := by decide +kernel
theorem dX6_update_23 : decode cX6_update 23 = .ok (.if_icmp .ge 71, 3) := by decide +kernel
theorem dX6_update_26 : decode cX6_update 26 = .ok (.iconst 0, 1) := by decide +kernel
theorem dX6_update_27 : decode cX6_update 27 = .ok (.istore 4, 2) := by decide +kernel
theorem dX6_update_29 : decode cX6_update 29 = .ok (.iload 4, 2) := by decide +kernel
theorem dX6_update_31 : decode cX6_update 31 = .ok (.bipush 6, 2) := by decide +kernel
theorem dX6_update_33 : decode cX6_update 33 = .ok (.if_icmp .ge 46, 3) := by decide +kernel
theorem dX6_update_36 : decode cX6_update 36 = .ok (.aload_n 0, 1) := by decide +kernel
theorem dX6_update_37 : decode cX6_update 37 = .ok (.getfield 63, 3) := by decide +kernel
theorem dX6_update_40 : decode cX6_update 40 = .ok (.iload_n 1, 1) := by decide +kernel
theorem dX6_update_41 : decode cX6_update 41 = .ok (.aaload, 1) := by decide +kernel
theorem dX6_update_42 : decode cX6_update 42 = .ok (.iload 4, 2) := by decide +kernel
theorem dX6_update_44 : decode cX6_update 44 = .ok (.aaload, 1) := by decide +kernel
theorem dX6_update_45 : decode cX6_update 45 = .ok (.iload_n 3, 1) := by decide +kernel
theorem dX6_update_46 : decode cX6_update 46 = .ok (.aload_n 0, 1) := by decide +kernel
theorem dX6_update_47 : decode cX6_update 47 = .ok (.getfield 53, 3) := by decide +kernel
theorem dX6_update_50 : decode cX6_update 50 = .ok (.iload_n 1, 1) := by decide +kernel
theorem dX6_update_51 : decode cX6_update 51 = .ok (.aaload, 1) := by decide +kernel
theorem dX6_update_52 : decode cX6_update 52 = .ok (.iload_n 3, 1) := by decide +kernel
theorem dX6_update_53 : decode cX6_update 53 = .ok (.baload, 1) := by decide +kernel
theorem dX6_update_54 : decode cX6_update 54 = .ok (.ifCond .eq 7, 3) := by decide +kernel
theorem dX6_update_57 : decode cX6_update 57 = .ok (.iconst (-1), 1) := by decide +kernel
theorem dX6_update_58 : decode cX6_update 58 = .ok (.goto 14, 3) := by decide +kernel
theorem dX6_update_61 : decode cX6_update 61 = .ok (.aload_n 0, 1) := by decide +kernel
theorem dX6_update_62 : decode cX6_update 62 = .ok (.getfield 63, 3) := by decide +kernel
theorem dX6_update_65 : decode cX6_update 65 = .ok (.iload_n 1, 1) := by decide +kernel
theorem dX6_update_66 : decode cX6_update 66 = .ok (.aaload, 1) := by decide +kernel
theorem dX6_update_67 : decode cX6_update 67 = .ok (.iload 4, 2) := by decide +kernel
theorem dX6_update_69 : decode cX6_update 69 = .ok (.aaload, 1) := by decide +kernel
theorem dX6_update_70 : decode cX6_update 70 = .ok (.iload_n 3, 1) := by decide +kernel
theorem dX6_update_71 : decode cX6_update 71 = .ok (.iaload, 1) := by decide +kernel
theorem dX6_update_72 : decode cX6_update 72 = .ok (.iastore, 1) := by decide +kernel
theorem dX6_update_73 : decode cX6_update 73 = .ok (.iinc 4 1, 3) := by decide +kernel
theorem dX6_update_76 : decode cX6_update 76 = .ok (.goto (-47), 3) := by decide +kernel
theorem dX6_update_79 : decode cX6_update 79 = .ok (.aload_n 0, 1) := by decide +kernel
theorem dX6_update_80 : decode cX6_update 80 = .ok (.getfield 53, 3) := by decide +kernel
theorem dX6_update_83 : decode cX6_update 83 = .ok (.iload_n 1, 1) := by decide +kernel
theorem dX6_update_84 : decode cX6_update 84 = .ok (.aaload, 1) := by decide +kernel
theorem dX6_update_85 : decode cX6_update 85 = .ok (.iload_n 3, 1) := by decide +kernel
theorem dX6_update_86 : decode cX6_update 86 = .ok (.iconst 0, 1) := by decide +kernel
theorem dX6_update_87 : decode cX6_update 87 = .ok (.bastore, 1) := by decide +kernel
theorem dX6_update_88 : decode cX6_update 88 = .ok (.iinc 3 1, 3) := by decide +kernel
theorem dX6_update_91 : decode cX6_update 91 = .ok (.goto (-71), 3) := by decide +kernel
theorem dX6_update_94 : decode cX6_update 94 = .ok (.iload_n 2, 1) := by decide +kernel
theorem dX6_update_95 : decode cX6_update 95 = .ok (.ireturn, 1) := by decide +kernel
theorem dX6_addTest_0 : decode cX6_addTest 0 = .ok (.aload_n 0, 1) := by decide +kernel
theorem dX6_addTest_1 : decode cX6_addTest 1 = .ok (.iconst 0, 1) := by decide +kernel
theorem dX6_addTest_2 : decode cX6_addTest 2 = .ok (.putfield 1, 3) := by decide +kernel
theorem dX6_addTest_5 : decode cX6_addTest 5 = .ok (.iload_n 1, 1) := by decide +kernel
theorem dX6_addTest_6 : decode cX6_addTest 6 = .ok (.iload_n 2, 1) := by decide +kernel
theorem dX6_addTest_7 : decode cX6_addTest 7 = .ok (.invokestatic 109, 3) := by decide +kernel
theorem dX6_addTest_10 : decode cX6_addTest 10 = .ok (.ifCond .eq 12, 3) := by decide +kernel
theorem dX6_addTest_13 : decode cX6_addTest 13 = .ok (.iload_n 3, 1) := by decide +kernel
theorem dX6_addTest_14 : decode cX6_addTest 14 = .ok (.iload 4, 2) := by decide +kernel
theorem dX6_addTest_16 : decode cX6_addTest 16 = .ok (.invokestatic 109, 3) := by decide +kernel
theorem dX6_addTest_19 : decode cX6_addTest 19 = .ok (.ifCond .ne 9, 3) := by decide +kernel
theorem dX6_addTest_22 : decode cX6_addTest 22 = .ok (.aload_n 0, 1) := by decide +kernel
theorem dX6_addTest_23 : decode cX6_addTest 23 = .ok (.iconst 1, 1) := by decide +kernel
theorem dX6_addTest_24 : decode cX6_addTest 24 = .ok (.invokevirtual 96, 3) := by decide +kernel
theorem dX6_addTest_27 : decode cX6_addTest 27 = .ok (.ireturn, 1) := by decide +kernel
theorem dX6_addTest_28 : decode cX6_addTest 28 = .ok (.iload 5, 2) := by decide +kernel
theorem dX6_addTest_30 : decode cX6_addTest 30 = .ok (.iconst 0, 1) := by decide +kernel
theorem dX6_addTest_31 : decode cX6_addTest 31 = .ok (.sipush 198, 3) := by decide +kernel
theorem dX6_addTest_34 : decode cX6_addTest 34 = .ok (.invokestatic 7, 3) := by decide +kernel
theorem dX6_addTest_37 : decode cX6_addTest 37 = .ok (.ifCond .ne 9, 3) := by decide +kernel
theorem dX6_addTest_40 : decode cX6_addTest 40 = .ok (.aload_n 0, 1) := by decide +kernel
theorem dX6_addTest_41 : decode cX6_addTest 41 = .ok (.iconst 2, 1) := by decide +kernel
theorem dX6_addTest_42 : decode cX6_addTest 42 = .ok (.invokevirtual 96, 3) := by decide +kernel
theorem dX6_addTest_45 : decode cX6_addTest 45 = .ok (.ireturn, 1) := by decide +kernel
theorem dX6_addTest_46 : decode cX6_addTest 46 = .ok (.aload_n 0, 1) := by decide +kernel
theorem dX6_addTest_47 : decode cX6_addTest 47 = .ok (.getfield 150, 3) := by decide +kernel
theorem dX6_addTest_50 : decode cX6_addTest 50 = .ok (.bipush 12, 2) := by decide +kernel
theorem dX6_addTest_52 : decode cX6_addTest 52 = .ok (.if_icmp .ne 9, 3) := by decide +kernel
theorem dX6_addTest_55 : decode cX6_addTest 55 = .ok (.aload_n 0, 1) := by decide +kernel
theorem dX6_addTest_56 : decode cX6_addTest 56 = .ok (.iconst 3, 1) := by decide +kernel
theorem dX6_addTest_57 : decode cX6_addTest 57 = .ok (.invokevirtual 96, 3) := by decide +kernel
theorem dX6_addTest_60 : decode cX6_addTest 60 = .ok (.ireturn, 1) := by decide +kernel
theorem dX6_addTest_61 : decode cX6_addTest 61 = .ok (.aload_n 0, 1) := by decide +kernel
theorem dX6_addTest_62 : decode cX6_addTest 62 = .ok (.getfield 17, 3) := by decide +kernel
theorem dX6_addTest_65 : decode cX6_addTest 65 = .ok (.iconst 4, 1) := by decide +kernel
theorem dX6_addTest_66 : decode cX6_addTest 66 = .ok (.iload_n 1, 1) := by decide +kernel
theorem dX6_addTest_67 : decode cX6_addTest 67 = .ok (.imul, 1) := by decide +kernel
theorem dX6_addTest_68 : decode cX6_addTest 68 = .ok (.iload_n 2, 1) := by decide +kernel
theorem dX6_addTest_69 : decode cX6_addTest 69 = .ok (.iadd, 1) := by decide +kernel
theorem dX6_addTest_70 : decode cX6_addTest 70 = .ok (.iaload, 1) := by decide +kernel
theorem dX6_addTest_71 : decode cX6_addTest 71 = .ok (.aload_n 0, 1) := by decide +kernel
theorem dX6_addTest_72 : decode cX6_addTest 72 = .ok (.getfield 17, 3) := by decide +kernel
theorem dX6_addTest_75 : decode cX6_addTest 75 = .ok (.iconst 4, 1) := by decide +kernel
theorem dX6_addTest_76 : decode cX6_addTest 76 = .ok (.iload_n 3, 1) := by decide +kernel
theorem dX6_addTest_77 : decode cX6_addTest 77 = .ok (.imul, 1) := by decide +kernel
theorem dX6_addTest_78 : decode cX6_addTest 78 = .ok (.iload 4, 2) := by decide +kernel
theorem dX6_addTest_80 : decode cX6_addTest 80 = .ok (.iadd, 1) := by decide +kernel
theorem dX6_addTest_81 : decode cX6_addTest 81 = .ok (.iaload, 1) := by decide +kernel
theorem dX6_addTest_82 : decode cX6_addTest 82 = .ok (.iadd, 1) := by decide +kernel
theorem dX6_addTest_83 : decode cX6_addTest 83 = .ok (.iload 5, 2) := by decide +kernel
theorem dX6_addTest_85 : decode cX6_addTest 85 = .ok (.if_icmp .le 9, 3) := by decide +kernel
theorem dX6_addTest_88 : decode cX6_addTest 88 = .ok (.aload_n 0, 1) := by decide +kernel
theorem dX6_addTest_89 : decode cX6_addTest 89 = .ok (.iconst 4, 1) := by decide +kernel
theorem dX6_addTest_90 : decode cX6_addTest 90 = .ok (.invokevirtual 96, 3) := by decide +kernel
theorem dX6_addTest_93 : decode cX6_addTest 93 = .ok (.ireturn, 1) := by decide +kernel
theorem dX6_addTest_94 : decode cX6_addTest 94 = .ok (.aload_n 0, 1) := by decide +kernel
theorem dX6_addTest_95 : decode cX6_addTest 95 = .ok (.getfield 21, 3) := by decide +kernel
theorem dX6_addTest_98 : decode cX6_addTest 98 = .ok (.aload_n 0, 1) := by decide +kernel
theorem dX6_addTest_99 : decode cX6_addTest 99 = .ok (.getfield 150, 3) := by decide +kernel
theorem dX6_addTest_102 : decode cX6_addTest 102 = .ok (.iconst 4, 1) := by decide +kernel
theorem dX6_addTest_103 : decode cX6_addTest 103 = .ok (.iload_n 1, 1) := by decide +kernel
theorem dX6_addTest_104 : decode cX6_addTest 104 = .ok (.imul, 1) := by decide +kernel
theorem dX6_addTest_105 : decode cX6_addTest 105 = .ok (.iload_n 2, 1) := by decide +kernel
theorem dX6_addTest_106 : decode cX6_addTest 106 = .ok (.iadd, 1) := by decide +kernel
theorem dX6_addTest_107 : decode cX6_addTest 107 = .ok (.iastore, 1) := by decide +kernel
theorem dX6_addTest_108 : decode cX6_addTest 108 = .ok (.aload_n 0, 1) := by decide +kernel
theorem dX6_addTest_109 : decode cX6_addTest 109 = .ok (.getfield 24, 3) := by decide +kernel
theorem dX6_addTest_112 : decode cX6_addTest 112 = .ok (.aload_n 0, 1) := by decide +kernel
theorem dX6_addTest_113 : decode cX6_addTest 113 = .ok (.getfield 150, 3) := by decide +kernel
theorem dX6_addTest_116 : decode cX6_addTest 116 = .ok (.iconst 4, 1) := by decide +kernel
theorem dX6_addTest_117 : decode cX6_addTest 117 = .ok (.iload_n 3, 1) := by decide +kernel
theorem dX6_addTest_118 : decode cX6_addTest 118 = .ok (.imul, 1) := by decide +kernel
theorem dX6_addTest_119 : decode cX6_addTest 119 = .ok (.iload 4, 2) := by decide +kernel
theorem dX6_addTest_121 : decode cX6_addTest 121 = .ok (.iadd, 1) := by decide +kernel
theorem dX6_addTest_122 : decode cX6_addTest 122 = .ok (.iastore, 1) := by decide +kernel
theorem dX6_addTest_123 : decode cX6_addTest 123 = .ok (.aload_n 0, 1) := by decide +kernel
theorem dX6_addTest_124 : decode cX6_addTest 124 = .ok (.getfield 27, 3) := by decide +kernel
theorem dX6_addTest_127 : decode cX6_addTest 127 = .ok (.aload_n 0, 1) := by decide +kernel
theorem dX6_addTest_128 : decode cX6_addTest 128 = .ok (.getfield 150, 3) := by decide +kernel
theorem dX6_addTest_131 : decode cX6_addTest 131 = .ok (.iload 5, 2) := by decide +kernel
theorem dX6_addTest_133 : decode cX6_addTest 133 = .ok (.iastore, 1) := by decide +kernel
theorem dX6_addTest_134 : decode cX6_addTest 134 = .ok (.aload_n 0, 1) := by decide +kernel
theorem dX6_addTest_135 : decode cX6_addTest 135 = .ok (.dup, 1) := by decide +kernel
theorem dX6_addTest_136 : decode cX6_addTest 136 = .ok (.getfield 150, 3) := by decide +kernel
theorem dX6_addTest_139 : decode cX6_addTest 139 = .ok (.iconst 1, 1) := by decide +kernel
theorem dX6_addTest_140 : decode cX6_addTest 140 = .ok (.iadd, 1) := by decide +kernel
theorem dX6_addTest_141 : decode cX6_addTest 141 = .ok (.putfield 150, 3) := by decide +kernel
theorem dX6_addTest_144 : decode cX6_addTest 144 = .ok (.aload_n 0, 1) := by decide +kernel
theorem dX6_addTest_145 : decode cX6_addTest 145 = .ok (.getfield 85, 3) := by decide +kernel
theorem dX6_addTest_148 : decode cX6_addTest 148 = .ok (.invokevirtual 217, 3) := by decide +kernel
theorem dX6_addTest_151 : decode cX6_addTest 151 = .ok (.aload_n 0, 1) := by decide +kernel
theorem dX6_addTest_152 : decode cX6_addTest 152 = .ok (.getfield 150, 3) := by decide +kernel
theorem dX6_addTest_155 : decode cX6_addTest 155 = .ok (.iconst 1, 1) := by decide +kernel
theorem dX6_addTest_156 : decode cX6_addTest 156 = .ok (.isub, 1) := by decide +kernel
theorem dX6_addTest_157 : decode cX6_addTest 157 = .ok (.ireturn, 1) := by decide +kernel
theorem dX6_dropTest_0 : decode cX6_dropTest 0 = .ok (.aload_n 0, 1) := by decide +kernel
theorem dX6_dropTest_1 : decode cX6_dropTest 1 = .ok (.iconst 0, 1) := by decide +kernel
theorem dX6_dropTest_2 : decode cX6_dropTest 2 = .ok (.putfield 1, 3) := by decide +kernel
theorem dX6_dropTest_5 : decode cX6_dropTest 5 = .ok (.iload_n 1, 1) := by decide +kernel
theorem dX6_dropTest_6 : decode cX6_dropTest 6 = .ok (.iconst 0, 1) := by decide +kernel
theorem dX6_dropTest_7 : decode cX6_dropTest 7 = .ok (.aload_n 0, 1) := by decide +kernel
theorem dX6_dropTest_8 : decode cX6_dropTest 8 = .ok (.getfield 150, 3) := by decide +kernel
theorem dX6_dropTest_11 : decode cX6_dropTest 11 = .ok (.iconst 1, 1) := by decide +kernel
theorem dX6_dropTest_12 : decode cX6_dropTest 12 = .ok (.isub, 1) := by decide +kernel
theorem dX6_dropTest_13 : decode cX6_dropTest 13 = .ok (.invokestatic 7, 3) := by decide +kernel
theorem dX6_dropTest_16 : decode cX6_dropTest 16 = .ok (.ifCond .eq 12, 3) := by decide +kernel
theorem dX6_dropTest_19 : decode cX6_dropTest 19 = .ok (.aload_n 0, 1) := by decide +kernel
theorem dX6_dropTest_20 : decode cX6_dropTest 20 = .ok (.getfield 30, 3) := by decide +kernel
theorem dX6_dropTest_23 : decode cX6_dropTest 23 = .ok (.iload_n 1, 1) := by decide +kernel
theorem dX6_dropTest_24 : decode cX6_dropTest 24 = .ok (.baload, 1) := by decide +kernel
theorem dX6_dropTest_25 : decode cX6_dropTest 25 = .ok (.ifCond .eq 9, 3) := by decide +kernel
theorem dX6_dropTest_28 : decode cX6_dropTest 28 = .ok (.aload_n 0, 1) := by decide +kernel
theorem dX6_dropTest_29 : decode cX6_dropTest 29 = .ok (.iconst 1, 1) := by decide +kernel
theorem dX6_dropTest_30 : decode cX6_dropTest 30 = .ok (.invokevirtual 96, 3) := by decide +kernel
theorem dX6_dropTest_33 : decode cX6_dropTest 33 = .ok (.ireturn, 1) := by decide +kernel
theorem dX6_dropTest_34 : decode cX6_dropTest 34 = .ok (.aload_n 0, 1) := by decide +kernel
theorem dX6_dropTest_35 : decode cX6_dropTest 35 = .ok (.getfield 30, 3) := by decide +kernel
theorem dX6_dropTest_38 : decode cX6_dropTest 38 = .ok (.iload_n 1, 1) := by decide +kernel
theorem dX6_dropTest_39 : decode cX6_dropTest 39 = .ok (.iconst 1, 1) := by decide +kernel
theorem dX6_dropTest_40 : decode cX6_dropTest 40 = .ok (.bastore, 1) := by decide +kernel
theorem dX6_dropTest_41 : decode cX6_dropTest 41 = .ok (.aload_n 0, 1) := by decide +kernel
theorem dX6_dropTest_42 : decode cX6_dropTest 42 = .ok (.getfield 85, 3) := by decide +kernel
theorem dX6_dropTest_45 : decode cX6_dropTest 45 = .ok (.invokevirtual 217, 3) := by decide +kernel
theorem dX6_dropTest_48 : decode cX6_dropTest 48 = .ok (.iconst 0, 1) := by decide +kernel
theorem dX6_dropTest_49 : decode cX6_dropTest 49 = .ok (.istore_n 2, 1) := by decide +kernel
theorem dX6_dropTest_50 : decode cX6_dropTest 50 = .ok (.iconst 0, 1) := by decide +kernel
theorem dX6_dropTest_51 : decode cX6_dropTest 51 = .ok (.istore_n 3, 1) := by decide +kernel
theorem dX6_dropTest_52 : decode cX6_dropTest 52 = .ok (.iload_n 3, 1) := by decide +kernel
theorem dX6_dropTest_53 : decode cX6_dropTest 53 = .ok (.aload_n 0, 1) := by decide +kernel
theorem dX6_dropTest_54 : decode cX6_dropTest 54 = .ok (.getfield 150, 3) := by decide +kernel
theorem dX6_dropTest_57 : decode cX6_dropTest 57 = .ok (.if_icmp .ge 26, 3) := by decide +kernel
theorem dX6_dropTest_60 : decode cX6_dropTest 60 = .ok (.iload_n 2, 1) := by decide +kernel
theorem dX6_dropTest_61 : decode cX6_dropTest 61 = .ok (.aload_n 0, 1) := by decide +kernel
theorem dX6_dropTest_62 : decode cX6_dropTest 62 = .ok (.getfield 30, 3) := by decide +kernel
theorem dX6_dropTest_65 : decode cX6_dropTest 65 = .ok (.iload_n 3, 1) := by decide +kernel
theorem dX6_dropTest_66 : decode cX6_dropTest 66 = .ok (.baload, 1) := by decide +kernel
theorem dX6_dropTest_67 : decode cX6_dropTest 67 = .ok (.ifCond .eq 7, 3) := by decide +kernel
theorem dX6_dropTest_70 : decode cX6_dropTest 70 = .ok (.iconst 0, 1) := by decide +kernel
theorem dX6_dropTest_71 : decode cX6_dropTest 71 = .ok (.goto 4, 3) := by decide +kernel
theorem dX6_dropTest_74 : decode cX6_dropTest 74 = .ok (.iconst 1, 1) := by decide +kernel
theorem dX6_dropTest_75 : decode cX6_dropTest 75 = .ok (.iadd, 1) := by decide +kernel
theorem dX6_dropTest_76 : decode cX6_dropTest 76 = .ok (.istore_n 2, 1) := by decide +kernel
theorem dX6_dropTest_77 : decode cX6_dropTest 77 = .ok (.iinc 3 1, 3) := by decide +kernel
theorem dX6_dropTest_80 : decode cX6_dropTest 80 = .ok (.goto (-28), 3) := by decide +kernel
theorem dX6_dropTest_83 : decode cX6_dropTest 83 = .ok (.iload_n 2, 1) := by decide +kernel
theorem dX6_dropTest_84 : decode cX6_dropTest 84 = .ok (.ireturn, 1) := by decide +kernel
theorem dX6_value_0 : decode cX6_value 0 = .ok (.aload_n 0, 1) := by decide +kernel
theorem dX6_value_1 : decode cX6_value 1 = .ok (.iconst 0, 1) := by decide +kernel
theorem dX6_value_2 : decode cX6_value 2 = .ok (.putfield 1, 3) := by decide +kernel
theorem dX6_value_5 : decode cX6_value 5 = .ok (.iload_n 1, 1) := by decide +kernel
theorem dX6_value_6 : decode cX6_value 6 = .ok (.iload_n 2, 1) := by decide +kernel
theorem dX6_value_7 : decode cX6_value 7 = .ok (.invokestatic 109, 3) := by decide +kernel
theorem dX6_value_10 : decode cX6_value 10 = .ok (.ifCond .eq 16, 3) := by decide +kernel
theorem dX6_value_13 : decode cX6_value 13 = .ok (.aload_n 0, 1) := by decide +kernel
theorem dX6_value_14 : decode cX6_value 14 = .ok (.getfield 17, 3) := by decide +kernel
theorem dX6_value_17 : decode cX6_value 17 = .ok (.iconst 4, 1) := by decide +kernel
theorem dX6_value_18 : decode cX6_value 18 = .ok (.iload_n 1, 1) := by decide +kernel
theorem dX6_value_19 : decode cX6_value 19 = .ok (.imul, 1) := by decide +kernel
theorem dX6_value_20 : decode cX6_value 20 = .ok (.iload_n 2, 1) := by decide +kernel
theorem dX6_value_21 : decode cX6_value 21 = .ok (.iadd, 1) := by decide +kernel
theorem dX6_value_22 : decode cX6_value 22 = .ok (.iaload, 1) := by decide +kernel
theorem dX6_value_23 : decode cX6_value 23 = .ok (.goto 8, 3) := by decide +kernel
theorem dX6_value_26 : decode cX6_value 26 = .ok (.aload_n 0, 1) := by decide +kernel
theorem dX6_value_27 : decode cX6_value 27 = .ok (.iconst 1, 1) := by decide +kernel
theorem dX6_value_28 : decode cX6_value 28 = .ok (.invokevirtual 96, 3) := by decide +kernel
theorem dX6_value_31 : decode cX6_value 31 = .ok (.ireturn, 1) := by decide +kernel
theorem dX6_valueByMerges_0 : decode cX6_valueByMerges 0 = .ok (.aload_n 0, 1) := by decide +kernel
theorem dX6_valueByMerges_1 : decode cX6_valueByMerges 1 = .ok (.iconst 0, 1) := by decide +kernel
theorem dX6_valueByMerges_2 : decode cX6_valueByMerges 2 = .ok (.putfield 1, 3) := by decide +kernel
theorem dX6_valueByMerges_5 : decode cX6_valueByMerges 5 = .ok (.iload_n 1, 1) := by decide +kernel
theorem dX6_valueByMerges_6 : decode cX6_valueByMerges 6 = .ok (.iload_n 2, 1) := by decide +kernel
theorem dX6_valueByMerges_7 : decode cX6_valueByMerges 7 = .ok (.invokestatic 109, 3) := by decide +kernel
theorem dX6_valueByMerges_10 : decode cX6_valueByMerges 10 = .ok (.ifCond .ne 9, 3) := by decide +kernel
theorem dX6_valueByMerges_13 : decode cX6_valueByMerges 13 = .ok (.aload_n 0, 1) := by decide +kernel
theorem dX6_valueByMerges_14 : decode cX6_valueByMerges 14 = .ok (.iconst 1, 1) := by decide +kernel
theorem dX6_valueByMerges_15 : decode cX6_valueByMerges 15 = .ok (.invokevirtual 96, 3) := by decide +kernel
theorem dX6_valueByMerges_18 : decode cX6_valueByMerges 18 = .ok (.ireturn, 1) := by decide +kernel
theorem dX6_valueByMerges_19 : decode cX6_valueByMerges 19 = .ok (.iconst 0, 1) := by decide +kernel
theorem dX6_valueByMerges_20 : decode cX6_valueByMerges 20 = .ok (.istore_n 3, 1) := by decide +kernel
theorem dX6_valueByMerges_21 : decode cX6_valueByMerges 21 = .ok (.iconst 0, 1) := by decide +kernel
theorem dX6_valueByMerges_22 : decode cX6_valueByMerges 22 = .ok (.istore 4, 2) := by decide +kernel
theorem dX6_valueByMerges_24 : decode cX6_valueByMerges 24 = .ok (.iload 4, 2) := by decide +kernel
theorem dX6_valueByMerges_26 : decode cX6_valueByMerges 26 = .ok (.aload_n 0, 1) := by decide +kernel
theorem dX6_valueByMerges_27 : decode cX6_valueByMerges 27 = .ok (.getfield 198, 3) := by decide +kernel
theorem dX6_valueByMerges_30 : decode cX6_valueByMerges 30 = .ok (.if_icmp .ge 53, 3) := by decide +kernel
theorem dX6_valueByMerges_33 : decode cX6_valueByMerges 33 = .ok (.aload_n 0, 1) := by decide +kernel
theorem dX6_valueByMerges_34 : decode cX6_valueByMerges 34 = .ok (.getfield 48, 3) := by decide +kernel
theorem dX6_valueByMerges_37 : decode cX6_valueByMerges 37 = .ok (.aload_n 0, 1) := by decide +kernel
theorem dX6_valueByMerges_38 : decode cX6_valueByMerges 38 = .ok (.getfield 72, 3) := by decide +kernel
theorem dX6_valueByMerges_41 : decode cX6_valueByMerges 41 = .ok (.iload 4, 2) := by decide +kernel
theorem dX6_valueByMerges_43 : decode cX6_valueByMerges 43 = .ok (.iaload, 1) := by decide +kernel
theorem dX6_valueByMerges_44 : decode cX6_valueByMerges 44 = .ok (.aaload, 1) := by decide +kernel
theorem dX6_valueByMerges_45 : decode cX6_valueByMerges 45 = .ok (.iconst 4, 1) := by decide +kernel
theorem dX6_valueByMerges_46 : decode cX6_valueByMerges 46 = .ok (.iload_n 1, 1) := by decide +kernel
theorem dX6_valueByMerges_47 : decode cX6_valueByMerges 47 = .ok (.imul, 1) := by decide +kernel
theorem dX6_valueByMerges_48 : decode cX6_valueByMerges 48 = .ok (.iload_n 2, 1) := by decide +kernel
theorem dX6_valueByMerges_49 : decode cX6_valueByMerges 49 = .ok (.iadd, 1) := by decide +kernel
theorem dX6_valueByMerges_50 : decode cX6_valueByMerges 50 = .ok (.iaload, 1) := by decide +kernel
theorem dX6_valueByMerges_51 : decode cX6_valueByMerges 51 = .ok (.ifCond .ge 7, 3) := by decide +kernel
theorem dX6_valueByMerges_54 : decode cX6_valueByMerges 54 = .ok (.iload_n 3, 1) := by decide +kernel
theorem dX6_valueByMerges_55 : decode cX6_valueByMerges 55 = .ok (.goto 21, 3) := by decide +kernel
theorem dX6_valueByMerges_58 : decode cX6_valueByMerges 58 = .ok (.aload_n 0, 1) := by decide +kernel
theorem dX6_valueByMerges_59 : decode cX6_valueByMerges 59 = .ok (.getfield 48, 3) := by decide +kernel
theorem dX6_valueByMerges_62 : decode cX6_valueByMerges 62 = .ok (.aload_n 0, 1) := by decide +kernel
theorem dX6_valueByMerges_63 : decode cX6_valueByMerges 63 = .ok (.getfield 72, 3) := by decide +kernel
theorem dX6_valueByMerges_66 : decode cX6_valueByMerges 66 = .ok (.iload 4, 2) := by decide +kernel
theorem dX6_valueByMerges_68 : decode cX6_valueByMerges 68 = .ok (.iaload, 1) := by decide +kernel
theorem dX6_valueByMerges_69 : decode cX6_valueByMerges 69 = .ok (.aaload, 1) := by decide +kernel
theorem dX6_valueByMerges_70 : decode cX6_valueByMerges 70 = .ok (.iconst 4, 1) := by decide +kernel
theorem dX6_valueByMerges_71 : decode cX6_valueByMerges 71 = .ok (.iload_n 1, 1) := by decide +kernel
theorem dX6_valueByMerges_72 : decode cX6_valueByMerges 72 = .ok (.imul, 1) := by decide +kernel
theorem dX6_valueByMerges_73 : decode cX6_valueByMerges 73 = .ok (.iload_n 2, 1) := by decide +kernel
theorem dX6_valueByMerges_74 : decode cX6_valueByMerges 74 = .ok (.iadd, 1) := by decide +kernel
theorem dX6_valueByMerges_75 : decode cX6_valueByMerges 75 = .ok (.iaload, 1) := by decide +kernel
theorem dX6_valueByMerges_76 : decode cX6_valueByMerges 76 = .ok (.istore_n 3, 1) := by decide +kernel
theorem dX6_valueByMerges_77 : decode cX6_valueByMerges 77 = .ok (.iinc 4 1, 3) := by decide +kernel
theorem dX6_valueByMerges_80 : decode cX6_valueByMerges 80 = .ok (.goto (-56), 3) := by decide +kernel
theorem dX6_valueByMerges_83 : decode cX6_valueByMerges 83 = .ok (.iload_n 3, 1) := by decide +kernel
theorem dX6_valueByMerges_84 : decode cX6_valueByMerges 84 = .ok (.ireturn, 1) := by decide +kernel
theorem dX6_valueWith_0 : decode cX6_valueWith 0 = .ok (.aload_n 0, 1) := by decide +kernel
theorem dX6_valueWith_1 : decode cX6_valueWith 1 = .ok (.aload_n 0, 1) := by decide +kernel
theorem dX6_valueWith_2 : decode cX6_valueWith 2 = .ok (.iload_n 1, 1) := by decide +kernel
theorem dX6_valueWith_3 : decode cX6_valueWith 3 = .ok (.invokevirtual 106, 3) := by decide +kernel
theorem dX6_valueWith_6 : decode cX6_valueWith 6 = .ok (.ifCond .ne 7, 3) := by decide +kernel
theorem dX6_valueWith_9 : decode cX6_valueWith 9 = .ok (.iconst 1, 1) := by decide +kernel
theorem dX6_valueWith_10 : decode cX6_valueWith 10 = .ok (.goto 16, 3) := by decide +kernel
theorem dX6_valueWith_13 : decode cX6_valueWith 13 = .ok (.iload_n 2, 1) := by decide +kernel
theorem dX6_valueWith_14 : decode cX6_valueWith 14 = .ok (.iload_n 3, 1) := by decide +kernel
theorem dX6_valueWith_15 : decode cX6_valueWith 15 = .ok (.invokestatic 109, 3) := by decide +kernel
theorem dX6_valueWith_18 : decode cX6_valueWith 18 = .ok (.ifCond .eq 7, 3) := by decide +kernel
theorem dX6_valueWith_21 : decode cX6_valueWith 21 = .ok (.iconst 0, 1) := by decide +kernel
theorem dX6_valueWith_22 : decode cX6_valueWith 22 = .ok (.goto 4, 3) := by decide +kernel
theorem dX6_valueWith_25 : decode cX6_valueWith 25 = .ok (.iconst 2, 1) := by decide +kernel
theorem dX6_valueWith_26 : decode cX6_valueWith 26 = .ok (.putfield 1, 3) := by decide +kernel
theorem dX6_valueWith_29 : decode cX6_valueWith 29 = .ok (.aload_n 0, 1) := by decide +kernel
theorem dX6_valueWith_30 : decode cX6_valueWith 30 = .ok (.getfield 1, 3) := by decide +kernel
theorem dX6_valueWith_33 : decode cX6_valueWith 33 = .ok (.ifCond .le 5, 3) := by decide +kernel
theorem dX6_valueWith_36 : decode cX6_valueWith 36 = .ok (.iconst 0, 1) := by decide +kernel
theorem dX6_valueWith_37 : decode cX6_valueWith 37 = .ok (.ireturn, 1) := by decide +kernel
theorem dX6_valueWith_38 : decode cX6_valueWith 38 = .ok (.aload_n 0, 1) := by decide +kernel
theorem dX6_valueWith_39 : decode cX6_valueWith 39 = .ok (.getfield 48, 3) := by decide +kernel
theorem dX6_valueWith_42 : decode cX6_valueWith 42 = .ok (.iload_n 1, 1) := by decide +kernel
theorem dX6_valueWith_43 : decode cX6_valueWith 43 = .ok (.aaload, 1) := by decide +kernel
theorem dX6_valueWith_44 : decode cX6_valueWith 44 = .ok (.iconst 4, 1) := by decide +kernel
theorem dX6_valueWith_45 : decode cX6_valueWith 45 = .ok (.iload_n 2, 1) := by decide +kernel
theorem dX6_valueWith_46 : decode cX6_valueWith 46 = .ok (.imul, 1) := by decide +kernel
theorem dX6_valueWith_47 : decode cX6_valueWith 47 = .ok (.iload_n 3, 1) := by decide +kernel
theorem dX6_valueWith_48 : decode cX6_valueWith 48 = .ok (.iadd, 1) := by decide +kernel
theorem dX6_valueWith_49 : decode cX6_valueWith 49 = .ok (.iaload, 1) := by decide +kernel
theorem dX6_valueWith_50 : decode cX6_valueWith 50 = .ok (.ifCond .ge 16, 3) := by decide +kernel
theorem dX6_valueWith_53 : decode cX6_valueWith 53 = .ok (.aload_n 0, 1) := by decide +kernel
theorem dX6_valueWith_54 : decode cX6_valueWith 54 = .ok (.getfield 17, 3) := by decide +kernel
theorem dX6_valueWith_57 : decode cX6_valueWith 57 = .ok (.iconst 4, 1) := by decide +kernel
theorem dX6_valueWith_58 : decode cX6_valueWith 58 = .ok (.iload_n 2, 1) := by decide +kernel
theorem dX6_valueWith_59 : decode cX6_valueWith 59 = .ok (.imul, 1) := by decide +kernel
theorem dX6_valueWith_60 : decode cX6_valueWith 60 = .ok (.iload_n 3, 1) := by decide +kernel
theorem dX6_valueWith_61 : decode cX6_valueWith 61 = .ok (.iadd, 1) := by decide +kernel
theorem dX6_valueWith_62 : decode cX6_valueWith 62 = .ok (.iaload, 1) := by decide +kernel
theorem dX6_valueWith_63 : decode cX6_valueWith 63 = .ok (.goto 15, 3) := by decide +kernel
theorem dX6_valueWith_66 : decode cX6_valueWith 66 = .ok (.aload_n 0, 1) := by decide +kernel
theorem dX6_valueWith_67 : decode cX6_valueWith 67 = .ok (.getfield 48, 3) := by decide +kernel
theorem dX6_valueWith_70 : decode cX6_valueWith 70 = .ok (.iload_n 1, 1) := by decide +kernel
theorem dX6_valueWith_71 : decode cX6_valueWith 71 = .ok (.aaload, 1) := by decide +kernel
theorem dX6_valueWith_72 : decode cX6_valueWith 72 = .ok (.iconst 4, 1) := by decide +kernel
theorem dX6_valueWith_73 : decode cX6_valueWith 73 = .ok (.iload_n 2, 1) := by decide +kernel
theorem dX6_valueWith_74 : decode cX6_valueWith 74 = .ok (.imul, 1) := by decide +kernel
theorem dX6_valueWith_75 : decode cX6_valueWith 75 = .ok (.iload_n 3, 1) := by decide +kernel
theorem dX6_valueWith_76 : decode cX6_valueWith 76 = .ok (.iadd, 1) := by decide +kernel
theorem dX6_valueWith_77 : decode cX6_valueWith 77 = .ok (.iaload, 1) := by decide +kernel
theorem dX6_valueWith_78 : decode cX6_valueWith 78 = .ok (.ireturn, 1) := by decide +kernel
theorem dX6_marks_0 : decode cX6_marks 0 = .ok (.iconst 0, 1) := by decide +kernel
theorem dX6_marks_1 : decode cX6_marks 1 = .ok (.istore_n 3, 1) := by decide +kernel
theorem dX6_marks_2 : decode cX6_marks 2 = .ok (.aload_n 0, 1) := by decide +kernel
theorem dX6_marks_3 : decode cX6_marks 3 = .ok (.getfield 72, 3) := by decide +kernel
theorem dX6_marks_6 : decode cX6_marks 6 = .ok (.iload_n 3, 1) := by decide +kernel
theorem dX6_marks_7 : decode cX6_marks 7 = .ok (.iaload, 1) := by decide +kernel
theorem dX6_marks_8 : decode cX6_marks 8 = .ok (.iload_n 1, 1) := by decide +kernel
theorem dX6_marks_9 : decode cX6_marks 9 = .ok (.if_icmp .eq 9, 3) := by decide +kernel
theorem dX6_marks_12 : decode cX6_marks 12 = .ok (.iinc 3 1, 3) := by decide +kernel
theorem dX6_marks_15 : decode cX6_marks 15 = .ok (.goto (-13), 3) := by decide +kernel
theorem dX6_marks_18 : decode cX6_marks 18 = .ok (.aload_n 2, 1) := by decide +kernel
theorem dX6_marks_19 : decode cX6_marks 19 = .ok (.iload_n 1, 1) := by decide +kernel
theorem dX6_marks_20 : decode cX6_marks 20 = .ok (.iconst 1, 1) := by decide +kernel
theorem dX6_marks_21 : decode cX6_marks 21 = .ok (.bastore, 1) := by decide +kernel
theorem dX6_marks_22 : decode cX6_marks 22 = .ok (.iconst 1, 1) := by decide +kernel
theorem dX6_marks_23 : decode cX6_marks 23 = .ok (.istore 4, 2) := by decide +kernel
theorem dX6_marks_25 : decode cX6_marks 25 = .ok (.iload_n 3, 1) := by decide +kernel
theorem dX6_marks_26 : decode cX6_marks 26 = .ok (.iconst 1, 1) := by decide +kernel
theorem dX6_marks_27 : decode cX6_marks 27 = .ok (.iadd, 1) := by decide +kernel
theorem dX6_marks_28 : decode cX6_marks 28 = .ok (.istore 5, 2) := by decide +kernel
theorem dX6_marks_30 : decode cX6_marks 30 = .ok (.iload 5, 2) := by decide +kernel
theorem dX6_marks_32 : decode cX6_marks 32 = .ok (.aload_n 0, 1) := by decide +kernel
theorem dX6_marks_33 : decode cX6_marks 33 = .ok (.getfield 198, 3) := by decide +kernel
theorem dX6_marks_36 : decode cX6_marks 36 = .ok (.if_icmp .ge 86, 3) := by decide +kernel
theorem dX6_marks_39 : decode cX6_marks 39 = .ok (.iload_n 3, 1) := by decide +kernel
theorem dX6_marks_40 : decode cX6_marks 40 = .ok (.istore 6, 2) := by decide +kernel
theorem dX6_marks_42 : decode cX6_marks 42 = .ok (.iload 6, 2) := by decide +kernel
theorem dX6_marks_44 : decode cX6_marks 44 = .ok (.iload 5, 2) := by decide +kernel
theorem dX6_marks_46 : decode cX6_marks 46 = .ok (.if_icmp .ge 70, 3) := by decide +kernel
theorem dX6_marks_49 : decode cX6_marks 49 = .ok (.aload_n 2, 1) := by decide +kernel
theorem dX6_marks_50 : decode cX6_marks 50 = .ok (.aload_n 0, 1) := by decide +kernel
theorem dX6_marks_51 : decode cX6_marks 51 = .ok (.getfield 72, 3) := by decide +kernel
theorem dX6_marks_54 : decode cX6_marks 54 = .ok (.iload 5, 2) := by decide +kernel
theorem dX6_marks_56 : decode cX6_marks 56 = .ok (.iaload, 1) := by decide +kernel
theorem dX6_marks_57 : decode cX6_marks 57 = .ok (.baload, 1) := by decide +kernel
theorem dX6_marks_58 : decode cX6_marks 58 = .ok (.ifCond .ne 58, 3) := by decide +kernel
theorem dX6_marks_61 : decode cX6_marks 61 = .ok (.aload_n 2, 1) := by decide +kernel
theorem dX6_marks_62 : decode cX6_marks 62 = .ok (.aload_n 0, 1) := by decide +kernel
theorem dX6_marks_63 : decode cX6_marks 63 = .ok (.getfield 72, 3) := by decide +kernel
theorem dX6_marks_66 : decode cX6_marks 66 = .ok (.iload 6, 2) := by decide +kernel
theorem dX6_marks_68 : decode cX6_marks 68 = .ok (.iaload, 1) := by decide +kernel
theorem dX6_marks_69 : decode cX6_marks 69 = .ok (.baload, 1) := by decide +kernel
theorem dX6_marks_70 : decode cX6_marks 70 = .ok (.ifCond .eq 40, 3) := by decide +kernel
theorem dX6_marks_73 : decode cX6_marks 73 = .ok (.aload_n 0, 1) := by decide +kernel
theorem dX6_marks_74 : decode cX6_marks 74 = .ok (.aload_n 0, 1) := by decide +kernel
theorem dX6_marks_75 : decode cX6_marks 75 = .ok (.getfield 72, 3) := by decide +kernel
theorem dX6_marks_78 : decode cX6_marks 78 = .ok (.iload 5, 2) := by decide +kernel
theorem dX6_marks_80 : decode cX6_marks 80 = .ok (.iaload, 1) := by decide +kernel
theorem dX6_marks_81 : decode cX6_marks 81 = .ok (.aload_n 0, 1) := by decide +kernel
theorem dX6_marks_82 : decode cX6_marks 82 = .ok (.getfield 72, 3) := by decide +kernel
theorem dX6_marks_85 : decode cX6_marks 85 = .ok (.iload 6, 2) := by decide +kernel
theorem dX6_marks_87 : decode cX6_marks 87 = .ok (.iaload, 1) := by decide +kernel
theorem dX6_marks_88 : decode cX6_marks 88 = .ok (.invokevirtual 201, 3) := by decide +kernel
theorem dX6_marks_91 : decode cX6_marks 91 = .ok (.ifCond .ne 6, 3) := by decide +kernel
theorem dX6_marks_94 : decode cX6_marks 94 = .ok (.goto 16, 3) := by decide +kernel
theorem dX6_marks_97 : decode cX6_marks 97 = .ok (.aload_n 2, 1) := by decide +kernel
theorem dX6_marks_98 : decode cX6_marks 98 = .ok (.aload_n 0, 1) := by decide +kernel
theorem dX6_marks_99 : decode cX6_marks 99 = .ok (.getfield 72, 3) := by decide +kernel
theorem dX6_marks_102 : decode cX6_marks 102 = .ok (.iload 5, 2) := by decide +kernel
theorem dX6_marks_104 : decode cX6_marks 104 = .ok (.iaload, 1) := by decide +kernel
theorem dX6_marks_105 : decode cX6_marks 105 = .ok (.iconst 1, 1) := by decide +kernel
theorem dX6_marks_106 : decode cX6_marks 106 = .ok (.bastore, 1) := by decide +kernel
theorem dX6_marks_107 : decode cX6_marks 107 = .ok (.iinc 4 1, 3) := by decide +kernel
theorem dX6_marks_110 : decode cX6_marks 110 = .ok (.iinc 6 1, 3) := by decide +kernel
theorem dX6_marks_113 : decode cX6_marks 113 = .ok (.goto (-71), 3) := by decide +kernel
theorem dX6_marks_116 : decode cX6_marks 116 = .ok (.iinc 5 1, 3) := by decide +kernel
theorem dX6_marks_119 : decode cX6_marks 119 = .ok (.goto (-89), 3) := by decide +kernel
theorem dX6_marks_122 : decode cX6_marks 122 = .ok (.iload 4, 2) := by decide +kernel
theorem dX6_marks_124 : decode cX6_marks 124 = .ok (.ireturn, 1) := by decide +kernel
theorem dX6_along_0 : decode cX6_along 0 = .ok (.aload_n 0, 1) := by decide +kernel
theorem dX6_along_1 : decode cX6_along 1 = .ok (.iload_n 1, 1) := by decide +kernel
theorem dX6_along_2 : decode cX6_along 2 = .ok (.bipush 109, 2) := by decide +kernel
theorem dX6_along_4 : decode cX6_along 4 = .ok (.invokevirtual 116, 3) := by decide +kernel
theorem dX6_along_7 : decode cX6_along 7 = .ok (.ifCond .eq 7, 3) := by decide +kernel
theorem dX6_along_10 : decode cX6_along 10 = .ok (.iconst 0, 1) := by decide +kernel
theorem dX6_along_11 : decode cX6_along 11 = .ok (.goto 12, 3) := by decide +kernel
theorem dX6_along_14 : decode cX6_along 14 = .ok (.aload_n 0, 1) := by decide +kernel
theorem dX6_along_15 : decode cX6_along 15 = .ok (.iload_n 1, 1) := by decide +kernel
theorem dX6_along_16 : decode cX6_along 16 = .ok (.bipush 16, 2) := by decide +kernel
theorem dX6_along_18 : decode cX6_along 18 = .ok (.newarray .boolean, 2) := by decide +kernel
theorem dX6_along_20 : decode cX6_along 20 = .ok (.invokevirtual 220, 3) := by decide +kernel
theorem dX6_along_23 : decode cX6_along 23 = .ok (.ireturn, 1) := by decide +kernel
theorem dX6_revert_0 : decode cX6_revert 0 = .ok (.aload_n 0, 1) := by decide +kernel
theorem dX6_revert_1 : decode cX6_revert 1 = .ok (.iload_n 1, 1) := by decide +kernel
theorem dX6_revert_2 : decode cX6_revert 2 = .ok (.bipush 109, 2) := by decide +kernel
theorem dX6_revert_4 : decode cX6_revert 4 = .ok (.invokevirtual 116, 3) := by decide +kernel
theorem dX6_revert_7 : decode cX6_revert 7 = .ok (.ifCond .eq 5, 3) := by decide +kernel
theorem dX6_revert_10 : decode cX6_revert 10 = .ok (.iconst 0, 1) := by decide +kernel
theorem dX6_revert_11 : decode cX6_revert 11 = .ok (.ireturn, 1) := by decide +kernel
theorem dX6_revert_12 : decode cX6_revert 12 = .ok (.bipush 16, 2) := by decide +kernel
theorem dX6_revert_14 : decode cX6_revert 14 = .ok (.newarray .boolean, 2) := by decide +kernel
theorem dX6_revert_16 : decode cX6_revert 16 = .ok (.astore_n 2, 1) := by decide +kernel
theorem dX6_revert_17 : decode cX6_revert 17 = .ok (.aload_n 0, 1) := by decide +kernel
theorem dX6_revert_18 : decode cX6_revert 18 = .ok (.iload_n 1, 1) := by decide +kernel
theorem dX6_revert_19 : decode cX6_revert 19 = .ok (.aload_n 2, 1) := by decide +kernel
theorem dX6_revert_20 : decode cX6_revert 20 = .ok (.invokevirtual 220, 3) := by decide +kernel
theorem dX6_revert_23 : decode cX6_revert 23 = .ok (.istore_n 3, 1) := by decide +kernel
theorem dX6_revert_24 : decode cX6_revert 24 = .ok (.bipush 64, 2) := by decide +kernel
theorem dX6_revert_26 : decode cX6_revert 26 = .ok (.newarray .int, 2) := by decide +kernel
theorem dX6_revert_28 : decode cX6_revert 28 = .ok (.astore 4, 2) := by decide +kernel
theorem dX6_revert_30 : decode cX6_revert 30 = .ok (.iconst 0, 1) := by decide +kernel
theorem dX6_revert_31 : decode cX6_revert 31 = .ok (.istore 5, 2) := by decide +kernel
theorem dX6_revert_33 : decode cX6_revert 33 = .ok (.iload 5, 2) := by decide +kernel
theorem dX6_revert_35 : decode cX6_revert 35 = .ok (.aload_n 0, 1) := by decide +kernel
theorem dX6_revert_36 : decode cX6_revert 36 = .ok (.getfield 198, 3) := by decide +kernel
theorem dX6_revert_39 : decode cX6_revert 39 = .ok (.if_icmp .ge 34, 3) := by decide +kernel
theorem dX6_revert_42 : decode cX6_revert 42 = .ok (.aload_n 2, 1) := by decide +kernel
theorem dX6_revert_43 : decode cX6_revert 43 = .ok (.aload_n 0, 1) := by decide +kernel
theorem dX6_revert_44 : decode cX6_revert 44 = .ok (.getfield 72, 3) := by decide +kernel
theorem dX6_revert_47 : decode cX6_revert 47 = .ok (.iload 5, 2) := by decide +kernel
theorem dX6_revert_49 : decode cX6_revert 49 = .ok (.iaload, 1) := by decide +kernel
theorem dX6_revert_50 : decode cX6_revert 50 = .ok (.baload, 1) := by decide +kernel
theorem dX6_revert_51 : decode cX6_revert 51 = .ok (.ifCond .ne 16, 3) := by decide +kernel
theorem dX6_revert_54 : decode cX6_revert 54 = .ok (.aload_n 0, 1) := by decide +kernel
theorem dX6_revert_55 : decode cX6_revert 55 = .ok (.aload_n 0, 1) := by decide +kernel
theorem dX6_revert_56 : decode cX6_revert 56 = .ok (.getfield 72, 3) := by decide +kernel
theorem dX6_revert_59 : decode cX6_revert 59 = .ok (.iload 5, 2) := by decide +kernel
theorem dX6_revert_61 : decode cX6_revert 61 = .ok (.iaload, 1) := by decide +kernel
theorem dX6_revert_62 : decode cX6_revert 62 = .ok (.aload 4, 2) := by decide +kernel
theorem dX6_revert_64 : decode cX6_revert 64 = .ok (.invokevirtual 194, 3) := by decide +kernel
theorem dX6_revert_67 : decode cX6_revert 67 = .ok (.iinc 5 1, 3) := by decide +kernel
theorem dX6_revert_70 : decode cX6_revert 70 = .ok (.goto (-37), 3) := by decide +kernel
theorem dX6_revert_73 : decode cX6_revert 73 = .ok (.aload_n 0, 1) := by decide +kernel
theorem dX6_revert_74 : decode cX6_revert 74 = .ok (.aload 4, 2) := by decide +kernel
theorem dX6_revert_76 : decode cX6_revert 76 = .ok (.invokevirtual 204, 3) := by decide +kernel
theorem dX6_revert_79 : decode cX6_revert 79 = .ok (.ifCond .ne 9, 3) := by decide +kernel
theorem dX6_revert_82 : decode cX6_revert 82 = .ok (.aload_n 0, 1) := by decide +kernel
theorem dX6_revert_83 : decode cX6_revert 83 = .ok (.iconst 3, 1) := by decide +kernel
theorem dX6_revert_84 : decode cX6_revert 84 = .ok (.invokevirtual 96, 3) := by decide +kernel
theorem dX6_revert_87 : decode cX6_revert 87 = .ok (.ireturn, 1) := by decide +kernel
theorem dX6_revert_88 : decode cX6_revert 88 = .ok (.iconst 0, 1) := by decide +kernel
theorem dX6_revert_89 : decode cX6_revert 89 = .ok (.istore 5, 2) := by decide +kernel
theorem dX6_revert_91 : decode cX6_revert 91 = .ok (.iconst 0, 1) := by decide +kernel
theorem dX6_revert_92 : decode cX6_revert 92 = .ok (.istore 6, 2) := by decide +kernel
theorem dX6_revert_94 : decode cX6_revert 94 = .ok (.iload 6, 2) := by decide +kernel
theorem dX6_revert_96 : decode cX6_revert 96 = .ok (.aload_n 0, 1) := by decide +kernel
theorem dX6_revert_97 : decode cX6_revert 97 = .ok (.getfield 198, 3) := by decide +kernel
theorem dX6_revert_100 : decode cX6_revert 100 = .ok (.if_icmp .ge 55, 3) := by decide +kernel
theorem dX6_revert_103 : decode cX6_revert 103 = .ok (.aload_n 2, 1) := by decide +kernel
theorem dX6_revert_104 : decode cX6_revert 104 = .ok (.aload_n 0, 1) := by decide +kernel
theorem dX6_revert_105 : decode cX6_revert 105 = .ok (.getfield 72, 3) := by decide +kernel
theorem dX6_revert_108 : decode cX6_revert 108 = .ok (.iload 6, 2) := by decide +kernel
theorem dX6_revert_110 : decode cX6_revert 110 = .ok (.iaload, 1) := by decide +kernel
theorem dX6_revert_111 : decode cX6_revert 111 = .ok (.baload, 1) := by decide +kernel
theorem dX6_revert_112 : decode cX6_revert 112 = .ok (.ifCond .eq 20, 3) := by decide +kernel
theorem dX6_revert_115 : decode cX6_revert 115 = .ok (.aload_n 0, 1) := by decide +kernel
theorem dX6_revert_116 : decode cX6_revert 116 = .ok (.getfield 75, 3) := by decide +kernel
theorem dX6_revert_119 : decode cX6_revert 119 = .ok (.aload_n 0, 1) := by decide +kernel
theorem dX6_revert_120 : decode cX6_revert 120 = .ok (.getfield 72, 3) := by decide +kernel
theorem dX6_revert_123 : decode cX6_revert 123 = .ok (.iload 6, 2) := by decide +kernel
theorem dX6_revert_125 : decode cX6_revert 125 = .ok (.iaload, 1) := by decide +kernel
theorem dX6_revert_126 : decode cX6_revert 126 = .ok (.bipush 118, 2) := by decide +kernel
theorem dX6_revert_128 : decode cX6_revert 128 = .ok (.castore, 1) := by decide +kernel
theorem dX6_revert_129 : decode cX6_revert 129 = .ok (.goto 20, 3) := by decide +kernel
theorem dX6_revert_132 : decode cX6_revert 132 = .ok (.aload_n 0, 1) := by decide +kernel
theorem dX6_revert_133 : decode cX6_revert 133 = .ok (.getfield 72, 3) := by decide +kernel
theorem dX6_revert_136 : decode cX6_revert 136 = .ok (.iload 5, 2) := by decide +kernel
theorem dX6_revert_138 : decode cX6_revert 138 = .ok (.aload_n 0, 1) := by decide +kernel
theorem dX6_revert_139 : decode cX6_revert 139 = .ok (.getfield 72, 3) := by decide +kernel
theorem dX6_revert_142 : decode cX6_revert 142 = .ok (.iload 6, 2) := by decide +kernel
theorem dX6_revert_144 : decode cX6_revert 144 = .ok (.iaload, 1) := by decide +kernel
theorem dX6_revert_145 : decode cX6_revert 145 = .ok (.iastore, 1) := by decide +kernel
theorem dX6_revert_146 : decode cX6_revert 146 = .ok (.iinc 5 1, 3) := by decide +kernel
theorem dX6_revert_149 : decode cX6_revert 149 = .ok (.iinc 6 1, 3) := by decide +kernel
theorem dX6_revert_152 : decode cX6_revert 152 = .ok (.goto (-58), 3) := by decide +kernel
theorem dX6_revert_155 : decode cX6_revert 155 = .ok (.aload_n 0, 1) := by decide +kernel
theorem dX6_revert_156 : decode cX6_revert 156 = .ok (.iload 5, 2) := by decide +kernel
theorem dX6_revert_158 : decode cX6_revert 158 = .ok (.putfield 198, 3) := by decide +kernel
theorem dX6_revert_161 : decode cX6_revert 161 = .ok (.iconst 0, 1) := by decide +kernel
theorem dX6_revert_162 : decode cX6_revert 162 = .ok (.istore 6, 2) := by decide +kernel
theorem dX6_revert_164 : decode cX6_revert 164 = .ok (.iload 6, 2) := by decide +kernel
theorem dX6_revert_166 : decode cX6_revert 166 = .ok (.bipush 64, 2) := by decide +kernel
theorem dX6_revert_168 : decode cX6_revert 168 = .ok (.if_icmp .ge 21, 3) := by decide +kernel
theorem dX6_revert_171 : decode cX6_revert 171 = .ok (.aload_n 0, 1) := by decide +kernel
theorem dX6_revert_172 : decode cX6_revert 172 = .ok (.getfield 17, 3) := by decide +kernel
theorem dX6_revert_175 : decode cX6_revert 175 = .ok (.iload 6, 2) := by decide +kernel
theorem dX6_revert_177 : decode cX6_revert 177 = .ok (.aload 4, 2) := by decide +kernel
theorem dX6_revert_179 : decode cX6_revert 179 = .ok (.iload 6, 2) := by decide +kernel
theorem dX6_revert_181 : decode cX6_revert 181 = .ok (.iaload, 1) := by decide +kernel
theorem dX6_revert_182 : decode cX6_revert 182 = .ok (.iastore, 1) := by decide +kernel
theorem dX6_revert_183 : decode cX6_revert 183 = .ok (.iinc 6 1, 3) := by decide +kernel
theorem dX6_revert_186 : decode cX6_revert 186 = .ok (.goto (-22), 3) := by decide +kernel
theorem dX6_revert_189 : decode cX6_revert 189 = .ok (.iload_n 3, 1) := by decide +kernel
theorem dX6_revert_190 : decode cX6_revert 190 = .ok (.ireturn, 1) := by decide +kernel
theorem dX6_mergedAt_0 : decode cX6_mergedAt 0 = .ok (.aload_n 0, 1) := by decide +kernel
theorem dX6_mergedAt_1 : decode cX6_mergedAt 1 = .ok (.iconst 0, 1) := by decide +kernel
theorem dX6_mergedAt_2 : decode cX6_mergedAt 2 = .ok (.putfield 1, 3) := by decide +kernel
theorem dX6_mergedAt_5 : decode cX6_mergedAt 5 = .ok (.iload_n 1, 1) := by decide +kernel
theorem dX6_mergedAt_6 : decode cX6_mergedAt 6 = .ok (.iconst 0, 1) := by decide +kernel
theorem dX6_mergedAt_7 : decode cX6_mergedAt 7 = .ok (.aload_n 0, 1) := by decide +kernel
theorem dX6_mergedAt_8 : decode cX6_mergedAt 8 = .ok (.getfield 198, 3) := by decide +kernel
theorem dX6_mergedAt_11 : decode cX6_mergedAt 11 = .ok (.iconst 1, 1) := by decide +kernel
theorem dX6_mergedAt_12 : decode cX6_mergedAt 12 = .ok (.isub, 1) := by decide +kernel
theorem dX6_mergedAt_13 : decode cX6_mergedAt 13 = .ok (.invokestatic 7, 3) := by decide +kernel
theorem dX6_mergedAt_16 : decode cX6_mergedAt 16 = .ok (.ifCond .eq 12, 3) := by decide +kernel
theorem dX6_mergedAt_19 : decode cX6_mergedAt 19 = .ok (.aload_n 0, 1) := by decide +kernel
theorem dX6_mergedAt_20 : decode cX6_mergedAt 20 = .ok (.getfield 72, 3) := by decide +kernel
theorem dX6_mergedAt_23 : decode cX6_mergedAt 23 = .ok (.iload_n 1, 1) := by decide +kernel
theorem dX6_mergedAt_24 : decode cX6_mergedAt 24 = .ok (.iaload, 1) := by decide +kernel
theorem dX6_mergedAt_25 : decode cX6_mergedAt 25 = .ok (.goto 8, 3) := by decide +kernel
theorem dX6_mergedAt_28 : decode cX6_mergedAt 28 = .ok (.aload_n 0, 1) := by decide +kernel
theorem dX6_mergedAt_29 : decode cX6_mergedAt 29 = .ok (.iconst 1, 1) := by decide +kernel
theorem dX6_mergedAt_30 : decode cX6_mergedAt 30 = .ok (.invokevirtual 96, 3) := by decide +kernel
theorem dX6_mergedAt_33 : decode cX6_mergedAt 33 = .ok (.ireturn, 1) := by decide +kernel
theorem dX6_isGood_0 : decode cX6_isGood 0 = .ok (.aload_n 0, 1) := by decide +kernel
theorem dX6_isGood_1 : decode cX6_isGood 1 = .ok (.iconst 0, 1) := by decide +kernel
theorem dX6_isGood_2 : decode cX6_isGood 2 = .ok (.putfield 1, 3) := by decide +kernel
theorem dX6_isGood_5 : decode cX6_isGood 5 = .ok (.iload_n 1, 1) := by decide +kernel
theorem dX6_isGood_6 : decode cX6_isGood 6 = .ok (.invokestatic 92, 3) := by decide +kernel
theorem dX6_isGood_9 : decode cX6_isGood 9 = .ok (.ifCond .eq 15, 3) := by decide +kernel
theorem dX6_isGood_12 : decode cX6_isGood 12 = .ok (.aload_n 0, 1) := by decide +kernel
theorem dX6_isGood_13 : decode cX6_isGood 13 = .ok (.aload_n 0, 1) := by decide +kernel
theorem dX6_isGood_14 : decode cX6_isGood 14 = .ok (.getfield 17, 3) := by decide +kernel
theorem dX6_isGood_17 : decode cX6_isGood 17 = .ok (.iload_n 1, 1) := by decide +kernel
theorem dX6_isGood_18 : decode cX6_isGood 18 = .ok (.invokevirtual 156, 3) := by decide +kernel
theorem dX6_isGood_21 : decode cX6_isGood 21 = .ok (.goto 8, 3) := by decide +kernel
theorem dX6_isGood_24 : decode cX6_isGood 24 = .ok (.aload_n 0, 1) := by decide +kernel
theorem dX6_isGood_25 : decode cX6_isGood 25 = .ok (.iconst 1, 1) := by decide +kernel
theorem dX6_isGood_26 : decode cX6_isGood 26 = .ok (.invokevirtual 103, 3) := by decide +kernel
theorem dX6_isGood_29 : decode cX6_isGood 29 = .ok (.ireturn, 1) := by decide +kernel
theorem dX6_builds_0 : decode cX6_builds 0 = .ok (.aload_n 0, 1) := by decide +kernel
theorem dX6_builds_1 : decode cX6_builds 1 = .ok (.iconst 0, 1) := by decide +kernel
theorem dX6_builds_2 : decode cX6_builds 2 = .ok (.putfield 1, 3) := by decide +kernel
theorem dX6_builds_5 : decode cX6_builds 5 = .ok (.aload_n 0, 1) := by decide +kernel
theorem dX6_builds_6 : decode cX6_builds 6 = .ok (.getfield 187, 3) := by decide +kernel
theorem dX6_builds_9 : decode cX6_builds 9 = .ok (.ireturn, 1) := by decide +kernel
theorem dX6_taken_0 : decode cX6_taken 0 = .ok (.aload_n 0, 1) := by decide +kernel
theorem dX6_taken_1 : decode cX6_taken 1 = .ok (.iconst 0, 1) := by decide +kernel
theorem dX6_taken_2 : decode cX6_taken 2 = .ok (.putfield 1, 3) := by decide +kernel
theorem dX6_taken_5 : decode cX6_taken 5 = .ok (.aload_n 0, 1) := by decide +kernel
theorem dX6_taken_6 : decode cX6_taken 6 = .ok (.getfield 183, 3) := by decide +kernel
theorem dX6_taken_9 : decode cX6_taken 9 = .ok (.lreturn, 1) := by decide +kernel
theorem dX6_takenShare_0 : decode cX6_takenShare 0 = .ok (.aload_n 0, 1) := by decide +kernel
theorem dX6_takenShare_1 : decode cX6_takenShare 1 = .ok (.iconst 0, 1) := by decide +kernel
theorem dX6_takenShare_2 : decode cX6_takenShare 2 = .ok (.putfield 1, 3) := by decide +kernel
theorem dX6_takenShare_5 : decode cX6_takenShare 5 = .ok (.aload_n 0, 1) := by decide +kernel
theorem dX6_takenShare_6 : decode cX6_takenShare 6 = .ok (.getfield 183, 3) := by decide +kernel
theorem dX6_takenShare_9 : decode cX6_takenShare 9 = .ok (.aload_n 0, 1) := by decide +kernel
theorem dX6_takenShare_10 : decode cX6_takenShare 10 = .ok (.getfield 187, 3) := by decide +kernel
theorem dX6_takenShare_13 : decode cX6_takenShare 13 = .ok (.i2l, 1) := by decide +kernel
theorem dX6_takenShare_14 : decode cX6_takenShare 14 = .ok (.ladd, 1) := by decide +kernel
theorem dX6_takenShare_15 : decode cX6_takenShare 15 = .ok (.lconst 0, 1) := by decide +kernel
theorem dX6_takenShare_16 : decode cX6_takenShare 16 = .ok (.lcmp, 1) := by decide +kernel
theorem dX6_takenShare_17 : decode cX6_takenShare 17 = .ok (.ifCond .ne 12, 3) := by decide +kernel
theorem dX6_takenShare_20 : decode cX6_takenShare 20 = .ok (.aload_n 0, 1) := by decide +kernel
theorem dX6_takenShare_21 : decode cX6_takenShare 21 = .ok (.iconst 1, 1) := by decide +kernel
theorem dX6_takenShare_22 : decode cX6_takenShare 22 = .ok (.invokevirtual 96, 3) := by decide +kernel
theorem dX6_takenShare_25 : decode cX6_takenShare 25 = .ok (.i2f, 1) := by decide +kernel
theorem dX6_takenShare_26 : decode cX6_takenShare 26 = .ok (.goto 20, 3) := by decide +kernel
theorem dX6_takenShare_29 : decode cX6_takenShare 29 = .ok (.aload_n 0, 1) := by decide +kernel
theorem dX6_takenShare_30 : decode cX6_takenShare 30 = .ok (.getfield 183, 3) := by decide +kernel
theorem dX6_takenShare_33 : decode cX6_takenShare 33 = .ok (.l2f, 1) := by decide +kernel
theorem dX6_takenShare_34 : decode cX6_takenShare 34 = .ok (.aload_n 0, 1) := by decide +kernel
theorem dX6_takenShare_35 : decode cX6_takenShare 35 = .ok (.getfield 183, 3) := by decide +kernel
theorem dX6_takenShare_38 : decode cX6_takenShare 38 = .ok (.aload_n 0, 1) := by decide +kernel
theorem dX6_takenShare_39 : decode cX6_takenShare 39 = .ok (.getfield 187, 3) := by decide +kernel
theorem dX6_takenShare_42 : decode cX6_takenShare 42 = .ok (.i2l, 1) := by decide +kernel
theorem dX6_takenShare_43 : decode cX6_takenShare 43 = .ok (.ladd, 1) := by decide +kernel
theorem dX6_takenShare_44 : decode cX6_takenShare 44 = .ok (.l2f, 1) := by decide +kernel
theorem dX6_takenShare_45 : decode cX6_takenShare 45 = .ok (.fdiv, 1) := by decide +kernel
theorem dX6_takenShare_46 : decode cX6_takenShare 46 = .ok (.freturn, 1) := by decide +kernel
theorem dX6_meanEdits_0 : decode cX6_meanEdits 0 = .ok (.aload_n 0, 1) := by decide +kernel
theorem dX6_meanEdits_1 : decode cX6_meanEdits 1 = .ok (.iconst 0, 1) := by decide +kernel
theorem dX6_meanEdits_2 : decode cX6_meanEdits 2 = .ok (.putfield 1, 3) := by decide +kernel
theorem dX6_meanEdits_5 : decode cX6_meanEdits 5 = .ok (.iconst 0, 1) := by decide +kernel
theorem dX6_meanEdits_6 : decode cX6_meanEdits 6 = .ok (.istore_n 1, 1) := by decide +kernel
theorem dX6_meanEdits_7 : decode cX6_meanEdits 7 = .ok (.iconst 0, 1) := by decide +kernel
theorem dX6_meanEdits_8 : decode cX6_meanEdits 8 = .ok (.istore_n 2, 1) := by decide +kernel
theorem dX6_meanEdits_9 : decode cX6_meanEdits 9 = .ok (.iload_n 2, 1) := by decide +kernel
theorem dX6_meanEdits_10 : decode cX6_meanEdits 10 = .ok (.aload_n 0, 1) := by decide +kernel
theorem dX6_meanEdits_11 : decode cX6_meanEdits 11 = .ok (.getfield 198, 3) := by decide +kernel
theorem dX6_meanEdits_14 : decode cX6_meanEdits 14 = .ok (.if_icmp .ge 22, 3) := by decide +kernel
theorem dX6_meanEdits_17 : decode cX6_meanEdits 17 = .ok (.iload_n 1, 1) := by decide +kernel
theorem dX6_meanEdits_18 : decode cX6_meanEdits 18 = .ok (.aload_n 0, 1) := by decide +kernel
theorem dX6_meanEdits_19 : decode cX6_meanEdits 19 = .ok (.aload_n 0, 1) := by decide +kernel
theorem dX6_meanEdits_20 : decode cX6_meanEdits 20 = .ok (.getfield 72, 3) := by decide +kernel
theorem dX6_meanEdits_23 : decode cX6_meanEdits 23 = .ok (.iload_n 2, 1) := by decide +kernel
theorem dX6_meanEdits_24 : decode cX6_meanEdits 24 = .ok (.iaload, 1) := by decide +kernel
theorem dX6_meanEdits_25 : decode cX6_meanEdits 25 = .ok (.invokevirtual 113, 3) := by decide +kernel
theorem dX6_meanEdits_28 : decode cX6_meanEdits 28 = .ok (.iadd, 1) := by decide +kernel
theorem dX6_meanEdits_29 : decode cX6_meanEdits 29 = .ok (.istore_n 1, 1) := by decide +kernel
theorem dX6_meanEdits_30 : decode cX6_meanEdits 30 = .ok (.iinc 2 1, 3) := by decide +kernel
theorem dX6_meanEdits_33 : decode cX6_meanEdits 33 = .ok (.goto (-24), 3) := by decide +kernel
theorem dX6_meanEdits_36 : decode cX6_meanEdits 36 = .ok (.aload_n 0, 1) := by decide +kernel
theorem dX6_meanEdits_37 : decode cX6_meanEdits 37 = .ok (.getfield 198, 3) := by decide +kernel
theorem dX6_meanEdits_40 : decode cX6_meanEdits 40 = .ok (.ifCond .ne 12, 3) := by decide +kernel
theorem dX6_meanEdits_43 : decode cX6_meanEdits 43 = .ok (.aload_n 0, 1) := by decide +kernel
theorem dX6_meanEdits_44 : decode cX6_meanEdits 44 = .ok (.iconst 1, 1) := by decide +kernel
theorem dX6_meanEdits_45 : decode cX6_meanEdits 45 = .ok (.invokevirtual 96, 3) := by decide +kernel
theorem dX6_meanEdits_48 : decode cX6_meanEdits 48 = .ok (.i2d, 1) := by decide +kernel
theorem dX6_meanEdits_49 : decode cX6_meanEdits 49 = .ok (.goto 11, 3) := by decide +kernel
theorem dX6_meanEdits_52 : decode cX6_meanEdits 52 = .ok (.iload_n 1, 1) := by decide +kernel
theorem dX6_meanEdits_53 : decode cX6_meanEdits 53 = .ok (.i2d, 1) := by decide +kernel
theorem dX6_meanEdits_54 : decode cX6_meanEdits 54 = .ok (.aload_n 0, 1) := by decide +kernel
theorem dX6_meanEdits_55 : decode cX6_meanEdits 55 = .ok (.getfield 198, 3) := by decide +kernel
theorem dX6_meanEdits_58 : decode cX6_meanEdits 58 = .ok (.i2d, 1) := by decide +kernel
theorem dX6_meanEdits_59 : decode cX6_meanEdits 59 = .ok (.ddiv, 1) := by decide +kernel
theorem dX6_meanEdits_60 : decode cX6_meanEdits 60 = .ok (.dreturn, 1) := by decide +kernel
theorem dX6_isSound_0 : decode cX6_isSound 0 = .ok (.aload_n 0, 1) := by decide +kernel
theorem dX6_isSound_1 : decode cX6_isSound 1 = .ok (.iconst 0, 1) := by decide +kernel
theorem dX6_isSound_2 : decode cX6_isSound 2 = .ok (.putfield 1, 3) := by decide +kernel
theorem dX6_isSound_5 : decode cX6_isSound 5 = .ok (.iconst 1, 1) := by decide +kernel
theorem dX6_isSound_6 : decode cX6_isSound 6 = .ok (.ireturn, 1) := by decide +kernel

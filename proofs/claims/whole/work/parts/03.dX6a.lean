theorem dX6_thrown_0 : decode cX6_thrown 0 = .ok (.aload_n 0, 1) := by decide +kernel
theorem dX6_thrown_1 : decode cX6_thrown 1 = .ok (.getfield 1, 3) := by decide +kernel
theorem dX6_thrown_4 : decode cX6_thrown 4 = .ok (.ireturn, 1) := by decide +kernel
theorem dX6_fails_0 : decode cX6_fails 0 = .ok (.aload_n 0, 1) := by decide +kernel
theorem dX6_fails_1 : decode cX6_fails 1 = .ok (.iload_n 1, 1) := by decide +kernel
theorem dX6_fails_2 : decode cX6_fails 2 = .ok (.putfield 1, 3) := by decide +kernel
theorem dX6_fails_5 : decode cX6_fails 5 = .ok (.iconst 0, 1) := by decide +kernel
theorem dX6_fails_6 : decode cX6_fails 6 = .ok (.ireturn, 1) := by decide +kernel
theorem dX6_isWrong_0 : decode cX6_isWrong 0 = .ok (.aload_n 0, 1) := by decide +kernel
theorem dX6_isWrong_1 : decode cX6_isWrong 1 = .ok (.iload_n 1, 1) := by decide +kernel
theorem dX6_isWrong_2 : decode cX6_isWrong 2 = .ok (.putfield 1, 3) := by decide +kernel
theorem dX6_isWrong_5 : decode cX6_isWrong 5 = .ok (.iconst 0, 1) := by decide +kernel
theorem dX6_isWrong_6 : decode cX6_isWrong 6 = .ok (.ireturn, 1) := by decide +kernel
theorem dX6_isBetween_0 : decode cX6_isBetween 0 = .ok (.iload_n 1, 1) := by decide +kernel
theorem dX6_isBetween_1 : decode cX6_isBetween 1 = .ok (.iload_n 0, 1) := by decide +kernel
theorem dX6_isBetween_2 : decode cX6_isBetween 2 = .ok (.if_icmp .gt 12, 3) := by decide +kernel
theorem dX6_isBetween_5 : decode cX6_isBetween 5 = .ok (.iload_n 0, 1) := by decide +kernel
theorem dX6_isBetween_6 : decode cX6_isBetween 6 = .ok (.iload_n 2, 1) := by decide +kernel
theorem dX6_isBetween_7 : decode cX6_isBetween 7 = .ok (.if_icmp .gt 7, 3) := by decide +kernel
theorem dX6_isBetween_10 : decode cX6_isBetween 10 = .ok (.iconst 1, 1) := by decide +kernel
theorem dX6_isBetween_11 : decode cX6_isBetween 11 = .ok (.goto 4, 3) := by decide +kernel
theorem dX6_isBetween_14 : decode cX6_isBetween 14 = .ok (.iconst 0, 1) := by decide +kernel
theorem dX6_isBetween_15 : decode cX6_isBetween 15 = .ok (.ireturn, 1) := by decide +kernel
theorem dX6_isPerson_0 : decode cX6_isPerson 0 = .ok (.iload_n 0, 1) := by decide +kernel
theorem dX6_isPerson_1 : decode cX6_isPerson 1 = .ok (.iconst 0, 1) := by decide +kernel
theorem dX6_isPerson_2 : decode cX6_isPerson 2 = .ok (.iconst 5, 1) := by decide +kernel
theorem dX6_isPerson_3 : decode cX6_isPerson 3 = .ok (.invokestatic 7, 3) := by decide +kernel
theorem dX6_isPerson_6 : decode cX6_isPerson 6 = .ok (.ireturn, 1) := by decide +kernel
theorem dX6_isDirectory_0 : decode cX6_isDirectory 0 = .ok (.iload_n 0, 1) := by decide +kernel
theorem dX6_isDirectory_1 : decode cX6_isDirectory 1 = .ok (.iconst 0, 1) := by decide +kernel
theorem dX6_isDirectory_2 : decode cX6_isDirectory 2 = .ok (.iconst 3, 1) := by decide +kernel
theorem dX6_isDirectory_3 : decode cX6_isDirectory 3 = .ok (.invokestatic 7, 3) := by decide +kernel
theorem dX6_isDirectory_6 : decode cX6_isDirectory 6 = .ok (.ireturn, 1) := by decide +kernel
theorem dX6_isSpan_0 : decode cX6_isSpan 0 = .ok (.iload_n 0, 1) := by decide +kernel
theorem dX6_isSpan_1 : decode cX6_isSpan 1 = .ok (.iconst 0, 1) := by decide +kernel
theorem dX6_isSpan_2 : decode cX6_isSpan 2 = .ok (.bipush 15, 2) := by decide +kernel
theorem dX6_isSpan_4 : decode cX6_isSpan 4 = .ok (.invokestatic 7, 3) := by decide +kernel
theorem dX6_isSpan_7 : decode cX6_isSpan 7 = .ok (.ifCond .eq 16, 3) := by decide +kernel
theorem dX6_isSpan_10 : decode cX6_isSpan 10 = .ok (.iload_n 1, 1) := by decide +kernel
theorem dX6_isSpan_11 : decode cX6_isSpan 11 = .ok (.iconst 0, 1) := by decide +kernel
theorem dX6_isSpan_12 : decode cX6_isSpan 12 = .ok (.iconst 3, 1) := by decide +kernel
theorem dX6_isSpan_13 : decode cX6_isSpan 13 = .ok (.invokestatic 7, 3) := by decide +kernel
theorem dX6_isSpan_16 : decode cX6_isSpan 16 = .ok (.ifCond .eq 7, 3) := by decide +kernel
theorem dX6_isSpan_19 : decode cX6_isSpan 19 = .ok (.iconst 1, 1) := by decide +kernel
theorem dX6_isSpan_20 : decode cX6_isSpan 20 = .ok (.goto 4, 3) := by decide +kernel
theorem dX6_isSpan_23 : decode cX6_isSpan 23 = .ok (.iconst 0, 1) := by decide +kernel
theorem dX6_isSpan_24 : decode cX6_isSpan 24 = .ok (.ireturn, 1) := by decide +kernel
theorem dX6_init_0 : decode cX6_init 0 = .ok (.aload_n 0, 1) := by decide +kernel
theorem dX6_init_1 : decode cX6_init 1 = .ok (.invokespecial 11, 3) := by decide +kernel
theorem dX6_init_4 : decode cX6_init 4 = .ok (.aload_n 0, 1) := by decide +kernel
theorem dX6_init_5 : decode cX6_init 5 = .ok (.bipush 64, 2) := by decide +kernel
theorem dX6_init_7 : decode cX6_init 7 = .ok (.newarray .int, 2) := by decide +kernel
theorem dX6_init_9 : decode cX6_init 9 = .ok (.putfield 17, 3) := by decide +kernel
theorem dX6_init_12 : decode cX6_init 12 = .ok (.aload_n 0, 1) := by decide +kernel
theorem dX6_init_13 : decode cX6_init 13 = .ok (.bipush 12, 2) := by decide +kernel
theorem dX6_init_15 : decode cX6_init 15 = .ok (.newarray .int, 2) := by decide +kernel
theorem dX6_init_17 : decode cX6_init 17 = .ok (.putfield 21, 3) := by decide +kernel
theorem dX6_init_20 : decode cX6_init 20 = .ok (.aload_n 0, 1) := by decide +kernel
theorem dX6_init_21 : decode cX6_init 21 = .ok (.bipush 12, 2) := by decide +kernel
theorem dX6_init_23 : decode cX6_init 23 = .ok (.newarray .int, 2) := by decide +kernel
theorem dX6_init_25 : decode cX6_init 25 = .ok (.putfield 24, 3) := by decide +kernel
theorem dX6_init_28 : decode cX6_init 28 = .ok (.aload_n 0, 1) := by decide +kernel
theorem dX6_init_29 : decode cX6_init 29 = .ok (.bipush 12, 2) := by decide +kernel
theorem dX6_init_31 : decode cX6_init 31 = .ok (.newarray .int, 2) := by decide +kernel
theorem dX6_init_33 : decode cX6_init 33 = .ok (.putfield 27, 3) := by decide +kernel
theorem dX6_init_36 : decode cX6_init 36 = .ok (.aload_n 0, 1) := by decide +kernel
theorem dX6_init_37 : decode cX6_init 37 = .ok (.bipush 12, 2) := by decide +kernel
theorem dX6_init_39 : decode cX6_init 39 = .ok (.newarray .boolean, 2) := by decide +kernel
theorem dX6_init_41 : decode cX6_init 41 = .ok (.putfield 30, 3) := by decide +kernel
theorem dX6_init_44 : decode cX6_init 44 = .ok (.aload_n 0, 1) := by decide +kernel
theorem dX6_init_45 : decode cX6_init 45 = .ok (.iconst 4, 1) := by decide +kernel
theorem dX6_init_46 : decode cX6_init 46 = .ok (.newarray .int, 2) := by decide +kernel
theorem dX6_init_48 : decode cX6_init 48 = .ok (.putfield 34, 3) := by decide +kernel
theorem dX6_init_51 : decode cX6_init 51 = .ok (.aload_n 0, 1) := by decide +kernel
theorem dX6_init_52 : decode cX6_init 52 = .ok (.iconst 4, 1) := by decide +kernel
theorem dX6_init_53 : decode cX6_init 53 = .ok (.newarray .int, 2) := by decide +kernel
theorem dX6_init_55 : decode cX6_init 55 = .ok (.putfield 37, 3) := by decide +kernel
theorem dX6_init_58 : decode cX6_init 58 = .ok (.aload_n 0, 1) := by decide +kernel
theorem dX6_init_59 : decode cX6_init 59 = .ok (.iconst 4, 1) := by decide +kernel
theorem dX6_init_60 : decode cX6_init 60 = .ok (.newarray .boolean, 2) := by decide +kernel
theorem dX6_init_62 : decode cX6_init 62 = .ok (.putfield 40, 3) := by decide +kernel
theorem dX6_init_65 : decode cX6_init 65 = .ok (.aload_n 0, 1) := by decide +kernel
theorem dX6_init_66 : decode cX6_init 66 = .ok (.bipush 6, 2) := by decide +kernel
theorem dX6_init_68 : decode cX6_init 68 = .ok (.newarray .boolean, 2) := by decide +kernel
theorem dX6_init_70 : decode cX6_init 70 = .ok (.putfield 43, 3) := by decide +kernel
theorem dX6_init_73 : decode cX6_init 73 = .ok (.aload_n 0, 1) := by decide +kernel
theorem dX6_init_74 : decode cX6_init 74 = .ok (.bipush 16, 2) := by decide +kernel
theorem dX6_init_76 : decode cX6_init 76 = .ok (.bipush 64, 2) := by decide +kernel
theorem dX6_init_78 : decode cX6_init 78 = .ok (.multianewarray 46 2, 4) := by decide +kernel
theorem dX6_init_82 : decode cX6_init 82 = .ok (.putfield 48, 3) := by decide +kernel
theorem dX6_init_85 : decode cX6_init 85 = .ok (.aload_n 0, 1) := by decide +kernel
theorem dX6_init_86 : decode cX6_init 86 = .ok (.bipush 16, 2) := by decide +kernel
theorem dX6_init_88 : decode cX6_init 88 = .ok (.bipush 64, 2) := by decide +kernel
theorem dX6_init_90 : decode cX6_init 90 = .ok (.multianewarray 51 2, 4) := by decide +kernel
theorem dX6_init_94 : decode cX6_init 94 = .ok (.putfield 53, 3) := by decide +kernel
theorem dX6_init_97 : decode cX6_init 97 = .ok (.aload_n 0, 1) := by decide +kernel
theorem dX6_init_98 : decode cX6_init 98 = .ok (.bipush 16, 2) := by decide +kernel
theorem dX6_init_100 : decode cX6_init 100 = .ok (.bipush 6, 2) := by decide +kernel
theorem dX6_init_102 : decode cX6_init 102 = .ok (.multianewarray 56 2, 4) := by decide +kernel
theorem dX6_init_106 : decode cX6_init 106 = .ok (.putfield 58, 3) := by decide +kernel
theorem dX6_init_109 : decode cX6_init 109 = .ok (.aload_n 0, 1) := by decide +kernel
theorem dX6_init_110 : decode cX6_init 110 = .ok (.bipush 16, 2) := by decide +kernel
theorem dX6_init_112 : decode cX6_init 112 = .ok (.bipush 6, 2) := by decide +kernel
theorem dX6_init_114 : decode cX6_init 114 = .ok (.bipush 64, 2) := by decide +kernel
theorem dX6_init_116 : decode cX6_init 116 = .ok (.multianewarray 61 3, 4) := by decide +kernel
theorem dX6_init_120 : decode cX6_init 120 = .ok (.putfield 63, 3) := by decide +kernel
theorem dX6_init_123 : decode cX6_init 123 = .ok (.aload_n 0, 1) := by decide +kernel
theorem dX6_init_124 : decode cX6_init 124 = .ok (.bipush 16, 2) := by decide +kernel
theorem dX6_init_126 : decode cX6_init 126 = .ok (.newarray .int, 2) := by decide +kernel
theorem dX6_init_128 : decode cX6_init 128 = .ok (.putfield 66, 3) := by decide +kernel
theorem dX6_init_131 : decode cX6_init 131 = .ok (.aload_n 0, 1) := by decide +kernel
theorem dX6_init_132 : decode cX6_init 132 = .ok (.bipush 16, 2) := by decide +kernel
theorem dX6_init_134 : decode cX6_init 134 = .ok (.newarray .int, 2) := by decide +kernel
theorem dX6_init_136 : decode cX6_init 136 = .ok (.putfield 69, 3) := by decide +kernel
theorem dX6_init_139 : decode cX6_init 139 = .ok (.aload_n 0, 1) := by decide +kernel
theorem dX6_init_140 : decode cX6_init 140 = .ok (.bipush 16, 2) := by decide +kernel
theorem dX6_init_142 : decode cX6_init 142 = .ok (.newarray .int, 2) := by decide +kernel
theorem dX6_init_144 : decode cX6_init 144 = .ok (.putfield 72, 3) := by decide +kernel
theorem dX6_init_147 : decode cX6_init 147 = .ok (.aload_n 0, 1) := by decide +kernel
theorem dX6_init_148 : decode cX6_init 148 = .ok (.bipush 16, 2) := by decide +kernel
theorem dX6_init_150 : decode cX6_init 150 = .ok (.newarray .char, 2) := by decide +kernel
theorem dX6_init_152 : decode cX6_init 152 = .ok (.putfield 75, 3) := by decide +kernel
theorem dX6_init_155 : decode cX6_init 155 = .ok (.aload_n 0, 1) := by decide +kernel
theorem dX6_init_156 : decode cX6_init 156 = .ok (.bipush 16, 2) := by decide +kernel
theorem dX6_init_158 : decode cX6_init 158 = .ok (.newarray .boolean, 2) := by decide +kernel
theorem dX6_init_160 : decode cX6_init 160 = .ok (.putfield 79, 3) := by decide +kernel
theorem dX6_init_163 : decode cX6_init 163 = .ok (.aload_n 0, 1) := by decide +kernel
theorem dX6_init_164 : decode cX6_init 164 = .ok (.new 82, 3) := by decide +kernel
theorem dX6_init_167 : decode cX6_init 167 = .ok (.dup, 1) := by decide +kernel
theorem dX6_init_168 : decode cX6_init 168 = .ok (.invokespecial 84, 3) := by decide +kernel
theorem dX6_init_171 : decode cX6_init 171 = .ok (.putfield 85, 3) := by decide +kernel
theorem dX6_init_174 : decode cX6_init 174 = .ok (.iconst 0, 1) := by decide +kernel
theorem dX6_init_175 : decode cX6_init 175 = .ok (.istore_n 1, 1) := by decide +kernel
theorem dX6_init_176 : decode cX6_init 176 = .ok (.iload_n 1, 1) := by decide +kernel
theorem dX6_init_177 : decode cX6_init 177 = .ok (.iconst 4, 1) := by decide +kernel
theorem dX6_init_178 : decode cX6_init 178 = .ok (.if_icmp .ge 16, 3) := by decide +kernel
theorem dX6_init_181 : decode cX6_init 181 = .ok (.aload_n 0, 1) := by decide +kernel
theorem dX6_init_182 : decode cX6_init 182 = .ok (.getfield 37, 3) := by decide +kernel
theorem dX6_init_185 : decode cX6_init 185 = .ok (.iload_n 1, 1) := by decide +kernel
theorem dX6_init_186 : decode cX6_init 186 = .ok (.iconst 1, 1) := by decide +kernel
theorem dX6_init_187 : decode cX6_init 187 = .ok (.iastore, 1) := by decide +kernel
theorem dX6_init_188 : decode cX6_init 188 = .ok (.iinc 1 1, 3) := by decide +kernel
theorem dX6_init_191 : decode cX6_init 191 = .ok (.goto (-15), 3) := by decide +kernel
theorem dX6_init_194 : decode cX6_init 194 = .ok (.return_, 1) := by decide +kernel
theorem dX6_isChange_0 : decode cX6_isChange 0 = .ok (.iload_n 1, 1) := by decide +kernel
theorem dX6_isChange_1 : decode cX6_isChange 1 = .ok (.iconst 0, 1) := by decide +kernel
theorem dX6_isChange_2 : decode cX6_isChange 2 = .ok (.aload_n 0, 1) := by decide +kernel
theorem dX6_isChange_3 : decode cX6_isChange 3 = .ok (.getfield 89, 3) := by decide +kernel
theorem dX6_isChange_6 : decode cX6_isChange 6 = .ok (.iconst 1, 1) := by decide +kernel
theorem dX6_isChange_7 : decode cX6_isChange 7 = .ok (.isub, 1) := by decide +kernel
theorem dX6_isChange_8 : decode cX6_isChange 8 = .ok (.invokestatic 7, 3) := by decide +kernel
theorem dX6_isChange_11 : decode cX6_isChange 11 = .ok (.ireturn, 1) := by decide +kernel
theorem dX6_directoryOf_0 : decode cX6_directoryOf 0 = .ok (.iload_n 0, 1) := by decide +kernel
theorem dX6_directoryOf_1 : decode cX6_directoryOf 1 = .ok (.bipush 16, 2) := by decide +kernel
theorem dX6_directoryOf_3 : decode cX6_directoryOf 3 = .ok (.idiv, 1) := by decide +kernel
theorem dX6_directoryOf_4 : decode cX6_directoryOf 4 = .ok (.ireturn, 1) := by decide +kernel
theorem dX6_setOwner_0 : decode cX6_setOwner 0 = .ok (.aload_n 0, 1) := by decide +kernel
theorem dX6_setOwner_1 : decode cX6_setOwner 1 = .ok (.iconst 0, 1) := by decide +kernel
theorem dX6_setOwner_2 : decode cX6_setOwner 2 = .ok (.putfield 1, 3) := by decide +kernel
theorem dX6_setOwner_5 : decode cX6_setOwner 5 = .ok (.iload_n 1, 1) := by decide +kernel
theorem dX6_setOwner_6 : decode cX6_setOwner 6 = .ok (.invokestatic 92, 3) := by decide +kernel
theorem dX6_setOwner_9 : decode cX6_setOwner 9 = .ok (.ifCond .ne 9, 3) := by decide +kernel
theorem dX6_setOwner_12 : decode cX6_setOwner 12 = .ok (.aload_n 0, 1) := by decide +kernel
theorem dX6_setOwner_13 : decode cX6_setOwner 13 = .ok (.iconst 1, 1) := by decide +kernel
theorem dX6_setOwner_14 : decode cX6_setOwner 14 = .ok (.invokevirtual 96, 3) := by decide +kernel
theorem dX6_setOwner_17 : decode cX6_setOwner 17 = .ok (.ireturn, 1) := by decide +kernel
theorem dX6_setOwner_18 : decode cX6_setOwner 18 = .ok (.iload_n 2, 1) := by decide +kernel
theorem dX6_setOwner_19 : decode cX6_setOwner 19 = .ok (.invokestatic 100, 3) := by decide +kernel
theorem dX6_setOwner_22 : decode cX6_setOwner 22 = .ok (.ifCond .eq 15, 3) := by decide +kernel
theorem dX6_setOwner_25 : decode cX6_setOwner 25 = .ok (.iload_n 3, 1) := by decide +kernel
theorem dX6_setOwner_26 : decode cX6_setOwner 26 = .ok (.invokestatic 100, 3) := by decide +kernel
theorem dX6_setOwner_29 : decode cX6_setOwner 29 = .ok (.ifCond .eq 8, 3) := by decide +kernel
theorem dX6_setOwner_32 : decode cX6_setOwner 32 = .ok (.iload_n 2, 1) := by decide +kernel
theorem dX6_setOwner_33 : decode cX6_setOwner 33 = .ok (.iload_n 3, 1) := by decide +kernel
theorem dX6_setOwner_34 : decode cX6_setOwner 34 = .ok (.if_icmp .ne 9, 3) := by decide +kernel
theorem dX6_setOwner_37 : decode cX6_setOwner 37 = .ok (.aload_n 0, 1) := by decide +kernel
theorem dX6_setOwner_38 : decode cX6_setOwner 38 = .ok (.iconst 2, 1) := by decide +kernel
theorem dX6_setOwner_39 : decode cX6_setOwner 39 = .ok (.invokevirtual 96, 3) := by decide +kernel
theorem dX6_setOwner_42 : decode cX6_setOwner 42 = .ok (.ireturn, 1) := by decide +kernel
theorem dX6_setOwner_43 : decode cX6_setOwner 43 = .ok (.aload_n 0, 1) := by decide +kernel
theorem dX6_setOwner_44 : decode cX6_setOwner 44 = .ok (.getfield 34, 3) := by decide +kernel
theorem dX6_setOwner_47 : decode cX6_setOwner 47 = .ok (.iload_n 1, 1) := by decide +kernel
theorem dX6_setOwner_48 : decode cX6_setOwner 48 = .ok (.iaload, 1) := by decide +kernel
theorem dX6_setOwner_49 : decode cX6_setOwner 49 = .ok (.istore 4, 2) := by decide +kernel
theorem dX6_setOwner_51 : decode cX6_setOwner 51 = .ok (.aload_n 0, 1) := by decide +kernel
theorem dX6_setOwner_52 : decode cX6_setOwner 52 = .ok (.getfield 34, 3) := by decide +kernel
theorem dX6_setOwner_55 : decode cX6_setOwner 55 = .ok (.iload_n 1, 1) := by decide +kernel
theorem dX6_setOwner_56 : decode cX6_setOwner 56 = .ok (.iload_n 2, 1) := by decide +kernel
theorem dX6_setOwner_57 : decode cX6_setOwner 57 = .ok (.iastore, 1) := by decide +kernel
theorem dX6_setOwner_58 : decode cX6_setOwner 58 = .ok (.aload_n 0, 1) := by decide +kernel
theorem dX6_setOwner_59 : decode cX6_setOwner 59 = .ok (.getfield 37, 3) := by decide +kernel
theorem dX6_setOwner_62 : decode cX6_setOwner 62 = .ok (.iload_n 1, 1) := by decide +kernel
theorem dX6_setOwner_63 : decode cX6_setOwner 63 = .ok (.iload_n 3, 1) := by decide +kernel
theorem dX6_setOwner_64 : decode cX6_setOwner 64 = .ok (.iastore, 1) := by decide +kernel
theorem dX6_setOwner_65 : decode cX6_setOwner 65 = .ok (.iload 4, 2) := by decide +kernel
theorem dX6_setOwner_67 : decode cX6_setOwner 67 = .ok (.ireturn, 1) := by decide +kernel
theorem dX6_setAway_0 : decode cX6_setAway 0 = .ok (.aload_n 0, 1) := by decide +kernel
theorem dX6_setAway_1 : decode cX6_setAway 1 = .ok (.iconst 0, 1) := by decide +kernel
theorem dX6_setAway_2 : decode cX6_setAway 2 = .ok (.putfield 1, 3) := by decide +kernel
theorem dX6_setAway_5 : decode cX6_setAway 5 = .ok (.iload_n 1, 1) := by decide +kernel
theorem dX6_setAway_6 : decode cX6_setAway 6 = .ok (.invokestatic 100, 3) := by decide +kernel
theorem dX6_setAway_9 : decode cX6_setAway 9 = .ok (.ifCond .ne 9, 3) := by decide +kernel
theorem dX6_setAway_12 : decode cX6_setAway 12 = .ok (.aload_n 0, 1) := by decide +kernel
theorem dX6_setAway_13 : decode cX6_setAway 13 = .ok (.iconst 1, 1) := by decide +kernel
theorem dX6_setAway_14 : decode cX6_setAway 14 = .ok (.invokevirtual 103, 3) := by decide +kernel
theorem dX6_setAway_17 : decode cX6_setAway 17 = .ok (.ireturn, 1) := by decide +kernel
theorem dX6_setAway_18 : decode cX6_setAway 18 = .ok (.aload_n 0, 1) := by decide +kernel
theorem dX6_setAway_19 : decode cX6_setAway 19 = .ok (.getfield 43, 3) := by decide +kernel
theorem dX6_setAway_22 : decode cX6_setAway 22 = .ok (.iload_n 1, 1) := by decide +kernel
theorem dX6_setAway_23 : decode cX6_setAway 23 = .ok (.baload, 1) := by decide +kernel
theorem dX6_setAway_24 : decode cX6_setAway 24 = .ok (.istore_n 3, 1) := by decide +kernel
theorem dX6_setAway_25 : decode cX6_setAway 25 = .ok (.aload_n 0, 1) := by decide +kernel
theorem dX6_setAway_26 : decode cX6_setAway 26 = .ok (.getfield 43, 3) := by decide +kernel
theorem dX6_setAway_29 : decode cX6_setAway 29 = .ok (.iload_n 1, 1) := by decide +kernel
theorem dX6_setAway_30 : decode cX6_setAway 30 = .ok (.iload_n 2, 1) := by decide +kernel
theorem dX6_setAway_31 : decode cX6_setAway 31 = .ok (.bastore, 1) := by decide +kernel
theorem dX6_setAway_32 : decode cX6_setAway 32 = .ok (.iload_n 3, 1) := by decide +kernel
theorem dX6_setAway_33 : decode cX6_setAway 33 = .ok (.ireturn, 1) := by decide +kernel
theorem dX6_open_0 : decode cX6_open 0 = .ok (.aload_n 0, 1) := by decide +kernel
theorem dX6_open_1 : decode cX6_open 1 = .ok (.iconst 0, 1) := by decide +kernel
theorem dX6_open_2 : decode cX6_open 2 = .ok (.putfield 1, 3) := by decide +kernel
theorem dX6_open_5 : decode cX6_open 5 = .ok (.iload_n 1, 1) := by decide +kernel
theorem dX6_open_6 : decode cX6_open 6 = .ok (.invokestatic 100, 3) := by decide +kernel
theorem dX6_open_9 : decode cX6_open 9 = .ok (.ifCond .ne 9, 3) := by decide +kernel
theorem dX6_open_12 : decode cX6_open 12 = .ok (.aload_n 0, 1) := by decide +kernel
theorem dX6_open_13 : decode cX6_open 13 = .ok (.iconst 1, 1) := by decide +kernel
theorem dX6_open_14 : decode cX6_open 14 = .ok (.invokevirtual 96, 3) := by decide +kernel
theorem dX6_open_17 : decode cX6_open 17 = .ok (.ireturn, 1) := by decide +kernel
theorem dX6_open_18 : decode cX6_open 18 = .ok (.aload_n 0, 1) := by decide +kernel
theorem dX6_open_19 : decode cX6_open 19 = .ok (.getfield 89, 3) := by decide +kernel
theorem dX6_open_22 : decode cX6_open 22 = .ok (.bipush 16, 2) := by decide +kernel
theorem dX6_open_24 : decode cX6_open 24 = .ok (.if_icmp .ne 9, 3) := by decide +kernel
theorem dX6_open_27 : decode cX6_open 27 = .ok (.aload_n 0, 1) := by decide +kernel
theorem dX6_open_28 : decode cX6_open 28 = .ok (.iconst 2, 1) := by decide +kernel
theorem dX6_open_29 : decode cX6_open 29 = .ok (.invokevirtual 96, 3) := by decide +kernel
theorem dX6_open_32 : decode cX6_open 32 = .ok (.ireturn, 1) := by decide +kernel
theorem dX6_open_33 : decode cX6_open 33 = .ok (.aload_n 0, 1) := by decide +kernel
theorem dX6_open_34 : decode cX6_open 34 = .ok (.getfield 66, 3) := by decide +kernel
theorem dX6_open_37 : decode cX6_open 37 = .ok (.aload_n 0, 1) := by decide +kernel
theorem dX6_open_38 : decode cX6_open 38 = .ok (.getfield 89, 3) := by decide +kernel
theorem dX6_open_41 : decode cX6_open 41 = .ok (.iload_n 1, 1) := by decide +kernel
theorem dX6_open_42 : decode cX6_open 42 = .ok (.iastore, 1) := by decide +kernel
theorem dX6_open_43 : decode cX6_open 43 = .ok (.aload_n 0, 1) := by decide +kernel
theorem dX6_open_44 : decode cX6_open 44 = .ok (.getfield 75, 3) := by decide +kernel
theorem dX6_open_47 : decode cX6_open 47 = .ok (.aload_n 0, 1) := by decide +kernel
theorem dX6_open_48 : decode cX6_open 48 = .ok (.getfield 89, 3) := by decide +kernel
theorem dX6_open_51 : decode cX6_open 51 = .ok (.bipush 111, 2) := by decide +kernel
theorem dX6_open_53 : decode cX6_open 53 = .ok (.castore, 1) := by decide +kernel
theorem dX6_open_54 : decode cX6_open 54 = .ok (.iconst 0, 1) := by decide +kernel
theorem dX6_open_55 : decode cX6_open 55 = .ok (.istore_n 2, 1) := by decide +kernel
theorem dX6_open_56 : decode cX6_open 56 = .ok (.iload_n 2, 1) := by decide +kernel
theorem dX6_open_57 : decode cX6_open 57 = .ok (.bipush 64, 2) := by decide +kernel
theorem dX6_open_59 : decode cX6_open 59 = .ok (.if_icmp .ge 21, 3) := by decide +kernel
theorem dX6_open_62 : decode cX6_open 62 = .ok (.aload_n 0, 1) := by decide +kernel
theorem dX6_open_63 : decode cX6_open 63 = .ok (.getfield 48, 3) := by decide +kernel
theorem dX6_open_66 : decode cX6_open 66 = .ok (.aload_n 0, 1) := by decide +kernel
theorem dX6_open_67 : decode cX6_open 67 = .ok (.getfield 89, 3) := by decide +kernel
theorem dX6_open_70 : decode cX6_open 70 = .ok (.aaload, 1) := by decide +kernel
theorem dX6_open_71 : decode cX6_open 71 = .ok (.iload_n 2, 1) := by decide +kernel
theorem dX6_open_72 : decode cX6_open 72 = .ok (.iconst (-1), 1) := by decide +kernel
theorem dX6_open_73 : decode cX6_open 73 = .ok (.iastore, 1) := by decide +kernel
theorem dX6_open_74 : decode cX6_open 74 = .ok (.iinc 2 1, 3) := by decide +kernel
theorem dX6_open_77 : decode cX6_open 77 = .ok (.goto (-21), 3) := by decide +kernel
theorem dX6_open_80 : decode cX6_open 80 = .ok (.iconst 0, 1) := by decide +kernel
theorem dX6_open_81 : decode cX6_open 81 = .ok (.istore_n 2, 1) := by decide +kernel
theorem dX6_open_82 : decode cX6_open 82 = .ok (.iload_n 2, 1) := by decide +kernel
theorem dX6_open_83 : decode cX6_open 83 = .ok (.bipush 6, 2) := by decide +kernel
theorem dX6_open_85 : decode cX6_open 85 = .ok (.if_icmp .ge 22, 3) := by decide +kernel
theorem dX6_open_88 : decode cX6_open 88 = .ok (.aload_n 0, 1) := by decide +kernel
theorem dX6_open_89 : decode cX6_open 89 = .ok (.getfield 58, 3) := by decide +kernel
theorem dX6_open_92 : decode cX6_open 92 = .ok (.aload_n 0, 1) := by decide +kernel
theorem dX6_open_93 : decode cX6_open 93 = .ok (.getfield 89, 3) := by decide +kernel
theorem dX6_open_96 : decode cX6_open 96 = .ok (.aaload, 1) := by decide +kernel
theorem dX6_open_97 : decode cX6_open 97 = .ok (.iload_n 2, 1) := by decide +kernel
theorem dX6_open_98 : decode cX6_open 98 = .ok (.bipush 45, 2) := by decide +kernel
theorem dX6_open_100 : decode cX6_open 100 = .ok (.castore, 1) := by decide +kernel
theorem dX6_open_101 : decode cX6_open 101 = .ok (.iinc 2 1, 3) := by decide +kernel
theorem dX6_open_104 : decode cX6_open 104 = .ok (.goto (-22), 3) := by decide +kernel
theorem dX6_open_107 : decode cX6_open 107 = .ok (.aload_n 0, 1) := by decide +kernel
theorem dX6_open_108 : decode cX6_open 108 = .ok (.dup, 1) := by decide +kernel
theorem dX6_open_109 : decode cX6_open 109 = .ok (.getfield 89, 3) := by decide +kernel
theorem dX6_open_112 : decode cX6_open 112 = .ok (.iconst 1, 1) := by decide +kernel
theorem dX6_open_113 : decode cX6_open 113 = .ok (.iadd, 1) := by decide +kernel
theorem dX6_open_114 : decode cX6_open 114 = .ok (.putfield 89, 3) := by decide +kernel
theorem dX6_open_117 : decode cX6_open 117 = .ok (.aload_n 0, 1) := by decide +kernel
theorem dX6_open_118 : decode cX6_open 118 = .ok (.getfield 89, 3) := by decide +kernel
theorem dX6_open_121 : decode cX6_open 121 = .ok (.iconst 1, 1) := by decide +kernel
theorem dX6_open_122 : decode cX6_open 122 = .ok (.isub, 1) := by decide +kernel
theorem dX6_open_123 : decode cX6_open 123 = .ok (.ireturn, 1) := by decide +kernel
theorem dX6_editMany_0 : decode cX6_editMany 0 = .ok (.iconst 0, 1) := by decide +kernel
theorem dX6_editMany_1 : decode cX6_editMany 1 = .ok (.istore_n 2, 1) := by decide +kernel
theorem dX6_editMany_2 : decode cX6_editMany 2 = .ok (.iconst 0, 1) := by decide +kernel
theorem dX6_editMany_3 : decode cX6_editMany 3 = .ok (.istore_n 3, 1) := by decide +kernel
theorem dX6_editMany_4 : decode cX6_editMany 4 = .ok (.iload_n 3, 1) := by decide +kernel
theorem dX6_editMany_5 : decode cX6_editMany 5 = .ok (.bipush 64, 2) := by decide +kernel
theorem dX6_editMany_7 : decode cX6_editMany 7 = .ok (.if_icmp .ge 28, 3) := by decide +kernel
theorem dX6_editMany_10 : decode cX6_editMany 10 = .ok (.iload_n 2, 1) := by decide +kernel
theorem dX6_editMany_11 : decode cX6_editMany 11 = .ok (.aload_n 0, 1) := by decide +kernel
theorem dX6_editMany_12 : decode cX6_editMany 12 = .ok (.getfield 48, 3) := by decide +kernel
theorem dX6_editMany_15 : decode cX6_editMany 15 = .ok (.iload_n 1, 1) := by decide +kernel
theorem dX6_editMany_16 : decode cX6_editMany 16 = .ok (.aaload, 1) := by decide +kernel
theorem dX6_editMany_17 : decode cX6_editMany 17 = .ok (.iload_n 3, 1) := by decide +kernel
theorem dX6_editMany_18 : decode cX6_editMany 18 = .ok (.iaload, 1) := by decide +kernel
theorem dX6_editMany_19 : decode cX6_editMany 19 = .ok (.ifCond .ge 7, 3) := by decide +kernel
theorem dX6_editMany_22 : decode cX6_editMany 22 = .ok (.iconst 0, 1) := by decide +kernel
theorem dX6_editMany_23 : decode cX6_editMany 23 = .ok (.goto 4, 3) := by decide +kernel
theorem dX6_editMany_26 : decode cX6_editMany 26 = .ok (.iconst 1, 1) := by decide +kernel
theorem dX6_editMany_27 : decode cX6_editMany 27 = .ok (.iadd, 1) := by decide +kernel
theorem dX6_editMany_28 : decode cX6_editMany 28 = .ok (.istore_n 2, 1) := by decide +kernel
theorem dX6_editMany_29 : decode cX6_editMany 29 = .ok (.iinc 3 1, 3) := by decide +kernel
theorem dX6_editMany_32 : decode cX6_editMany 32 = .ok (.goto (-28), 3) := by decide +kernel
theorem dX6_editMany_35 : decode cX6_editMany 35 = .ok (.iload_n 2, 1) := by decide +kernel
theorem dX6_editMany_36 : decode cX6_editMany 36 = .ok (.ireturn, 1) := by decide +kernel
theorem dX6_edit_0 : decode cX6_edit 0 = .ok (.aload_n 0, 1) := by decide +kernel
theorem dX6_edit_1 : decode cX6_edit 1 = .ok (.iconst 0, 1) := by decide +kernel
theorem dX6_edit_2 : decode cX6_edit 2 = .ok (.putfield 1, 3) := by decide +kernel
theorem dX6_edit_5 : decode cX6_edit 5 = .ok (.aload_n 0, 1) := by decide +kernel
theorem dX6_edit_6 : decode cX6_edit 6 = .ok (.iload_n 1, 1) := by decide +kernel
theorem dX6_edit_7 : decode cX6_edit 7 = .ok (.invokevirtual 106, 3) := by decide +kernel
theorem dX6_edit_10 : decode cX6_edit 10 = .ok (.ifCond .ne 9, 3) := by decide +kernel
theorem dX6_edit_13 : decode cX6_edit 13 = .ok (.aload_n 0, 1) := by decide +kernel
theorem dX6_edit_14 : decode cX6_edit 14 = .ok (.iconst 1, 1) := by decide +kernel
theorem dX6_edit_15 : decode cX6_edit 15 = .ok (.invokevirtual 96, 3) := by decide +kernel
theorem dX6_edit_18 : decode cX6_edit 18 = .ok (.ireturn, 1) := by decide +kernel
theorem dX6_edit_19 : decode cX6_edit 19 = .ok (.iload_n 2, 1) := by decide +kernel
theorem dX6_edit_20 : decode cX6_edit 20 = .ok (.iload_n 3, 1) := by decide +kernel
theorem dX6_edit_21 : decode cX6_edit 21 = .ok (.invokestatic 109, 3) := by decide +kernel
theorem dX6_edit_24 : decode cX6_edit 24 = .ok (.ifCond .ne 9, 3) := by decide +kernel
theorem dX6_edit_27 : decode cX6_edit 27 = .ok (.aload_n 0, 1) := by decide +kernel
theorem dX6_edit_28 : decode cX6_edit 28 = .ok (.iconst 2, 1) := by decide +kernel
theorem dX6_edit_29 : decode cX6_edit 29 = .ok (.invokevirtual 96, 3) := by decide +kernel
theorem dX6_edit_32 : decode cX6_edit 32 = .ok (.ireturn, 1) := by decide +kernel
theorem dX6_edit_33 : decode cX6_edit 33 = .ok (.iload 4, 2) := by decide +kernel
theorem dX6_edit_35 : decode cX6_edit 35 = .ok (.iconst 0, 1) := by decide +kernel
theorem dX6_edit_36 : decode cX6_edit 36 = .ok (.bipush 99, 2) := by decide +kernel
theorem dX6_edit_38 : decode cX6_edit 38 = .ok (.invokestatic 7, 3) := by decide +kernel
theorem dX6_edit_41 : decode cX6_edit 41 = .ok (.ifCond .ne 9, 3) := by decide +kernel
theorem dX6_edit_44 : decode cX6_edit 44 = .ok (.aload_n 0, 1) := by decide +kernel
theorem dX6_edit_45 : decode cX6_edit 45 = .ok (.iconst 3, 1) := by decide +kernel
theorem dX6_edit_46 : decode cX6_edit 46 = .ok (.invokevirtual 96, 3) := by decide +kernel
theorem dX6_edit_49 : decode cX6_edit 49 = .ok (.ireturn, 1) := by decide +kernel
theorem dX6_edit_50 : decode cX6_edit 50 = .ok (.aload_n 0, 1) := by decide +kernel
theorem dX6_edit_51 : decode cX6_edit 51 = .ok (.getfield 75, 3) := by decide +kernel
theorem dX6_edit_54 : decode cX6_edit 54 = .ok (.iload_n 1, 1) := by decide +kernel
theorem dX6_edit_55 : decode cX6_edit 55 = .ok (.caload, 1) := by decide +kernel
theorem dX6_edit_56 : decode cX6_edit 56 = .ok (.bipush 111, 2) := by decide +kernel
theorem dX6_edit_58 : decode cX6_edit 58 = .ok (.if_icmp .eq 9, 3) := by decide +kernel
theorem dX6_edit_61 : decode cX6_edit 61 = .ok (.aload_n 0, 1) := by decide +kernel
theorem dX6_edit_62 : decode cX6_edit 62 = .ok (.iconst 4, 1) := by decide +kernel
theorem dX6_edit_63 : decode cX6_edit 63 = .ok (.invokevirtual 96, 3) := by decide +kernel
theorem dX6_edit_66 : decode cX6_edit 66 = .ok (.ireturn, 1) := by decide +kernel
theorem dX6_edit_67 : decode cX6_edit 67 = .ok (.aload_n 0, 1) := by decide +kernel
theorem dX6_edit_68 : decode cX6_edit 68 = .ok (.getfield 48, 3) := by decide +kernel
theorem dX6_edit_71 : decode cX6_edit 71 = .ok (.iload_n 1, 1) := by decide +kernel
theorem dX6_edit_72 : decode cX6_edit 72 = .ok (.aaload, 1) := by decide +kernel
theorem dX6_edit_73 : decode cX6_edit 73 = .ok (.iconst 4, 1) := by decide +kernel
theorem dX6_edit_74 : decode cX6_edit 74 = .ok (.iload_n 2, 1) := by decide +kernel
theorem dX6_edit_75 : decode cX6_edit 75 = .ok (.imul, 1) := by decide +kernel
theorem dX6_edit_76 : decode cX6_edit 76 = .ok (.iload_n 3, 1) := by decide +kernel
theorem dX6_edit_77 : decode cX6_edit 77 = .ok (.iadd, 1) := by decide +kernel
theorem dX6_edit_78 : decode cX6_edit 78 = .ok (.iload 4, 2) := by decide +kernel
theorem dX6_edit_80 : decode cX6_edit 80 = .ok (.iastore, 1) := by decide +kernel
theorem dX6_edit_81 : decode cX6_edit 81 = .ok (.aload_n 0, 1) := by decide +kernel
theorem dX6_edit_82 : decode cX6_edit 82 = .ok (.iload_n 1, 1) := by decide +kernel
theorem dX6_edit_83 : decode cX6_edit 83 = .ok (.invokevirtual 113, 3) := by decide +kernel
theorem dX6_edit_86 : decode cX6_edit 86 = .ok (.ireturn, 1) := by decide +kernel
theorem dX6_take_0 : decode cX6_take 0 = .ok (.aload_n 0, 1) := by decide +kernel
theorem dX6_take_1 : decode cX6_take 1 = .ok (.iconst 0, 1) := by decide +kernel
theorem dX6_take_2 : decode cX6_take 2 = .ok (.putfield 1, 3) := by decide +kernel
theorem dX6_take_5 : decode cX6_take 5 = .ok (.aload_n 0, 1) := by decide +kernel
theorem dX6_take_6 : decode cX6_take 6 = .ok (.iload_n 1, 1) := by decide +kernel
theorem dX6_take_7 : decode cX6_take 7 = .ok (.invokevirtual 106, 3) := by decide +kernel
theorem dX6_take_10 : decode cX6_take 10 = .ok (.ifCond .ne 9, 3) := by decide +kernel
theorem dX6_take_13 : decode cX6_take 13 = .ok (.aload_n 0, 1) := by decide +kernel
theorem dX6_take_14 : decode cX6_take 14 = .ok (.iconst 1, 1) := by decide +kernel
theorem dX6_take_15 : decode cX6_take 15 = .ok (.invokevirtual 96, 3) := by decide +kernel
theorem dX6_take_18 : decode cX6_take 18 = .ok (.ireturn, 1) := by decide +kernel
theorem dX6_take_19 : decode cX6_take 19 = .ok (.iload_n 2, 1) := by decide +kernel
theorem dX6_take_20 : decode cX6_take 20 = .ok (.iload_n 3, 1) := by decide +kernel
theorem dX6_take_21 : decode cX6_take 21 = .ok (.invokestatic 109, 3) := by decide +kernel
theorem dX6_take_24 : decode cX6_take 24 = .ok (.ifCond .ne 9, 3) := by decide +kernel
theorem dX6_take_27 : decode cX6_take 27 = .ok (.aload_n 0, 1) := by decide +kernel
theorem dX6_take_28 : decode cX6_take 28 = .ok (.iconst 2, 1) := by decide +kernel
theorem dX6_take_29 : decode cX6_take 29 = .ok (.invokevirtual 96, 3) := by decide +kernel
theorem dX6_take_32 : decode cX6_take 32 = .ok (.ireturn, 1) := by decide +kernel
theorem dX6_take_33 : decode cX6_take 33 = .ok (.aload_n 0, 1) := by decide +kernel
theorem dX6_take_34 : decode cX6_take 34 = .ok (.getfield 75, 3) := by decide +kernel
theorem dX6_take_37 : decode cX6_take 37 = .ok (.iload_n 1, 1) := by decide +kernel
theorem dX6_take_38 : decode cX6_take 38 = .ok (.caload, 1) := by decide +kernel
theorem dX6_take_39 : decode cX6_take 39 = .ok (.bipush 111, 2) := by decide +kernel
theorem dX6_take_41 : decode cX6_take 41 = .ok (.if_icmp .ne 18, 3) := by decide +kernel
theorem dX6_take_44 : decode cX6_take 44 = .ok (.aload_n 0, 1) := by decide +kernel
theorem dX6_take_45 : decode cX6_take 45 = .ok (.getfield 48, 3) := by decide +kernel
theorem dX6_take_48 : decode cX6_take 48 = .ok (.iload_n 1, 1) := by decide +kernel
theorem dX6_take_49 : decode cX6_take 49 = .ok (.aaload, 1) := by decide +kernel
theorem dX6_take_50 : decode cX6_take 50 = .ok (.iconst 4, 1) := by decide +kernel
theorem dX6_take_51 : decode cX6_take 51 = .ok (.iload_n 2, 1) := by decide +kernel
theorem dX6_take_52 : decode cX6_take 52 = .ok (.imul, 1) := by decide +kernel
theorem dX6_take_53 : decode cX6_take 53 = .ok (.iload_n 3, 1) := by decide +kernel
theorem dX6_take_54 : decode cX6_take 54 = .ok (.iadd, 1) := by decide +kernel
theorem dX6_take_55 : decode cX6_take 55 = .ok (.iaload, 1) := by decide +kernel
theorem dX6_take_56 : decode cX6_take 56 = .ok (.ifCond .ge 9, 3) := by decide +kernel
theorem dX6_take_59 : decode cX6_take 59 = .ok (.aload_n 0, 1) := by decide +kernel
theorem dX6_take_60 : decode cX6_take 60 = .ok (.iconst 3, 1) := by decide +kernel
theorem dX6_take_61 : decode cX6_take 61 = .ok (.invokevirtual 96, 3) := by decide +kernel
theorem dX6_take_64 : decode cX6_take 64 = .ok (.ireturn, 1) := by decide +kernel
theorem dX6_take_65 : decode cX6_take 65 = .ok (.aload_n 0, 1) := by decide +kernel
theorem dX6_take_66 : decode cX6_take 66 = .ok (.getfield 48, 3) := by decide +kernel
theorem dX6_take_69 : decode cX6_take 69 = .ok (.iload_n 1, 1) := by decide +kernel
theorem dX6_take_70 : decode cX6_take 70 = .ok (.aaload, 1) := by decide +kernel
theorem dX6_take_71 : decode cX6_take 71 = .ok (.iconst 4, 1) := by decide +kernel
theorem dX6_take_72 : decode cX6_take 72 = .ok (.iload_n 2, 1) := by decide +kernel
theorem dX6_take_73 : decode cX6_take 73 = .ok (.imul, 1) := by decide +kernel
theorem dX6_take_74 : decode cX6_take 74 = .ok (.iload_n 3, 1) := by decide +kernel
theorem dX6_take_75 : decode cX6_take 75 = .ok (.iadd, 1) := by decide +kernel
theorem dX6_take_76 : decode cX6_take 76 = .ok (.iconst (-1), 1) := by decide +kernel
theorem dX6_take_77 : decode cX6_take 77 = .ok (.iastore, 1) := by decide +kernel
theorem dX6_take_78 : decode cX6_take 78 = .ok (.aload_n 0, 1) := by decide +kernel
theorem dX6_take_79 : decode cX6_take 79 = .ok (.getfield 53, 3) := by decide +kernel
theorem dX6_take_82 : decode cX6_take 82 = .ok (.iload_n 1, 1) := by decide +kernel
theorem dX6_take_83 : decode cX6_take 83 = .ok (.aaload, 1) := by decide +kernel
theorem dX6_take_84 : decode cX6_take 84 = .ok (.iconst 4, 1) := by decide +kernel
theorem dX6_take_85 : decode cX6_take 85 = .ok (.iload_n 2, 1) := by decide +kernel
theorem dX6_take_86 : decode cX6_take 86 = .ok (.imul, 1) := by decide +kernel
theorem dX6_take_87 : decode cX6_take 87 = .ok (.iload_n 3, 1) := by decide +kernel
theorem dX6_take_88 : decode cX6_take 88 = .ok (.iadd, 1) := by decide +kernel
theorem dX6_take_89 : decode cX6_take 89 = .ok (.iconst 0, 1) := by decide +kernel
theorem dX6_take_90 : decode cX6_take 90 = .ok (.bastore, 1) := by decide +kernel
theorem dX6_take_91 : decode cX6_take 91 = .ok (.aload_n 0, 1) := by decide +kernel
theorem dX6_take_92 : decode cX6_take 92 = .ok (.iload_n 1, 1) := by decide +kernel
theorem dX6_take_93 : decode cX6_take 93 = .ok (.invokevirtual 113, 3) := by decide +kernel
theorem dX6_take_96 : decode cX6_take 96 = .ok (.ireturn, 1) := by decide +kernel
theorem dX6_isUnlike_0 : decode cX6_isUnlike 0 = .ok (.aload_n 0, 1) := by decide +kernel
theorem dX6_isUnlike_1 : decode cX6_isUnlike 1 = .ok (.aload_n 0, 1) := by decide +kernel
theorem dX6_isUnlike_2 : decode cX6_isUnlike 2 = .ok (.iload_n 1, 1) := by decide +kernel
theorem dX6_isUnlike_3 : decode cX6_isUnlike 3 = .ok (.invokevirtual 106, 3) := by decide +kernel
theorem dX6_isUnlike_6 : decode cX6_isUnlike 6 = .ok (.ifCond .ne 7, 3) := by decide +kernel
theorem dX6_isUnlike_9 : decode cX6_isUnlike 9 = .ok (.iconst 1, 1) := by decide +kernel
theorem dX6_isUnlike_10 : decode cX6_isUnlike 10 = .ok (.goto 18, 3) := by decide +kernel
theorem dX6_isUnlike_13 : decode cX6_isUnlike 13 = .ok (.aload_n 0, 1) := by decide +kernel
theorem dX6_isUnlike_14 : decode cX6_isUnlike 14 = .ok (.getfield 75, 3) := by decide +kernel
theorem dX6_isUnlike_17 : decode cX6_isUnlike 17 = .ok (.iload_n 1, 1) := by decide +kernel
theorem dX6_isUnlike_18 : decode cX6_isUnlike 18 = .ok (.caload, 1) := by decide +kernel
theorem dX6_isUnlike_19 : decode cX6_isUnlike 19 = .ok (.iload_n 2, 1) := by decide +kernel
theorem dX6_isUnlike_20 : decode cX6_isUnlike 20 = .ok (.if_icmp .ne 7, 3) := by decide +kernel
theorem dX6_isUnlike_23 : decode cX6_isUnlike 23 = .ok (.iconst 0, 1) := by decide +kernel
theorem dX6_isUnlike_24 : decode cX6_isUnlike 24 = .ok (.goto 4, 3) := by decide +kernel
theorem dX6_isUnlike_27 : decode cX6_isUnlike 27 = .ok (.iconst 2, 1) := by decide +kernel
theorem dX6_isUnlike_28 : decode cX6_isUnlike 28 = .ok (.putfield 1, 3) := by decide +kernel
theorem dX6_isUnlike_31 : decode cX6_isUnlike 31 = .ok (.aload_n 0, 1) := by decide +kernel
theorem dX6_isUnlike_32 : decode cX6_isUnlike 32 = .ok (.getfield 1, 3) := by decide +kernel
theorem dX6_isUnlike_35 : decode cX6_isUnlike 35 = .ok (.ifCond .le 7, 3) := by decide +kernel
theorem dX6_isUnlike_38 : decode cX6_isUnlike 38 = .ok (.iconst 1, 1) := by decide +kernel
theorem dX6_isUnlike_39 : decode cX6_isUnlike 39 = .ok (.goto 4, 3) := by decide +kernel
theorem dX6_isUnlike_42 : decode cX6_isUnlike 42 = .ok (.iconst 0, 1) := by decide +kernel
theorem dX6_isUnlike_43 : decode cX6_isUnlike 43 = .ok (.ireturn, 1) := by decide +kernel
theorem dX6_close_0 : decode cX6_close 0 = .ok (.aload_n 0, 1) := by decide +kernel
theorem dX6_close_1 : decode cX6_close 1 = .ok (.iload_n 1, 1) := by decide +kernel
theorem dX6_close_2 : decode cX6_close 2 = .ok (.bipush 111, 2) := by decide +kernel
theorem dX6_close_4 : decode cX6_close 4 = .ok (.invokevirtual 116, 3) := by decide +kernel
theorem dX6_close_7 : decode cX6_close 7 = .ok (.ifCond .eq 5, 3) := by decide +kernel
theorem dX6_close_10 : decode cX6_close 10 = .ok (.iconst 0, 1) := by decide +kernel
theorem dX6_close_11 : decode cX6_close 11 = .ok (.ireturn, 1) := by decide +kernel
theorem dX6_close_12 : decode cX6_close 12 = .ok (.aload_n 0, 1) := by decide +kernel
theorem dX6_close_13 : decode cX6_close 13 = .ok (.getfield 75, 3) := by decide +kernel
theorem dX6_close_16 : decode cX6_close 16 = .ok (.iload_n 1, 1) := by decide +kernel
theorem dX6_close_17 : decode cX6_close 17 = .ok (.bipush 120, 2) := by decide +kernel
theorem dX6_close_19 : decode cX6_close 19 = .ok (.castore, 1) := by decide +kernel
theorem dX6_close_20 : decode cX6_close 20 = .ok (.aload_n 0, 1) := by decide +kernel
theorem dX6_close_21 : decode cX6_close 21 = .ok (.iload_n 1, 1) := by decide +kernel
theorem dX6_close_22 : decode cX6_close 22 = .ok (.invokevirtual 113, 3) := by decide +kernel
theorem dX6_close_25 : decode cX6_close 25 = .ok (.ireturn, 1) := by decide +kernel
theorem dX6_vote_0 : decode cX6_vote 0 = .ok (.aload_n 0, 1) := by decide +kernel
theorem dX6_vote_1 : decode cX6_vote 1 = .ok (.iconst 0, 1) := by decide +kernel
theorem dX6_vote_2 : decode cX6_vote 2 = .ok (.putfield 1, 3) := by decide +kernel
theorem dX6_vote_5 : decode cX6_vote 5 = .ok (.aload_n 0, 1) := by decide +kernel
theorem dX6_vote_6 : decode cX6_vote 6 = .ok (.iload_n 1, 1) := by decide +kernel
theorem dX6_vote_7 : decode cX6_vote 7 = .ok (.invokevirtual 106, 3) := by decide +kernel
theorem dX6_vote_10 : decode cX6_vote 10 = .ok (.ifCond .ne 9, 3) := by decide +kernel
theorem dX6_vote_13 : decode cX6_vote 13 = .ok (.aload_n 0, 1) := by decide +kernel
theorem dX6_vote_14 : decode cX6_vote 14 = .ok (.iconst 1, 1) := by decide +kernel
theorem dX6_vote_15 : decode cX6_vote 15 = .ok (.invokevirtual 96, 3) := by decide +kernel
theorem dX6_vote_18 : decode cX6_vote 18 = .ok (.ireturn, 1) := by decide +kernel
theorem dX6_vote_19 : decode cX6_vote 19 = .ok (.iload_n 2, 1) := by decide +kernel
theorem dX6_vote_20 : decode cX6_vote 20 = .ok (.invokestatic 100, 3) := by decide +kernel
theorem dX6_vote_23 : decode cX6_vote 23 = .ok (.ifCond .eq 13, 3) := by decide +kernel
theorem dX6_vote_26 : decode cX6_vote 26 = .ok (.iload_n 2, 1) := by decide +kernel
theorem dX6_vote_27 : decode cX6_vote 27 = .ok (.aload_n 0, 1) := by decide +kernel
theorem dX6_vote_28 : decode cX6_vote 28 = .ok (.getfield 66, 3) := by decide +kernel
theorem dX6_vote_31 : decode cX6_vote 31 = .ok (.iload_n 1, 1) := by decide +kernel
theorem dX6_vote_32 : decode cX6_vote 32 = .ok (.iaload, 1) := by decide +kernel
theorem dX6_vote_33 : decode cX6_vote 33 = .ok (.if_icmp .ne 9, 3) := by decide +kernel
theorem dX6_vote_36 : decode cX6_vote 36 = .ok (.aload_n 0, 1) := by decide +kernel
theorem dX6_vote_37 : decode cX6_vote 37 = .ok (.iconst 2, 1) := by decide +kernel
theorem dX6_vote_38 : decode cX6_vote 38 = .ok (.invokevirtual 96, 3) := by decide +kernel
theorem dX6_vote_41 : decode cX6_vote 41 = .ok (.ireturn, 1) := by decide +kernel
theorem dX6_vote_42 : decode cX6_vote 42 = .ok (.aload_n 0, 1) := by decide +kernel
theorem dX6_vote_43 : decode cX6_vote 43 = .ok (.getfield 75, 3) := by decide +kernel
theorem dX6_vote_46 : decode cX6_vote 46 = .ok (.iload_n 1, 1) := by decide +kernel
theorem dX6_vote_47 : decode cX6_vote 47 = .ok (.caload, 1) := by decide +kernel
theorem dX6_vote_48 : decode cX6_vote 48 = .ok (.bipush 111, 2) := by decide +kernel
theorem dX6_vote_50 : decode cX6_vote 50 = .ok (.if_icmp .eq 9, 3) := by decide +kernel
theorem dX6_vote_53 : decode cX6_vote 53 = .ok (.aload_n 0, 1) := by decide +kernel
theorem dX6_vote_54 : decode cX6_vote 54 = .ok (.iconst 3, 1) := by decide +kernel
theorem dX6_vote_55 : decode cX6_vote 55 = .ok (.invokevirtual 96, 3) := by decide +kernel
theorem dX6_vote_58 : decode cX6_vote 58 = .ok (.ireturn, 1) := by decide +kernel
theorem dX6_vote_59 : decode cX6_vote 59 = .ok (.aload_n 0, 1) := by decide +kernel
theorem dX6_vote_60 : decode cX6_vote 60 = .ok (.getfield 58, 3) := by decide +kernel
theorem dX6_vote_63 : decode cX6_vote 63 = .ok (.iload_n 1, 1) := by decide +kernel
theorem dX6_vote_64 : decode cX6_vote 64 = .ok (.aaload, 1) := by decide +kernel
theorem dX6_vote_65 : decode cX6_vote 65 = .ok (.iload_n 2, 1) := by decide +kernel
theorem dX6_vote_66 : decode cX6_vote 66 = .ok (.iload_n 3, 1) := by decide +kernel
theorem dX6_vote_67 : decode cX6_vote 67 = .ok (.ifCond .eq 8, 3) := by decide +kernel
theorem dX6_vote_70 : decode cX6_vote 70 = .ok (.bipush 97, 2) := by decide +kernel
theorem dX6_vote_72 : decode cX6_vote 72 = .ok (.goto 5, 3) := by decide +kernel
theorem dX6_vote_75 : decode cX6_vote 75 = .ok (.bipush 98, 2) := by decide +kernel
theorem dX6_vote_77 : decode cX6_vote 77 = .ok (.castore, 1) := by decide +kernel
theorem dX6_vote_78 : decode cX6_vote 78 = .ok (.iconst 0, 1) := by decide +kernel
theorem dX6_vote_79 : decode cX6_vote 79 = .ok (.istore 4, 2) := by decide +kernel
theorem dX6_vote_81 : decode cX6_vote 81 = .ok (.iload 4, 2) := by decide +kernel
theorem dX6_vote_83 : decode cX6_vote 83 = .ok (.bipush 64, 2) := by decide +kernel
theorem dX6_vote_85 : decode cX6_vote 85 = .ok (.if_icmp .ge 37, 3) := by decide +kernel
theorem dX6_vote_88 : decode cX6_vote 88 = .ok (.aload_n 0, 1) := by decide +kernel
theorem dX6_vote_89 : decode cX6_vote 89 = .ok (.getfield 63, 3) := by decide +kernel
theorem dX6_vote_92 : decode cX6_vote 92 = .ok (.iload_n 1, 1) := by decide +kernel
theorem dX6_vote_93 : decode cX6_vote 93 = .ok (.aaload, 1) := by decide +kernel
theorem dX6_vote_94 : decode cX6_vote 94 = .ok (.iload_n 2, 1) := by decide +kernel
theorem dX6_vote_95 : decode cX6_vote 95 = .ok (.aaload, 1) := by decide +kernel
theorem dX6_vote_96 : decode cX6_vote 96 = .ok (.iload 4, 2) := by decide +kernel
theorem dX6_vote_98 : decode cX6_vote 98 = .ok (.iload_n 3, 1) := by decide +kernel
theorem dX6_vote_99 : decode cX6_vote 99 = .ok (.ifCond .eq 15, 3) := by decide +kernel
theorem dX6_vote_102 : decode cX6_vote 102 = .ok (.aload_n 0, 1) := by decide +kernel
theorem dX6_vote_103 : decode cX6_vote 103 = .ok (.getfield 48, 3) := by decide +kernel
theorem dX6_vote_106 : decode cX6_vote 106 = .ok (.iload_n 1, 1) := by decide +kernel
theorem dX6_vote_107 : decode cX6_vote 107 = .ok (.aaload, 1) := by decide +kernel
theorem dX6_vote_108 : decode cX6_vote 108 = .ok (.iload 4, 2) := by decide +kernel
theorem dX6_vote_110 : decode cX6_vote 110 = .ok (.iaload, 1) := by decide +kernel
theorem dX6_vote_111 : decode cX6_vote 111 = .ok (.goto 4, 3) := by decide +kernel
theorem dX6_vote_114 : decode cX6_vote 114 = .ok (.iconst (-1), 1) := by decide +kernel
theorem dX6_vote_115 : decode cX6_vote 115 = .ok (.iastore, 1) := by decide +kernel
theorem dX6_vote_116 : decode cX6_vote 116 = .ok (.iinc 4 1, 3) := by decide +kernel
theorem dX6_vote_119 : decode cX6_vote 119 = .ok (.goto (-38), 3) := by decide +kernel
theorem dX6_vote_122 : decode cX6_vote 122 = .ok (.iload_n 3, 1) := by decide +kernel
theorem dX6_vote_123 : decode cX6_vote 123 = .ok (.ifCond .eq 11, 3) := by decide +kernel
theorem dX6_vote_126 : decode cX6_vote 126 = .ok (.aload_n 0, 1) := by decide +kernel
theorem dX6_vote_127 : decode cX6_vote 127 = .ok (.iload_n 1, 1) := by decide +kernel
theorem dX6_vote_128 : decode cX6_vote 128 = .ok (.invokevirtual 113, 3) := by decide +kernel
theorem dX6_vote_131 : decode cX6_vote 131 = .ok (.goto 4, 3) := by decide +kernel
theorem dX6_vote_134 : decode cX6_vote 134 = .ok (.iconst 0, 1) := by decide +kernel
theorem dX6_vote_135 : decode cX6_vote 135 = .ok (.ireturn, 1) := by decide +kernel
theorem dX6_ask_0 : decode cX6_ask 0 = .ok (.aload_n 0, 1) := by decide +kernel
theorem dX6_ask_1 : decode cX6_ask 1 = .ok (.getfield 34, 3) := by decide +kernel
theorem dX6_ask_4 : decode cX6_ask 4 = .ok (.iload_n 2, 1) := by decide +kernel
theorem dX6_ask_5 : decode cX6_ask 5 = .ok (.iaload, 1) := by decide +kernel
theorem dX6_ask_6 : decode cX6_ask 6 = .ok (.istore_n 3, 1) := by decide +kernel
theorem dX6_ask_7 : decode cX6_ask 7 = .ok (.aload_n 0, 1) := by decide +kernel
theorem dX6_ask_8 : decode cX6_ask 8 = .ok (.getfield 43, 3) := by decide +kernel
theorem dX6_ask_11 : decode cX6_ask 11 = .ok (.iload_n 3, 1) := by decide +kernel
theorem dX6_ask_12 : decode cX6_ask 12 = .ok (.baload, 1) := by decide +kernel
theorem dX6_ask_13 : decode cX6_ask 13 = .ok (.ifCond .ne 15, 3) := by decide +kernel
theorem dX6_ask_16 : decode cX6_ask 16 = .ok (.iload_n 3, 1) := by decide +kernel
theorem dX6_ask_17 : decode cX6_ask 17 = .ok (.aload_n 0, 1) := by decide +kernel
theorem dX6_ask_18 : decode cX6_ask 18 = .ok (.getfield 66, 3) := by decide +kernel
theorem dX6_ask_21 : decode cX6_ask 21 = .ok (.iload_n 1, 1) := by decide +kernel
theorem dX6_ask_22 : decode cX6_ask 22 = .ok (.iaload, 1) := by decide +kernel
theorem dX6_ask_23 : decode cX6_ask 23 = .ok (.if_icmp .eq 5, 3) := by decide +kernel
theorem dX6_ask_26 : decode cX6_ask 26 = .ok (.iload_n 3, 1) := by decide +kernel
theorem dX6_ask_27 : decode cX6_ask 27 = .ok (.ireturn, 1) := by decide +kernel
theorem dX6_ask_28 : decode cX6_ask 28 = .ok (.aload_n 0, 1) := by decide +kernel
theorem dX6_ask_29 : decode cX6_ask 29 = .ok (.getfield 37, 3) := by decide +kernel
theorem dX6_ask_32 : decode cX6_ask 32 = .ok (.iload_n 2, 1) := by decide +kernel
theorem dX6_ask_33 : decode cX6_ask 33 = .ok (.iaload, 1) := by decide +kernel
theorem dX6_ask_34 : decode cX6_ask 34 = .ok (.aload_n 0, 1) := by decide +kernel
theorem dX6_ask_35 : decode cX6_ask 35 = .ok (.getfield 66, 3) := by decide +kernel
theorem dX6_ask_38 : decode cX6_ask 38 = .ok (.iload_n 1, 1) := by decide +kernel
theorem dX6_ask_39 : decode cX6_ask 39 = .ok (.iaload, 1) := by decide +kernel
theorem dX6_ask_40 : decode cX6_ask 40 = .ok (.if_icmp .ne 7, 3) := by decide +kernel
theorem dX6_ask_43 : decode cX6_ask 43 = .ok (.iconst (-1), 1) := by decide +kernel
theorem dX6_ask_44 : decode cX6_ask 44 = .ok (.goto 9, 3) := by decide +kernel
theorem dX6_ask_47 : decode cX6_ask 47 = .ok (.aload_n 0, 1) := by decide +kernel
theorem dX6_ask_48 : decode cX6_ask 48 = .ok (.getfield 37, 3) := by decide +kernel
theorem dX6_ask_51 : decode cX6_ask 51 = .ok (.iload_n 2, 1) := by decide +kernel
theorem dX6_ask_52 : decode cX6_ask 52 = .ok (.iaload, 1) := by decide +kernel
theorem dX6_ask_53 : decode cX6_ask 53 = .ok (.ireturn, 1) := by decide +kernel
theorem dX6_touches_0 : decode cX6_touches 0 = .ok (.iconst 0, 1) := by decide +kernel
theorem dX6_touches_1 : decode cX6_touches 1 = .ok (.istore_n 3, 1) := by decide +kernel
theorem dX6_touches_2 : decode cX6_touches 2 = .ok (.iload_n 3, 1) := by decide +kernel
theorem dX6_touches_3 : decode cX6_touches 3 = .ok (.bipush 64, 2) := by decide +kernel
theorem dX6_touches_5 : decode cX6_touches 5 = .ok (.if_icmp .ge 30, 3) := by decide +kernel
theorem dX6_touches_8 : decode cX6_touches 8 = .ok (.aload_n 0, 1) := by decide +kernel
theorem dX6_touches_9 : decode cX6_touches 9 = .ok (.getfield 48, 3) := by decide +kernel
theorem dX6_touches_12 : decode cX6_touches 12 = .ok (.iload_n 1, 1) := by decide +kernel
theorem dX6_touches_13 : decode cX6_touches 13 = .ok (.aaload, 1) := by decide +kernel
theorem dX6_touches_14 : decode cX6_touches 14 = .ok (.iload_n 3, 1) := by decide +kernel
theorem dX6_touches_15 : decode cX6_touches 15 = .ok (.iaload, 1) := by decide +kernel
theorem dX6_touches_16 : decode cX6_touches 16 = .ok (.ifCond .lt 13, 3) := by decide +kernel
theorem dX6_touches_19 : decode cX6_touches 19 = .ok (.iload_n 3, 1) := by decide +kernel
theorem dX6_touches_20 : decode cX6_touches 20 = .ok (.invokestatic 120, 3) := by decide +kernel
theorem dX6_touches_23 : decode cX6_touches 23 = .ok (.iload_n 2, 1) := by decide +kernel
theorem dX6_touches_24 : decode cX6_touches 24 = .ok (.if_icmp .ne 5, 3) := by decide +kernel
theorem dX6_touches_27 : decode cX6_touches 27 = .ok (.iconst 1, 1) := by decide +kernel
theorem dX6_touches_28 : decode cX6_touches 28 = .ok (.ireturn, 1) := by decide +kernel
theorem dX6_touches_29 : decode cX6_touches 29 = .ok (.iinc 3 1, 3) := by decide +kernel
theorem dX6_touches_32 : decode cX6_touches 32 = .ok (.goto (-30), 3) := by decide +kernel
theorem dX6_touches_35 : decode cX6_touches 35 = .ok (.iconst 0, 1) := by decide +kernel
theorem dX6_touches_36 : decode cX6_touches 36 = .ok (.ireturn, 1) := by decide +kernel
theorem dX6_isCovered_0 : decode cX6_isCovered 0 = .ok (.iconst 0, 1) := by decide +kernel
theorem dX6_isCovered_1 : decode cX6_isCovered 1 = .ok (.istore 4, 2) := by decide +kernel
theorem dX6_isCovered_3 : decode cX6_isCovered 3 = .ok (.iload 4, 2) := by decide +kernel
theorem dX6_isCovered_5 : decode cX6_isCovered 5 = .ok (.bipush 64, 2) := by decide +kernel
theorem dX6_isCovered_7 : decode cX6_isCovered 7 = .ok (.if_icmp .ge 55, 3) := by decide +kernel
theorem dX6_isCovered_10 : decode cX6_isCovered 10 = .ok (.iload 4, 2) := by decide +kernel
theorem dX6_isCovered_12 : decode cX6_isCovered 12 = .ok (.invokestatic 120, 3) := by decide +kernel
theorem dX6_isCovered_15 : decode cX6_isCovered 15 = .ok (.iload_n 2, 1) := by decide +kernel
theorem dX6_isCovered_16 : decode cX6_isCovered 16 = .ok (.if_icmp .ne 40, 3) := by decide +kernel
theorem dX6_isCovered_19 : decode cX6_isCovered 19 = .ok (.aload_n 0, 1) := by decide +kernel
theorem dX6_isCovered_20 : decode cX6_isCovered 20 = .ok (.getfield 48, 3) := by decide +kernel
theorem dX6_isCovered_23 : decode cX6_isCovered 23 = .ok (.iload_n 1, 1) := by decide +kernel
theorem dX6_isCovered_24 : decode cX6_isCovered 24 = .ok (.aaload, 1) := by decide +kernel
theorem dX6_isCovered_25 : decode cX6_isCovered 25 = .ok (.iload 4, 2) := by decide +kernel
theorem dX6_isCovered_27 : decode cX6_isCovered 27 = .ok (.iaload, 1) := by decide +kernel
theorem dX6_isCovered_28 : decode cX6_isCovered 28 = .ok (.ifCond .lt 28, 3) := by decide +kernel
theorem dX6_isCovered_31 : decode cX6_isCovered 31 = .ok (.aload_n 0, 1) := by decide +kernel
theorem dX6_isCovered_32 : decode cX6_isCovered 32 = .ok (.getfield 63, 3) := by decide +kernel
theorem dX6_isCovered_35 : decode cX6_isCovered 35 = .ok (.iload_n 1, 1) := by decide +kernel
theorem dX6_isCovered_36 : decode cX6_isCovered 36 = .ok (.aaload, 1) := by decide +kernel
theorem dX6_isCovered_37 : decode cX6_isCovered 37 = .ok (.iload_n 3, 1) := by decide +kernel
theorem dX6_isCovered_38 : decode cX6_isCovered 38 = .ok (.aaload, 1) := by decide +kernel
theorem dX6_isCovered_39 : decode cX6_isCovered 39 = .ok (.iload 4, 2) := by decide +kernel
theorem dX6_isCovered_41 : decode cX6_isCovered 41 = .ok (.iaload, 1) := by decide +kernel
theorem dX6_isCovered_42 : decode cX6_isCovered 42 = .ok (.aload_n 0, 1) := by decide +kernel
theorem dX6_isCovered_43 : decode cX6_isCovered 43 = .ok (.getfield 48, 3) := by decide +kernel
theorem dX6_isCovered_46 : decode cX6_isCovered 46 = .ok (.iload_n 1, 1) := by decide +kernel
theorem dX6_isCovered_47 : decode cX6_isCovered 47 = .ok (.aaload, 1) := by decide +kernel
theorem dX6_isCovered_48 : decode cX6_isCovered 48 = .ok (.iload 4, 2) := by decide +kernel
theorem dX6_isCovered_50 : decode cX6_isCovered 50 = .ok (.iaload, 1) := by decide +kernel
theorem dX6_isCovered_51 : decode cX6_isCovered 51 = .ok (.if_icmp .eq 5, 3) := by decide +kernel
theorem dX6_isCovered_54 : decode cX6_isCovered 54 = .ok (.iconst 0, 1) := by decide +kernel
theorem dX6_isCovered_55 : decode cX6_isCovered 55 = .ok (.ireturn, 1) := by decide +kernel
theorem dX6_isCovered_56 : decode cX6_isCovered 56 = .ok (.iinc 4 1, 3) := by decide +kernel
theorem dX6_isCovered_59 : decode cX6_isCovered 59 = .ok (.goto (-56), 3) := by decide +kernel
theorem dX6_isCovered_62 : decode cX6_isCovered 62 = .ok (.iconst 1, 1) := by decide +kernel
theorem dX6_isCovered_63 : decode cX6_isCovered 63 = .ok (.ireturn, 1) := by decide +kernel
theorem dX6_verdictOf_0 : decode cX6_verdictOf 0 = .ok (.aload_n 0, 1) := by decide +kernel
theorem dX6_verdictOf_1 : decode cX6_verdictOf 1 = .ok (.iload_n 1, 1) := by decide +kernel
theorem dX6_verdictOf_2 : decode cX6_verdictOf 2 = .ok (.iload_n 2, 1) := by decide +kernel
theorem dX6_verdictOf_3 : decode cX6_verdictOf 3 = .ok (.invokevirtual 123, 3) := by decide +kernel
theorem dX6_verdictOf_6 : decode cX6_verdictOf 6 = .ok (.ifCond .ne 6, 3) := by decide +kernel
theorem dX6_verdictOf_9 : decode cX6_verdictOf 9 = .ok (.bipush 45, 2) := by decide +kernel
theorem dX6_verdictOf_11 : decode cX6_verdictOf 11 = .ok (.ireturn, 1) := by decide +kernel
theorem dX6_verdictOf_12 : decode cX6_verdictOf 12 = .ok (.aload_n 0, 1) := by decide +kernel
theorem dX6_verdictOf_13 : decode cX6_verdictOf 13 = .ok (.iload_n 1, 1) := by decide +kernel
theorem dX6_verdictOf_14 : decode cX6_verdictOf 14 = .ok (.iload_n 2, 1) := by decide +kernel
theorem dX6_verdictOf_15 : decode cX6_verdictOf 15 = .ok (.invokevirtual 126, 3) := by decide +kernel
theorem dX6_verdictOf_18 : decode cX6_verdictOf 18 = .ok (.istore_n 3, 1) := by decide +kernel
theorem dX6_verdictOf_19 : decode cX6_verdictOf 19 = .ok (.iload_n 3, 1) := by decide +kernel
theorem dX6_verdictOf_20 : decode cX6_verdictOf 20 = .ok (.ifCond .ge 6, 3) := by decide +kernel
theorem dX6_verdictOf_23 : decode cX6_verdictOf 23 = .ok (.bipush 102, 2) := by decide +kernel
theorem dX6_verdictOf_25 : decode cX6_verdictOf 25 = .ok (.ireturn, 1) := by decide +kernel
theorem dX6_verdictOf_26 : decode cX6_verdictOf 26 = .ok (.aload_n 0, 1) := by decide +kernel
theorem dX6_verdictOf_27 : decode cX6_verdictOf 27 = .ok (.getfield 58, 3) := by decide +kernel
theorem dX6_verdictOf_30 : decode cX6_verdictOf 30 = .ok (.iload_n 1, 1) := by decide +kernel
theorem dX6_verdictOf_31 : decode cX6_verdictOf 31 = .ok (.aaload, 1) := by decide +kernel
theorem dX6_verdictOf_32 : decode cX6_verdictOf 32 = .ok (.iload_n 3, 1) := by decide +kernel
theorem dX6_verdictOf_33 : decode cX6_verdictOf 33 = .ok (.caload, 1) := by decide +kernel
theorem dX6_verdictOf_34 : decode cX6_verdictOf 34 = .ok (.bipush 45, 2) := by decide +kernel
theorem dX6_verdictOf_36 : decode cX6_verdictOf 36 = .ok (.if_icmp .ne 6, 3) := by decide +kernel
theorem dX6_verdictOf_39 : decode cX6_verdictOf 39 = .ok (.bipush 63, 2) := by decide +kernel
theorem dX6_verdictOf_41 : decode cX6_verdictOf 41 = .ok (.ireturn, 1) := by decide +kernel
theorem dX6_verdictOf_42 : decode cX6_verdictOf 42 = .ok (.aload_n 0, 1) := by decide +kernel
theorem dX6_verdictOf_43 : decode cX6_verdictOf 43 = .ok (.getfield 58, 3) := by decide +kernel
theorem dX6_verdictOf_46 : decode cX6_verdictOf 46 = .ok (.iload_n 1, 1) := by decide +kernel
theorem dX6_verdictOf_47 : decode cX6_verdictOf 47 = .ok (.aaload, 1) := by decide +kernel
theorem dX6_verdictOf_48 : decode cX6_verdictOf 48 = .ok (.iload_n 3, 1) := by decide +kernel
theorem dX6_verdictOf_49 : decode cX6_verdictOf 49 = .ok (.caload, 1) := by decide +kernel
theorem dX6_verdictOf_50 : decode cX6_verdictOf 50 = .ok (.bipush 98, 2) := by decide +kernel
theorem dX6_verdictOf_52 : decode cX6_verdictOf 52 = .ok (.if_icmp .ne 6, 3) := by decide +kernel
theorem dX6_verdictOf_55 : decode cX6_verdictOf 55 = .ok (.bipush 110, 2) := by decide +kernel
theorem dX6_verdictOf_57 : decode cX6_verdictOf 57 = .ok (.ireturn, 1) := by decide +kernel
theorem dX6_verdictOf_58 : decode cX6_verdictOf 58 = .ok (.aload_n 0, 1) := by decide +kernel
theorem dX6_verdictOf_59 : decode cX6_verdictOf 59 = .ok (.iload_n 1, 1) := by decide +kernel
theorem dX6_verdictOf_60 : decode cX6_verdictOf 60 = .ok (.iload_n 2, 1) := by decide +kernel
theorem dX6_verdictOf_61 : decode cX6_verdictOf 61 = .ok (.iload_n 3, 1) := by decide +kernel
theorem dX6_verdictOf_62 : decode cX6_verdictOf 62 = .ok (.invokevirtual 130, 3) := by decide +kernel
theorem dX6_verdictOf_65 : decode cX6_verdictOf 65 = .ok (.ifCond .eq 8, 3) := by decide +kernel
theorem dX6_verdictOf_68 : decode cX6_verdictOf 68 = .ok (.bipush 121, 2) := by decide +kernel
theorem dX6_verdictOf_70 : decode cX6_verdictOf 70 = .ok (.goto 5, 3) := by decide +kernel
theorem dX6_verdictOf_73 : decode cX6_verdictOf 73 = .ok (.bipush 115, 2) := by decide +kernel
theorem dX6_verdictOf_75 : decode cX6_verdictOf 75 = .ok (.ireturn, 1) := by decide +kernel
theorem dX6_verdict_0 : decode cX6_verdict 0 = .ok (.aload_n 0, 1) := by decide +kernel
theorem dX6_verdict_1 : decode cX6_verdict 1 = .ok (.aload_n 0, 1) := by decide +kernel
theorem dX6_verdict_2 : decode cX6_verdict 2 = .ok (.iload_n 1, 1) := by decide +kernel
theorem dX6_verdict_3 : decode cX6_verdict 3 = .ok (.invokevirtual 106, 3) := by decide +kernel
theorem dX6_verdict_6 : decode cX6_verdict 6 = .ok (.ifCond .ne 7, 3) := by decide +kernel
theorem dX6_verdict_9 : decode cX6_verdict 9 = .ok (.iconst 1, 1) := by decide +kernel
theorem dX6_verdict_10 : decode cX6_verdict 10 = .ok (.goto 15, 3) := by decide +kernel
theorem dX6_verdict_13 : decode cX6_verdict 13 = .ok (.iload_n 2, 1) := by decide +kernel
theorem dX6_verdict_14 : decode cX6_verdict 14 = .ok (.invokestatic 92, 3) := by decide +kernel
theorem dX6_verdict_17 : decode cX6_verdict 17 = .ok (.ifCond .eq 7, 3) := by decide +kernel
theorem dX6_verdict_20 : decode cX6_verdict 20 = .ok (.iconst 0, 1) := by decide +kernel
theorem dX6_verdict_21 : decode cX6_verdict 21 = .ok (.goto 4, 3) := by decide +kernel
theorem dX6_verdict_24 : decode cX6_verdict 24 = .ok (.iconst 2, 1) := by decide +kernel
theorem dX6_verdict_25 : decode cX6_verdict 25 = .ok (.putfield 1, 3) := by decide +kernel
theorem dX6_verdict_28 : decode cX6_verdict 28 = .ok (.aload_n 0, 1) := by decide +kernel
theorem dX6_verdict_29 : decode cX6_verdict 29 = .ok (.getfield 1, 3) := by decide +kernel
theorem dX6_verdict_32 : decode cX6_verdict 32 = .ok (.ifCond .le 7, 3) := by decide +kernel
theorem dX6_verdict_35 : decode cX6_verdict 35 = .ok (.iconst 0, 1) := by decide +kernel
theorem dX6_verdict_36 : decode cX6_verdict 36 = .ok (.goto 9, 3) := by decide +kernel
theorem dX6_verdict_39 : decode cX6_verdict 39 = .ok (.aload_n 0, 1) := by decide +kernel
theorem dX6_verdict_40 : decode cX6_verdict 40 = .ok (.iload_n 1, 1) := by decide +kernel
theorem dX6_verdict_41 : decode cX6_verdict 41 = .ok (.iload_n 2, 1) := by decide +kernel
theorem dX6_verdict_42 : decode cX6_verdict 42 = .ok (.invokevirtual 133, 3) := by decide +kernel
theorem dX6_verdict_45 : decode cX6_verdict 45 = .ok (.ireturn, 1) := by decide +kernel
theorem dX6_asked_0 : decode cX6_asked 0 = .ok (.aload_n 0, 1) := by decide +kernel
theorem dX6_asked_1 : decode cX6_asked 1 = .ok (.aload_n 0, 1) := by decide +kernel
theorem dX6_asked_2 : decode cX6_asked 2 = .ok (.iload_n 1, 1) := by decide +kernel
theorem dX6_asked_3 : decode cX6_asked 3 = .ok (.invokevirtual 106, 3) := by decide +kernel
theorem dX6_asked_6 : decode cX6_asked 6 = .ok (.ifCond .ne 7, 3) := by decide +kernel
theorem dX6_asked_9 : decode cX6_asked 9 = .ok (.iconst 1, 1) := by decide +kernel
theorem dX6_asked_10 : decode cX6_asked 10 = .ok (.goto 15, 3) := by decide +kernel
theorem dX6_asked_13 : decode cX6_asked 13 = .ok (.iload_n 2, 1) := by decide +kernel
theorem dX6_asked_14 : decode cX6_asked 14 = .ok (.invokestatic 92, 3) := by decide +kernel
theorem dX6_asked_17 : decode cX6_asked 17 = .ok (.ifCond .eq 7, 3) := by decide +kernel
theorem dX6_asked_20 : decode cX6_asked 20 = .ok (.iconst 0, 1) := by decide +kernel
theorem dX6_asked_21 : decode cX6_asked 21 = .ok (.goto 4, 3) := by decide +kernel
theorem dX6_asked_24 : decode cX6_asked 24 = .ok (.iconst 2, 1) := by decide +kernel
theorem dX6_asked_25 : decode cX6_asked 25 = .ok (.putfield 1, 3) := by decide +kernel
theorem dX6_asked_28 : decode cX6_asked 28 = .ok (.aload_n 0, 1) := by decide +kernel
theorem dX6_asked_29 : decode cX6_asked 29 = .ok (.getfield 1, 3) := by decide +kernel
theorem dX6_asked_32 : decode cX6_asked 32 = .ok (.ifCond .le 5, 3) := by decide +kernel
theorem dX6_asked_35 : decode cX6_asked 35 = .ok (.iconst 0, 1) := by decide +kernel
theorem dX6_asked_36 : decode cX6_asked 36 = .ok (.ireturn, 1) := by decide +kernel
theorem dX6_asked_37 : decode cX6_asked 37 = .ok (.aload_n 0, 1) := by decide +kernel
theorem dX6_asked_38 : decode cX6_asked 38 = .ok (.iload_n 1, 1) := by decide +kernel
theorem dX6_asked_39 : decode cX6_asked 39 = .ok (.iload_n 2, 1) := by decide +kernel
theorem dX6_asked_40 : decode cX6_asked 40 = .ok (.invokevirtual 126, 3) := by decide +kernel
theorem dX6_asked_43 : decode cX6_asked 43 = .ok (.ifCond .ge 11, 3) := by decide +kernel
theorem dX6_asked_46 : decode cX6_asked 46 = .ok (.aload_n 0, 1) := by decide +kernel
theorem dX6_asked_47 : decode cX6_asked 47 = .ok (.iconst 1, 1) := by decide +kernel
theorem dX6_asked_48 : decode cX6_asked 48 = .ok (.invokevirtual 96, 3) := by decide +kernel
theorem dX6_asked_51 : decode cX6_asked 51 = .ok (.goto 9, 3) := by decide +kernel
theorem dX6_asked_54 : decode cX6_asked 54 = .ok (.aload_n 0, 1) := by decide +kernel
theorem dX6_asked_55 : decode cX6_asked 55 = .ok (.iload_n 1, 1) := by decide +kernel
theorem dX6_asked_56 : decode cX6_asked 56 = .ok (.iload_n 2, 1) := by decide +kernel
theorem dX6_asked_57 : decode cX6_asked 57 = .ok (.invokevirtual 126, 3) := by decide +kernel
theorem dX6_asked_60 : decode cX6_asked 60 = .ok (.ireturn, 1) := by decide +kernel
theorem dX6_missingIn_0 : decode cX6_missingIn 0 = .ok (.iconst 0, 1) := by decide +kernel
theorem dX6_missingIn_1 : decode cX6_missingIn 1 = .ok (.istore_n 2, 1) := by decide +kernel
theorem dX6_missingIn_2 : decode cX6_missingIn 2 = .ok (.iconst 0, 1) := by decide +kernel
theorem dX6_missingIn_3 : decode cX6_missingIn 3 = .ok (.istore_n 3, 1) := by decide +kernel
theorem dX6_missingIn_4 : decode cX6_missingIn 4 = .ok (.iload_n 3, 1) := by decide +kernel
theorem dX6_missingIn_5 : decode cX6_missingIn 5 = .ok (.iconst 4, 1) := by decide +kernel
theorem dX6_missingIn_6 : decode cX6_missingIn 6 = .ok (.if_icmp .ge 46, 3) := by decide +kernel
theorem dX6_missingIn_9 : decode cX6_missingIn 9 = .ok (.aload_n 0, 1) := by decide +kernel
theorem dX6_missingIn_10 : decode cX6_missingIn 10 = .ok (.iload_n 1, 1) := by decide +kernel
theorem dX6_missingIn_11 : decode cX6_missingIn 11 = .ok (.iload_n 3, 1) := by decide +kernel
theorem dX6_missingIn_12 : decode cX6_missingIn 12 = .ok (.invokevirtual 133, 3) := by decide +kernel
theorem dX6_missingIn_15 : decode cX6_missingIn 15 = .ok (.istore 4, 2) := by decide +kernel
theorem dX6_missingIn_17 : decode cX6_missingIn 17 = .ok (.iload_n 2, 1) := by decide +kernel
theorem dX6_missingIn_18 : decode cX6_missingIn 18 = .ok (.iload 4, 2) := by decide +kernel
theorem dX6_missingIn_20 : decode cX6_missingIn 20 = .ok (.bipush 63, 2) := by decide +kernel
theorem dX6_missingIn_22 : decode cX6_missingIn 22 = .ok (.if_icmp .eq 17, 3) := by decide +kernel
theorem dX6_missingIn_25 : decode cX6_missingIn 25 = .ok (.iload 4, 2) := by decide +kernel
theorem dX6_missingIn_27 : decode cX6_missingIn 27 = .ok (.bipush 110, 2) := by decide +kernel
theorem dX6_missingIn_29 : decode cX6_missingIn 29 = .ok (.if_icmp .eq 10, 3) := by decide +kernel
theorem dX6_missingIn_32 : decode cX6_missingIn 32 = .ok (.iload 4, 2) := by decide +kernel
theorem dX6_missingIn_34 : decode cX6_missingIn 34 = .ok (.bipush 115, 2) := by decide +kernel
theorem dX6_missingIn_36 : decode cX6_missingIn 36 = .ok (.if_icmp .ne 7, 3) := by decide +kernel
theorem dX6_missingIn_39 : decode cX6_missingIn 39 = .ok (.iconst 1, 1) := by decide +kernel
theorem dX6_missingIn_40 : decode cX6_missingIn 40 = .ok (.goto 4, 3) := by decide +kernel
theorem dX6_missingIn_43 : decode cX6_missingIn 43 = .ok (.iconst 0, 1) := by decide +kernel
theorem dX6_missingIn_44 : decode cX6_missingIn 44 = .ok (.iadd, 1) := by decide +kernel
theorem dX6_missingIn_45 : decode cX6_missingIn 45 = .ok (.istore_n 2, 1) := by decide +kernel
theorem dX6_missingIn_46 : decode cX6_missingIn 46 = .ok (.iinc 3 1, 3) := by decide +kernel
theorem dX6_missingIn_49 : decode cX6_missingIn 49 = .ok (.goto (-45), 3) := by decide +kernel
theorem dX6_missingIn_52 : decode cX6_missingIn 52 = .ok (.iload_n 2, 1) := by decide +kernel
theorem dX6_missingIn_53 : decode cX6_missingIn 53 = .ok (.ireturn, 1) := by decide +kernel
theorem dX6_missing_0 : decode cX6_missing 0 = .ok (.aload_n 0, 1) := by decide +kernel
theorem dX6_missing_1 : decode cX6_missing 1 = .ok (.iconst 0, 1) := by decide +kernel
theorem dX6_missing_2 : decode cX6_missing 2 = .ok (.putfield 1, 3) := by decide +kernel
theorem dX6_missing_5 : decode cX6_missing 5 = .ok (.aload_n 0, 1) := by decide +kernel
theorem dX6_missing_6 : decode cX6_missing 6 = .ok (.iload_n 1, 1) := by decide +kernel
theorem dX6_missing_7 : decode cX6_missing 7 = .ok (.invokevirtual 106, 3) := by decide +kernel
theorem dX6_missing_10 : decode cX6_missing 10 = .ok (.ifCond .eq 11, 3) := by decide +kernel
theorem dX6_missing_13 : decode cX6_missing 13 = .ok (.aload_n 0, 1) := by decide +kernel
theorem dX6_missing_14 : decode cX6_missing 14 = .ok (.iload_n 1, 1) := by decide +kernel
theorem dX6_missing_15 : decode cX6_missing 15 = .ok (.invokevirtual 137, 3) := by decide +kernel
theorem dX6_missing_18 : decode cX6_missing 18 = .ok (.goto 8, 3) := by decide +kernel
theorem dX6_missing_21 : decode cX6_missing 21 = .ok (.aload_n 0, 1) := by decide +kernel
theorem dX6_missing_22 : decode cX6_missing 22 = .ok (.iconst 1, 1) := by decide +kernel
theorem dX6_missing_23 : decode cX6_missing 23 = .ok (.invokevirtual 96, 3) := by decide +kernel
theorem dX6_missing_26 : decode cX6_missing 26 = .ok (.ireturn, 1) := by decide +kernel
theorem dX6_clashMany_0 : decode cX6_clashMany 0 = .ok (.iconst 0, 1) := by decide +kernel
theorem dX6_clashMany_1 : decode cX6_clashMany 1 = .ok (.istore_n 2, 1) := by decide +kernel
theorem dX6_clashMany_2 : decode cX6_clashMany 2 = .ok (.iconst 0, 1) := by decide +kernel
theorem dX6_clashMany_3 : decode cX6_clashMany 3 = .ok (.istore_n 3, 1) := by decide +kernel
theorem dX6_clashMany_4 : decode cX6_clashMany 4 = .ok (.iload_n 3, 1) := by decide +kernel
theorem dX6_clashMany_5 : decode cX6_clashMany 5 = .ok (.bipush 64, 2) := by decide +kernel
theorem dX6_clashMany_7 : decode cX6_clashMany 7 = .ok (.if_icmp .ge 28, 3) := by decide +kernel
theorem dX6_clashMany_10 : decode cX6_clashMany 10 = .ok (.iload_n 2, 1) := by decide +kernel
theorem dX6_clashMany_11 : decode cX6_clashMany 11 = .ok (.aload_n 0, 1) := by decide +kernel
theorem dX6_clashMany_12 : decode cX6_clashMany 12 = .ok (.getfield 53, 3) := by decide +kernel
theorem dX6_clashMany_15 : decode cX6_clashMany 15 = .ok (.iload_n 1, 1) := by decide +kernel
theorem dX6_clashMany_16 : decode cX6_clashMany 16 = .ok (.aaload, 1) := by decide +kernel
theorem dX6_clashMany_17 : decode cX6_clashMany 17 = .ok (.iload_n 3, 1) := by decide +kernel
theorem dX6_clashMany_18 : decode cX6_clashMany 18 = .ok (.baload, 1) := by decide +kernel
theorem dX6_clashMany_19 : decode cX6_clashMany 19 = .ok (.ifCond .eq 7, 3) := by decide +kernel
theorem dX6_clashMany_22 : decode cX6_clashMany 22 = .ok (.iconst 1, 1) := by decide +kernel
theorem dX6_clashMany_23 : decode cX6_clashMany 23 = .ok (.goto 4, 3) := by decide +kernel
theorem dX6_clashMany_26 : decode cX6_clashMany 26 = .ok (.iconst 0, 1) := by decide +kernel
theorem dX6_clashMany_27 : decode cX6_clashMany 27 = .ok (.iadd, 1) := by decide +kernel
theorem dX6_clashMany_28 : decode cX6_clashMany 28 = .ok (.istore_n 2, 1) := by decide +kernel
theorem dX6_clashMany_29 : decode cX6_clashMany 29 = .ok (.iinc 3 1, 3) := by decide +kernel
theorem dX6_clashMany_32 : decode cX6_clashMany 32 = .ok (.goto (-28), 3) := by decide +kernel
theorem dX6_clashMany_35 : decode cX6_clashMany 35 = .ok (.iload_n 2, 1) := by decide +kernel
theorem dX6_clashMany_36 : decode cX6_clashMany 36 = .ok (.ireturn, 1) := by decide +kernel
theorem dX6_queue_0 : decode cX6_queue 0 = .ok (.aload_n 0, 1) := by decide +kernel
theorem dX6_queue_1 : decode cX6_queue 1 = .ok (.iload_n 1, 1) := by decide +kernel
theorem dX6_queue_2 : decode cX6_queue 2 = .ok (.bipush 111, 2) := by decide +kernel
theorem dX6_queue_4 : decode cX6_queue 4 = .ok (.invokevirtual 116, 3) := by decide +kernel
theorem dX6_queue_7 : decode cX6_queue 7 = .ok (.ifCond .eq 5, 3) := by decide +kernel
theorem dX6_queue_10 : decode cX6_queue 10 = .ok (.iconst 0, 1) := by decide +kernel
theorem dX6_queue_11 : decode cX6_queue 11 = .ok (.ireturn, 1) := by decide +kernel
theorem dX6_queue_12 : decode cX6_queue 12 = .ok (.aload_n 0, 1) := by decide +kernel
theorem dX6_queue_13 : decode cX6_queue 13 = .ok (.iload_n 1, 1) := by decide +kernel
theorem dX6_queue_14 : decode cX6_queue 14 = .ok (.invokevirtual 113, 3) := by decide +kernel
theorem dX6_queue_17 : decode cX6_queue 17 = .ok (.ifCond .eq 11, 3) := by decide +kernel
theorem dX6_queue_20 : decode cX6_queue 20 = .ok (.aload_n 0, 1) := by decide +kernel
theorem dX6_queue_21 : decode cX6_queue 21 = .ok (.iload_n 1, 1) := by decide +kernel
theorem dX6_queue_22 : decode cX6_queue 22 = .ok (.invokevirtual 140, 3) := by decide +kernel
theorem dX6_queue_25 : decode cX6_queue 25 = .ok (.ifCond .le 9, 3) := by decide +kernel
theorem dX6_queue_28 : decode cX6_queue 28 = .ok (.aload_n 0, 1) := by decide +kernel
theorem dX6_queue_29 : decode cX6_queue 29 = .ok (.iconst 2, 1) := by decide +kernel
theorem dX6_queue_30 : decode cX6_queue 30 = .ok (.invokevirtual 96, 3) := by decide +kernel
theorem dX6_queue_33 : decode cX6_queue 33 = .ok (.ireturn, 1) := by decide +kernel
theorem dX6_queue_34 : decode cX6_queue 34 = .ok (.aload_n 0, 1) := by decide +kernel
theorem dX6_queue_35 : decode cX6_queue 35 = .ok (.iload_n 1, 1) := by decide +kernel
theorem dX6_queue_36 : decode cX6_queue 36 = .ok (.invokevirtual 137, 3) := by decide +kernel
theorem dX6_queue_39 : decode cX6_queue 39 = .ok (.ifCond .le 9, 3) := by decide +kernel
theorem dX6_queue_42 : decode cX6_queue 42 = .ok (.aload_n 0, 1) := by decide +kernel
theorem dX6_queue_43 : decode cX6_queue 43 = .ok (.iconst 3, 1) := by decide +kernel
theorem dX6_queue_44 : decode cX6_queue 44 = .ok (.invokevirtual 96, 3) := by decide +kernel
theorem dX6_queue_47 : decode cX6_queue 47 = .ok (.ireturn, 1) := by decide +kernel
theorem dX6_queue_48 : decode cX6_queue 48 = .ok (.aload_n 0, 1) := by decide +kernel
theorem dX6_queue_49 : decode cX6_queue 49 = .ok (.getfield 75, 3) := by decide +kernel
theorem dX6_queue_52 : decode cX6_queue 52 = .ok (.iload_n 1, 1) := by decide +kernel
theorem dX6_queue_53 : decode cX6_queue 53 = .ok (.bipush 113, 2) := by decide +kernel
theorem dX6_queue_55 : decode cX6_queue 55 = .ok (.castore, 1) := by decide +kernel
theorem dX6_queue_56 : decode cX6_queue 56 = .ok (.aload_n 0, 1) := by decide +kernel
theorem dX6_queue_57 : decode cX6_queue 57 = .ok (.getfield 69, 3) := by decide +kernel
theorem dX6_queue_60 : decode cX6_queue 60 = .ok (.aload_n 0, 1) := by decide +kernel
theorem dX6_queue_61 : decode cX6_queue 61 = .ok (.getfield 143, 3) := by decide +kernel
theorem dX6_queue_64 : decode cX6_queue 64 = .ok (.iload_n 1, 1) := by decide +kernel
theorem dX6_queue_65 : decode cX6_queue 65 = .ok (.iastore, 1) := by decide +kernel
theorem dX6_queue_66 : decode cX6_queue 66 = .ok (.aload_n 0, 1) := by decide +kernel
theorem dX6_queue_67 : decode cX6_queue 67 = .ok (.dup, 1) := by decide +kernel
theorem dX6_queue_68 : decode cX6_queue 68 = .ok (.getfield 143, 3) := by decide +kernel
theorem dX6_queue_71 : decode cX6_queue 71 = .ok (.iconst 1, 1) := by decide +kernel
theorem dX6_queue_72 : decode cX6_queue 72 = .ok (.iadd, 1) := by decide +kernel
theorem dX6_queue_73 : decode cX6_queue 73 = .ok (.putfield 143, 3) := by decide +kernel
theorem dX6_queue_76 : decode cX6_queue 76 = .ok (.aload_n 0, 1) := by decide +kernel
theorem dX6_queue_77 : decode cX6_queue 77 = .ok (.getfield 143, 3) := by decide +kernel
theorem dX6_queue_80 : decode cX6_queue 80 = .ok (.ireturn, 1) := by decide +kernel
theorem dX6_leaves_0 : decode cX6_leaves 0 = .ok (.iconst 0, 1) := by decide +kernel
theorem dX6_leaves_1 : decode cX6_leaves 1 = .ok (.istore_n 2, 1) := by decide +kernel
theorem dX6_leaves_2 : decode cX6_leaves 2 = .ok (.aload_n 0, 1) := by decide +kernel
theorem dX6_leaves_3 : decode cX6_leaves 3 = .ok (.getfield 69, 3) := by decide +kernel
theorem dX6_leaves_6 : decode cX6_leaves 6 = .ok (.iload_n 2, 1) := by decide +kernel
theorem dX6_leaves_7 : decode cX6_leaves 7 = .ok (.iaload, 1) := by decide +kernel
theorem dX6_leaves_8 : decode cX6_leaves 8 = .ok (.iload_n 1, 1) := by decide +kernel
theorem dX6_leaves_9 : decode cX6_leaves 9 = .ok (.if_icmp .eq 9, 3) := by decide +kernel
theorem dX6_leaves_12 : decode cX6_leaves 12 = .ok (.iinc 2 1, 3) := by decide +kernel
theorem dX6_leaves_15 : decode cX6_leaves 15 = .ok (.goto (-13), 3) := by decide +kernel
theorem dX6_leaves_18 : decode cX6_leaves 18 = .ok (.aload_n 0, 1) := by decide +kernel
theorem dX6_leaves_19 : decode cX6_leaves 19 = .ok (.dup, 1) := by decide +kernel
theorem dX6_leaves_20 : decode cX6_leaves 20 = .ok (.getfield 143, 3) := by decide +kernel
theorem dX6_leaves_23 : decode cX6_leaves 23 = .ok (.iconst 1, 1) := by decide +kernel
theorem dX6_leaves_24 : decode cX6_leaves 24 = .ok (.isub, 1) := by decide +kernel
theorem dX6_leaves_25 : decode cX6_leaves 25 = .ok (.putfield 143, 3) := by decide +kernel
theorem dX6_leaves_28 : decode cX6_leaves 28 = .ok (.iload_n 2, 1) := by decide +kernel
theorem dX6_leaves_29 : decode cX6_leaves 29 = .ok (.aload_n 0, 1) := by decide +kernel
theorem dX6_leaves_30 : decode cX6_leaves 30 = .ok (.getfield 143, 3) := by decide +kernel
theorem dX6_leaves_33 : decode cX6_leaves 33 = .ok (.if_icmp .ge 23, 3) := by decide +kernel
theorem dX6_leaves_36 : decode cX6_leaves 36 = .ok (.aload_n 0, 1) := by decide +kernel
theorem dX6_leaves_37 : decode cX6_leaves 37 = .ok (.getfield 69, 3) := by decide +kernel
theorem dX6_leaves_40 : decode cX6_leaves 40 = .ok (.iload_n 2, 1) := by decide +kernel
theorem dX6_leaves_41 : decode cX6_leaves 41 = .ok (.aload_n 0, 1) := by decide +kernel
theorem dX6_leaves_42 : decode cX6_leaves 42 = .ok (.getfield 69, 3) := by decide +kernel
theorem dX6_leaves_45 : decode cX6_leaves 45 = .ok (.iload_n 2, 1) := by decide +kernel
theorem dX6_leaves_46 : decode cX6_leaves 46 = .ok (.iconst 1, 1) := by decide +kernel
theorem dX6_leaves_47 : decode cX6_leaves 47 = .ok (.iadd, 1) := by decide +kernel
theorem dX6_leaves_48 : decode cX6_leaves 48 = .ok (.iaload, 1) := by decide +kernel
theorem dX6_leaves_49 : decode cX6_leaves 49 = .ok (.iastore, 1) := by decide +kernel
theorem dX6_leaves_50 : decode cX6_leaves 50 = .ok (.iinc 2 1, 3) := by decide +kernel
theorem dX6_leaves_53 : decode cX6_leaves 53 = .ok (.goto (-25), 3) := by decide +kernel
theorem dX6_leaves_56 : decode cX6_leaves 56 = .ok (.return_, 1) := by decide +kernel
theorem dX6_unqueue_0 : decode cX6_unqueue 0 = .ok (.aload_n 0, 1) := by decide +kernel
theorem dX6_unqueue_1 : decode cX6_unqueue 1 = .ok (.iload_n 1, 1) := by decide +kernel
theorem dX6_unqueue_2 : decode cX6_unqueue 2 = .ok (.bipush 113, 2) := by decide +kernel
theorem dX6_unqueue_4 : decode cX6_unqueue 4 = .ok (.invokevirtual 116, 3) := by decide +kernel
theorem dX6_unqueue_7 : decode cX6_unqueue 7 = .ok (.ifCond .eq 5, 3) := by decide +kernel
theorem dX6_unqueue_10 : decode cX6_unqueue 10 = .ok (.iconst 0, 1) := by decide +kernel
theorem dX6_unqueue_11 : decode cX6_unqueue 11 = .ok (.ireturn, 1) := by decide +kernel
theorem dX6_unqueue_12 : decode cX6_unqueue 12 = .ok (.aload_n 0, 1) := by decide +kernel
theorem dX6_unqueue_13 : decode cX6_unqueue 13 = .ok (.iload_n 1, 1) := by decide +kernel
theorem dX6_unqueue_14 : decode cX6_unqueue 14 = .ok (.invokevirtual 146, 3) := by decide +kernel
theorem dX6_unqueue_17 : decode cX6_unqueue 17 = .ok (.aload_n 0, 1) := by decide +kernel
theorem dX6_unqueue_18 : decode cX6_unqueue 18 = .ok (.getfield 75, 3) := by decide +kernel
theorem dX6_unqueue_21 : decode cX6_unqueue 21 = .ok (.iload_n 1, 1) := by decide +kernel
theorem dX6_unqueue_22 : decode cX6_unqueue 22 = .ok (.bipush 111, 2) := by decide +kernel
theorem dX6_unqueue_24 : decode cX6_unqueue 24 = .ok (.castore, 1) := by decide +kernel
theorem dX6_unqueue_25 : decode cX6_unqueue 25 = .ok (.aload_n 0, 1) := by decide +kernel
theorem dX6_unqueue_26 : decode cX6_unqueue 26 = .ok (.getfield 143, 3) := by decide +kernel
theorem dX6_unqueue_29 : decode cX6_unqueue 29 = .ok (.ireturn, 1) := by decide +kernel
theorem dX6_queueAt_0 : decode cX6_queueAt 0 = .ok (.aload_n 0, 1) := by decide +kernel
theorem dX6_queueAt_1 : decode cX6_queueAt 1 = .ok (.iconst 0, 1) := by decide +kernel
theorem dX6_queueAt_2 : decode cX6_queueAt 2 = .ok (.putfield 1, 3) := by decide +kernel
theorem dX6_queueAt_5 : decode cX6_queueAt 5 = .ok (.iload_n 1, 1) := by decide +kernel
theorem dX6_queueAt_6 : decode cX6_queueAt 6 = .ok (.iconst 0, 1) := by decide +kernel
theorem dX6_queueAt_7 : decode cX6_queueAt 7 = .ok (.aload_n 0, 1) := by decide +kernel
theorem dX6_queueAt_8 : decode cX6_queueAt 8 = .ok (.getfield 143, 3) := by decide +kernel
theorem dX6_queueAt_11 : decode cX6_queueAt 11 = .ok (.iconst 1, 1) := by decide +kernel
theorem dX6_queueAt_12 : decode cX6_queueAt 12 = .ok (.isub, 1) := by decide +kernel
theorem dX6_queueAt_13 : decode cX6_queueAt 13 = .ok (.invokestatic 7, 3) := by decide +kernel
theorem dX6_queueAt_16 : decode cX6_queueAt 16 = .ok (.ifCond .eq 12, 3) := by decide +kernel
theorem dX6_queueAt_19 : decode cX6_queueAt 19 = .ok (.aload_n 0, 1) := by decide +kernel
theorem dX6_queueAt_20 : decode cX6_queueAt 20 = .ok (.getfield 69, 3) := by decide +kernel
theorem dX6_queueAt_23 : decode cX6_queueAt 23 = .ok (.iload_n 1, 1) := by decide +kernel
theorem dX6_queueAt_24 : decode cX6_queueAt 24 = .ok (.iaload, 1) := by decide +kernel
theorem dX6_queueAt_25 : decode cX6_queueAt 25 = .ok (.goto 8, 3) := by decide +kernel
theorem dX6_queueAt_28 : decode cX6_queueAt 28 = .ok (.aload_n 0, 1) := by decide +kernel
theorem dX6_queueAt_29 : decode cX6_queueAt 29 = .ok (.iconst 1, 1) := by decide +kernel
theorem dX6_queueAt_30 : decode cX6_queueAt 30 = .ok (.invokevirtual 96, 3) := by decide +kernel
theorem dX6_queueAt_33 : decode cX6_queueAt 33 = .ok (.ireturn, 1) := by decide +kernel
theorem dX6_counts_0 : decode cX6_counts 0 = .ok (.aload_n 0, 1) := by decide +kernel
theorem dX6_counts_1 : decode cX6_counts 1 = .ok (.getfield 30, 3) := by decide +kernel
theorem dX6_counts_4 : decode cX6_counts 4 = .ok (.iload_n 1, 1) := by decide +kernel
theorem dX6_counts_5 : decode cX6_counts 5 = .ok (.baload, 1) := by decide +kernel
theorem dX6_counts_6 : decode cX6_counts 6 = .ok (.ifCond .ne 20, 3) := by decide +kernel
theorem dX6_counts_9 : decode cX6_counts 9 = .ok (.aload_n 0, 1) := by decide +kernel
theorem dX6_counts_10 : decode cX6_counts 10 = .ok (.getfield 21, 3) := by decide +kernel
theorem dX6_counts_13 : decode cX6_counts 13 = .ok (.iload_n 1, 1) := by decide +kernel
theorem dX6_counts_14 : decode cX6_counts 14 = .ok (.iaload, 1) := by decide +kernel
theorem dX6_counts_15 : decode cX6_counts 15 = .ok (.invokestatic 120, 3) := by decide +kernel
theorem dX6_counts_18 : decode cX6_counts 18 = .ok (.iload_n 2, 1) := by decide +kernel
theorem dX6_counts_19 : decode cX6_counts 19 = .ok (.if_icmp .ne 7, 3) := by decide +kernel
theorem dX6_counts_22 : decode cX6_counts 22 = .ok (.iconst 1, 1) := by decide +kernel
theorem dX6_counts_23 : decode cX6_counts 23 = .ok (.goto 4, 3) := by decide +kernel
theorem dX6_counts_26 : decode cX6_counts 26 = .ok (.iconst 0, 1) := by decide +kernel
theorem dX6_counts_27 : decode cX6_counts 27 = .ok (.ireturn, 1) := by decide +kernel
theorem dX6_isGoodOn_0 : decode cX6_isGoodOn 0 = .ok (.iconst 0, 1) := by decide +kernel
theorem dX6_isGoodOn_1 : decode cX6_isGoodOn 1 = .ok (.istore_n 3, 1) := by decide +kernel
theorem dX6_isGoodOn_2 : decode cX6_isGoodOn 2 = .ok (.iload_n 3, 1) := by decide +kernel
theorem dX6_isGoodOn_3 : decode cX6_isGoodOn 3 = .ok (.aload_n 0, 1) := by decide +kernel
theorem dX6_isGoodOn_4 : decode cX6_isGoodOn 4 = .ok (.getfield 150, 3) := by decide +kernel
theorem dX6_isGoodOn_7 : decode cX6_isGoodOn 7 = .ok (.if_icmp .ge 46, 3) := by decide +kernel
theorem dX6_isGoodOn_10 : decode cX6_isGoodOn 10 = .ok (.aload_n 0, 1) := by decide +kernel
theorem dX6_isGoodOn_11 : decode cX6_isGoodOn 11 = .ok (.iload_n 3, 1) := by decide +kernel
theorem dX6_isGoodOn_12 : decode cX6_isGoodOn 12 = .ok (.iload_n 2, 1) := by decide +kernel
theorem dX6_isGoodOn_13 : decode cX6_isGoodOn 13 = .ok (.invokevirtual 153, 3) := by decide +kernel
theorem dX6_isGoodOn_16 : decode cX6_isGoodOn 16 = .ok (.ifCond .eq 31, 3) := by decide +kernel
theorem dX6_isGoodOn_19 : decode cX6_isGoodOn 19 = .ok (.aload_n 1, 1) := by decide +kernel
theorem dX6_isGoodOn_20 : decode cX6_isGoodOn 20 = .ok (.aload_n 0, 1) := by decide +kernel
theorem dX6_isGoodOn_21 : decode cX6_isGoodOn 21 = .ok (.getfield 21, 3) := by decide +kernel
theorem dX6_isGoodOn_24 : decode cX6_isGoodOn 24 = .ok (.iload_n 3, 1) := by decide +kernel
theorem dX6_isGoodOn_25 : decode cX6_isGoodOn 25 = .ok (.iaload, 1) := by decide +kernel
theorem dX6_isGoodOn_26 : decode cX6_isGoodOn 26 = .ok (.iaload, 1) := by decide +kernel
theorem dX6_isGoodOn_27 : decode cX6_isGoodOn 27 = .ok (.aload_n 1, 1) := by decide +kernel
theorem dX6_isGoodOn_28 : decode cX6_isGoodOn 28 = .ok (.aload_n 0, 1) := by decide +kernel
theorem dX6_isGoodOn_29 : decode cX6_isGoodOn 29 = .ok (.getfield 24, 3) := by decide +kernel
theorem dX6_isGoodOn_32 : decode cX6_isGoodOn 32 = .ok (.iload_n 3, 1) := by decide +kernel
theorem dX6_isGoodOn_33 : decode cX6_isGoodOn 33 = .ok (.iaload, 1) := by decide +kernel
theorem dX6_isGoodOn_34 : decode cX6_isGoodOn 34 = .ok (.iaload, 1) := by decide +kernel
theorem dX6_isGoodOn_35 : decode cX6_isGoodOn 35 = .ok (.iadd, 1) := by decide +kernel
theorem dX6_isGoodOn_36 : decode cX6_isGoodOn 36 = .ok (.aload_n 0, 1) := by decide +kernel
theorem dX6_isGoodOn_37 : decode cX6_isGoodOn 37 = .ok (.getfield 27, 3) := by decide +kernel
theorem dX6_isGoodOn_40 : decode cX6_isGoodOn 40 = .ok (.iload_n 3, 1) := by decide +kernel
theorem dX6_isGoodOn_41 : decode cX6_isGoodOn 41 = .ok (.iaload, 1) := by decide +kernel
theorem dX6_isGoodOn_42 : decode cX6_isGoodOn 42 = .ok (.if_icmp .le 5, 3) := by decide +kernel
theorem dX6_isGoodOn_45 : decode cX6_isGoodOn 45 = .ok (.iconst 0, 1) := by decide +kernel
theorem dX6_isGoodOn_46 : decode cX6_isGoodOn 46 = .ok (.ireturn, 1) := by decide +kernel
theorem dX6_isGoodOn_47 : decode cX6_isGoodOn 47 = .ok (.iinc 3 1, 3) := by decide +kernel
theorem dX6_isGoodOn_50 : decode cX6_isGoodOn 50 = .ok (.goto (-48), 3) := by decide +kernel
theorem dX6_isGoodOn_53 : decode cX6_isGoodOn 53 = .ok (.iconst 1, 1) := by decide +kernel
theorem dX6_isGoodOn_54 : decode cX6_isGoodOn 54 = .ok (.ireturn, 1) := by decide +kernel
theorem dX6_inputs_0 : decode cX6_inputs 0 = .ok (.iconst 0, 1) := by decide +kernel
theorem dX6_inputs_1 : decode cX6_inputs 1 = .ok (.istore_n 3, 1) := by decide +kernel
theorem dX6_inputs_2 : decode cX6_inputs 2 = .ok (.iconst 0, 1) := by decide +kernel
theorem dX6_inputs_3 : decode cX6_inputs 3 = .ok (.istore 4, 2) := by decide +kernel
theorem dX6_inputs_5 : decode cX6_inputs 5 = .ok (.iload 4, 2) := by decide +kernel
theorem dX6_inputs_7 : decode cX6_inputs 7 = .ok (.aload_n 0, 1) := by decide +kernel
theorem dX6_inputs_8 : decode cX6_inputs 8 = .ok (.getfield 150, 3) := by decide +kernel
theorem dX6_inputs_11 : decode cX6_inputs 11 = .ok (.if_icmp .ge 27, 3) := by decide +kernel
theorem dX6_inputs_14 : decode cX6_inputs 14 = .ok (.iload_n 3, 1) := by decide +kernel
theorem dX6_inputs_15 : decode cX6_inputs 15 = .ok (.aload_n 0, 1) := by decide +kernel
theorem dX6_inputs_16 : decode cX6_inputs 16 = .ok (.iload 4, 2) := by decide +kernel
theorem dX6_inputs_18 : decode cX6_inputs 18 = .ok (.iload_n 2, 1) := by decide +kernel
theorem dX6_inputs_19 : decode cX6_inputs 19 = .ok (.invokevirtual 153, 3) := by decide +kernel
theorem dX6_inputs_22 : decode cX6_inputs 22 = .ok (.ifCond .eq 7, 3) := by decide +kernel
theorem dX6_inputs_25 : decode cX6_inputs 25 = .ok (.iconst 1, 1) := by decide +kernel
theorem dX6_inputs_26 : decode cX6_inputs 26 = .ok (.goto 4, 3) := by decide +kernel
theorem dX6_inputs_29 : decode cX6_inputs 29 = .ok (.iconst 0, 1) := by decide +kernel
theorem dX6_inputs_30 : decode cX6_inputs 30 = .ok (.iadd, 1) := by decide +kernel
theorem dX6_inputs_31 : decode cX6_inputs 31 = .ok (.istore_n 3, 1) := by decide +kernel
theorem dX6_inputs_32 : decode cX6_inputs 32 = .ok (.iinc 4 1, 3) := by decide +kernel
theorem dX6_inputs_35 : decode cX6_inputs 35 = .ok (.goto (-30), 3) := by decide +kernel
theorem dX6_inputs_38 : decode cX6_inputs 38 = .ok (.iload_n 3, 1) := by decide +kernel
theorem dX6_inputs_39 : decode cX6_inputs 39 = .ok (.ifCond .ne 5, 3) := by decide +kernel
theorem dX6_inputs_42 : decode cX6_inputs 42 = .ok (.aconst_null, 1) := by decide +kernel
theorem dX6_inputs_43 : decode cX6_inputs 43 = .ok (.areturn, 1) := by decide +kernel
theorem dX6_inputs_44 : decode cX6_inputs 44 = .ok (.iconst 2, 1) := by decide +kernel
theorem dX6_inputs_45 : decode cX6_inputs 45 = .ok (.iconst 2, 1) := by decide +kernel
theorem dX6_inputs_46 : decode cX6_inputs 46 = .ok (.iload_n 3, 1) := by decide +kernel
theorem dX6_inputs_47 : decode cX6_inputs 47 = .ok (.imul, 1) := by decide +kernel
theorem dX6_inputs_48 : decode cX6_inputs 48 = .ok (.iadd, 1) := by decide +kernel
theorem dX6_inputs_49 : decode cX6_inputs 49 = .ok (.newarray .int, 2) := by decide +kernel
theorem dX6_inputs_51 : decode cX6_inputs 51 = .ok (.astore 4, 2) := by decide +kernel
theorem dX6_inputs_53 : decode cX6_inputs 53 = .ok (.aload 4, 2) := by decide +kernel
theorem dX6_inputs_55 : decode cX6_inputs 55 = .ok (.iconst 0, 1) := by decide +kernel
theorem dX6_inputs_56 : decode cX6_inputs 56 = .ok (.iload_n 2, 1) := by decide +kernel
theorem dX6_inputs_57 : decode cX6_inputs 57 = .ok (.iastore, 1) := by decide +kernel
theorem dX6_inputs_58 : decode cX6_inputs 58 = .ok (.aload 4, 2) := by decide +kernel
theorem dX6_inputs_60 : decode cX6_inputs 60 = .ok (.iconst 1, 1) := by decide +kernel
theorem dX6_inputs_61 : decode cX6_inputs 61 = .ok (.aload_n 0, 1) := by decide +kernel
theorem dX6_inputs_62 : decode cX6_inputs 62 = .ok (.aload_n 1, 1) := by decide +kernel
theorem dX6_inputs_63 : decode cX6_inputs 63 = .ok (.iload_n 2, 1) := by decide +kernel
theorem dX6_inputs_64 : decode cX6_inputs 64 = .ok (.invokevirtual 156, 3) := by decide +kernel
theorem dX6_inputs_67 : decode cX6_inputs 67 = .ok (.ifCond .eq 7, 3) := by decide +kernel
theorem dX6_inputs_70 : decode cX6_inputs 70 = .ok (.iconst 1, 1) := by decide +kernel
theorem dX6_inputs_71 : decode cX6_inputs 71 = .ok (.goto 4, 3) := by decide +kernel
theorem dX6_inputs_74 : decode cX6_inputs 74 = .ok (.iconst 0, 1) := by decide +kernel
theorem dX6_inputs_75 : decode cX6_inputs 75 = .ok (.iastore, 1) := by decide +kernel
theorem dX6_inputs_76 : decode cX6_inputs 76 = .ok (.iconst 2, 1) := by decide +kernel
theorem dX6_inputs_77 : decode cX6_inputs 77 = .ok (.istore 5, 2) := by decide +kernel
theorem dX6_inputs_79 : decode cX6_inputs 79 = .ok (.iconst 0, 1) := by decide +kernel
theorem dX6_inputs_80 : decode cX6_inputs 80 = .ok (.istore 6, 2) := by decide +kernel
theorem dX6_inputs_82 : decode cX6_inputs 82 = .ok (.iload 6, 2) := by decide +kernel
theorem dX6_inputs_84 : decode cX6_inputs 84 = .ok (.aload_n 0, 1) := by decide +kernel
theorem dX6_inputs_85 : decode cX6_inputs 85 = .ok (.getfield 150, 3) := by decide +kernel
theorem dX6_inputs_88 : decode cX6_inputs 88 = .ok (.if_icmp .ge 55, 3) := by decide +kernel
theorem dX6_inputs_91 : decode cX6_inputs 91 = .ok (.aload_n 0, 1) := by decide +kernel
theorem dX6_inputs_92 : decode cX6_inputs 92 = .ok (.iload 6, 2) := by decide +kernel
theorem dX6_inputs_94 : decode cX6_inputs 94 = .ok (.iload_n 2, 1) := by decide +kernel
theorem dX6_inputs_95 : decode cX6_inputs 95 = .ok (.invokevirtual 153, 3) := by decide +kernel
theorem dX6_inputs_98 : decode cX6_inputs 98 = .ok (.ifCond .ne 6, 3) := by decide +kernel
theorem dX6_inputs_101 : decode cX6_inputs 101 = .ok (.goto 36, 3) := by decide +kernel
theorem dX6_inputs_104 : decode cX6_inputs 104 = .ok (.aload 4, 2) := by decide +kernel
theorem dX6_inputs_106 : decode cX6_inputs 106 = .ok (.iload 5, 2) := by decide +kernel
theorem dX6_inputs_108 : decode cX6_inputs 108 = .ok (.aload_n 1, 1) := by decide +kernel
theorem dX6_inputs_109 : decode cX6_inputs 109 = .ok (.aload_n 0, 1) := by decide +kernel
theorem dX6_inputs_110 : decode cX6_inputs 110 = .ok (.getfield 21, 3) := by decide +kernel
theorem dX6_inputs_113 : decode cX6_inputs 113 = .ok (.iload 6, 2) := by decide +kernel
theorem dX6_inputs_115 : decode cX6_inputs 115 = .ok (.iaload, 1) := by decide +kernel
theorem dX6_inputs_116 : decode cX6_inputs 116 = .ok (.iaload, 1) := by decide +kernel
theorem dX6_inputs_117 : decode cX6_inputs 117 = .ok (.iastore, 1) := by decide +kernel
theorem dX6_inputs_118 : decode cX6_inputs 118 = .ok (.aload 4, 2) := by decide +kernel
theorem dX6_inputs_120 : decode cX6_inputs 120 = .ok (.iload 5, 2) := by decide +kernel
theorem dX6_inputs_122 : decode cX6_inputs 122 = .ok (.iconst 1, 1) := by decide +kernel
theorem dX6_inputs_123 : decode cX6_inputs 123 = .ok (.iadd, 1) := by decide +kernel
theorem dX6_inputs_124 : decode cX6_inputs 124 = .ok (.aload_n 1, 1) := by decide +kernel
theorem dX6_inputs_125 : decode cX6_inputs 125 = .ok (.aload_n 0, 1) := by decide +kernel
theorem dX6_inputs_126 : decode cX6_inputs 126 = .ok (.getfield 24, 3) := by decide +kernel
theorem dX6_inputs_129 : decode cX6_inputs 129 = .ok (.iload 6, 2) := by decide +kernel
theorem dX6_inputs_131 : decode cX6_inputs 131 = .ok (.iaload, 1) := by decide +kernel
theorem dX6_inputs_132 : decode cX6_inputs 132 = .ok (.iaload, 1) := by decide +kernel
theorem dX6_inputs_133 : decode cX6_inputs 133 = .ok (.iastore, 1) := by decide +kernel
theorem dX6_inputs_134 : decode cX6_inputs 134 = .ok (.iinc 5 2, 3) := by decide +kernel
theorem dX6_inputs_137 : decode cX6_inputs 137 = .ok (.iinc 6 1, 3) := by decide +kernel
theorem dX6_inputs_140 : decode cX6_inputs 140 = .ok (.goto (-58), 3) := by decide +kernel
theorem dX6_inputs_143 : decode cX6_inputs 143 = .ok (.aload 4, 2) := by decide +kernel
theorem dX6_inputs_145 : decode cX6_inputs 145 = .ok (.areturn, 1) := by decide +kernel
theorem dX6_isKept_0 : decode cX6_isKept 0 = .ok (.aload_n 0, 1) := by decide +kernel
theorem dX6_isKept_1 : decode cX6_isKept 1 = .ok (.getfield 85, 3) := by decide +kernel
theorem dX6_isKept_4 : decode cX6_isKept 4 = .ok (.invokevirtual 160, 3) := by decide +kernel
theorem dX6_isKept_7 : decode cX6_isKept 7 = .ok (.astore_n 2, 1) := by decide +kernel
theorem dX6_isKept_8 : decode cX6_isKept 8 = .ok (.aload_n 2, 1) := by decide +kernel
theorem dX6_isKept_9 : decode cX6_isKept 9 = .ok (.invokeinterface 164 1, 5) := by decide +kernel
theorem dX6_isKept_14 : decode cX6_isKept 14 = .ok (.ifCond .eq 76, 3) := by decide +kernel
theorem dX6_isKept_17 : decode cX6_isKept 17 = .ok (.aload_n 2, 1) := by decide +kernel
theorem dX6_isKept_18 : decode cX6_isKept 18 = .ok (.invokeinterface 170 1, 5) := by decide +kernel
theorem dX6_isKept_23 : decode cX6_isKept 23 = .ok (.checkcast 174, 3) := by decide +kernel
theorem dX6_isKept_26 : decode cX6_isKept 26 = .ok (.astore_n 3, 1) := by decide +kernel
theorem dX6_isKept_27 : decode cX6_isKept 27 = .ok (.aload_n 3, 1) := by decide +kernel
theorem dX6_isKept_28 : decode cX6_isKept 28 = .ok (.arraylength, 1) := by decide +kernel
theorem dX6_isKept_29 : decode cX6_isKept 29 = .ok (.aload_n 1, 1) := by decide +kernel
theorem dX6_isKept_30 : decode cX6_isKept 30 = .ok (.arraylength, 1) := by decide +kernel
theorem dX6_isKept_31 : decode cX6_isKept 31 = .ok (.if_icmp .ne 7, 3) := by decide +kernel
theorem dX6_isKept_34 : decode cX6_isKept 34 = .ok (.iconst 1, 1) := by decide +kernel
theorem dX6_isKept_35 : decode cX6_isKept 35 = .ok (.goto 4, 3) := by decide +kernel
theorem dX6_isKept_38 : decode cX6_isKept 38 = .ok (.iconst 0, 1) := by decide +kernel
theorem dX6_isKept_39 : decode cX6_isKept 39 = .ok (.istore 4, 2) := by decide +kernel
theorem dX6_isKept_41 : decode cX6_isKept 41 = .ok (.iconst 0, 1) := by decide +kernel
theorem dX6_isKept_42 : decode cX6_isKept 42 = .ok (.istore 5, 2) := by decide +kernel
theorem dX6_isKept_44 : decode cX6_isKept 44 = .ok (.iload 4, 2) := by decide +kernel
theorem dX6_isKept_46 : decode cX6_isKept 46 = .ok (.ifCond .eq 34, 3) := by decide +kernel
theorem dX6_isKept_49 : decode cX6_isKept 49 = .ok (.iload 5, 2) := by decide +kernel
theorem dX6_isKept_51 : decode cX6_isKept 51 = .ok (.aload_n 1, 1) := by decide +kernel
theorem dX6_isKept_52 : decode cX6_isKept 52 = .ok (.arraylength, 1) := by decide +kernel
theorem dX6_isKept_53 : decode cX6_isKept 53 = .ok (.if_icmp .ge 27, 3) := by decide +kernel
theorem dX6_isKept_56 : decode cX6_isKept 56 = .ok (.aload_n 3, 1) := by decide +kernel
theorem dX6_isKept_57 : decode cX6_isKept 57 = .ok (.iload 5, 2) := by decide +kernel
theorem dX6_isKept_59 : decode cX6_isKept 59 = .ok (.iaload, 1) := by decide +kernel
theorem dX6_isKept_60 : decode cX6_isKept 60 = .ok (.aload_n 1, 1) := by decide +kernel
theorem dX6_isKept_61 : decode cX6_isKept 61 = .ok (.iload 5, 2) := by decide +kernel
theorem dX6_isKept_63 : decode cX6_isKept 63 = .ok (.iaload, 1) := by decide +kernel
theorem dX6_isKept_64 : decode cX6_isKept 64 = .ok (.if_icmp .ne 7, 3) := by decide +kernel
theorem dX6_isKept_67 : decode cX6_isKept 67 = .ok (.iconst 1, 1) := by decide +kernel
theorem dX6_isKept_68 : decode cX6_isKept 68 = .ok (.goto 4, 3) := by decide +kernel
theorem dX6_isKept_71 : decode cX6_isKept 71 = .ok (.iconst 0, 1) := by decide +kernel
theorem dX6_isKept_72 : decode cX6_isKept 72 = .ok (.istore 4, 2) := by decide +kernel
theorem dX6_isKept_74 : decode cX6_isKept 74 = .ok (.iinc 5 1, 3) := by decide +kernel
theorem dX6_isKept_77 : decode cX6_isKept 77 = .ok (.goto (-33), 3) := by decide +kernel
theorem dX6_isKept_80 : decode cX6_isKept 80 = .ok (.iload 4, 2) := by decide +kernel
theorem dX6_isKept_82 : decode cX6_isKept 82 = .ok (.ifCond .eq 5, 3) := by decide +kernel
theorem dX6_isKept_85 : decode cX6_isKept 85 = .ok (.iconst 1, 1) := by decide +kernel
theorem dX6_isKept_86 : decode cX6_isKept 86 = .ok (.ireturn, 1) := by decide +kernel
theorem dX6_isKept_87 : decode cX6_isKept 87 = .ok (.goto (-79), 3) := by decide +kernel
theorem dX6_isKept_90 : decode cX6_isKept 90 = .ok (.iconst 0, 1) := by decide +kernel
theorem dX6_isKept_91 : decode cX6_isKept 91 = .ok (.ireturn, 1) := by decide +kernel
theorem dX6_isBuilt_0 : decode cX6_isBuilt 0 = .ok (.iconst 0, 1) := by decide +kernel
theorem dX6_isBuilt_1 : decode cX6_isBuilt 1 = .ok (.istore_n 2, 1) := by decide +kernel
theorem dX6_isBuilt_2 : decode cX6_isBuilt 2 = .ok (.iload_n 2, 1) := by decide +kernel
theorem dX6_isBuilt_3 : decode cX6_isBuilt 3 = .ok (.iconst 4, 1) := by decide +kernel
theorem dX6_isBuilt_4 : decode cX6_isBuilt 4 = .ok (.if_icmp .ge 71, 3) := by decide +kernel
theorem dX6_isBuilt_7 : decode cX6_isBuilt 7 = .ok (.aload_n 0, 1) := by decide +kernel
theorem dX6_isBuilt_8 : decode cX6_isBuilt 8 = .ok (.aload_n 1, 1) := by decide +kernel
theorem dX6_isBuilt_9 : decode cX6_isBuilt 9 = .ok (.iload_n 2, 1) := by decide +kernel
theorem dX6_isBuilt_10 : decode cX6_isBuilt 10 = .ok (.invokevirtual 175, 3) := by decide +kernel
theorem dX6_isBuilt_13 : decode cX6_isBuilt 13 = .ok (.astore_n 3, 1) := by decide +kernel
theorem dX6_isBuilt_14 : decode cX6_isBuilt 14 = .ok (.aload_n 3, 1) := by decide +kernel
theorem dX6_isBuilt_15 : decode cX6_isBuilt 15 = .ok (.ifnonnull 6, 3) := by decide +kernel
theorem dX6_isBuilt_18 : decode cX6_isBuilt 18 = .ok (.goto 51, 3) := by decide +kernel
theorem dX6_isBuilt_21 : decode cX6_isBuilt 21 = .ok (.aload_n 0, 1) := by decide +kernel
theorem dX6_isBuilt_22 : decode cX6_isBuilt 22 = .ok (.aload_n 3, 1) := by decide +kernel
theorem dX6_isBuilt_23 : decode cX6_isBuilt 23 = .ok (.invokevirtual 179, 3) := by decide +kernel
theorem dX6_isBuilt_26 : decode cX6_isBuilt 26 = .ok (.ifCond .eq 16, 3) := by decide +kernel
theorem dX6_isBuilt_29 : decode cX6_isBuilt 29 = .ok (.aload_n 0, 1) := by decide +kernel
theorem dX6_isBuilt_30 : decode cX6_isBuilt 30 = .ok (.dup, 1) := by decide +kernel
theorem dX6_isBuilt_31 : decode cX6_isBuilt 31 = .ok (.getfield 183, 3) := by decide +kernel
theorem dX6_isBuilt_34 : decode cX6_isBuilt 34 = .ok (.lconst 1, 1) := by decide +kernel
theorem dX6_isBuilt_35 : decode cX6_isBuilt 35 = .ok (.ladd, 1) := by decide +kernel
theorem dX6_isBuilt_36 : decode cX6_isBuilt 36 = .ok (.putfield 183, 3) := by decide +kernel
theorem dX6_isBuilt_39 : decode cX6_isBuilt 39 = .ok (.goto 22, 3) := by decide +kernel
theorem dX6_isBuilt_42 : decode cX6_isBuilt 42 = .ok (.aload_n 0, 1) := by decide +kernel
theorem dX6_isBuilt_43 : decode cX6_isBuilt 43 = .ok (.dup, 1) := by decide +kernel
theorem dX6_isBuilt_44 : decode cX6_isBuilt 44 = .ok (.getfield 187, 3) := by decide +kernel
theorem dX6_isBuilt_47 : decode cX6_isBuilt 47 = .ok (.iconst 1, 1) := by decide +kernel
theorem dX6_isBuilt_48 : decode cX6_isBuilt 48 = .ok (.iadd, 1) := by decide +kernel
theorem dX6_isBuilt_49 : decode cX6_isBuilt 49 = .ok (.putfield 187, 3) := by decide +kernel
theorem dX6_isBuilt_52 : decode cX6_isBuilt 52 = .ok (.aload_n 0, 1) := by decide +kernel

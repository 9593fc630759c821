theorem dX0_init_0 : decode cX0_init 0 = .ok (.aload_n 0, 1) := by decide +kernel
theorem dX0_init_1 : decode cX0_init 1 = .ok (.invokespecial 1, 3) := by decide +kernel
theorem dX0_init_4 : decode cX0_init 4 = .ok (.aload_n 0, 1) := by decide +kernel
theorem dX0_init_5 : decode cX0_init 5 = .ok (.aload_n 1, 1) := by decide +kernel
theorem dX0_init_6 : decode cX0_init 6 = .ok (.putfield 7, 3) := by decide +kernel
theorem dX0_init_9 : decode cX0_init 9 = .ok (.aload_n 0, 1) := by decide +kernel
theorem dX0_init_10 : decode cX0_init 10 = .ok (.iload_n 2, 1) := by decide +kernel
theorem dX0_init_11 : decode cX0_init 11 = .ok (.putfield 13, 3) := by decide +kernel
theorem dX0_init_14 : decode cX0_init 14 = .ok (.aload_n 0, 1) := by decide +kernel
theorem dX0_init_15 : decode cX0_init 15 = .ok (.aload_n 3, 1) := by decide +kernel
theorem dX0_init_16 : decode cX0_init 16 = .ok (.putfield 17, 3) := by decide +kernel
theorem dX0_init_19 : decode cX0_init 19 = .ok (.return_, 1) := by decide +kernel
theorem dX0_holds_0 : decode cX0_holds 0 = .ok (.iload_n 2, 1) := by decide +kernel
theorem dX0_holds_1 : decode cX0_holds 1 = .ok (.aload_n 0, 1) := by decide +kernel
theorem dX0_holds_2 : decode cX0_holds 2 = .ok (.getfield 7, 3) := by decide +kernel
theorem dX0_holds_5 : decode cX0_holds 5 = .ok (.arraylength, 1) := by decide +kernel
theorem dX0_holds_6 : decode cX0_holds 6 = .ok (.if_icmp .ne 9, 3) := by decide +kernel
theorem dX0_holds_9 : decode cX0_holds 9 = .ok (.iload_n 2, 1) := by decide +kernel
theorem dX0_holds_10 : decode cX0_holds 10 = .ok (.aload_n 1, 1) := by decide +kernel
theorem dX0_holds_11 : decode cX0_holds 11 = .ok (.arraylength, 1) := by decide +kernel
theorem dX0_holds_12 : decode cX0_holds 12 = .ok (.if_icmp .le 5, 3) := by decide +kernel
theorem dX0_holds_15 : decode cX0_holds 15 = .ok (.iconst 0, 1) := by decide +kernel
theorem dX0_holds_16 : decode cX0_holds 16 = .ok (.ireturn, 1) := by decide +kernel
theorem dX0_holds_17 : decode cX0_holds 17 = .ok (.iconst 0, 1) := by decide +kernel
theorem dX0_holds_18 : decode cX0_holds 18 = .ok (.istore_n 3, 1) := by decide +kernel
theorem dX0_holds_19 : decode cX0_holds 19 = .ok (.iload_n 3, 1) := by decide +kernel
theorem dX0_holds_20 : decode cX0_holds 20 = .ok (.iload_n 2, 1) := by decide +kernel
theorem dX0_holds_21 : decode cX0_holds 21 = .ok (.if_icmp .ge 23, 3) := by decide +kernel
theorem dX0_holds_24 : decode cX0_holds 24 = .ok (.aload_n 0, 1) := by decide +kernel
theorem dX0_holds_25 : decode cX0_holds 25 = .ok (.getfield 7, 3) := by decide +kernel
theorem dX0_holds_28 : decode cX0_holds 28 = .ok (.iload_n 3, 1) := by decide +kernel
theorem dX0_holds_29 : decode cX0_holds 29 = .ok (.iaload, 1) := by decide +kernel
theorem dX0_holds_30 : decode cX0_holds 30 = .ok (.aload_n 1, 1) := by decide +kernel
theorem dX0_holds_31 : decode cX0_holds 31 = .ok (.iload_n 3, 1) := by decide +kernel
theorem dX0_holds_32 : decode cX0_holds 32 = .ok (.iaload, 1) := by decide +kernel
theorem dX0_holds_33 : decode cX0_holds 33 = .ok (.if_icmp .eq 5, 3) := by decide +kernel
theorem dX0_holds_36 : decode cX0_holds 36 = .ok (.iconst 0, 1) := by decide +kernel
theorem dX0_holds_37 : decode cX0_holds 37 = .ok (.ireturn, 1) := by decide +kernel
theorem dX0_holds_38 : decode cX0_holds 38 = .ok (.iinc 3 1, 3) := by decide +kernel
theorem dX0_holds_41 : decode cX0_holds 41 = .ok (.goto (-22), 3) := by decide +kernel
theorem dX0_holds_44 : decode cX0_holds 44 = .ok (.iconst 1, 1) := by decide +kernel
theorem dX0_holds_45 : decode cX0_holds 45 = .ok (.ireturn, 1) := by decide +kernel
theorem dX1_init_0 : decode cX1_init 0 = .ok (.aload_n 0, 1) := by decide +kernel
theorem dX1_init_1 : decode cX1_init 1 = .ok (.invokespecial 3, 3) := by decide +kernel
theorem dX1_init_4 : decode cX1_init 4 = .ok (.aload_n 0, 1) := by decide +kernel
theorem dX1_init_5 : decode cX1_init 5 = .ok (.bipush 111, 2) := by decide +kernel
theorem dX1_init_7 : decode cX1_init 7 = .ok (.putfield 9, 3) := by decide +kernel
theorem dX1_init_10 : decode cX1_init 10 = .ok (.aload_n 0, 1) := by decide +kernel
theorem dX1_init_11 : decode cX1_init 11 = .ok (.bipush 64, 2) := by decide +kernel
theorem dX1_init_13 : decode cX1_init 13 = .ok (.newarray .int, 2) := by decide +kernel
theorem dX1_init_15 : decode cX1_init 15 = .ok (.putfield 15, 3) := by decide +kernel
theorem dX1_init_18 : decode cX1_init 18 = .ok (.aload_n 0, 1) := by decide +kernel
theorem dX1_init_19 : decode cX1_init 19 = .ok (.bipush 6, 2) := by decide +kernel
theorem dX1_init_21 : decode cX1_init 21 = .ok (.newarray .int, 2) := by decide +kernel
theorem dX1_init_23 : decode cX1_init 23 = .ok (.putfield 19, 3) := by decide +kernel
theorem dX1_init_26 : decode cX1_init 26 = .ok (.aload_n 0, 1) := by decide +kernel
theorem dX1_init_27 : decode cX1_init 27 = .ok (.bipush 6, 2) := by decide +kernel
theorem dX1_init_29 : decode cX1_init 29 = .ok (.newarray .long, 2) := by decide +kernel
theorem dX1_init_31 : decode cX1_init 31 = .ok (.putfield 22, 3) := by decide +kernel
theorem dX1_init_34 : decode cX1_init 34 = .ok (.aload_n 0, 1) := by decide +kernel
theorem dX1_init_35 : decode cX1_init 35 = .ok (.bipush 6, 2) := by decide +kernel
theorem dX1_init_37 : decode cX1_init 37 = .ok (.bipush 64, 2) := by decide +kernel
theorem dX1_init_39 : decode cX1_init 39 = .ok (.multianewarray 26 2, 4) := by decide +kernel
theorem dX1_init_43 : decode cX1_init 43 = .ok (.putfield 28, 3) := by decide +kernel
theorem dX1_init_46 : decode cX1_init 46 = .ok (.return_, 1) := by decide +kernel
theorem dX1_editCount_0 : decode cX1_editCount 0 = .ok (.aload_n 0, 1) := by decide +kernel
theorem dX1_editCount_1 : decode cX1_editCount 1 = .ok (.getfield 31, 3) := by decide +kernel
theorem dX1_editCount_4 : decode cX1_editCount 4 = .ok (.invokestatic 35, 3) := by decide +kernel
theorem dX1_editCount_7 : decode cX1_editCount 7 = .ok (.ireturn, 1) := by decide +kernel
theorem dX1_clashCount_0 : decode cX1_clashCount 0 = .ok (.aload_n 0, 1) := by decide +kernel
theorem dX1_clashCount_1 : decode cX1_clashCount 1 = .ok (.getfield 41, 3) := by decide +kernel
theorem dX1_clashCount_4 : decode cX1_clashCount 4 = .ok (.invokestatic 35, 3) := by decide +kernel
theorem dX1_clashCount_7 : decode cX1_clashCount 7 = .ok (.ireturn, 1) := by decide +kernel
theorem dX1_hasEdit_0 : decode cX1_hasEdit 0 = .ok (.aload_n 0, 1) := by decide +kernel
theorem dX1_hasEdit_1 : decode cX1_hasEdit 1 = .ok (.getfield 31, 3) := by decide +kernel
theorem dX1_hasEdit_4 : decode cX1_hasEdit 4 = .ok (.lconst 1, 1) := by decide +kernel
theorem dX1_hasEdit_5 : decode cX1_hasEdit 5 = .ok (.iload_n 1, 1) := by decide +kernel
theorem dX1_hasEdit_6 : decode cX1_hasEdit 6 = .ok (.lshl, 1) := by decide +kernel
theorem dX1_hasEdit_7 : decode cX1_hasEdit 7 = .ok (.land, 1) := by decide +kernel
theorem dX1_hasEdit_8 : decode cX1_hasEdit 8 = .ok (.lconst 0, 1) := by decide +kernel
theorem dX1_hasEdit_9 : decode cX1_hasEdit 9 = .ok (.lcmp, 1) := by decide +kernel
theorem dX1_hasEdit_10 : decode cX1_hasEdit 10 = .ok (.ifCond .eq 7, 3) := by decide +kernel
theorem dX1_hasEdit_13 : decode cX1_hasEdit 13 = .ok (.iconst 1, 1) := by decide +kernel
theorem dX1_hasEdit_14 : decode cX1_hasEdit 14 = .ok (.goto 4, 3) := by decide +kernel
theorem dX1_hasEdit_17 : decode cX1_hasEdit 17 = .ok (.iconst 0, 1) := by decide +kernel
theorem dX1_hasEdit_18 : decode cX1_hasEdit 18 = .ok (.ireturn, 1) := by decide +kernel
theorem dX1_putEdit_0 : decode cX1_putEdit 0 = .ok (.aload_n 0, 1) := by decide +kernel
theorem dX1_putEdit_1 : decode cX1_putEdit 1 = .ok (.dup, 1) := by decide +kernel
theorem dX1_putEdit_2 : decode cX1_putEdit 2 = .ok (.getfield 31, 3) := by decide +kernel
theorem dX1_putEdit_5 : decode cX1_putEdit 5 = .ok (.lconst 1, 1) := by decide +kernel
theorem dX1_putEdit_6 : decode cX1_putEdit 6 = .ok (.iload_n 1, 1) := by decide +kernel
theorem dX1_putEdit_7 : decode cX1_putEdit 7 = .ok (.lshl, 1) := by decide +kernel
theorem dX1_putEdit_8 : decode cX1_putEdit 8 = .ok (.lor, 1) := by decide +kernel
theorem dX1_putEdit_9 : decode cX1_putEdit 9 = .ok (.putfield 31, 3) := by decide +kernel
theorem dX1_putEdit_12 : decode cX1_putEdit 12 = .ok (.aload_n 0, 1) := by decide +kernel
theorem dX1_putEdit_13 : decode cX1_putEdit 13 = .ok (.getfield 15, 3) := by decide +kernel
theorem dX1_putEdit_16 : decode cX1_putEdit 16 = .ok (.iload_n 1, 1) := by decide +kernel
theorem dX1_putEdit_17 : decode cX1_putEdit 17 = .ok (.iload_n 2, 1) := by decide +kernel
theorem dX1_putEdit_18 : decode cX1_putEdit 18 = .ok (.iastore, 1) := by decide +kernel
theorem dX1_putEdit_19 : decode cX1_putEdit 19 = .ok (.return_, 1) := by decide +kernel
theorem dX1_removeEdit_0 : decode cX1_removeEdit 0 = .ok (.aload_n 0, 1) := by decide +kernel
theorem dX1_removeEdit_1 : decode cX1_removeEdit 1 = .ok (.dup, 1) := by decide +kernel
theorem dX1_removeEdit_2 : decode cX1_removeEdit 2 = .ok (.getfield 31, 3) := by decide +kernel
theorem dX1_removeEdit_5 : decode cX1_removeEdit 5 = .ok (.lconst 1, 1) := by decide +kernel
theorem dX1_removeEdit_6 : decode cX1_removeEdit 6 = .ok (.iload_n 1, 1) := by decide +kernel
theorem dX1_removeEdit_7 : decode cX1_removeEdit 7 = .ok (.lshl, 1) := by decide +kernel
theorem dX1_removeEdit_8 : decode cX1_removeEdit 8 = .ok (.ldc2_w 44, 3) := by decide +kernel
theorem dX1_removeEdit_11 : decode cX1_removeEdit 11 = .ok (.lxor, 1) := by decide +kernel
theorem dX1_removeEdit_12 : decode cX1_removeEdit 12 = .ok (.land, 1) := by decide +kernel
theorem dX1_removeEdit_13 : decode cX1_removeEdit 13 = .ok (.putfield 31, 3) := by decide +kernel
theorem dX1_removeEdit_16 : decode cX1_removeEdit 16 = .ok (.aload_n 0, 1) := by decide +kernel
theorem dX1_removeEdit_17 : decode cX1_removeEdit 17 = .ok (.dup, 1) := by decide +kernel
theorem dX1_removeEdit_18 : decode cX1_removeEdit 18 = .ok (.getfield 41, 3) := by decide +kernel
theorem dX1_removeEdit_21 : decode cX1_removeEdit 21 = .ok (.lconst 1, 1) := by decide +kernel
theorem dX1_removeEdit_22 : decode cX1_removeEdit 22 = .ok (.iload_n 1, 1) := by decide +kernel
theorem dX1_removeEdit_23 : decode cX1_removeEdit 23 = .ok (.lshl, 1) := by decide +kernel
theorem dX1_removeEdit_24 : decode cX1_removeEdit 24 = .ok (.ldc2_w 44, 3) := by decide +kernel
theorem dX1_removeEdit_27 : decode cX1_removeEdit 27 = .ok (.lxor, 1) := by decide +kernel
theorem dX1_removeEdit_28 : decode cX1_removeEdit 28 = .ok (.land, 1) := by decide +kernel
theorem dX1_removeEdit_29 : decode cX1_removeEdit 29 = .ok (.putfield 41, 3) := by decide +kernel
theorem dX1_removeEdit_32 : decode cX1_removeEdit 32 = .ok (.return_, 1) := by decide +kernel
theorem dX1_touches_0 : decode cX1_touches 0 = .ok (.aload_n 0, 1) := by decide +kernel
theorem dX1_touches_1 : decode cX1_touches 1 = .ok (.getfield 31, 3) := by decide +kernel
theorem dX1_touches_4 : decode cX1_touches 4 = .ok (.ldc2_w 46, 3) := by decide +kernel
theorem dX1_touches_7 : decode cX1_touches 7 = .ok (.iload_n 1, 1) := by decide +kernel
theorem dX1_touches_8 : decode cX1_touches 8 = .ok (.bipush 16, 2) := by decide +kernel
theorem dX1_touches_10 : decode cX1_touches 10 = .ok (.imul, 1) := by decide +kernel
theorem dX1_touches_11 : decode cX1_touches 11 = .ok (.lshl, 1) := by decide +kernel
theorem dX1_touches_12 : decode cX1_touches 12 = .ok (.land, 1) := by decide +kernel
theorem dX1_touches_13 : decode cX1_touches 13 = .ok (.lconst 0, 1) := by decide +kernel
theorem dX1_touches_14 : decode cX1_touches 14 = .ok (.lcmp, 1) := by decide +kernel
theorem dX1_touches_15 : decode cX1_touches 15 = .ok (.ifCond .eq 7, 3) := by decide +kernel
theorem dX1_touches_18 : decode cX1_touches 18 = .ok (.iconst 1, 1) := by decide +kernel
theorem dX1_touches_19 : decode cX1_touches 19 = .ok (.goto 4, 3) := by decide +kernel
theorem dX1_touches_22 : decode cX1_touches 22 = .ok (.iconst 0, 1) := by decide +kernel
theorem dX1_touches_23 : decode cX1_touches 23 = .ok (.ireturn, 1) := by decide +kernel
theorem dX1_applyTo_0 : decode cX1_applyTo 0 = .ok (.iconst 0, 1) := by decide +kernel
theorem dX1_applyTo_1 : decode cX1_applyTo 1 = .ok (.istore_n 2, 1) := by decide +kernel
theorem dX1_applyTo_2 : decode cX1_applyTo 2 = .ok (.iload_n 2, 1) := by decide +kernel
theorem dX1_applyTo_3 : decode cX1_applyTo 3 = .ok (.bipush 64, 2) := by decide +kernel
theorem dX1_applyTo_5 : decode cX1_applyTo 5 = .ok (.if_icmp .ge 26, 3) := by decide +kernel
theorem dX1_applyTo_8 : decode cX1_applyTo 8 = .ok (.aload_n 0, 1) := by decide +kernel
theorem dX1_applyTo_9 : decode cX1_applyTo 9 = .ok (.iload_n 2, 1) := by decide +kernel
theorem dX1_applyTo_10 : decode cX1_applyTo 10 = .ok (.invokevirtual 48, 3) := by decide +kernel
theorem dX1_applyTo_13 : decode cX1_applyTo 13 = .ok (.ifCond .eq 12, 3) := by decide +kernel
theorem dX1_applyTo_16 : decode cX1_applyTo 16 = .ok (.aload_n 1, 1) := by decide +kernel
theorem dX1_applyTo_17 : decode cX1_applyTo 17 = .ok (.iload_n 2, 1) := by decide +kernel
theorem dX1_applyTo_18 : decode cX1_applyTo 18 = .ok (.aload_n 0, 1) := by decide +kernel
theorem dX1_applyTo_19 : decode cX1_applyTo 19 = .ok (.getfield 15, 3) := by decide +kernel
theorem dX1_applyTo_22 : decode cX1_applyTo 22 = .ok (.iload_n 2, 1) := by decide +kernel
theorem dX1_applyTo_23 : decode cX1_applyTo 23 = .ok (.iaload, 1) := by decide +kernel
theorem dX1_applyTo_24 : decode cX1_applyTo 24 = .ok (.iastore, 1) := by decide +kernel
theorem dX1_applyTo_25 : decode cX1_applyTo 25 = .ok (.iinc 2 1, 3) := by decide +kernel
theorem dX1_applyTo_28 : decode cX1_applyTo 28 = .ok (.goto (-26), 3) := by decide +kernel
theorem dX1_applyTo_31 : decode cX1_applyTo 31 = .ok (.return_, 1) := by decide +kernel
theorem dX1_voteFor_0 : decode cX1_voteFor 0 = .ok (.aload_n 0, 1) := by decide +kernel
theorem dX1_voteFor_1 : decode cX1_voteFor 1 = .ok (.getfield 19, 3) := by decide +kernel
theorem dX1_voteFor_4 : decode cX1_voteFor 4 = .ok (.iload_n 1, 1) := by decide +kernel
theorem dX1_voteFor_5 : decode cX1_voteFor 5 = .ok (.iconst 1, 1) := by decide +kernel
theorem dX1_voteFor_6 : decode cX1_voteFor 6 = .ok (.iastore, 1) := by decide +kernel
theorem dX1_voteFor_7 : decode cX1_voteFor 7 = .ok (.aload_n 0, 1) := by decide +kernel
theorem dX1_voteFor_8 : decode cX1_voteFor 8 = .ok (.getfield 22, 3) := by decide +kernel
theorem dX1_voteFor_11 : decode cX1_voteFor 11 = .ok (.iload_n 1, 1) := by decide +kernel
theorem dX1_voteFor_12 : decode cX1_voteFor 12 = .ok (.aload_n 0, 1) := by decide +kernel
theorem dX1_voteFor_13 : decode cX1_voteFor 13 = .ok (.getfield 31, 3) := by decide +kernel
theorem dX1_voteFor_16 : decode cX1_voteFor 16 = .ok (.lastore, 1) := by decide +kernel
theorem dX1_voteFor_17 : decode cX1_voteFor 17 = .ok (.aload_n 0, 1) := by decide +kernel
theorem dX1_voteFor_18 : decode cX1_voteFor 18 = .ok (.getfield 15, 3) := by decide +kernel
theorem dX1_voteFor_21 : decode cX1_voteFor 21 = .ok (.iconst 0, 1) := by decide +kernel
theorem dX1_voteFor_22 : decode cX1_voteFor 22 = .ok (.aload_n 0, 1) := by decide +kernel
theorem dX1_voteFor_23 : decode cX1_voteFor 23 = .ok (.getfield 28, 3) := by decide +kernel
theorem dX1_voteFor_26 : decode cX1_voteFor 26 = .ok (.iload_n 1, 1) := by decide +kernel
theorem dX1_voteFor_27 : decode cX1_voteFor 27 = .ok (.aaload, 1) := by decide +kernel
theorem dX1_voteFor_28 : decode cX1_voteFor 28 = .ok (.iconst 0, 1) := by decide +kernel
theorem dX1_voteFor_29 : decode cX1_voteFor 29 = .ok (.bipush 64, 2) := by decide +kernel
theorem dX1_voteFor_31 : decode cX1_voteFor 31 = .ok (.invokestatic 52, 3) := by decide +kernel
theorem dX1_voteFor_34 : decode cX1_voteFor 34 = .ok (.return_, 1) := by decide +kernel
theorem dX1_voteAgainst_0 : decode cX1_voteAgainst 0 = .ok (.aload_n 0, 1) := by decide +kernel
theorem dX1_voteAgainst_1 : decode cX1_voteAgainst 1 = .ok (.getfield 19, 3) := by decide +kernel
theorem dX1_voteAgainst_4 : decode cX1_voteAgainst 4 = .ok (.iload_n 1, 1) := by decide +kernel
theorem dX1_voteAgainst_5 : decode cX1_voteAgainst 5 = .ok (.iconst 2, 1) := by decide +kernel
theorem dX1_voteAgainst_6 : decode cX1_voteAgainst 6 = .ok (.iastore, 1) := by decide +kernel
theorem dX1_voteAgainst_7 : decode cX1_voteAgainst 7 = .ok (.aload_n 0, 1) := by decide +kernel
theorem dX1_voteAgainst_8 : decode cX1_voteAgainst 8 = .ok (.getfield 22, 3) := by decide +kernel
theorem dX1_voteAgainst_11 : decode cX1_voteAgainst 11 = .ok (.iload_n 1, 1) := by decide +kernel
theorem dX1_voteAgainst_12 : decode cX1_voteAgainst 12 = .ok (.lconst 0, 1) := by decide +kernel
theorem dX1_voteAgainst_13 : decode cX1_voteAgainst 13 = .ok (.lastore, 1) := by decide +kernel
theorem dX1_voteAgainst_14 : decode cX1_voteAgainst 14 = .ok (.return_, 1) := by decide +kernel
theorem dX1_verdictBy_0 : decode cX1_verdictBy 0 = .ok (.aload_n 0, 1) := by decide +kernel
theorem dX1_verdictBy_1 : decode cX1_verdictBy 1 = .ok (.getfield 19, 3) := by decide +kernel
theorem dX1_verdictBy_4 : decode cX1_verdictBy 4 = .ok (.iload_n 1, 1) := by decide +kernel
theorem dX1_verdictBy_5 : decode cX1_verdictBy 5 = .ok (.iaload, 1) := by decide +kernel
theorem dX1_verdictBy_6 : decode cX1_verdictBy 6 = .ok (.ifCond .ne 6, 3) := by decide +kernel
theorem dX1_verdictBy_9 : decode cX1_verdictBy 9 = .ok (.bipush 63, 2) := by decide +kernel
theorem dX1_verdictBy_11 : decode cX1_verdictBy 11 = .ok (.ireturn, 1) := by decide +kernel
theorem dX1_verdictBy_12 : decode cX1_verdictBy 12 = .ok (.aload_n 0, 1) := by decide +kernel
theorem dX1_verdictBy_13 : decode cX1_verdictBy 13 = .ok (.getfield 19, 3) := by decide +kernel
theorem dX1_verdictBy_16 : decode cX1_verdictBy 16 = .ok (.iload_n 1, 1) := by decide +kernel
theorem dX1_verdictBy_17 : decode cX1_verdictBy 17 = .ok (.iaload, 1) := by decide +kernel
theorem dX1_verdictBy_18 : decode cX1_verdictBy 18 = .ok (.iconst 2, 1) := by decide +kernel
theorem dX1_verdictBy_19 : decode cX1_verdictBy 19 = .ok (.if_icmp .ne 6, 3) := by decide +kernel
theorem dX1_verdictBy_22 : decode cX1_verdictBy 22 = .ok (.bipush 110, 2) := by decide +kernel
theorem dX1_verdictBy_24 : decode cX1_verdictBy 24 = .ok (.ireturn, 1) := by decide +kernel
theorem dX1_verdictBy_25 : decode cX1_verdictBy 25 = .ok (.aload_n 0, 1) := by decide +kernel
theorem dX1_verdictBy_26 : decode cX1_verdictBy 26 = .ok (.iload_n 1, 1) := by decide +kernel
theorem dX1_verdictBy_27 : decode cX1_verdictBy 27 = .ok (.iload_n 2, 1) := by decide +kernel
theorem dX1_verdictBy_28 : decode cX1_verdictBy 28 = .ok (.invokevirtual 58, 3) := by decide +kernel
theorem dX1_verdictBy_31 : decode cX1_verdictBy 31 = .ok (.ifCond .eq 8, 3) := by decide +kernel
theorem dX1_verdictBy_34 : decode cX1_verdictBy 34 = .ok (.bipush 121, 2) := by decide +kernel
theorem dX1_verdictBy_36 : decode cX1_verdictBy 36 = .ok (.goto 5, 3) := by decide +kernel
theorem dX1_verdictBy_39 : decode cX1_verdictBy 39 = .ok (.bipush 115, 2) := by decide +kernel
theorem dX1_verdictBy_41 : decode cX1_verdictBy 41 = .ok (.ireturn, 1) := by decide +kernel
theorem dX1_coversAll_0 : decode cX1_coversAll 0 = .ok (.iload_n 2, 1) := by decide +kernel
theorem dX1_coversAll_1 : decode cX1_coversAll 1 = .ok (.bipush 16, 2) := by decide +kernel
theorem dX1_coversAll_3 : decode cX1_coversAll 3 = .ok (.imul, 1) := by decide +kernel
theorem dX1_coversAll_4 : decode cX1_coversAll 4 = .ok (.istore_n 3, 1) := by decide +kernel
theorem dX1_coversAll_5 : decode cX1_coversAll 5 = .ok (.iload_n 3, 1) := by decide +kernel
theorem dX1_coversAll_6 : decode cX1_coversAll 6 = .ok (.istore 4, 2) := by decide +kernel
theorem dX1_coversAll_8 : decode cX1_coversAll 8 = .ok (.iload 4, 2) := by decide +kernel
theorem dX1_coversAll_10 : decode cX1_coversAll 10 = .ok (.iload_n 3, 1) := by decide +kernel
theorem dX1_coversAll_11 : decode cX1_coversAll 11 = .ok (.bipush 16, 2) := by decide +kernel
theorem dX1_coversAll_13 : decode cX1_coversAll 13 = .ok (.iadd, 1) := by decide +kernel
theorem dX1_coversAll_14 : decode cX1_coversAll 14 = .ok (.if_icmp .ge 30, 3) := by decide +kernel
theorem dX1_coversAll_17 : decode cX1_coversAll 17 = .ok (.aload_n 0, 1) := by decide +kernel
theorem dX1_coversAll_18 : decode cX1_coversAll 18 = .ok (.iload 4, 2) := by decide +kernel
theorem dX1_coversAll_20 : decode cX1_coversAll 20 = .ok (.invokevirtual 48, 3) := by decide +kernel
theorem dX1_coversAll_23 : decode cX1_coversAll 23 = .ok (.ifCond .eq 15, 3) := by decide +kernel
theorem dX1_coversAll_26 : decode cX1_coversAll 26 = .ok (.aload_n 0, 1) := by decide +kernel
theorem dX1_coversAll_27 : decode cX1_coversAll 27 = .ok (.iload_n 1, 1) := by decide +kernel
theorem dX1_coversAll_28 : decode cX1_coversAll 28 = .ok (.iload 4, 2) := by decide +kernel
theorem dX1_coversAll_30 : decode cX1_coversAll 30 = .ok (.invokevirtual 62, 3) := by decide +kernel
theorem dX1_coversAll_33 : decode cX1_coversAll 33 = .ok (.ifCond .ne 5, 3) := by decide +kernel
theorem dX1_coversAll_36 : decode cX1_coversAll 36 = .ok (.iconst 0, 1) := by decide +kernel
theorem dX1_coversAll_37 : decode cX1_coversAll 37 = .ok (.ireturn, 1) := by decide +kernel
theorem dX1_coversAll_38 : decode cX1_coversAll 38 = .ok (.iinc 4 1, 3) := by decide +kernel
theorem dX1_coversAll_41 : decode cX1_coversAll 41 = .ok (.goto (-33), 3) := by decide +kernel
theorem dX1_coversAll_44 : decode cX1_coversAll 44 = .ok (.iconst 1, 1) := by decide +kernel
theorem dX1_coversAll_45 : decode cX1_coversAll 45 = .ok (.ireturn, 1) := by decide +kernel
theorem dX1_covers_0 : decode cX1_covers 0 = .ok (.aload_n 0, 1) := by decide +kernel
theorem dX1_covers_1 : decode cX1_covers 1 = .ok (.getfield 22, 3) := by decide +kernel
theorem dX1_covers_4 : decode cX1_covers 4 = .ok (.iload_n 1, 1) := by decide +kernel
theorem dX1_covers_5 : decode cX1_covers 5 = .ok (.laload, 1) := by decide +kernel
theorem dX1_covers_6 : decode cX1_covers 6 = .ok (.lconst 1, 1) := by decide +kernel
theorem dX1_covers_7 : decode cX1_covers 7 = .ok (.iload_n 2, 1) := by decide +kernel
theorem dX1_covers_8 : decode cX1_covers 8 = .ok (.lshl, 1) := by decide +kernel
theorem dX1_covers_9 : decode cX1_covers 9 = .ok (.land, 1) := by decide +kernel
theorem dX1_covers_10 : decode cX1_covers 10 = .ok (.lconst 0, 1) := by decide +kernel
theorem dX1_covers_11 : decode cX1_covers 11 = .ok (.lcmp, 1) := by decide +kernel
theorem dX1_covers_12 : decode cX1_covers 12 = .ok (.ifCond .eq 7, 3) := by decide +kernel
theorem dX1_covers_15 : decode cX1_covers 15 = .ok (.iconst 1, 1) := by decide +kernel
theorem dX1_covers_16 : decode cX1_covers 16 = .ok (.goto 4, 3) := by decide +kernel
theorem dX1_covers_19 : decode cX1_covers 19 = .ok (.iconst 0, 1) := by decide +kernel
theorem dX1_covers_20 : decode cX1_covers 20 = .ok (.istore_n 3, 1) := by decide +kernel
theorem dX1_covers_21 : decode cX1_covers 21 = .ok (.iload_n 3, 1) := by decide +kernel
theorem dX1_covers_22 : decode cX1_covers 22 = .ok (.ifCond .eq 24, 3) := by decide +kernel
theorem dX1_covers_25 : decode cX1_covers 25 = .ok (.aload_n 0, 1) := by decide +kernel
theorem dX1_covers_26 : decode cX1_covers 26 = .ok (.getfield 28, 3) := by decide +kernel
theorem dX1_covers_29 : decode cX1_covers 29 = .ok (.iload_n 1, 1) := by decide +kernel
theorem dX1_covers_30 : decode cX1_covers 30 = .ok (.aaload, 1) := by decide +kernel
theorem dX1_covers_31 : decode cX1_covers 31 = .ok (.iload_n 2, 1) := by decide +kernel
theorem dX1_covers_32 : decode cX1_covers 32 = .ok (.iaload, 1) := by decide +kernel
theorem dX1_covers_33 : decode cX1_covers 33 = .ok (.aload_n 0, 1) := by decide +kernel
theorem dX1_covers_34 : decode cX1_covers 34 = .ok (.getfield 15, 3) := by decide +kernel
theorem dX1_covers_37 : decode cX1_covers 37 = .ok (.iload_n 2, 1) := by decide +kernel
theorem dX1_covers_38 : decode cX1_covers 38 = .ok (.iaload, 1) := by decide +kernel
theorem dX1_covers_39 : decode cX1_covers 39 = .ok (.if_icmp .ne 7, 3) := by decide +kernel
theorem dX1_covers_42 : decode cX1_covers 42 = .ok (.iconst 1, 1) := by decide +kernel
theorem dX1_covers_43 : decode cX1_covers 43 = .ok (.goto 4, 3) := by decide +kernel
theorem dX1_covers_46 : decode cX1_covers 46 = .ok (.iconst 0, 1) := by decide +kernel
theorem dX1_covers_47 : decode cX1_covers 47 = .ok (.ireturn, 1) := by decide +kernel
theorem dX1_bringUpToDate_0 : decode cX1_bringUpToDate 0 = .ok (.iconst 0, 1) := by decide +kernel
theorem dX1_bringUpToDate_1 : decode cX1_bringUpToDate 1 = .ok (.istore_n 1, 1) := by decide +kernel
theorem dX1_bringUpToDate_2 : decode cX1_bringUpToDate 2 = .ok (.iload_n 1, 1) := by decide +kernel
theorem dX1_bringUpToDate_3 : decode cX1_bringUpToDate 3 = .ok (.bipush 6, 2) := by decide +kernel
theorem dX1_bringUpToDate_5 : decode cX1_bringUpToDate 5 = .ok (.if_icmp .ge 26, 3) := by decide +kernel
theorem dX1_bringUpToDate_8 : decode cX1_bringUpToDate 8 = .ok (.aload_n 0, 1) := by decide +kernel
theorem dX1_bringUpToDate_9 : decode cX1_bringUpToDate 9 = .ok (.getfield 22, 3) := by decide +kernel
theorem dX1_bringUpToDate_12 : decode cX1_bringUpToDate 12 = .ok (.iload_n 1, 1) := by decide +kernel
theorem dX1_bringUpToDate_13 : decode cX1_bringUpToDate 13 = .ok (.dup2, 1) := by decide +kernel
theorem dX1_bringUpToDate_14 : decode cX1_bringUpToDate 14 = .ok (.laload, 1) := by decide +kernel
theorem dX1_bringUpToDate_15 : decode cX1_bringUpToDate 15 = .ok (.aload_n 0, 1) := by decide +kernel
theorem dX1_bringUpToDate_16 : decode cX1_bringUpToDate 16 = .ok (.getfield 41, 3) := by decide +kernel
theorem dX1_bringUpToDate_19 : decode cX1_bringUpToDate 19 = .ok (.ldc2_w 44, 3) := by decide +kernel
theorem dX1_bringUpToDate_22 : decode cX1_bringUpToDate 22 = .ok (.lxor, 1) := by decide +kernel
theorem dX1_bringUpToDate_23 : decode cX1_bringUpToDate 23 = .ok (.land, 1) := by decide +kernel
theorem dX1_bringUpToDate_24 : decode cX1_bringUpToDate 24 = .ok (.lastore, 1) := by decide +kernel
theorem dX1_bringUpToDate_25 : decode cX1_bringUpToDate 25 = .ok (.iinc 1 1, 3) := by decide +kernel
theorem dX1_bringUpToDate_28 : decode cX1_bringUpToDate 28 = .ok (.goto (-26), 3) := by decide +kernel
theorem dX1_bringUpToDate_31 : decode cX1_bringUpToDate 31 = .ok (.aload_n 0, 1) := by decide +kernel
theorem dX1_bringUpToDate_32 : decode cX1_bringUpToDate 32 = .ok (.lconst 0, 1) := by decide +kernel
theorem dX1_bringUpToDate_33 : decode cX1_bringUpToDate 33 = .ok (.putfield 41, 3) := by decide +kernel
theorem dX1_bringUpToDate_36 : decode cX1_bringUpToDate 36 = .ok (.return_, 1) := by decide +kernel
theorem dX2_init_0 : decode cX2_init 0 = .ok (.aload_n 0, 1) := by decide +kernel
theorem dX2_init_1 : decode cX2_init 1 = .ok (.invokespecial 3, 3) := by decide +kernel
theorem dX2_init_4 : decode cX2_init 4 = .ok (.aload_n 0, 1) := by decide +kernel
theorem dX2_init_5 : decode cX2_init 5 = .ok (.bipush 16, 2) := by decide +kernel
theorem dX2_init_7 : decode cX2_init 7 = .ok (.newarray .int, 2) := by decide +kernel
theorem dX2_init_9 : decode cX2_init 9 = .ok (.putfield 9, 3) := by decide +kernel
theorem dX2_init_12 : decode cX2_init 12 = .ok (.return_, 1) := by decide +kernel
theorem dX2_at_0 : decode cX2_at 0 = .ok (.aload_n 0, 1) := by decide +kernel
theorem dX2_at_1 : decode cX2_at 1 = .ok (.getfield 9, 3) := by decide +kernel
theorem dX2_at_4 : decode cX2_at 4 = .ok (.iload_n 1, 1) := by decide +kernel
theorem dX2_at_5 : decode cX2_at 5 = .ok (.iaload, 1) := by decide +kernel
theorem dX2_at_6 : decode cX2_at 6 = .ok (.ireturn, 1) := by decide +kernel
theorem dX2_append_0 : decode cX2_append 0 = .ok (.aload_n 0, 1) := by decide +kernel
theorem dX2_append_1 : decode cX2_append 1 = .ok (.getfield 15, 3) := by decide +kernel
theorem dX2_append_4 : decode cX2_append 4 = .ok (.bipush 16, 2) := by decide +kernel
theorem dX2_append_6 : decode cX2_append 6 = .ok (.if_icmp .ge 23, 3) := by decide +kernel
theorem dX2_append_9 : decode cX2_append 9 = .ok (.aload_n 0, 1) := by decide +kernel
theorem dX2_append_10 : decode cX2_append 10 = .ok (.getfield 9, 3) := by decide +kernel
theorem dX2_append_13 : decode cX2_append 13 = .ok (.aload_n 0, 1) := by decide +kernel
theorem dX2_append_14 : decode cX2_append 14 = .ok (.getfield 15, 3) := by decide +kernel
theorem dX2_append_17 : decode cX2_append 17 = .ok (.iload_n 1, 1) := by decide +kernel
theorem dX2_append_18 : decode cX2_append 18 = .ok (.iastore, 1) := by decide +kernel
theorem dX2_append_19 : decode cX2_append 19 = .ok (.aload_n 0, 1) := by decide +kernel
theorem dX2_append_20 : decode cX2_append 20 = .ok (.dup, 1) := by decide +kernel
theorem dX2_append_21 : decode cX2_append 21 = .ok (.getfield 15, 3) := by decide +kernel
theorem dX2_append_24 : decode cX2_append 24 = .ok (.iconst 1, 1) := by decide +kernel
theorem dX2_append_25 : decode cX2_append 25 = .ok (.iadd, 1) := by decide +kernel
theorem dX2_append_26 : decode cX2_append 26 = .ok (.putfield 15, 3) := by decide +kernel
theorem dX2_append_29 : decode cX2_append 29 = .ok (.return_, 1) := by decide +kernel
theorem dX2_drop_0 : decode cX2_drop 0 = .ok (.iconst 0, 1) := by decide +kernel
theorem dX2_drop_1 : decode cX2_drop 1 = .ok (.istore_n 2, 1) := by decide +kernel
theorem dX2_drop_2 : decode cX2_drop 2 = .ok (.iconst 0, 1) := by decide +kernel
theorem dX2_drop_3 : decode cX2_drop 3 = .ok (.istore_n 3, 1) := by decide +kernel
theorem dX2_drop_4 : decode cX2_drop 4 = .ok (.iload_n 3, 1) := by decide +kernel
theorem dX2_drop_5 : decode cX2_drop 5 = .ok (.aload_n 0, 1) := by decide +kernel
theorem dX2_drop_6 : decode cX2_drop 6 = .ok (.getfield 15, 3) := by decide +kernel
theorem dX2_drop_9 : decode cX2_drop 9 = .ok (.if_icmp .ge 34, 3) := by decide +kernel
theorem dX2_drop_12 : decode cX2_drop 12 = .ok (.aload_n 0, 1) := by decide +kernel
theorem dX2_drop_13 : decode cX2_drop 13 = .ok (.getfield 9, 3) := by decide +kernel
theorem dX2_drop_16 : decode cX2_drop 16 = .ok (.iload_n 3, 1) := by decide +kernel
theorem dX2_drop_17 : decode cX2_drop 17 = .ok (.iaload, 1) := by decide +kernel
theorem dX2_drop_18 : decode cX2_drop 18 = .ok (.iload_n 1, 1) := by decide +kernel
theorem dX2_drop_19 : decode cX2_drop 19 = .ok (.if_icmp .eq 18, 3) := by decide +kernel
theorem dX2_drop_22 : decode cX2_drop 22 = .ok (.aload_n 0, 1) := by decide +kernel
theorem dX2_drop_23 : decode cX2_drop 23 = .ok (.getfield 9, 3) := by decide +kernel
theorem dX2_drop_26 : decode cX2_drop 26 = .ok (.iload_n 2, 1) := by decide +kernel
theorem dX2_drop_27 : decode cX2_drop 27 = .ok (.aload_n 0, 1) := by decide +kernel
theorem dX2_drop_28 : decode cX2_drop 28 = .ok (.getfield 9, 3) := by decide +kernel
theorem dX2_drop_31 : decode cX2_drop 31 = .ok (.iload_n 3, 1) := by decide +kernel
theorem dX2_drop_32 : decode cX2_drop 32 = .ok (.iaload, 1) := by decide +kernel
theorem dX2_drop_33 : decode cX2_drop 33 = .ok (.iastore, 1) := by decide +kernel
theorem dX2_drop_34 : decode cX2_drop 34 = .ok (.iinc 2 1, 3) := by decide +kernel
theorem dX2_drop_37 : decode cX2_drop 37 = .ok (.iinc 3 1, 3) := by decide +kernel
theorem dX2_drop_40 : decode cX2_drop 40 = .ok (.goto (-36), 3) := by decide +kernel
theorem dX2_drop_43 : decode cX2_drop 43 = .ok (.aload_n 0, 1) := by decide +kernel
theorem dX2_drop_44 : decode cX2_drop 44 = .ok (.iload_n 2, 1) := by decide +kernel
theorem dX2_drop_45 : decode cX2_drop 45 = .ok (.putfield 15, 3) := by decide +kernel
theorem dX2_drop_48 : decode cX2_drop 48 = .ok (.return_, 1) := by decide +kernel
theorem dX3_init_0 : decode cX3_init 0 = .ok (.aload_n 0, 1) := by decide +kernel
theorem dX3_init_1 : decode cX3_init 1 = .ok (.invokespecial 3, 3) := by decide +kernel
theorem dX3_init_4 : decode cX3_init 4 = .ok (.return_, 1) := by decide +kernel
theorem dX3_isOf_0 : decode cX3_isOf 0 = .ok (.aload_n 0, 1) := by decide +kernel
theorem dX3_isOf_1 : decode cX3_isOf 1 = .ok (.getfield 9, 3) := by decide +kernel
theorem dX3_isOf_4 : decode cX3_isOf 4 = .ok (.ifCond .eq 18, 3) := by decide +kernel
theorem dX3_isOf_7 : decode cX3_isOf 7 = .ok (.aload_n 0, 1) := by decide +kernel
theorem dX3_isOf_8 : decode cX3_isOf 8 = .ok (.getfield 15, 3) := by decide +kernel
theorem dX3_isOf_11 : decode cX3_isOf 11 = .ok (.bipush 16, 2) := by decide +kernel
theorem dX3_isOf_13 : decode cX3_isOf 13 = .ok (.idiv, 1) := by decide +kernel
theorem dX3_isOf_14 : decode cX3_isOf 14 = .ok (.iload_n 1, 1) := by decide +kernel
theorem dX3_isOf_15 : decode cX3_isOf 15 = .ok (.if_icmp .ne 7, 3) := by decide +kernel
theorem dX3_isOf_18 : decode cX3_isOf 18 = .ok (.iconst 1, 1) := by decide +kernel
theorem dX3_isOf_19 : decode cX3_isOf 19 = .ok (.goto 4, 3) := by decide +kernel
theorem dX3_isOf_22 : decode cX3_isOf 22 = .ok (.iconst 0, 1) := by decide +kernel
theorem dX3_isOf_23 : decode cX3_isOf 23 = .ok (.ireturn, 1) := by decide +kernel
theorem dX3_passes_0 : decode cX3_passes 0 = .ok (.aload_n 1, 1) := by decide +kernel
theorem dX3_passes_1 : decode cX3_passes 1 = .ok (.aload_n 0, 1) := by decide +kernel
theorem dX3_passes_2 : decode cX3_passes 2 = .ok (.getfield 15, 3) := by decide +kernel
theorem dX3_passes_5 : decode cX3_passes 5 = .ok (.iaload, 1) := by decide +kernel
theorem dX3_passes_6 : decode cX3_passes 6 = .ok (.aload_n 1, 1) := by decide +kernel
theorem dX3_passes_7 : decode cX3_passes 7 = .ok (.aload_n 0, 1) := by decide +kernel
theorem dX3_passes_8 : decode cX3_passes 8 = .ok (.getfield 19, 3) := by decide +kernel
theorem dX3_passes_11 : decode cX3_passes 11 = .ok (.iaload, 1) := by decide +kernel
theorem dX3_passes_12 : decode cX3_passes 12 = .ok (.iadd, 1) := by decide +kernel
theorem dX3_passes_13 : decode cX3_passes 13 = .ok (.aload_n 0, 1) := by decide +kernel
theorem dX3_passes_14 : decode cX3_passes 14 = .ok (.getfield 22, 3) := by decide +kernel
theorem dX3_passes_17 : decode cX3_passes 17 = .ok (.if_icmp .gt 7, 3) := by decide +kernel
theorem dX3_passes_20 : decode cX3_passes 20 = .ok (.iconst 1, 1) := by decide +kernel
theorem dX3_passes_21 : decode cX3_passes 21 = .ok (.goto 4, 3) := by decide +kernel
theorem dX3_passes_24 : decode cX3_passes 24 = .ok (.iconst 0, 1) := by decide +kernel
theorem dX3_passes_25 : decode cX3_passes 25 = .ok (.ireturn, 1) := by decide +kernel
theorem dX4_init_0 : decode cX4_init 0 = .ok (.aload_n 0, 1) := by decide +kernel
theorem dX4_init_1 : decode cX4_init 1 = .ok (.invokespecial 3, 3) := by decide +kernel
theorem dX4_init_4 : decode cX4_init 4 = .ok (.aload_n 0, 1) := by decide +kernel
theorem dX4_init_5 : decode cX4_init 5 = .ok (.bipush 12, 2) := by decide +kernel
theorem dX4_init_7 : decode cX4_init 7 = .ok (.anewarray 9, 3) := by decide +kernel
theorem dX4_init_10 : decode cX4_init 10 = .ok (.putfield 11, 3) := by decide +kernel
theorem dX4_init_13 : decode cX4_init 13 = .ok (.aload_n 0, 1) := by decide +kernel
theorem dX4_init_14 : decode cX4_init 14 = .ok (.iconst 4, 1) := by decide +kernel
theorem dX4_init_15 : decode cX4_init 15 = .ok (.anewarray 17, 3) := by decide +kernel
theorem dX4_init_18 : decode cX4_init 18 = .ok (.putfield 19, 3) := by decide +kernel
theorem dX4_init_21 : decode cX4_init 21 = .ok (.aload_n 0, 1) := by decide +kernel
theorem dX4_init_22 : decode cX4_init 22 = .ok (.bipush 24, 2) := by decide +kernel
theorem dX4_init_24 : decode cX4_init 24 = .ok (.newarray .int, 2) := by decide +kernel
theorem dX4_init_26 : decode cX4_init 26 = .ok (.putfield 23, 3) := by decide +kernel
theorem dX4_init_29 : decode cX4_init 29 = .ok (.iconst 0, 1) := by decide +kernel
theorem dX4_init_30 : decode cX4_init 30 = .ok (.istore_n 1, 1) := by decide +kernel
theorem dX4_init_31 : decode cX4_init 31 = .ok (.iload_n 1, 1) := by decide +kernel
theorem dX4_init_32 : decode cX4_init 32 = .ok (.bipush 12, 2) := by decide +kernel
theorem dX4_init_34 : decode cX4_init 34 = .ok (.if_icmp .ge 22, 3) := by decide +kernel
theorem dX4_init_37 : decode cX4_init 37 = .ok (.aload_n 0, 1) := by decide +kernel
theorem dX4_init_38 : decode cX4_init 38 = .ok (.getfield 11, 3) := by decide +kernel
theorem dX4_init_41 : decode cX4_init 41 = .ok (.iload_n 1, 1) := by decide +kernel
theorem dX4_init_42 : decode cX4_init 42 = .ok (.new 9, 3) := by decide +kernel
theorem dX4_init_45 : decode cX4_init 45 = .ok (.dup, 1) := by decide +kernel
theorem dX4_init_46 : decode cX4_init 46 = .ok (.invokespecial 27, 3) := by decide +kernel
theorem dX4_init_49 : decode cX4_init 49 = .ok (.aastore, 1) := by decide +kernel
theorem dX4_init_50 : decode cX4_init 50 = .ok (.iinc 1 1, 3) := by decide +kernel
theorem dX4_init_53 : decode cX4_init 53 = .ok (.goto (-22), 3) := by decide +kernel
theorem dX4_init_56 : decode cX4_init 56 = .ok (.return_, 1) := by decide +kernel
theorem dX4_add_0 : decode cX4_add 0 = .ok (.aload_n 0, 1) := by decide +kernel
theorem dX4_add_1 : decode cX4_add 1 = .ok (.getfield 28, 3) := by decide +kernel
theorem dX4_add_4 : decode cX4_add 4 = .ok (.istore 4, 2) := by decide +kernel
theorem dX4_add_6 : decode cX4_add 6 = .ok (.aload_n 0, 1) := by decide +kernel
theorem dX4_add_7 : decode cX4_add 7 = .ok (.getfield 11, 3) := by decide +kernel
theorem dX4_add_10 : decode cX4_add 10 = .ok (.iload 4, 2) := by decide +kernel
theorem dX4_add_12 : decode cX4_add 12 = .ok (.aaload, 1) := by decide +kernel
theorem dX4_add_13 : decode cX4_add 13 = .ok (.astore 5, 2) := by decide +kernel
theorem dX4_add_15 : decode cX4_add 15 = .ok (.aload 5, 2) := by decide +kernel
theorem dX4_add_17 : decode cX4_add 17 = .ok (.iload_n 1, 1) := by decide +kernel
theorem dX4_add_18 : decode cX4_add 18 = .ok (.putfield 32, 3) := by decide +kernel
theorem dX4_add_21 : decode cX4_add 21 = .ok (.aload 5, 2) := by decide +kernel
theorem dX4_add_23 : decode cX4_add 23 = .ok (.iload_n 2, 1) := by decide +kernel
theorem dX4_add_24 : decode cX4_add 24 = .ok (.putfield 35, 3) := by decide +kernel
theorem dX4_add_27 : decode cX4_add 27 = .ok (.aload 5, 2) := by decide +kernel
theorem dX4_add_29 : decode cX4_add 29 = .ok (.iload_n 3, 1) := by decide +kernel
theorem dX4_add_30 : decode cX4_add 30 = .ok (.putfield 38, 3) := by decide +kernel
theorem dX4_add_33 : decode cX4_add 33 = .ok (.aload 5, 2) := by decide +kernel
theorem dX4_add_35 : decode cX4_add 35 = .ok (.iconst 1, 1) := by decide +kernel
theorem dX4_add_36 : decode cX4_add 36 = .ok (.putfield 41, 3) := by decide +kernel
theorem dX4_add_39 : decode cX4_add 39 = .ok (.aload_n 0, 1) := by decide +kernel
theorem dX4_add_40 : decode cX4_add 40 = .ok (.dup, 1) := by decide +kernel
theorem dX4_add_41 : decode cX4_add 41 = .ok (.getfield 28, 3) := by decide +kernel
theorem dX4_add_44 : decode cX4_add 44 = .ok (.iconst 1, 1) := by decide +kernel
theorem dX4_add_45 : decode cX4_add 45 = .ok (.iadd, 1) := by decide +kernel
theorem dX4_add_46 : decode cX4_add 46 = .ok (.putfield 28, 3) := by decide +kernel
theorem dX4_add_49 : decode cX4_add 49 = .ok (.aload_n 0, 1) := by decide +kernel
theorem dX4_add_50 : decode cX4_add 50 = .ok (.invokevirtual 45, 3) := by decide +kernel
theorem dX4_add_53 : decode cX4_add 53 = .ok (.iload 4, 2) := by decide +kernel
theorem dX4_add_55 : decode cX4_add 55 = .ok (.ireturn, 1) := by decide +kernel
theorem dX4_drop_0 : decode cX4_drop 0 = .ok (.aload_n 0, 1) := by decide +kernel
theorem dX4_drop_1 : decode cX4_drop 1 = .ok (.getfield 11, 3) := by decide +kernel
theorem dX4_drop_4 : decode cX4_drop 4 = .ok (.iload_n 1, 1) := by decide +kernel
theorem dX4_drop_5 : decode cX4_drop 5 = .ok (.aaload, 1) := by decide +kernel
theorem dX4_drop_6 : decode cX4_drop 6 = .ok (.iconst 0, 1) := by decide +kernel
theorem dX4_drop_7 : decode cX4_drop 7 = .ok (.putfield 41, 3) := by decide +kernel
theorem dX4_drop_10 : decode cX4_drop 10 = .ok (.aload_n 0, 1) := by decide +kernel
theorem dX4_drop_11 : decode cX4_drop 11 = .ok (.invokevirtual 45, 3) := by decide +kernel
theorem dX4_drop_14 : decode cX4_drop 14 = .ok (.iconst 0, 1) := by decide +kernel
theorem dX4_drop_15 : decode cX4_drop 15 = .ok (.istore_n 2, 1) := by decide +kernel
theorem dX4_drop_16 : decode cX4_drop 16 = .ok (.iconst 0, 1) := by decide +kernel
theorem dX4_drop_17 : decode cX4_drop 17 = .ok (.istore_n 3, 1) := by decide +kernel
theorem dX4_drop_18 : decode cX4_drop 18 = .ok (.iload_n 3, 1) := by decide +kernel
theorem dX4_drop_19 : decode cX4_drop 19 = .ok (.aload_n 0, 1) := by decide +kernel
theorem dX4_drop_20 : decode cX4_drop 20 = .ok (.getfield 28, 3) := by decide +kernel
theorem dX4_drop_23 : decode cX4_drop 23 = .ok (.if_icmp .ge 24, 3) := by decide +kernel
theorem dX4_drop_26 : decode cX4_drop 26 = .ok (.aload_n 0, 1) := by decide +kernel
theorem dX4_drop_27 : decode cX4_drop 27 = .ok (.getfield 11, 3) := by decide +kernel
theorem dX4_drop_30 : decode cX4_drop 30 = .ok (.iload_n 3, 1) := by decide +kernel
theorem dX4_drop_31 : decode cX4_drop 31 = .ok (.aaload, 1) := by decide +kernel
theorem dX4_drop_32 : decode cX4_drop 32 = .ok (.getfield 41, 3) := by decide +kernel
theorem dX4_drop_35 : decode cX4_drop 35 = .ok (.ifCond .eq 6, 3) := by decide +kernel
theorem dX4_drop_38 : decode cX4_drop 38 = .ok (.iinc 2 1, 3) := by decide +kernel
theorem dX4_drop_41 : decode cX4_drop 41 = .ok (.iinc 3 1, 3) := by decide +kernel
theorem dX4_drop_44 : decode cX4_drop 44 = .ok (.goto (-26), 3) := by decide +kernel
theorem dX4_drop_47 : decode cX4_drop 47 = .ok (.iload_n 2, 1) := by decide +kernel
theorem dX4_drop_48 : decode cX4_drop 48 = .ok (.ireturn, 1) := by decide +kernel
theorem dX4_forgetCells_0 : decode cX4_forgetCells 0 = .ok (.iconst 0, 1) := by decide +kernel
theorem dX4_forgetCells_1 : decode cX4_forgetCells 1 = .ok (.istore_n 1, 1) := by decide +kernel
theorem dX4_forgetCells_2 : decode cX4_forgetCells 2 = .ok (.iload_n 1, 1) := by decide +kernel
theorem dX4_forgetCells_3 : decode cX4_forgetCells 3 = .ok (.iconst 4, 1) := by decide +kernel
theorem dX4_forgetCells_4 : decode cX4_forgetCells 4 = .ok (.if_icmp .ge 16, 3) := by decide +kernel
theorem dX4_forgetCells_7 : decode cX4_forgetCells 7 = .ok (.aload_n 0, 1) := by decide +kernel
theorem dX4_forgetCells_8 : decode cX4_forgetCells 8 = .ok (.getfield 19, 3) := by decide +kernel
theorem dX4_forgetCells_11 : decode cX4_forgetCells 11 = .ok (.iload_n 1, 1) := by decide +kernel
theorem dX4_forgetCells_12 : decode cX4_forgetCells 12 = .ok (.aconst_null, 1) := by decide +kernel
theorem dX4_forgetCells_13 : decode cX4_forgetCells 13 = .ok (.aastore, 1) := by decide +kernel
theorem dX4_forgetCells_14 : decode cX4_forgetCells 14 = .ok (.iinc 1 1, 3) := by decide +kernel
theorem dX4_forgetCells_17 : decode cX4_forgetCells 17 = .ok (.goto (-15), 3) := by decide +kernel
theorem dX4_forgetCells_20 : decode cX4_forgetCells 20 = .ok (.return_, 1) := by decide +kernel
theorem dX4_allPass_0 : decode cX4_allPass 0 = .ok (.iconst 0, 1) := by decide +kernel
theorem dX4_allPass_1 : decode cX4_allPass 1 = .ok (.istore_n 3, 1) := by decide +kernel
theorem dX4_allPass_2 : decode cX4_allPass 2 = .ok (.iload_n 3, 1) := by decide +kernel
theorem dX4_allPass_3 : decode cX4_allPass 3 = .ok (.aload_n 0, 1) := by decide +kernel
theorem dX4_allPass_4 : decode cX4_allPass 4 = .ok (.getfield 28, 3) := by decide +kernel
theorem dX4_allPass_7 : decode cX4_allPass 7 = .ok (.if_icmp .ge 37, 3) := by decide +kernel
theorem dX4_allPass_10 : decode cX4_allPass 10 = .ok (.aload_n 0, 1) := by decide +kernel
theorem dX4_allPass_11 : decode cX4_allPass 11 = .ok (.getfield 11, 3) := by decide +kernel
theorem dX4_allPass_14 : decode cX4_allPass 14 = .ok (.iload_n 3, 1) := by decide +kernel
theorem dX4_allPass_15 : decode cX4_allPass 15 = .ok (.aaload, 1) := by decide +kernel
theorem dX4_allPass_16 : decode cX4_allPass 16 = .ok (.iload_n 1, 1) := by decide +kernel
theorem dX4_allPass_17 : decode cX4_allPass 17 = .ok (.invokevirtual 48, 3) := by decide +kernel
theorem dX4_allPass_20 : decode cX4_allPass 20 = .ok (.ifCond .eq 18, 3) := by decide +kernel
theorem dX4_allPass_23 : decode cX4_allPass 23 = .ok (.aload_n 0, 1) := by decide +kernel
theorem dX4_allPass_24 : decode cX4_allPass 24 = .ok (.getfield 11, 3) := by decide +kernel
theorem dX4_allPass_27 : decode cX4_allPass 27 = .ok (.iload_n 3, 1) := by decide +kernel
theorem dX4_allPass_28 : decode cX4_allPass 28 = .ok (.aaload, 1) := by decide +kernel
theorem dX4_allPass_29 : decode cX4_allPass 29 = .ok (.aload_n 2, 1) := by decide +kernel
theorem dX4_allPass_30 : decode cX4_allPass 30 = .ok (.invokevirtual 52, 3) := by decide +kernel
theorem dX4_allPass_33 : decode cX4_allPass 33 = .ok (.ifCond .ne 5, 3) := by decide +kernel
theorem dX4_allPass_36 : decode cX4_allPass 36 = .ok (.iconst 0, 1) := by decide +kernel
theorem dX4_allPass_37 : decode cX4_allPass 37 = .ok (.ireturn, 1) := by decide +kernel
theorem dX4_allPass_38 : decode cX4_allPass 38 = .ok (.iinc 3 1, 3) := by decide +kernel
theorem dX4_allPass_41 : decode cX4_allPass 41 = .ok (.goto (-39), 3) := by decide +kernel
theorem dX4_allPass_44 : decode cX4_allPass 44 = .ok (.iconst 1, 1) := by decide +kernel
theorem dX4_allPass_45 : decode cX4_allPass 45 = .ok (.ireturn, 1) := by decide +kernel
theorem dX4_buildTrunk_0 : decode cX4_buildTrunk 0 = .ok (.iconst 0, 1) := by decide +kernel
theorem dX4_buildTrunk_1 : decode cX4_buildTrunk 1 = .ok (.istore_n 2, 1) := by decide +kernel
theorem dX4_buildTrunk_2 : decode cX4_buildTrunk 2 = .ok (.iload_n 2, 1) := by decide +kernel
theorem dX4_buildTrunk_3 : decode cX4_buildTrunk 3 = .ok (.iconst 4, 1) := by decide +kernel
theorem dX4_buildTrunk_4 : decode cX4_buildTrunk 4 = .ok (.if_icmp .ge 32, 3) := by decide +kernel
theorem dX4_buildTrunk_7 : decode cX4_buildTrunk 7 = .ok (.aload_n 0, 1) := by decide +kernel
theorem dX4_buildTrunk_8 : decode cX4_buildTrunk 8 = .ok (.iload_n 2, 1) := by decide +kernel
theorem dX4_buildTrunk_9 : decode cX4_buildTrunk 9 = .ok (.aload_n 1, 1) := by decide +kernel
theorem dX4_buildTrunk_10 : decode cX4_buildTrunk 10 = .ok (.invokevirtual 56, 3) := by decide +kernel
theorem dX4_buildTrunk_13 : decode cX4_buildTrunk 13 = .ok (.istore_n 3, 1) := by decide +kernel
theorem dX4_buildTrunk_14 : decode cX4_buildTrunk 14 = .ok (.iload_n 3, 1) := by decide +kernel
theorem dX4_buildTrunk_15 : decode cX4_buildTrunk 15 = .ok (.ifCond .le 15, 3) := by decide +kernel
theorem dX4_buildTrunk_18 : decode cX4_buildTrunk 18 = .ok (.aload_n 0, 1) := by decide +kernel
theorem dX4_buildTrunk_19 : decode cX4_buildTrunk 19 = .ok (.iload_n 2, 1) := by decide +kernel
theorem dX4_buildTrunk_20 : decode cX4_buildTrunk 20 = .ok (.aload_n 1, 1) := by decide +kernel
theorem dX4_buildTrunk_21 : decode cX4_buildTrunk 21 = .ok (.iload_n 3, 1) := by decide +kernel
theorem dX4_buildTrunk_22 : decode cX4_buildTrunk 22 = .ok (.invokevirtual 60, 3) := by decide +kernel
theorem dX4_buildTrunk_25 : decode cX4_buildTrunk 25 = .ok (.ifCond .ne 5, 3) := by decide +kernel
theorem dX4_buildTrunk_28 : decode cX4_buildTrunk 28 = .ok (.iconst 0, 1) := by decide +kernel
theorem dX4_buildTrunk_29 : decode cX4_buildTrunk 29 = .ok (.ireturn, 1) := by decide +kernel
theorem dX4_buildTrunk_30 : decode cX4_buildTrunk 30 = .ok (.iinc 2 1, 3) := by decide +kernel
theorem dX4_buildTrunk_33 : decode cX4_buildTrunk 33 = .ok (.goto (-31), 3) := by decide +kernel
theorem dX4_buildTrunk_36 : decode cX4_buildTrunk 36 = .ok (.iconst 1, 1) := by decide +kernel
theorem dX4_buildTrunk_37 : decode cX4_buildTrunk 37 = .ok (.ireturn, 1) := by decide +kernel
theorem dX4_readInputs_0 : decode cX4_readInputs 0 = .ok (.iconst 0, 1) := by decide +kernel
theorem dX4_readInputs_1 : decode cX4_readInputs 1 = .ok (.istore_n 3, 1) := by decide +kernel
theorem dX4_readInputs_2 : decode cX4_readInputs 2 = .ok (.iconst 0, 1) := by decide +kernel
theorem dX4_readInputs_3 : decode cX4_readInputs 3 = .ok (.istore 4, 2) := by decide +kernel
theorem dX4_readInputs_5 : decode cX4_readInputs 5 = .ok (.iload 4, 2) := by decide +kernel
theorem dX4_readInputs_7 : decode cX4_readInputs 7 = .ok (.aload_n 0, 1) := by decide +kernel
theorem dX4_readInputs_8 : decode cX4_readInputs 8 = .ok (.getfield 28, 3) := by decide +kernel
theorem dX4_readInputs_11 : decode cX4_readInputs 11 = .ok (.if_icmp .ge 64, 3) := by decide +kernel
theorem dX4_readInputs_14 : decode cX4_readInputs 14 = .ok (.aload_n 0, 1) := by decide +kernel
theorem dX4_readInputs_15 : decode cX4_readInputs 15 = .ok (.getfield 11, 3) := by decide +kernel
theorem dX4_readInputs_18 : decode cX4_readInputs 18 = .ok (.iload 4, 2) := by decide +kernel
theorem dX4_readInputs_20 : decode cX4_readInputs 20 = .ok (.aaload, 1) := by decide +kernel
theorem dX4_readInputs_21 : decode cX4_readInputs 21 = .ok (.iload_n 1, 1) := by decide +kernel
theorem dX4_readInputs_22 : decode cX4_readInputs 22 = .ok (.invokevirtual 48, 3) := by decide +kernel
theorem dX4_readInputs_25 : decode cX4_readInputs 25 = .ok (.ifCond .eq 44, 3) := by decide +kernel
theorem dX4_readInputs_28 : decode cX4_readInputs 28 = .ok (.aload_n 0, 1) := by decide +kernel
theorem dX4_readInputs_29 : decode cX4_readInputs 29 = .ok (.getfield 23, 3) := by decide +kernel
theorem dX4_readInputs_32 : decode cX4_readInputs 32 = .ok (.iload_n 3, 1) := by decide +kernel
theorem dX4_readInputs_33 : decode cX4_readInputs 33 = .ok (.aload_n 2, 1) := by decide +kernel
theorem dX4_readInputs_34 : decode cX4_readInputs 34 = .ok (.aload_n 0, 1) := by decide +kernel
theorem dX4_readInputs_35 : decode cX4_readInputs 35 = .ok (.getfield 11, 3) := by decide +kernel
theorem dX4_readInputs_38 : decode cX4_readInputs 38 = .ok (.iload 4, 2) := by decide +kernel
theorem dX4_readInputs_40 : decode cX4_readInputs 40 = .ok (.aaload, 1) := by decide +kernel
theorem dX4_readInputs_41 : decode cX4_readInputs 41 = .ok (.getfield 32, 3) := by decide +kernel
theorem dX4_readInputs_44 : decode cX4_readInputs 44 = .ok (.iaload, 1) := by decide +kernel
theorem dX4_readInputs_45 : decode cX4_readInputs 45 = .ok (.iastore, 1) := by decide +kernel
theorem dX4_readInputs_46 : decode cX4_readInputs 46 = .ok (.aload_n 0, 1) := by decide +kernel
theorem dX4_readInputs_47 : decode cX4_readInputs 47 = .ok (.getfield 23, 3) := by decide +kernel
theorem dX4_readInputs_50 : decode cX4_readInputs 50 = .ok (.iload_n 3, 1) := by decide +kernel
theorem dX4_readInputs_51 : decode cX4_readInputs 51 = .ok (.iconst 1, 1) := by decide +kernel
theorem dX4_readInputs_52 : decode cX4_readInputs 52 = .ok (.iadd, 1) := by decide +kernel
theorem dX4_readInputs_53 : decode cX4_readInputs 53 = .ok (.aload_n 2, 1) := by decide +kernel
theorem dX4_readInputs_54 : decode cX4_readInputs 54 = .ok (.aload_n 0, 1) := by decide +kernel
theorem dX4_readInputs_55 : decode cX4_readInputs 55 = .ok (.getfield 11, 3) := by decide +kernel
theorem dX4_readInputs_58 : decode cX4_readInputs 58 = .ok (.iload 4, 2) := by decide +kernel
theorem dX4_readInputs_60 : decode cX4_readInputs 60 = .ok (.aaload, 1) := by decide +kernel
theorem dX4_readInputs_61 : decode cX4_readInputs 61 = .ok (.getfield 35, 3) := by decide +kernel
theorem dX4_readInputs_64 : decode cX4_readInputs 64 = .ok (.iaload, 1) := by decide +kernel
theorem dX4_readInputs_65 : decode cX4_readInputs 65 = .ok (.iastore, 1) := by decide +kernel
theorem dX4_readInputs_66 : decode cX4_readInputs 66 = .ok (.iinc 3 2, 3) := by decide +kernel
theorem dX4_readInputs_69 : decode cX4_readInputs 69 = .ok (.iinc 4 1, 3) := by decide +kernel
theorem dX4_readInputs_72 : decode cX4_readInputs 72 = .ok (.goto (-67), 3) := by decide +kernel
theorem dX4_readInputs_75 : decode cX4_readInputs 75 = .ok (.iload_n 3, 1) := by decide +kernel
theorem dX4_readInputs_76 : decode cX4_readInputs 76 = .ok (.ireturn, 1) := by decide +kernel
theorem dX4_resultOf_0 : decode cX4_resultOf 0 = .ok (.aload_n 0, 1) := by decide +kernel
theorem dX4_resultOf_1 : decode cX4_resultOf 1 = .ok (.getfield 19, 3) := by decide +kernel
theorem dX4_resultOf_4 : decode cX4_resultOf 4 = .ok (.iload_n 1, 1) := by decide +kernel
theorem dX4_resultOf_5 : decode cX4_resultOf 5 = .ok (.aaload, 1) := by decide +kernel
theorem dX4_resultOf_6 : decode cX4_resultOf 6 = .ok (.astore 4, 2) := by decide +kernel
theorem dX4_resultOf_8 : decode cX4_resultOf 8 = .ok (.aload 4, 2) := by decide +kernel
theorem dX4_resultOf_10 : decode cX4_resultOf 10 = .ok (.ifnull 42, 3) := by decide +kernel
theorem dX4_resultOf_13 : decode cX4_resultOf 13 = .ok (.aload 4, 2) := by decide +kernel
theorem dX4_resultOf_15 : decode cX4_resultOf 15 = .ok (.aload_n 0, 1) := by decide +kernel
theorem dX4_resultOf_16 : decode cX4_resultOf 16 = .ok (.getfield 23, 3) := by decide +kernel
theorem dX4_resultOf_19 : decode cX4_resultOf 19 = .ok (.iload_n 3, 1) := by decide +kernel
theorem dX4_resultOf_20 : decode cX4_resultOf 20 = .ok (.invokevirtual 64, 3) := by decide +kernel
theorem dX4_resultOf_23 : decode cX4_resultOf 23 = .ok (.ifCond .eq 19, 3) := by decide +kernel
theorem dX4_resultOf_26 : decode cX4_resultOf 26 = .ok (.aload_n 0, 1) := by decide +kernel
theorem dX4_resultOf_27 : decode cX4_resultOf 27 = .ok (.dup, 1) := by decide +kernel
theorem dX4_resultOf_28 : decode cX4_resultOf 28 = .ok (.getfield 68, 3) := by decide +kernel
theorem dX4_resultOf_31 : decode cX4_resultOf 31 = .ok (.lconst 1, 1) := by decide +kernel
theorem dX4_resultOf_32 : decode cX4_resultOf 32 = .ok (.ladd, 1) := by decide +kernel
theorem dX4_resultOf_33 : decode cX4_resultOf 33 = .ok (.putfield 68, 3) := by decide +kernel
theorem dX4_resultOf_36 : decode cX4_resultOf 36 = .ok (.aload 4, 2) := by decide +kernel
theorem dX4_resultOf_38 : decode cX4_resultOf 38 = .ok (.getfield 72, 3) := by decide +kernel
theorem dX4_resultOf_41 : decode cX4_resultOf 41 = .ok (.ireturn, 1) := by decide +kernel
theorem dX4_resultOf_42 : decode cX4_resultOf 42 = .ok (.aload 4, 2) := by decide +kernel
theorem dX4_resultOf_44 : decode cX4_resultOf 44 = .ok (.getfield 75, 3) := by decide +kernel
theorem dX4_resultOf_47 : decode cX4_resultOf 47 = .ok (.astore 4, 2) := by decide +kernel
theorem dX4_resultOf_49 : decode cX4_resultOf 49 = .ok (.goto (-41), 3) := by decide +kernel
theorem dX4_resultOf_52 : decode cX4_resultOf 52 = .ok (.aload_n 0, 1) := by decide +kernel
theorem dX4_resultOf_53 : decode cX4_resultOf 53 = .ok (.dup, 1) := by decide +kernel
theorem dX4_resultOf_54 : decode cX4_resultOf 54 = .ok (.getfield 79, 3) := by decide +kernel
theorem dX4_resultOf_57 : decode cX4_resultOf 57 = .ok (.iconst 1, 1) := by decide +kernel
theorem dX4_resultOf_58 : decode cX4_resultOf 58 = .ok (.iadd, 1) := by decide +kernel
theorem dX4_resultOf_59 : decode cX4_resultOf 59 = .ok (.putfield 79, 3) := by decide +kernel
theorem dX4_resultOf_62 : decode cX4_resultOf 62 = .ok (.aload_n 0, 1) := by decide +kernel
theorem dX4_resultOf_63 : decode cX4_resultOf 63 = .ok (.iload_n 1, 1) := by decide +kernel
theorem dX4_resultOf_64 : decode cX4_resultOf 64 = .ok (.aload_n 2, 1) := by decide +kernel
theorem dX4_resultOf_65 : decode cX4_resultOf 65 = .ok (.invokevirtual 82, 3) := by decide +kernel
theorem dX4_resultOf_68 : decode cX4_resultOf 68 = .ok (.istore 4, 2) := by decide +kernel
theorem dX4_resultOf_70 : decode cX4_resultOf 70 = .ok (.aload_n 0, 1) := by decide +kernel
theorem dX4_resultOf_71 : decode cX4_resultOf 71 = .ok (.getfield 86, 3) := by decide +kernel
theorem dX4_resultOf_74 : decode cX4_resultOf 74 = .ok (.sipush 3072, 3) := by decide +kernel
theorem dX4_resultOf_77 : decode cX4_resultOf 77 = .ok (.if_icmp .ge 42, 3) := by decide +kernel
theorem dX4_resultOf_80 : decode cX4_resultOf 80 = .ok (.aload_n 0, 1) := by decide +kernel
theorem dX4_resultOf_81 : decode cX4_resultOf 81 = .ok (.getfield 19, 3) := by decide +kernel
theorem dX4_resultOf_84 : decode cX4_resultOf 84 = .ok (.iload_n 1, 1) := by decide +kernel
theorem dX4_resultOf_85 : decode cX4_resultOf 85 = .ok (.new 17, 3) := by decide +kernel
theorem dX4_resultOf_88 : decode cX4_resultOf 88 = .ok (.dup, 1) := by decide +kernel
theorem dX4_resultOf_89 : decode cX4_resultOf 89 = .ok (.aload_n 0, 1) := by decide +kernel
theorem dX4_resultOf_90 : decode cX4_resultOf 90 = .ok (.getfield 23, 3) := by decide +kernel
theorem dX4_resultOf_93 : decode cX4_resultOf 93 = .ok (.iload_n 3, 1) := by decide +kernel
theorem dX4_resultOf_94 : decode cX4_resultOf 94 = .ok (.invokestatic 89, 3) := by decide +kernel
theorem dX4_resultOf_97 : decode cX4_resultOf 97 = .ok (.iload 4, 2) := by decide +kernel
theorem dX4_resultOf_99 : decode cX4_resultOf 99 = .ok (.aload_n 0, 1) := by decide +kernel
theorem dX4_resultOf_100 : decode cX4_resultOf 100 = .ok (.getfield 19, 3) := by decide +kernel
theorem dX4_resultOf_103 : decode cX4_resultOf 103 = .ok (.iload_n 1, 1) := by decide +kernel
theorem dX4_resultOf_104 : decode cX4_resultOf 104 = .ok (.aaload, 1) := by decide +kernel
theorem dX4_resultOf_105 : decode cX4_resultOf 105 = .ok (.invokespecial 95, 3) := by decide +kernel
theorem dX4_resultOf_108 : decode cX4_resultOf 108 = .ok (.aastore, 1) := by decide +kernel
theorem dX4_resultOf_109 : decode cX4_resultOf 109 = .ok (.aload_n 0, 1) := by decide +kernel
theorem dX4_resultOf_110 : decode cX4_resultOf 110 = .ok (.dup, 1) := by decide +kernel
theorem dX4_resultOf_111 : decode cX4_resultOf 111 = .ok (.getfield 86, 3) := by decide +kernel
theorem dX4_resultOf_114 : decode cX4_resultOf 114 = .ok (.iconst 1, 1) := by decide +kernel
theorem dX4_resultOf_115 : decode cX4_resultOf 115 = .ok (.iadd, 1) := by decide +kernel
theorem dX4_resultOf_116 : decode cX4_resultOf 116 = .ok (.putfield 86, 3) := by decide +kernel
theorem dX4_resultOf_119 : decode cX4_resultOf 119 = .ok (.iload 4, 2) := by decide +kernel
theorem dX4_resultOf_121 : decode cX4_resultOf 121 = .ok (.ireturn, 1) := by decide +kernel
theorem dJx00060_init_a7421_0 : decode cJx00060_init_a7421 0 = .ok (.aload_n 0, 1) := by decide +kernel
theorem dJx00060_init_a7421_1 : decode cJx00060_init_a7421 1 = .ok (.aload_n 1, 1) := by decide +kernel
theorem dJx00060_init_a7421_2 : decode cJx00060_init_a7421 2 = .ok (.invokespecial 7, 3) := by decide +kernel
theorem dJx00060_init_a7421_5 : decode cJx00060_init_a7421 5 = .ok (.return_, 1) := by decide +kernel
theorem dJ6_bitCount_0f7a4_0 : decode cJ6_bitCount_0f7a4 0 = .ok (.iload_n 0, 1) := by decide +kernel
theorem dJ6_bitCount_0f7a4_1 : decode cJ6_bitCount_0f7a4 1 = .ok (.iload_n 0, 1) := by decide +kernel
theorem dJ6_bitCount_0f7a4_2 : decode cJ6_bitCount_0f7a4 2 = .ok (.iconst 1, 1) := by decide +kernel
theorem dJ6_bitCount_0f7a4_3 : decode cJ6_bitCount_0f7a4 3 = .ok (.iushr, 1) := by decide +kernel
theorem dJ6_bitCount_0f7a4_4 : decode cJ6_bitCount_0f7a4 4 = .ok (.ldc_w 265, 3) := by decide +kernel
theorem dJ6_bitCount_0f7a4_7 : decode cJ6_bitCount_0f7a4 7 = .ok (.iand, 1) := by decide +kernel
theorem dJ6_bitCount_0f7a4_8 : decode cJ6_bitCount_0f7a4 8 = .ok (.isub, 1) := by decide +kernel
theorem dJ6_bitCount_0f7a4_9 : decode cJ6_bitCount_0f7a4 9 = .ok (.istore_n 0, 1) := by decide +kernel
theorem dJ6_bitCount_0f7a4_10 : decode cJ6_bitCount_0f7a4 10 = .ok (.iload_n 0, 1) := by decide +kernel
theorem dJ6_bitCount_0f7a4_11 : decode cJ6_bitCount_0f7a4 11 = .ok (.ldc_w 266, 3) := by decide +kernel
theorem dJ6_bitCount_0f7a4_14 : decode cJ6_bitCount_0f7a4 14 = .ok (.iand, 1) := by decide +kernel
theorem dJ6_bitCount_0f7a4_15 : decode cJ6_bitCount_0f7a4 15 = .ok (.iload_n 0, 1) := by decide +kernel
theorem dJ6_bitCount_0f7a4_16 : decode cJ6_bitCount_0f7a4 16 = .ok (.iconst 2, 1) := by decide +kernel
theorem dJ6_bitCount_0f7a4_17 : decode cJ6_bitCount_0f7a4 17 = .ok (.iushr, 1) := by decide +kernel
theorem dJ6_bitCount_0f7a4_18 : decode cJ6_bitCount_0f7a4 18 = .ok (.ldc_w 266, 3) := by decide +kernel
theorem dJ6_bitCount_0f7a4_21 : decode cJ6_bitCount_0f7a4 21 = .ok (.iand, 1) := by decide +kernel
theorem dJ6_bitCount_0f7a4_22 : decode cJ6_bitCount_0f7a4 22 = .ok (.iadd, 1) := by decide +kernel
theorem dJ6_bitCount_0f7a4_23 : decode cJ6_bitCount_0f7a4 23 = .ok (.istore_n 0, 1) := by decide +kernel
theorem dJ6_bitCount_0f7a4_24 : decode cJ6_bitCount_0f7a4 24 = .ok (.iload_n 0, 1) := by decide +kernel
theorem dJ6_bitCount_0f7a4_25 : decode cJ6_bitCount_0f7a4 25 = .ok (.iload_n 0, 1) := by decide +kernel
theorem dJ6_bitCount_0f7a4_26 : decode cJ6_bitCount_0f7a4 26 = .ok (.iconst 4, 1) := by decide +kernel
theorem dJ6_bitCount_0f7a4_27 : decode cJ6_bitCount_0f7a4 27 = .ok (.iushr, 1) := by decide +kernel
theorem dJ6_bitCount_0f7a4_28 : decode cJ6_bitCount_0f7a4 28 = .ok (.iadd, 1) := by decide +kernel
theorem dJ6_bitCount_0f7a4_29 : decode cJ6_bitCount_0f7a4 29 = .ok (.ldc_w 267, 3) := by decide +kernel
theorem dJ6_bitCount_0f7a4_32 : decode cJ6_bitCount_0f7a4 32 = .ok (.iand, 1) := by decide +kernel
theorem dJ6_bitCount_0f7a4_33 : decode cJ6_bitCount_0f7a4 33 = .ok (.istore_n 0, 1) := by decide +kernel
theorem dJ6_bitCount_0f7a4_34 : decode cJ6_bitCount_0f7a4 34 = .ok (.iload_n 0, 1) := by decide +kernel
theorem dJ6_bitCount_0f7a4_35 : decode cJ6_bitCount_0f7a4 35 = .ok (.iload_n 0, 1) := by decide +kernel
theorem dJ6_bitCount_0f7a4_36 : decode cJ6_bitCount_0f7a4 36 = .ok (.bipush 8, 2) := by decide +kernel
theorem dJ6_bitCount_0f7a4_38 : decode cJ6_bitCount_0f7a4 38 = .ok (.iushr, 1) := by decide +kernel
theorem dJ6_bitCount_0f7a4_39 : decode cJ6_bitCount_0f7a4 39 = .ok (.iadd, 1) := by decide +kernel
theorem dJ6_bitCount_0f7a4_40 : decode cJ6_bitCount_0f7a4 40 = .ok (.istore_n 0, 1) := by decide +kernel
theorem dJ6_bitCount_0f7a4_41 : decode cJ6_bitCount_0f7a4 41 = .ok (.iload_n 0, 1) := by decide +kernel
theorem dJ6_bitCount_0f7a4_42 : decode cJ6_bitCount_0f7a4 42 = .ok (.iload_n 0, 1) := by decide +kernel
theorem dJ6_bitCount_0f7a4_43 : decode cJ6_bitCount_0f7a4 43 = .ok (.bipush 16, 2) := by decide +kernel
theorem dJ6_bitCount_0f7a4_45 : decode cJ6_bitCount_0f7a4 45 = .ok (.iushr, 1) := by decide +kernel
theorem dJ6_bitCount_0f7a4_46 : decode cJ6_bitCount_0f7a4 46 = .ok (.iadd, 1) := by decide +kernel
theorem dJ6_bitCount_0f7a4_47 : decode cJ6_bitCount_0f7a4 47 = .ok (.istore_n 0, 1) := by decide +kernel
theorem dJ6_bitCount_0f7a4_48 : decode cJ6_bitCount_0f7a4 48 = .ok (.iload_n 0, 1) := by decide +kernel
theorem dJ6_bitCount_0f7a4_49 : decode cJ6_bitCount_0f7a4 49 = .ok (.bipush 63, 2) := by decide +kernel
theorem dJ6_bitCount_0f7a4_51 : decode cJ6_bitCount_0f7a4 51 = .ok (.iand, 1) := by decide +kernel
theorem dJ6_bitCount_0f7a4_52 : decode cJ6_bitCount_0f7a4 52 = .ok (.ireturn, 1) := by decide +kernel
theorem dJ13_bitCount_95d88_0 : decode cJ13_bitCount_95d88 0 = .ok (.lload_n 0, 1) := by decide +kernel
theorem dJ13_bitCount_95d88_1 : decode cJ13_bitCount_95d88 1 = .ok (.lload_n 0, 1) := by decide +kernel
theorem dJ13_bitCount_95d88_2 : decode cJ13_bitCount_95d88 2 = .ok (.iconst 1, 1) := by decide +kernel
theorem dJ13_bitCount_95d88_3 : decode cJ13_bitCount_95d88 3 = .ok (.lushr, 1) := by decide +kernel
theorem dJ13_bitCount_95d88_4 : decode cJ13_bitCount_95d88 4 = .ok (.ldc2_w 314, 3) := by decide +kernel
theorem dJ13_bitCount_95d88_7 : decode cJ13_bitCount_95d88 7 = .ok (.land, 1) := by decide +kernel
theorem dJ13_bitCount_95d88_8 : decode cJ13_bitCount_95d88 8 = .ok (.lsub, 1) := by decide +kernel
theorem dJ13_bitCount_95d88_9 : decode cJ13_bitCount_95d88 9 = .ok (.lstore_n 0, 1) := by decide +kernel
theorem dJ13_bitCount_95d88_10 : decode cJ13_bitCount_95d88 10 = .ok (.lload_n 0, 1) := by decide +kernel
theorem dJ13_bitCount_95d88_11 : decode cJ13_bitCount_95d88 11 = .ok (.ldc2_w 316, 3) := by decide +kernel
theorem dJ13_bitCount_95d88_14 : decode cJ13_bitCount_95d88 14 = .ok (.land, 1) := by decide +kernel
theorem dJ13_bitCount_95d88_15 : decode cJ13_bitCount_95d88 15 = .ok (.lload_n 0, 1) := by decide +kernel
theorem dJ13_bitCount_95d88_16 : decode cJ13_bitCount_95d88 16 = .ok (.iconst 2, 1) := by decide +kernel
theorem dJ13_bitCount_95d88_17 : decode cJ13_bitCount_95d88 17 = .ok (.lushr, 1) := by decide +kernel
theorem dJ13_bitCount_95d88_18 : decode cJ13_bitCount_95d88 18 = .ok (.ldc2_w 316, 3) := by decide +kernel
theorem dJ13_bitCount_95d88_21 : decode cJ13_bitCount_95d88 21 = .ok (.land, 1) := by decide +kernel
theorem dJ13_bitCount_95d88_22 : decode cJ13_bitCount_95d88 22 = .ok (.ladd, 1) := by decide +kernel
theorem dJ13_bitCount_95d88_23 : decode cJ13_bitCount_95d88 23 = .ok (.lstore_n 0, 1) := by decide +kernel
theorem dJ13_bitCount_95d88_24 : decode cJ13_bitCount_95d88 24 = .ok (.lload_n 0, 1) := by decide +kernel
theorem dJ13_bitCount_95d88_25 : decode cJ13_bitCount_95d88 25 = .ok (.lload_n 0, 1) := by decide +kernel
theorem dJ13_bitCount_95d88_26 : decode cJ13_bitCount_95d88 26 = .ok (.iconst 4, 1) := by decide +kernel
theorem dJ13_bitCount_95d88_27 : decode cJ13_bitCount_95d88 27 = .ok (.lushr, 1) := by decide +kernel
theorem dJ13_bitCount_95d88_28 : decode cJ13_bitCount_95d88 28 = .ok (.ladd, 1) := by decide +kernel
theorem dJ13_bitCount_95d88_29 : decode cJ13_bitCount_95d88 29 = .ok (.ldc2_w 318, 3) := by decide +kernel
theorem dJ13_bitCount_95d88_32 : decode cJ13_bitCount_95d88 32 = .ok (.land, 1) := by decide +kernel
theorem dJ13_bitCount_95d88_33 : decode cJ13_bitCount_95d88 33 = .ok (.lstore_n 0, 1) := by decide +kernel
theorem dJ13_bitCount_95d88_34 : decode cJ13_bitCount_95d88 34 = .ok (.lload_n 0, 1) := by decide +kernel
theorem dJ13_bitCount_95d88_35 : decode cJ13_bitCount_95d88 35 = .ok (.lload_n 0, 1) := by decide +kernel
theorem dJ13_bitCount_95d88_36 : decode cJ13_bitCount_95d88 36 = .ok (.bipush 8, 2) := by decide +kernel
theorem dJ13_bitCount_95d88_38 : decode cJ13_bitCount_95d88 38 = .ok (.lushr, 1) := by decide +kernel
theorem dJ13_bitCount_95d88_39 : decode cJ13_bitCount_95d88 39 = .ok (.ladd, 1) := by decide +kernel
theorem dJ13_bitCount_95d88_40 : decode cJ13_bitCount_95d88 40 = .ok (.lstore_n 0, 1) := by decide +kernel
theorem dJ13_bitCount_95d88_41 : decode cJ13_bitCount_95d88 41 = .ok (.lload_n 0, 1) := by decide +kernel
theorem dJ13_bitCount_95d88_42 : decode cJ13_bitCount_95d88 42 = .ok (.lload_n 0, 1) := by decide +kernel
theorem dJ13_bitCount_95d88_43 : decode cJ13_bitCount_95d88 43 = .ok (.bipush 16, 2) := by decide +kernel
theorem dJ13_bitCount_95d88_45 : decode cJ13_bitCount_95d88 45 = .ok (.lushr, 1) := by decide +kernel
theorem dJ13_bitCount_95d88_46 : decode cJ13_bitCount_95d88 46 = .ok (.ladd, 1) := by decide +kernel
theorem dJ13_bitCount_95d88_47 : decode cJ13_bitCount_95d88 47 = .ok (.lstore_n 0, 1) := by decide +kernel
theorem dJ13_bitCount_95d88_48 : decode cJ13_bitCount_95d88 48 = .ok (.lload_n 0, 1) := by decide +kernel
theorem dJ13_bitCount_95d88_49 : decode cJ13_bitCount_95d88 49 = .ok (.lload_n 0, 1) := by decide +kernel
theorem dJ13_bitCount_95d88_50 : decode cJ13_bitCount_95d88 50 = .ok (.bipush 32, 2) := by decide +kernel
theorem dJ13_bitCount_95d88_52 : decode cJ13_bitCount_95d88 52 = .ok (.lushr, 1) := by decide +kernel
theorem dJ13_bitCount_95d88_53 : decode cJ13_bitCount_95d88 53 = .ok (.ladd, 1) := by decide +kernel
theorem dJ13_bitCount_95d88_54 : decode cJ13_bitCount_95d88 54 = .ok (.lstore_n 0, 1) := by decide +kernel
theorem dJ13_bitCount_95d88_55 : decode cJ13_bitCount_95d88 55 = .ok (.lload_n 0, 1) := by decide +kernel
theorem dJ13_bitCount_95d88_56 : decode cJ13_bitCount_95d88 56 = .ok (.l2i, 1) := by decide +kernel
theorem dJ13_bitCount_95d88_57 : decode cJ13_bitCount_95d88 57 = .ok (.bipush 127, 2) := by decide +kernel
theorem dJ13_bitCount_95d88_59 : decode cJ13_bitCount_95d88 59 = .ok (.iand, 1) := by decide +kernel
theorem dJ13_bitCount_95d88_60 : decode cJ13_bitCount_95d88 60 = .ok (.ireturn, 1) := by decide +kernel
theorem dJ9_max_7cf53_0 : decode cJ9_max_7cf53 0 = .ok (.iload_n 0, 1) := by decide +kernel
theorem dJ9_max_7cf53_1 : decode cJ9_max_7cf53 1 = .ok (.iload_n 1, 1) := by decide +kernel
theorem dJ9_max_7cf53_2 : decode cJ9_max_7cf53 2 = .ok (.if_icmp .lt 7, 3) := by decide +kernel
theorem dJ9_max_7cf53_5 : decode cJ9_max_7cf53 5 = .ok (.iload_n 0, 1) := by decide +kernel
theorem dJ9_max_7cf53_6 : decode cJ9_max_7cf53 6 = .ok (.goto 4, 3) := by decide +kernel
theorem dJ9_max_7cf53_9 : decode cJ9_max_7cf53 9 = .ok (.iload_n 1, 1) := by decide +kernel
theorem dJ9_max_7cf53_10 : decode cJ9_max_7cf53 10 = .ok (.ireturn, 1) := by decide +kernel
theorem dJ9_min_7cf53_0 : decode cJ9_min_7cf53 0 = .ok (.iload_n 0, 1) := by decide +kernel
theorem dJ9_min_7cf53_1 : decode cJ9_min_7cf53 1 = .ok (.iload_n 1, 1) := by decide +kernel
theorem dJ9_min_7cf53_2 : decode cJ9_min_7cf53 2 = .ok (.if_icmp .gt 7, 3) := by decide +kernel
theorem dJ9_min_7cf53_5 : decode cJ9_min_7cf53 5 = .ok (.iload_n 0, 1) := by decide +kernel
theorem dJ9_min_7cf53_6 : decode cJ9_min_7cf53 6 = .ok (.goto 4, 3) := by decide +kernel
theorem dJ9_min_7cf53_9 : decode cJ9_min_7cf53 9 = .ok (.iload_n 1, 1) := by decide +kernel
theorem dJ9_min_7cf53_10 : decode cJ9_min_7cf53 10 = .ok (.ireturn, 1) := by decide +kernel
theorem dJxa1e45_init_da8c8_0 : decode cJxa1e45_init_da8c8 0 = .ok (.aload_n 0, 1) := by decide +kernel
theorem dJxa1e45_init_da8c8_1 : decode cJxa1e45_init_da8c8 1 = .ok (.invokespecial 1, 3) := by decide +kernel
theorem dJxa1e45_init_da8c8_4 : decode cJxa1e45_init_da8c8 4 = .ok (.return_, 1) := by decide +kernel
theorem dJxc12de_init_da8c8_0 : decode cJxc12de_init_da8c8 0 = .ok (.aload_n 0, 1) := by decide +kernel
theorem dJxc12de_init_da8c8_1 : decode cJxc12de_init_da8c8 1 = .ok (.invokespecial 1, 3) := by decide +kernel
theorem dJxc12de_init_da8c8_4 : decode cJxc12de_init_da8c8 4 = .ok (.aload_n 0, 1) := by decide +kernel
theorem dJxc12de_init_da8c8_5 : decode cJxc12de_init_da8c8 5 = .ok (.iconst 0, 1) := by decide +kernel
theorem dJxc12de_init_da8c8_6 : decode cJxc12de_init_da8c8 6 = .ok (.putfield 7, 3) := by decide +kernel
theorem dJxc12de_init_da8c8_9 : decode cJxc12de_init_da8c8 9 = .ok (.return_, 1) := by decide +kernel
theorem dJx35411_init_45d68_0 : decode cJx35411_init_45d68 0 = .ok (.aload_n 0, 1) := by decide +kernel
theorem dJx35411_init_45d68_1 : decode cJx35411_init_45d68 1 = .ok (.aload_n 1, 1) := by decide +kernel
theorem dJx35411_init_45d68_2 : decode cJx35411_init_45d68 2 = .ok (.putfield 1, 3) := by decide +kernel
theorem dJx35411_init_45d68_5 : decode cJx35411_init_45d68 5 = .ok (.aload_n 0, 1) := by decide +kernel
theorem dJx35411_init_45d68_6 : decode cJx35411_init_45d68 6 = .ok (.invokespecial 7, 3) := by decide +kernel
theorem dJx35411_init_45d68_9 : decode cJx35411_init_45d68 9 = .ok (.aload_n 0, 1) := by decide +kernel
theorem dJx35411_init_45d68_10 : decode cJx35411_init_45d68 10 = .ok (.iconst (-1), 1) := by decide +kernel
theorem dJx35411_init_45d68_11 : decode cJx35411_init_45d68 11 = .ok (.putfield 13, 3) := by decide +kernel
theorem dJx35411_init_45d68_14 : decode cJx35411_init_45d68 14 = .ok (.aload_n 0, 1) := by decide +kernel
theorem dJx35411_init_45d68_15 : decode cJx35411_init_45d68 15 = .ok (.aload_n 0, 1) := by decide +kernel
theorem dJx35411_init_45d68_16 : decode cJx35411_init_45d68 16 = .ok (.getfield 1, 3) := by decide +kernel
theorem dJx35411_init_45d68_19 : decode cJx35411_init_45d68 19 = .ok (.getfield 17, 3) := by decide +kernel
theorem dJx35411_init_45d68_22 : decode cJx35411_init_45d68 22 = .ok (.putfield 22, 3) := by decide +kernel
theorem dJx35411_init_45d68_25 : decode cJx35411_init_45d68 25 = .ok (.return_, 1) := by decide +kernel
theorem dJx35411_hasNext_aae02_0 : decode cJx35411_hasNext_aae02 0 = .ok (.aload_n 0, 1) := by decide +kernel
theorem dJx35411_hasNext_aae02_1 : decode cJx35411_hasNext_aae02 1 = .ok (.getfield 25, 3) := by decide +kernel
theorem dJx35411_hasNext_aae02_4 : decode cJx35411_hasNext_aae02 4 = .ok (.aload_n 0, 1) := by decide +kernel
theorem dJx35411_hasNext_aae02_5 : decode cJx35411_hasNext_aae02 5 = .ok (.getfield 1, 3) := by decide +kernel
theorem dJx35411_hasNext_aae02_8 : decode cJx35411_hasNext_aae02 8 = .ok (.getfield 28, 3) := by decide +kernel
theorem dJx35411_hasNext_aae02_11 : decode cJx35411_hasNext_aae02 11 = .ok (.if_icmp .eq 7, 3) := by decide +kernel
theorem dJx35411_hasNext_aae02_14 : decode cJx35411_hasNext_aae02 14 = .ok (.iconst 1, 1) := by decide +kernel
theorem dJx35411_hasNext_aae02_15 : decode cJx35411_hasNext_aae02 15 = .ok (.goto 4, 3) := by decide +kernel
theorem dJx35411_hasNext_aae02_18 : decode cJx35411_hasNext_aae02 18 = .ok (.iconst 0, 1) := by decide +kernel
theorem dJx35411_hasNext_aae02_19 : decode cJx35411_hasNext_aae02 19 = .ok (.ireturn, 1) := by decide +kernel
theorem dJx35411_next_0502b_0 : decode cJx35411_next_0502b 0 = .ok (.aload_n 0, 1) := by decide +kernel
theorem dJx35411_next_0502b_1 : decode cJx35411_next_0502b 1 = .ok (.invokevirtual 31, 3) := by decide +kernel
theorem dJx35411_next_0502b_4 : decode cJx35411_next_0502b 4 = .ok (.aload_n 0, 1) := by decide +kernel
theorem dJx35411_next_0502b_5 : decode cJx35411_next_0502b 5 = .ok (.getfield 25, 3) := by decide +kernel
theorem dJx35411_next_0502b_8 : decode cJx35411_next_0502b 8 = .ok (.istore_n 1, 1) := by decide +kernel
theorem dJx35411_next_0502b_9 : decode cJx35411_next_0502b 9 = .ok (.iload_n 1, 1) := by decide +kernel
theorem dJx35411_next_0502b_10 : decode cJx35411_next_0502b 10 = .ok (.aload_n 0, 1) := by decide +kernel
theorem dJx35411_next_0502b_11 : decode cJx35411_next_0502b 11 = .ok (.getfield 1, 3) := by decide +kernel
theorem dJx35411_next_0502b_14 : decode cJx35411_next_0502b 14 = .ok (.getfield 28, 3) := by decide +kernel
theorem dJx35411_next_0502b_17 : decode cJx35411_next_0502b 17 = .ok (.if_icmp .lt 11, 3) := by decide +kernel
theorem dJx35411_next_0502b_20 : decode cJx35411_next_0502b 20 = .ok (.new 34, 3) := by decide +kernel
theorem dJx35411_next_0502b_23 : decode cJx35411_next_0502b 23 = .ok (.dup, 1) := by decide +kernel
theorem dJx35411_next_0502b_24 : decode cJx35411_next_0502b 24 = .ok (.invokespecial 36, 3) := by decide +kernel
theorem dJx35411_next_0502b_27 : decode cJx35411_next_0502b 27 = .ok (.athrow, 1) := by decide +kernel
theorem dJx35411_next_0502b_28 : decode cJx35411_next_0502b 28 = .ok (.aload_n 0, 1) := by decide +kernel
theorem dJx35411_next_0502b_29 : decode cJx35411_next_0502b 29 = .ok (.getfield 1, 3) := by decide +kernel
theorem dJx35411_next_0502b_32 : decode cJx35411_next_0502b 32 = .ok (.getfield 37, 3) := by decide +kernel
theorem dJx35411_next_0502b_35 : decode cJx35411_next_0502b 35 = .ok (.astore_n 2, 1) := by decide +kernel
theorem dJx35411_next_0502b_36 : decode cJx35411_next_0502b 36 = .ok (.iload_n 1, 1) := by decide +kernel
theorem dJx35411_next_0502b_37 : decode cJx35411_next_0502b 37 = .ok (.aload_n 2, 1) := by decide +kernel
theorem dJx35411_next_0502b_38 : decode cJx35411_next_0502b 38 = .ok (.arraylength, 1) := by decide +kernel
theorem dJx35411_next_0502b_39 : decode cJx35411_next_0502b 39 = .ok (.if_icmp .lt 11, 3) := by decide +kernel
theorem dJx35411_next_0502b_42 : decode cJx35411_next_0502b 42 = .ok (.new 41, 3) := by decide +kernel
theorem dJx35411_next_0502b_45 : decode cJx35411_next_0502b 45 = .ok (.dup, 1) := by decide +kernel
theorem dJx35411_next_0502b_46 : decode cJx35411_next_0502b 46 = .ok (.invokespecial 43, 3) := by decide +kernel
theorem dJx35411_next_0502b_49 : decode cJx35411_next_0502b 49 = .ok (.athrow, 1) := by decide +kernel
theorem dJx35411_next_0502b_50 : decode cJx35411_next_0502b 50 = .ok (.aload_n 0, 1) := by decide +kernel
theorem dJx35411_next_0502b_51 : decode cJx35411_next_0502b 51 = .ok (.iload_n 1, 1) := by decide +kernel
theorem dJx35411_next_0502b_52 : decode cJx35411_next_0502b 52 = .ok (.iconst 1, 1) := by decide +kernel
theorem dJx35411_next_0502b_53 : decode cJx35411_next_0502b 53 = .ok (.iadd, 1) := by decide +kernel
theorem dJx35411_next_0502b_54 : decode cJx35411_next_0502b 54 = .ok (.putfield 25, 3) := by decide +kernel
theorem dJx35411_next_0502b_57 : decode cJx35411_next_0502b 57 = .ok (.aload_n 2, 1) := by decide +kernel
theorem dJx35411_next_0502b_58 : decode cJx35411_next_0502b 58 = .ok (.aload_n 0, 1) := by decide +kernel
theorem dJx35411_next_0502b_59 : decode cJx35411_next_0502b 59 = .ok (.iload_n 1, 1) := by decide +kernel
theorem dJx35411_next_0502b_60 : decode cJx35411_next_0502b 60 = .ok (.dup_x1, 1) := by decide +kernel
theorem dJx35411_next_0502b_61 : decode cJx35411_next_0502b 61 = .ok (.putfield 13, 3) := by decide +kernel
theorem dJx35411_next_0502b_64 : decode cJx35411_next_0502b 64 = .ok (.aaload, 1) := by decide +kernel
theorem dJx35411_next_0502b_65 : decode cJx35411_next_0502b 65 = .ok (.areturn, 1) := by decide +kernel
theorem dJx35411_checkForComodification_da8c8_0 : decode cJx35411_checkForComodification_da8c8 0 = .ok (.aload_n 0, 1) := by decide +kernel
theorem dJx35411_checkForComodification_da8c8_1 : decode cJx35411_checkForComodification_da8c8 1 = .ok (.getfield 1, 3) := by decide +kernel
theorem dJx35411_checkForComodification_da8c8_4 : decode cJx35411_checkForComodification_da8c8 4 = .ok (.getfield 17, 3) := by decide +kernel
theorem dJx35411_checkForComodification_da8c8_7 : decode cJx35411_checkForComodification_da8c8 7 = .ok (.aload_n 0, 1) := by decide +kernel
theorem dJx35411_checkForComodification_da8c8_8 : decode cJx35411_checkForComodification_da8c8 8 = .ok (.getfield 22, 3) := by decide +kernel
theorem dJx35411_checkForComodification_da8c8_11 : decode cJx35411_checkForComodification_da8c8 11 = .ok (.if_icmp .eq 11, 3) := by decide +kernel
theorem dJx35411_checkForComodification_da8c8_14 : decode cJx35411_checkForComodification_da8c8 14 = .ok (.new 41, 3) := by decide +kernel
theorem dJx35411_checkForComodification_da8c8_17 : decode cJx35411_checkForComodification_da8c8 17 = .ok (.dup, 1) := by decide +kernel
theorem dJx35411_checkForComodification_da8c8_18 : decode cJx35411_checkForComodification_da8c8 18 = .ok (.invokespecial 43, 3) := by decide +kernel
theorem dJx35411_checkForComodification_da8c8_21 : decode cJx35411_checkForComodification_da8c8 21 = .ok (.athrow, 1) := by decide +kernel
theorem dJx35411_checkForComodification_da8c8_22 : decode cJx35411_checkForComodification_da8c8 22 = .ok (.return_, 1) := by decide +kernel
theorem dJx4a65c_init_da8c8_0 : decode cJx4a65c_init_da8c8 0 = .ok (.aload_n 0, 1) := by decide +kernel
theorem dJx4a65c_init_da8c8_1 : decode cJx4a65c_init_da8c8 1 = .ok (.invokespecial 1, 3) := by decide +kernel
theorem dJx4a65c_init_da8c8_4 : decode cJx4a65c_init_da8c8 4 = .ok (.aload_n 0, 1) := by decide +kernel
theorem dJx4a65c_init_da8c8_5 : decode cJx4a65c_init_da8c8 5 = .ok (.getstatic 39, 3) := by decide +kernel
theorem dJx4a65c_init_da8c8_8 : decode cJx4a65c_init_da8c8 8 = .ok (.putfield 9, 3) := by decide +kernel
theorem dJx4a65c_init_da8c8_11 : decode cJx4a65c_init_da8c8 11 = .ok (.return_, 1) := by decide +kernel
theorem dJx4a65c_grow_92f84_0 : decode cJx4a65c_grow_92f84 0 = .ok (.aload_n 0, 1) := by decide +kernel
theorem dJx4a65c_grow_92f84_1 : decode cJx4a65c_grow_92f84 1 = .ok (.getfield 9, 3) := by decide +kernel
theorem dJx4a65c_grow_92f84_4 : decode cJx4a65c_grow_92f84 4 = .ok (.arraylength, 1) := by decide +kernel
theorem dJx4a65c_grow_92f84_5 : decode cJx4a65c_grow_92f84 5 = .ok (.istore_n 2, 1) := by decide +kernel
theorem dJx4a65c_grow_92f84_6 : decode cJx4a65c_grow_92f84 6 = .ok (.iload_n 2, 1) := by decide +kernel
theorem dJx4a65c_grow_92f84_7 : decode cJx4a65c_grow_92f84 7 = .ok (.ifCond .gt 13, 3) := by decide +kernel
theorem dJx4a65c_grow_92f84_10 : decode cJx4a65c_grow_92f84 10 = .ok (.aload_n 0, 1) := by decide +kernel
theorem dJx4a65c_grow_92f84_11 : decode cJx4a65c_grow_92f84 11 = .ok (.getfield 9, 3) := by decide +kernel
theorem dJx4a65c_grow_92f84_14 : decode cJx4a65c_grow_92f84 14 = .ok (.getstatic 39, 3) := by decide +kernel
theorem dJx4a65c_grow_92f84_17 : decode cJx4a65c_grow_92f84 17 = .ok (.if_acmp .eq 28, 3) := by decide +kernel
theorem dJx4a65c_grow_92f84_20 : decode cJx4a65c_grow_92f84 20 = .ok (.iload_n 2, 1) := by decide +kernel
theorem dJx4a65c_grow_92f84_21 : decode cJx4a65c_grow_92f84 21 = .ok (.iload_n 1, 1) := by decide +kernel
theorem dJx4a65c_grow_92f84_22 : decode cJx4a65c_grow_92f84 22 = .ok (.iload_n 2, 1) := by decide +kernel
theorem dJx4a65c_grow_92f84_23 : decode cJx4a65c_grow_92f84 23 = .ok (.isub, 1) := by decide +kernel
theorem dJx4a65c_grow_92f84_24 : decode cJx4a65c_grow_92f84 24 = .ok (.iload_n 2, 1) := by decide +kernel
theorem dJx4a65c_grow_92f84_25 : decode cJx4a65c_grow_92f84 25 = .ok (.iconst 1, 1) := by decide +kernel
theorem dJx4a65c_grow_92f84_26 : decode cJx4a65c_grow_92f84 26 = .ok (.ishr, 1) := by decide +kernel
theorem dJx4a65c_grow_92f84_27 : decode cJx4a65c_grow_92f84 27 = .ok (.invokestatic 73, 3) := by decide +kernel
theorem dJx4a65c_grow_92f84_30 : decode cJx4a65c_grow_92f84 30 = .ok (.istore_n 3, 1) := by decide +kernel
theorem dJx4a65c_grow_92f84_31 : decode cJx4a65c_grow_92f84 31 = .ok (.aload_n 0, 1) := by decide +kernel
theorem dJx4a65c_grow_92f84_32 : decode cJx4a65c_grow_92f84 32 = .ok (.aload_n 0, 1) := by decide +kernel
theorem dJx4a65c_grow_92f84_33 : decode cJx4a65c_grow_92f84 33 = .ok (.getfield 9, 3) := by decide +kernel
theorem dJx4a65c_grow_92f84_36 : decode cJx4a65c_grow_92f84 36 = .ok (.iload_n 3, 1) := by decide +kernel
theorem dJx4a65c_grow_92f84_37 : decode cJx4a65c_grow_92f84 37 = .ok (.invokestatic 66, 3) := by decide +kernel
theorem dJx4a65c_grow_92f84_40 : decode cJx4a65c_grow_92f84 40 = .ok (.dup_x1, 1) := by decide +kernel
theorem dJx4a65c_grow_92f84_41 : decode cJx4a65c_grow_92f84 41 = .ok (.putfield 9, 3) := by decide +kernel
theorem dJx4a65c_grow_92f84_44 : decode cJx4a65c_grow_92f84 44 = .ok (.areturn, 1) := by decide +kernel
theorem dJx4a65c_grow_92f84_45 : decode cJx4a65c_grow_92f84 45 = .ok (.aload_n 0, 1) := by decide +kernel
theorem dJx4a65c_grow_92f84_46 : decode cJx4a65c_grow_92f84 46 = .ok (.bipush 10, 2) := by decide +kernel
theorem dJx4a65c_grow_92f84_48 : decode cJx4a65c_grow_92f84 48 = .ok (.iload_n 1, 1) := by decide +kernel
theorem dJx4a65c_grow_92f84_49 : decode cJx4a65c_grow_92f84 49 = .ok (.invokestatic 79, 3) := by decide +kernel
theorem dJx4a65c_grow_92f84_52 : decode cJx4a65c_grow_92f84 52 = .ok (.anewarray 7, 3) := by decide +kernel
theorem dJx4a65c_grow_92f84_55 : decode cJx4a65c_grow_92f84 55 = .ok (.dup_x1, 1) := by decide +kernel
theorem dJx4a65c_grow_92f84_56 : decode cJx4a65c_grow_92f84 56 = .ok (.putfield 9, 3) := by decide +kernel
theorem dJx4a65c_grow_92f84_59 : decode cJx4a65c_grow_92f84 59 = .ok (.areturn, 1) := by decide +kernel
theorem dJx4a65c_grow_d5877_0 : decode cJx4a65c_grow_d5877 0 = .ok (.aload_n 0, 1) := by decide +kernel
theorem dJx4a65c_grow_d5877_1 : decode cJx4a65c_grow_d5877 1 = .ok (.aload_n 0, 1) := by decide +kernel
theorem dJx4a65c_grow_d5877_2 : decode cJx4a65c_grow_d5877 2 = .ok (.getfield 48, 3) := by decide +kernel
theorem dJx4a65c_grow_d5877_5 : decode cJx4a65c_grow_d5877 5 = .ok (.iconst 1, 1) := by decide +kernel
theorem dJx4a65c_grow_d5877_6 : decode cJx4a65c_grow_d5877 6 = .ok (.iadd, 1) := by decide +kernel
theorem dJx4a65c_grow_d5877_7 : decode cJx4a65c_grow_d5877 7 = .ok (.invokevirtual 69, 3) := by decide +kernel
theorem dJx4a65c_grow_d5877_10 : decode cJx4a65c_grow_d5877 10 = .ok (.areturn, 1) := by decide +kernel
theorem dJx4a65c_add_72be8_0 : decode cJx4a65c_add_72be8 0 = .ok (.iload_n 3, 1) := by decide +kernel
theorem dJx4a65c_add_72be8_1 : decode cJx4a65c_add_72be8 1 = .ok (.aload_n 2, 1) := by decide +kernel
theorem dJx4a65c_add_72be8_2 : decode cJx4a65c_add_72be8 2 = .ok (.arraylength, 1) := by decide +kernel
theorem dJx4a65c_add_72be8_3 : decode cJx4a65c_add_72be8 3 = .ok (.if_icmp .ne 8, 3) := by decide +kernel
theorem dJx4a65c_add_72be8_6 : decode cJx4a65c_add_72be8 6 = .ok (.aload_n 0, 1) := by decide +kernel
theorem dJx4a65c_add_72be8_7 : decode cJx4a65c_add_72be8 7 = .ok (.invokevirtual 129, 3) := by decide +kernel
theorem dJx4a65c_add_72be8_10 : decode cJx4a65c_add_72be8 10 = .ok (.astore_n 2, 1) := by decide +kernel
theorem dJx4a65c_add_72be8_11 : decode cJx4a65c_add_72be8 11 = .ok (.aload_n 2, 1) := by decide +kernel
theorem dJx4a65c_add_72be8_12 : decode cJx4a65c_add_72be8 12 = .ok (.iload_n 3, 1) := by decide +kernel
theorem dJx4a65c_add_72be8_13 : decode cJx4a65c_add_72be8 13 = .ok (.aload_n 1, 1) := by decide +kernel
theorem dJx4a65c_add_72be8_14 : decode cJx4a65c_add_72be8 14 = .ok (.aastore, 1) := by decide +kernel
theorem dJx4a65c_add_72be8_15 : decode cJx4a65c_add_72be8 15 = .ok (.aload_n 0, 1) := by decide +kernel
theorem dJx4a65c_add_72be8_16 : decode cJx4a65c_add_72be8 16 = .ok (.iload_n 3, 1) := by decide +kernel
theorem dJx4a65c_add_72be8_17 : decode cJx4a65c_add_72be8 17 = .ok (.iconst 1, 1) := by decide +kernel
theorem dJx4a65c_add_72be8_18 : decode cJx4a65c_add_72be8 18 = .ok (.iadd, 1) := by decide +kernel
theorem dJx4a65c_add_72be8_19 : decode cJx4a65c_add_72be8 19 = .ok (.putfield 48, 3) := by decide +kernel
theorem dJx4a65c_add_72be8_22 : decode cJx4a65c_add_72be8 22 = .ok (.return_, 1) := by decide +kernel
theorem dJx4a65c_add_9ea2d_0 : decode cJx4a65c_add_9ea2d 0 = .ok (.aload_n 0, 1) := by decide +kernel
theorem dJx4a65c_add_9ea2d_1 : decode cJx4a65c_add_9ea2d 1 = .ok (.dup, 1) := by decide +kernel
theorem dJx4a65c_add_9ea2d_2 : decode cJx4a65c_add_9ea2d 2 = .ok (.getfield 63, 3) := by decide +kernel
theorem dJx4a65c_add_9ea2d_5 : decode cJx4a65c_add_9ea2d 5 = .ok (.iconst 1, 1) := by decide +kernel
theorem dJx4a65c_add_9ea2d_6 : decode cJx4a65c_add_9ea2d 6 = .ok (.iadd, 1) := by decide +kernel
theorem dJx4a65c_add_9ea2d_7 : decode cJx4a65c_add_9ea2d 7 = .ok (.putfield 63, 3) := by decide +kernel
theorem dJx4a65c_add_9ea2d_10 : decode cJx4a65c_add_9ea2d 10 = .ok (.aload_n 0, 1) := by decide +kernel
theorem dJx4a65c_add_9ea2d_11 : decode cJx4a65c_add_9ea2d 11 = .ok (.aload_n 1, 1) := by decide +kernel
theorem dJx4a65c_add_9ea2d_12 : decode cJx4a65c_add_9ea2d 12 = .ok (.aload_n 0, 1) := by decide +kernel
theorem dJx4a65c_add_9ea2d_13 : decode cJx4a65c_add_9ea2d 13 = .ok (.getfield 9, 3) := by decide +kernel
theorem dJx4a65c_add_9ea2d_16 : decode cJx4a65c_add_9ea2d 16 = .ok (.aload_n 0, 1) := by decide +kernel
theorem dJx4a65c_add_9ea2d_17 : decode cJx4a65c_add_9ea2d 17 = .ok (.getfield 48, 3) := by decide +kernel
theorem dJx4a65c_add_9ea2d_20 : decode cJx4a65c_add_9ea2d 20 = .ok (.invokevirtual 131, 3) := by decide +kernel
theorem dJx4a65c_add_9ea2d_23 : decode cJx4a65c_add_9ea2d 23 = .ok (.iconst 1, 1) := by decide +kernel
theorem dJx4a65c_add_9ea2d_24 : decode cJx4a65c_add_9ea2d 24 = .ok (.ireturn, 1) := by decide +kernel
theorem dJx4a65c_clear_da8c8_0 : decode cJx4a65c_clear_da8c8 0 = .ok (.aload_n 0, 1) := by decide +kernel
theorem dJx4a65c_clear_da8c8_1 : decode cJx4a65c_clear_da8c8 1 = .ok (.dup, 1) := by decide +kernel
theorem dJx4a65c_clear_da8c8_2 : decode cJx4a65c_clear_da8c8 2 = .ok (.getfield 63, 3) := by decide +kernel
theorem dJx4a65c_clear_da8c8_5 : decode cJx4a65c_clear_da8c8 5 = .ok (.iconst 1, 1) := by decide +kernel
theorem dJx4a65c_clear_da8c8_6 : decode cJx4a65c_clear_da8c8 6 = .ok (.iadd, 1) := by decide +kernel
theorem dJx4a65c_clear_da8c8_7 : decode cJx4a65c_clear_da8c8 7 = .ok (.putfield 63, 3) := by decide +kernel
theorem dJx4a65c_clear_da8c8_10 : decode cJx4a65c_clear_da8c8 10 = .ok (.aload_n 0, 1) := by decide +kernel
theorem dJx4a65c_clear_da8c8_11 : decode cJx4a65c_clear_da8c8 11 = .ok (.getfield 9, 3) := by decide +kernel
theorem dJx4a65c_clear_da8c8_14 : decode cJx4a65c_clear_da8c8 14 = .ok (.astore_n 1, 1) := by decide +kernel
theorem dJx4a65c_clear_da8c8_15 : decode cJx4a65c_clear_da8c8 15 = .ok (.aload_n 0, 1) := by decide +kernel
theorem dJx4a65c_clear_da8c8_16 : decode cJx4a65c_clear_da8c8 16 = .ok (.getfield 48, 3) := by decide +kernel
theorem dJx4a65c_clear_da8c8_19 : decode cJx4a65c_clear_da8c8 19 = .ok (.istore_n 2, 1) := by decide +kernel
theorem dJx4a65c_clear_da8c8_20 : decode cJx4a65c_clear_da8c8 20 = .ok (.aload_n 0, 1) := by decide +kernel
theorem dJx4a65c_clear_da8c8_21 : decode cJx4a65c_clear_da8c8 21 = .ok (.iconst 0, 1) := by decide +kernel
theorem dJx4a65c_clear_da8c8_22 : decode cJx4a65c_clear_da8c8 22 = .ok (.dup_x1, 1) := by decide +kernel
theorem dJx4a65c_clear_da8c8_23 : decode cJx4a65c_clear_da8c8 23 = .ok (.putfield 48, 3) := by decide +kernel
theorem dJx4a65c_clear_da8c8_26 : decode cJx4a65c_clear_da8c8 26 = .ok (.istore_n 3, 1) := by decide +kernel
theorem dJx4a65c_clear_da8c8_27 : decode cJx4a65c_clear_da8c8 27 = .ok (.iload_n 3, 1) := by decide +kernel
theorem dJx4a65c_clear_da8c8_28 : decode cJx4a65c_clear_da8c8 28 = .ok (.iload_n 2, 1) := by decide +kernel
theorem dJx4a65c_clear_da8c8_29 : decode cJx4a65c_clear_da8c8 29 = .ok (.if_icmp .ge 13, 3) := by decide +kernel
theorem dJx4a65c_clear_da8c8_32 : decode cJx4a65c_clear_da8c8 32 = .ok (.aload_n 1, 1) := by decide +kernel
theorem dJx4a65c_clear_da8c8_33 : decode cJx4a65c_clear_da8c8 33 = .ok (.iload_n 3, 1) := by decide +kernel
theorem dJx4a65c_clear_da8c8_34 : decode cJx4a65c_clear_da8c8 34 = .ok (.aconst_null, 1) := by decide +kernel
theorem dJx4a65c_clear_da8c8_35 : decode cJx4a65c_clear_da8c8 35 = .ok (.aastore, 1) := by decide +kernel
theorem dJx4a65c_clear_da8c8_36 : decode cJx4a65c_clear_da8c8 36 = .ok (.iinc 3 1, 3) := by decide +kernel
theorem dJx4a65c_clear_da8c8_39 : decode cJx4a65c_clear_da8c8 39 = .ok (.goto (-12), 3) := by decide +kernel
theorem dJx4a65c_clear_da8c8_42 : decode cJx4a65c_clear_da8c8 42 = .ok (.return_, 1) := by decide +kernel
theorem dJx4a65c_iterator_32c93_0 : decode cJx4a65c_iterator_32c93 0 = .ok (.new 267, 3) := by decide +kernel
theorem dJx4a65c_iterator_32c93_3 : decode cJx4a65c_iterator_32c93 3 = .ok (.dup, 1) := by decide +kernel
theorem dJx4a65c_iterator_32c93_4 : decode cJx4a65c_iterator_32c93 4 = .ok (.aload_n 0, 1) := by decide +kernel
theorem dJx4a65c_iterator_32c93_5 : decode cJx4a65c_iterator_32c93 5 = .ok (.invokespecial 269, 3) := by decide +kernel
theorem dJx4a65c_iterator_32c93_8 : decode cJx4a65c_iterator_32c93 8 = .ok (.areturn, 1) := by decide +kernel
theorem dJ7_fill_53178_0 : decode cJ7_fill_53178 0 = .ok (.iconst 0, 1) := by decide +kernel
theorem dJ7_fill_53178_1 : decode cJ7_fill_53178 1 = .ok (.istore_n 2, 1) := by decide +kernel
theorem dJ7_fill_53178_2 : decode cJ7_fill_53178 2 = .ok (.aload_n 0, 1) := by decide +kernel
theorem dJ7_fill_53178_3 : decode cJ7_fill_53178 3 = .ok (.arraylength, 1) := by decide +kernel
theorem dJ7_fill_53178_4 : decode cJ7_fill_53178 4 = .ok (.istore_n 3, 1) := by decide +kernel
theorem dJ7_fill_53178_5 : decode cJ7_fill_53178 5 = .ok (.iload_n 2, 1) := by decide +kernel
theorem dJ7_fill_53178_6 : decode cJ7_fill_53178 6 = .ok (.iload_n 3, 1) := by decide +kernel
theorem dJ7_fill_53178_7 : decode cJ7_fill_53178 7 = .ok (.if_icmp .ge 13, 3) := by decide +kernel
theorem dJ7_fill_53178_10 : decode cJ7_fill_53178 10 = .ok (.aload_n 0, 1) := by decide +kernel
theorem dJ7_fill_53178_11 : decode cJ7_fill_53178 11 = .ok (.iload_n 2, 1) := by decide +kernel
theorem dJ7_fill_53178_12 : decode cJ7_fill_53178 12 = .ok (.iload_n 1, 1) := by decide +kernel
theorem dJ7_fill_53178_13 : decode cJ7_fill_53178 13 = .ok (.iastore, 1) := by decide +kernel
theorem dJ7_fill_53178_14 : decode cJ7_fill_53178 14 = .ok (.iinc 2 1, 3) := by decide +kernel
theorem dJ7_fill_53178_17 : decode cJ7_fill_53178 17 = .ok (.goto (-12), 3) := by decide +kernel
theorem dJ7_fill_53178_20 : decode cJ7_fill_53178 20 = .ok (.return_, 1) := by decide +kernel
theorem dJ7_copyOf_1904c_0 : decode cJ7_copyOf_1904c 0 = .ok (.aload_n 0, 1) := by decide +kernel
theorem dJ7_copyOf_1904c_1 : decode cJ7_copyOf_1904c 1 = .ok (.iload_n 1, 1) := by decide +kernel
theorem dJ7_copyOf_1904c_2 : decode cJ7_copyOf_1904c 2 = .ok (.aload_n 0, 1) := by decide +kernel
theorem dJ7_copyOf_1904c_3 : decode cJ7_copyOf_1904c 3 = .ok (.invokevirtual 86, 3) := by decide +kernel
theorem dJ7_copyOf_1904c_6 : decode cJ7_copyOf_1904c 6 = .ok (.invokestatic 300, 3) := by decide +kernel
theorem dJ7_copyOf_1904c_9 : decode cJ7_copyOf_1904c 9 = .ok (.areturn, 1) := by decide +kernel
theorem dJ7_copyOf_6403c_0 : decode cJ7_copyOf_6403c 0 = .ok (.aload_n 2, 1) := by decide +kernel
theorem dJ7_copyOf_6403c_1 : decode cJ7_copyOf_6403c 1 = .ok (.ldc 110, 2) := by decide +kernel
theorem dJ7_copyOf_6403c_3 : decode cJ7_copyOf_6403c 3 = .ok (.if_acmp .ne 10, 3) := by decide +kernel
theorem dJ7_copyOf_6403c_6 : decode cJ7_copyOf_6403c 6 = .ok (.iload_n 1, 1) := by decide +kernel
theorem dJ7_copyOf_6403c_7 : decode cJ7_copyOf_6403c 7 = .ok (.anewarray 2, 3) := by decide +kernel
theorem dJ7_copyOf_6403c_10 : decode cJ7_copyOf_6403c 10 = .ok (.goto 14, 3) := by decide +kernel
theorem dJ7_copyOf_6403c_13 : decode cJ7_copyOf_6403c 13 = .ok (.aload_n 2, 1) := by decide +kernel
theorem dJ7_copyOf_6403c_14 : decode cJ7_copyOf_6403c 14 = .ok (.invokevirtual 90, 3) := by decide +kernel
theorem dJ7_copyOf_6403c_17 : decode cJ7_copyOf_6403c 17 = .ok (.iload_n 1, 1) := by decide +kernel
theorem dJ7_copyOf_6403c_18 : decode cJ7_copyOf_6403c 18 = .ok (.invokestatic 95, 3) := by decide +kernel
theorem dJ7_copyOf_6403c_21 : decode cJ7_copyOf_6403c 21 = .ok (.checkcast 110, 3) := by decide +kernel
theorem dJ7_copyOf_6403c_24 : decode cJ7_copyOf_6403c 24 = .ok (.astore_n 3, 1) := by decide +kernel
theorem dJ7_copyOf_6403c_25 : decode cJ7_copyOf_6403c 25 = .ok (.aload_n 0, 1) := by decide +kernel
theorem dJ7_copyOf_6403c_26 : decode cJ7_copyOf_6403c 26 = .ok (.iconst 0, 1) := by decide +kernel
theorem dJ7_copyOf_6403c_27 : decode cJ7_copyOf_6403c 27 = .ok (.aload_n 3, 1) := by decide +kernel
theorem dJ7_copyOf_6403c_28 : decode cJ7_copyOf_6403c 28 = .ok (.iconst 0, 1) := by decide +kernel
theorem dJ7_copyOf_6403c_29 : decode cJ7_copyOf_6403c 29 = .ok (.aload_n 0, 1) := by decide +kernel
theorem dJ7_copyOf_6403c_30 : decode cJ7_copyOf_6403c 30 = .ok (.arraylength, 1) := by decide +kernel
theorem dJ7_copyOf_6403c_31 : decode cJ7_copyOf_6403c 31 = .ok (.iload_n 1, 1) := by decide +kernel
theorem dJ7_copyOf_6403c_32 : decode cJ7_copyOf_6403c 32 = .ok (.invokestatic 304, 3) := by decide +kernel
theorem dJ7_copyOf_6403c_35 : decode cJ7_copyOf_6403c 35 = .ok (.invokestatic 150, 3) := by decide +kernel
theorem dJ7_copyOf_6403c_38 : decode cJ7_copyOf_6403c 38 = .ok (.aload_n 3, 1) := by decide +kernel
theorem dJ7_copyOf_6403c_39 : decode cJ7_copyOf_6403c 39 = .ok (.areturn, 1) := by decide +kernel
theorem dJ7_copyOf_59c91_0 : decode cJ7_copyOf_59c91 0 = .ok (.iload_n 1, 1) := by decide +kernel
theorem dJ7_copyOf_59c91_1 : decode cJ7_copyOf_59c91 1 = .ok (.aload_n 0, 1) := by decide +kernel
theorem dJ7_copyOf_59c91_2 : decode cJ7_copyOf_59c91 2 = .ok (.arraylength, 1) := by decide +kernel
theorem dJ7_copyOf_59c91_3 : decode cJ7_copyOf_59c91 3 = .ok (.if_icmp .ne 11, 3) := by decide +kernel
theorem dJ7_copyOf_59c91_6 : decode cJ7_copyOf_59c91 6 = .ok (.aload_n 0, 1) := by decide +kernel
theorem dJ7_copyOf_59c91_7 : decode cJ7_copyOf_59c91 7 = .ok (.invokevirtual 316, 3) := by decide +kernel
theorem dJ7_copyOf_59c91_10 : decode cJ7_copyOf_59c91 10 = .ok (.checkcast 317, 3) := by decide +kernel
theorem dJ7_copyOf_59c91_13 : decode cJ7_copyOf_59c91 13 = .ok (.areturn, 1) := by decide +kernel
theorem dJ7_copyOf_59c91_14 : decode cJ7_copyOf_59c91 14 = .ok (.iload_n 1, 1) := by decide +kernel
theorem dJ7_copyOf_59c91_15 : decode cJ7_copyOf_59c91 15 = .ok (.newarray .int, 2) := by decide +kernel
theorem dJ7_copyOf_59c91_17 : decode cJ7_copyOf_59c91 17 = .ok (.astore_n 2, 1) := by decide +kernel
theorem dJ7_copyOf_59c91_18 : decode cJ7_copyOf_59c91 18 = .ok (.aload_n 0, 1) := by decide +kernel
theorem dJ7_copyOf_59c91_19 : decode cJ7_copyOf_59c91 19 = .ok (.iconst 0, 1) := by decide +kernel
theorem dJ7_copyOf_59c91_20 : decode cJ7_copyOf_59c91 20 = .ok (.aload_n 2, 1) := by decide +kernel
theorem dJ7_copyOf_59c91_21 : decode cJ7_copyOf_59c91 21 = .ok (.iconst 0, 1) := by decide +kernel
theorem dJ7_copyOf_59c91_22 : decode cJ7_copyOf_59c91 22 = .ok (.aload_n 0, 1) := by decide +kernel
theorem dJ7_copyOf_59c91_23 : decode cJ7_copyOf_59c91 23 = .ok (.arraylength, 1) := by decide +kernel
theorem dJ7_copyOf_59c91_24 : decode cJ7_copyOf_59c91 24 = .ok (.iload_n 1, 1) := by decide +kernel
theorem dJ7_copyOf_59c91_25 : decode cJ7_copyOf_59c91 25 = .ok (.invokestatic 304, 3) := by decide +kernel
theorem dJ7_copyOf_59c91_28 : decode cJ7_copyOf_59c91 28 = .ok (.invokestatic 150, 3) := by decide +kernel
theorem dJ7_copyOf_59c91_31 : decode cJ7_copyOf_59c91 31 = .ok (.aload_n 2, 1) := by decide +kernel
theorem dJ7_copyOf_59c91_32 : decode cJ7_copyOf_59c91 32 = .ok (.areturn, 1) := by decide +kernel
theorem dJ8_newLength_cabcc_0 : decode cJ8_newLength_cabcc 0 = .ok (.iload_n 0, 1) := by decide +kernel
theorem dJ8_newLength_cabcc_1 : decode cJ8_newLength_cabcc 1 = .ok (.iload_n 1, 1) := by decide +kernel
theorem dJ8_newLength_cabcc_2 : decode cJ8_newLength_cabcc 2 = .ok (.iload_n 2, 1) := by decide +kernel
theorem dJ8_newLength_cabcc_3 : decode cJ8_newLength_cabcc 3 = .ok (.invokestatic 194, 3) := by decide +kernel
theorem dJ8_newLength_cabcc_6 : decode cJ8_newLength_cabcc 6 = .ok (.iadd, 1) := by decide +kernel
theorem dJ8_newLength_cabcc_7 : decode cJ8_newLength_cabcc 7 = .ok (.istore_n 3, 1) := by decide +kernel
theorem dJ8_newLength_cabcc_8 : decode cJ8_newLength_cabcc 8 = .ok (.iconst 0, 1) := by decide +kernel
theorem dJ8_newLength_cabcc_9 : decode cJ8_newLength_cabcc 9 = .ok (.iload_n 3, 1) := by decide +kernel
theorem dJ8_newLength_cabcc_10 : decode cJ8_newLength_cabcc 10 = .ok (.if_icmp .ge 11, 3) := by decide +kernel
theorem dJ8_newLength_cabcc_13 : decode cJ8_newLength_cabcc 13 = .ok (.iload_n 3, 1) := by decide +kernel
theorem dJ8_newLength_cabcc_14 : decode cJ8_newLength_cabcc 14 = .ok (.ldc 200, 2) := by decide +kernel
theorem dJ8_newLength_cabcc_16 : decode cJ8_newLength_cabcc 16 = .ok (.if_icmp .gt 5, 3) := by decide +kernel
theorem dJ8_newLength_cabcc_19 : decode cJ8_newLength_cabcc 19 = .ok (.iload_n 3, 1) := by decide +kernel
theorem dJ8_newLength_cabcc_20 : decode cJ8_newLength_cabcc 20 = .ok (.ireturn, 1) := by decide +kernel
theorem dJ8_newLength_cabcc_21 : decode cJ8_newLength_cabcc 21 = .ok (.iload_n 0, 1) := by decide +kernel
theorem dJ8_newLength_cabcc_22 : decode cJ8_newLength_cabcc 22 = .ok (.iload_n 1, 1) := by decide +kernel
theorem dJ8_newLength_cabcc_23 : decode cJ8_newLength_cabcc 23 = .ok (.invokestatic 201, 3) := by decide +kernel
theorem dJ8_newLength_cabcc_26 : decode cJ8_newLength_cabcc 26 = .ok (.ireturn, 1) := by decide +kernel
theorem dJ8_hugeLength_7cf53_0 : decode cJ8_hugeLength_7cf53 0 = .ok (.iload_n 0, 1) := by decide +kernel
theorem dJ8_hugeLength_7cf53_1 : decode cJ8_hugeLength_7cf53 1 = .ok (.iload_n 1, 1) := by decide +kernel
theorem dJ8_hugeLength_7cf53_2 : decode cJ8_hugeLength_7cf53 2 = .ok (.iadd, 1) := by decide +kernel
theorem dJ8_hugeLength_7cf53_3 : decode cJ8_hugeLength_7cf53 3 = .ok (.istore_n 2, 1) := by decide +kernel
theorem dJ8_hugeLength_7cf53_4 : decode cJ8_hugeLength_7cf53 4 = .ok (.iload_n 2, 1) := by decide +kernel
theorem dJ8_hugeLength_7cf53_5 : decode cJ8_hugeLength_7cf53 5 = .ok (.ifCond .ge 44, 3) := by decide +kernel
theorem dJ8_hugeLength_7cf53_8 : decode cJ8_hugeLength_7cf53 8 = .ok (.new 204, 3) := by decide +kernel
theorem dJ8_hugeLength_7cf53_11 : decode cJ8_hugeLength_7cf53 11 = .ok (.dup, 1) := by decide +kernel
theorem dJ8_hugeLength_7cf53_12 : decode cJ8_hugeLength_7cf53 12 = .ok (.new 89, 3) := by decide +kernel
theorem dJ8_hugeLength_7cf53_15 : decode cJ8_hugeLength_7cf53 15 = .ok (.dup, 1) := by decide +kernel
theorem dJ8_hugeLength_7cf53_16 : decode cJ8_hugeLength_7cf53 16 = .ok (.invokespecial 91, 3) := by decide +kernel
theorem dJ8_hugeLength_7cf53_19 : decode cJ8_hugeLength_7cf53 19 = .ok (.ldc 206, 2) := by decide +kernel
theorem dJ8_hugeLength_7cf53_21 : decode cJ8_hugeLength_7cf53 21 = .ok (.invokevirtual 94, 3) := by decide +kernel
theorem dJ8_hugeLength_7cf53_24 : decode cJ8_hugeLength_7cf53 24 = .ok (.iload_n 0, 1) := by decide +kernel
theorem dJ8_hugeLength_7cf53_25 : decode cJ8_hugeLength_7cf53 25 = .ok (.invokevirtual 98, 3) := by decide +kernel
theorem dJ8_hugeLength_7cf53_28 : decode cJ8_hugeLength_7cf53 28 = .ok (.ldc 208, 2) := by decide +kernel
theorem dJ8_hugeLength_7cf53_30 : decode cJ8_hugeLength_7cf53 30 = .ok (.invokevirtual 94, 3) := by decide +kernel
theorem dJ8_hugeLength_7cf53_33 : decode cJ8_hugeLength_7cf53 33 = .ok (.iload_n 1, 1) := by decide +kernel
theorem dJ8_hugeLength_7cf53_34 : decode cJ8_hugeLength_7cf53 34 = .ok (.invokevirtual 98, 3) := by decide +kernel
theorem dJ8_hugeLength_7cf53_37 : decode cJ8_hugeLength_7cf53 37 = .ok (.ldc 210, 2) := by decide +kernel
theorem dJ8_hugeLength_7cf53_39 : decode cJ8_hugeLength_7cf53 39 = .ok (.invokevirtual 94, 3) := by decide +kernel
theorem dJ8_hugeLength_7cf53_42 : decode cJ8_hugeLength_7cf53 42 = .ok (.invokevirtual 101, 3) := by decide +kernel
theorem dJ8_hugeLength_7cf53_45 : decode cJ8_hugeLength_7cf53 45 = .ok (.invokespecial 212, 3) := by decide +kernel
theorem dJ8_hugeLength_7cf53_48 : decode cJ8_hugeLength_7cf53 48 = .ok (.athrow, 1) := by decide +kernel
theorem dJ8_hugeLength_7cf53_49 : decode cJ8_hugeLength_7cf53 49 = .ok (.iload_n 2, 1) := by decide +kernel
theorem dJ8_hugeLength_7cf53_50 : decode cJ8_hugeLength_7cf53 50 = .ok (.ldc 200, 2) := by decide +kernel
theorem dJ8_hugeLength_7cf53_52 : decode cJ8_hugeLength_7cf53 52 = .ok (.if_icmp .gt 6, 3) := by decide +kernel
theorem dJ8_hugeLength_7cf53_55 : decode cJ8_hugeLength_7cf53 55 = .ok (.ldc 200, 2) := by decide +kernel
theorem dJ8_hugeLength_7cf53_57 : decode cJ8_hugeLength_7cf53 57 = .ok (.ireturn, 1) := by decide +kernel
theorem dJ8_hugeLength_7cf53_58 : decode cJ8_hugeLength_7cf53 58 = .ok (.iload_n 2, 1) := by decide +kernel
theorem dJ8_hugeLength_7cf53_59 : decode cJ8_hugeLength_7cf53 59 = .ok (.ireturn, 1) := by decide +kernel

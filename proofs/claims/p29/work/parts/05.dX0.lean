theorem dX0_init_0 : decode cX0_init 0 = .ok (.aload_n 0, 1) := by decide +kernel
theorem dX0_init_1 : decode cX0_init 1 = .ok (.invokespecial 3, 3) := by decide +kernel
theorem dX0_init_4 : decode cX0_init 4 = .ok (.aload_n 0, 1) := by decide +kernel
theorem dX0_init_5 : decode cX0_init 5 = .ok (.bipush 60, 2) := by decide +kernel
theorem dX0_init_7 : decode cX0_init 7 = .ok (.newarray .int, 2) := by decide +kernel
theorem dX0_init_9 : decode cX0_init 9 = .ok (.putfield 9, 3) := by decide +kernel
theorem dX0_init_12 : decode cX0_init 12 = .ok (.aload_n 0, 1) := by decide +kernel
theorem dX0_init_13 : decode cX0_init 13 = .ok (.bipush 60, 2) := by decide +kernel
theorem dX0_init_15 : decode cX0_init 15 = .ok (.newarray .int, 2) := by decide +kernel
theorem dX0_init_17 : decode cX0_init 17 = .ok (.putfield 15, 3) := by decide +kernel
theorem dX0_init_20 : decode cX0_init 20 = .ok (.aload_n 0, 1) := by decide +kernel
theorem dX0_init_21 : decode cX0_init 21 = .ok (.bipush 60, 2) := by decide +kernel
theorem dX0_init_23 : decode cX0_init 23 = .ok (.newarray .int, 2) := by decide +kernel
theorem dX0_init_25 : decode cX0_init 25 = .ok (.putfield 18, 3) := by decide +kernel
theorem dX0_init_28 : decode cX0_init 28 = .ok (.return_, 1) := by decide +kernel
theorem dX0_take_0 : decode cX0_take 0 = .ok (.aload_n 0, 1) := by decide +kernel
theorem dX0_take_1 : decode cX0_take 1 = .ok (.aload_n 1, 1) := by decide +kernel
theorem dX0_take_2 : decode cX0_take 2 = .ok (.getfield 21, 3) := by decide +kernel
theorem dX0_take_5 : decode cX0_take 5 = .ok (.bipush 60, 2) := by decide +kernel
theorem dX0_take_7 : decode cX0_take 7 = .ok (.invokestatic 27, 3) := by decide +kernel
theorem dX0_take_10 : decode cX0_take 10 = .ok (.putfield 33, 3) := by decide +kernel
theorem dX0_take_13 : decode cX0_take 13 = .ok (.iconst 0, 1) := by decide +kernel
theorem dX0_take_14 : decode cX0_take 14 = .ok (.istore_n 3, 1) := by decide +kernel
theorem dX0_take_15 : decode cX0_take 15 = .ok (.iload_n 3, 1) := by decide +kernel
theorem dX0_take_16 : decode cX0_take 16 = .ok (.aload_n 0, 1) := by decide +kernel
theorem dX0_take_17 : decode cX0_take 17 = .ok (.getfield 33, 3) := by decide +kernel
theorem dX0_take_20 : decode cX0_take 20 = .ok (.if_icmp .ge 31, 3) := by decide +kernel
theorem dX0_take_23 : decode cX0_take 23 = .ok (.aload_n 0, 1) := by decide +kernel
theorem dX0_take_24 : decode cX0_take 24 = .ok (.getfield 9, 3) := by decide +kernel
theorem dX0_take_27 : decode cX0_take 27 = .ok (.iload_n 3, 1) := by decide +kernel
theorem dX0_take_28 : decode cX0_take 28 = .ok (.aload_n 1, 1) := by decide +kernel
theorem dX0_take_29 : decode cX0_take 29 = .ok (.iload_n 3, 1) := by decide +kernel
theorem dX0_take_30 : decode cX0_take 30 = .ok (.invokevirtual 36, 3) := by decide +kernel
theorem dX0_take_33 : decode cX0_take 33 = .ok (.iastore, 1) := by decide +kernel
theorem dX0_take_34 : decode cX0_take 34 = .ok (.aload_n 0, 1) := by decide +kernel
theorem dX0_take_35 : decode cX0_take 35 = .ok (.getfield 18, 3) := by decide +kernel
theorem dX0_take_38 : decode cX0_take 38 = .ok (.iload_n 3, 1) := by decide +kernel
theorem dX0_take_39 : decode cX0_take 39 = .ok (.aload_n 1, 1) := by decide +kernel
theorem dX0_take_40 : decode cX0_take 40 = .ok (.iload_n 3, 1) := by decide +kernel
theorem dX0_take_41 : decode cX0_take 41 = .ok (.invokevirtual 36, 3) := by decide +kernel
theorem dX0_take_44 : decode cX0_take 44 = .ok (.iastore, 1) := by decide +kernel
theorem dX0_take_45 : decode cX0_take 45 = .ok (.iinc 3 1, 3) := by decide +kernel
theorem dX0_take_48 : decode cX0_take 48 = .ok (.goto (-33), 3) := by decide +kernel
theorem dX0_take_51 : decode cX0_take 51 = .ok (.aload_n 0, 1) := by decide +kernel
theorem dX0_take_52 : decode cX0_take 52 = .ok (.iconst 0, 1) := by decide +kernel
theorem dX0_take_53 : decode cX0_take 53 = .ok (.putfield 40, 3) := by decide +kernel
theorem dX0_take_56 : decode cX0_take 56 = .ok (.aload_n 0, 1) := by decide +kernel
theorem dX0_take_57 : decode cX0_take 57 = .ok (.iload_n 2, 1) := by decide +kernel
theorem dX0_take_58 : decode cX0_take 58 = .ok (.putfield 43, 3) := by decide +kernel
theorem dX0_take_61 : decode cX0_take 61 = .ok (.aload_n 0, 1) := by decide +kernel
theorem dX0_take_62 : decode cX0_take 62 = .ok (.iconst 0, 1) := by decide +kernel
theorem dX0_take_63 : decode cX0_take 63 = .ok (.putfield 46, 3) := by decide +kernel
theorem dX0_take_66 : decode cX0_take 66 = .ok (.return_, 1) := by decide +kernel
theorem dX0_keepParity_0 : decode cX0_keepParity 0 = .ok (.iconst 0, 1) := by decide +kernel
theorem dX0_keepParity_1 : decode cX0_keepParity 1 = .ok (.istore_n 2, 1) := by decide +kernel
theorem dX0_keepParity_2 : decode cX0_keepParity 2 = .ok (.iload_n 2, 1) := by decide +kernel
theorem dX0_keepParity_3 : decode cX0_keepParity 3 = .ok (.bipush 60, 2) := by decide +kernel
theorem dX0_keepParity_5 : decode cX0_keepParity 5 = .ok (.if_icmp .ge 27, 3) := by decide +kernel
theorem dX0_keepParity_8 : decode cX0_keepParity 8 = .ok (.aload_n 0, 1) := by decide +kernel
theorem dX0_keepParity_9 : decode cX0_keepParity 9 = .ok (.getfield 15, 3) := by decide +kernel
theorem dX0_keepParity_12 : decode cX0_keepParity 12 = .ok (.iload_n 2, 1) := by decide +kernel
theorem dX0_keepParity_13 : decode cX0_keepParity 13 = .ok (.aload_n 0, 1) := by decide +kernel
theorem dX0_keepParity_14 : decode cX0_keepParity 14 = .ok (.iload_n 2, 1) := by decide +kernel
theorem dX0_keepParity_15 : decode cX0_keepParity 15 = .ok (.invokevirtual 50, 3) := by decide +kernel
theorem dX0_keepParity_18 : decode cX0_keepParity 18 = .ok (.aload_n 0, 1) := by decide +kernel
theorem dX0_keepParity_19 : decode cX0_keepParity 19 = .ok (.iload_n 2, 1) := by decide +kernel
theorem dX0_keepParity_20 : decode cX0_keepParity 20 = .ok (.aload_n 1, 1) := by decide +kernel
theorem dX0_keepParity_21 : decode cX0_keepParity 21 = .ok (.invokevirtual 53, 3) := by decide +kernel
theorem dX0_keepParity_24 : decode cX0_keepParity 24 = .ok (.ixor, 1) := by decide +kernel
theorem dX0_keepParity_25 : decode cX0_keepParity 25 = .ok (.iastore, 1) := by decide +kernel
theorem dX0_keepParity_26 : decode cX0_keepParity 26 = .ok (.iinc 2 1, 3) := by decide +kernel
theorem dX0_keepParity_29 : decode cX0_keepParity 29 = .ok (.goto (-27), 3) := by decide +kernel
theorem dX0_keepParity_32 : decode cX0_keepParity 32 = .ok (.return_, 1) := by decide +kernel
theorem dX0_writeTo_0 : decode cX0_writeTo 0 = .ok (.aload_n 1, 1) := by decide +kernel
theorem dX0_writeTo_1 : decode cX0_writeTo 1 = .ok (.invokevirtual 57, 3) := by decide +kernel
theorem dX0_writeTo_4 : decode cX0_writeTo 4 = .ok (.iconst 0, 1) := by decide +kernel
theorem dX0_writeTo_5 : decode cX0_writeTo 5 = .ok (.istore_n 2, 1) := by decide +kernel
theorem dX0_writeTo_6 : decode cX0_writeTo 6 = .ok (.iload_n 2, 1) := by decide +kernel
theorem dX0_writeTo_7 : decode cX0_writeTo 7 = .ok (.aload_n 0, 1) := by decide +kernel
theorem dX0_writeTo_8 : decode cX0_writeTo 8 = .ok (.getfield 33, 3) := by decide +kernel
theorem dX0_writeTo_11 : decode cX0_writeTo 11 = .ok (.if_icmp .ge 40, 3) := by decide +kernel
theorem dX0_writeTo_14 : decode cX0_writeTo 14 = .ok (.aload_n 1, 1) := by decide +kernel
theorem dX0_writeTo_15 : decode cX0_writeTo 15 = .ok (.aload_n 0, 1) := by decide +kernel
theorem dX0_writeTo_16 : decode cX0_writeTo 16 = .ok (.getfield 9, 3) := by decide +kernel
theorem dX0_writeTo_19 : decode cX0_writeTo 19 = .ok (.iload_n 2, 1) := by decide +kernel
theorem dX0_writeTo_20 : decode cX0_writeTo 20 = .ok (.iaload, 1) := by decide +kernel
theorem dX0_writeTo_21 : decode cX0_writeTo 21 = .ok (.invokestatic 60, 3) := by decide +kernel
theorem dX0_writeTo_24 : decode cX0_writeTo 24 = .ok (.aload_n 0, 1) := by decide +kernel
theorem dX0_writeTo_25 : decode cX0_writeTo 25 = .ok (.getfield 9, 3) := by decide +kernel
theorem dX0_writeTo_28 : decode cX0_writeTo 28 = .ok (.iload_n 2, 1) := by decide +kernel
theorem dX0_writeTo_29 : decode cX0_writeTo 29 = .ok (.iaload, 1) := by decide +kernel
theorem dX0_writeTo_30 : decode cX0_writeTo 30 = .ok (.invokestatic 63, 3) := by decide +kernel
theorem dX0_writeTo_33 : decode cX0_writeTo 33 = .ok (.aload_n 0, 1) := by decide +kernel
theorem dX0_writeTo_34 : decode cX0_writeTo 34 = .ok (.getfield 9, 3) := by decide +kernel
theorem dX0_writeTo_37 : decode cX0_writeTo 37 = .ok (.iload_n 2, 1) := by decide +kernel
theorem dX0_writeTo_38 : decode cX0_writeTo 38 = .ok (.iaload, 1) := by decide +kernel
theorem dX0_writeTo_39 : decode cX0_writeTo 39 = .ok (.invokestatic 66, 3) := by decide +kernel
theorem dX0_writeTo_42 : decode cX0_writeTo 42 = .ok (.invokevirtual 69, 3) := by decide +kernel
theorem dX0_writeTo_45 : decode cX0_writeTo 45 = .ok (.iinc 2 1, 3) := by decide +kernel
theorem dX0_writeTo_48 : decode cX0_writeTo 48 = .ok (.goto (-42), 3) := by decide +kernel
theorem dX0_writeTo_51 : decode cX0_writeTo 51 = .ok (.return_, 1) := by decide +kernel
theorem dX0_blockCount_0 : decode cX0_blockCount 0 = .ok (.aload_n 0, 1) := by decide +kernel
theorem dX0_blockCount_1 : decode cX0_blockCount 1 = .ok (.getfield 33, 3) := by decide +kernel
theorem dX0_blockCount_4 : decode cX0_blockCount 4 = .ok (.iconst 4, 1) := by decide +kernel
theorem dX0_blockCount_5 : decode cX0_blockCount 5 = .ok (.iadd, 1) := by decide +kernel
theorem dX0_blockCount_6 : decode cX0_blockCount 6 = .ok (.iconst 1, 1) := by decide +kernel
theorem dX0_blockCount_7 : decode cX0_blockCount 7 = .ok (.isub, 1) := by decide +kernel
theorem dX0_blockCount_8 : decode cX0_blockCount 8 = .ok (.iconst 4, 1) := by decide +kernel
theorem dX0_blockCount_9 : decode cX0_blockCount 9 = .ok (.idiv, 1) := by decide +kernel
theorem dX0_blockCount_10 : decode cX0_blockCount 10 = .ok (.ireturn, 1) := by decide +kernel
theorem dX0_numberAt_0 : decode cX0_numberAt 0 = .ok (.iload_n 1, 1) := by decide +kernel
theorem dX0_numberAt_1 : decode cX0_numberAt 1 = .ok (.ifCond .lt 20, 3) := by decide +kernel
theorem dX0_numberAt_4 : decode cX0_numberAt 4 = .ok (.iload_n 1, 1) := by decide +kernel
theorem dX0_numberAt_5 : decode cX0_numberAt 5 = .ok (.aload_n 0, 1) := by decide +kernel
theorem dX0_numberAt_6 : decode cX0_numberAt 6 = .ok (.getfield 33, 3) := by decide +kernel
theorem dX0_numberAt_9 : decode cX0_numberAt 9 = .ok (.if_icmp .ge 12, 3) := by decide +kernel
theorem dX0_numberAt_12 : decode cX0_numberAt 12 = .ok (.aload_n 0, 1) := by decide +kernel
theorem dX0_numberAt_13 : decode cX0_numberAt 13 = .ok (.getfield 9, 3) := by decide +kernel
theorem dX0_numberAt_16 : decode cX0_numberAt 16 = .ok (.iload_n 1, 1) := by decide +kernel
theorem dX0_numberAt_17 : decode cX0_numberAt 17 = .ok (.iaload, 1) := by decide +kernel
theorem dX0_numberAt_18 : decode cX0_numberAt 18 = .ok (.goto 4, 3) := by decide +kernel
theorem dX0_numberAt_21 : decode cX0_numberAt 21 = .ok (.iconst 0, 1) := by decide +kernel
theorem dX0_numberAt_22 : decode cX0_numberAt 22 = .ok (.ireturn, 1) := by decide +kernel
theorem dX0_isBroken_0 : decode cX0_isBroken 0 = .ok (.iload_n 1, 1) := by decide +kernel
theorem dX0_isBroken_1 : decode cX0_isBroken 1 = .ok (.ifCond .lt 26, 3) := by decide +kernel
theorem dX0_isBroken_4 : decode cX0_isBroken 4 = .ok (.iload_n 1, 1) := by decide +kernel
theorem dX0_isBroken_5 : decode cX0_isBroken 5 = .ok (.aload_n 0, 1) := by decide +kernel
theorem dX0_isBroken_6 : decode cX0_isBroken 6 = .ok (.invokevirtual 73, 3) := by decide +kernel
theorem dX0_isBroken_9 : decode cX0_isBroken 9 = .ok (.if_icmp .ge 18, 3) := by decide +kernel
theorem dX0_isBroken_12 : decode cX0_isBroken 12 = .ok (.aload_n 0, 1) := by decide +kernel
theorem dX0_isBroken_13 : decode cX0_isBroken 13 = .ok (.getfield 40, 3) := by decide +kernel
theorem dX0_isBroken_16 : decode cX0_isBroken 16 = .ok (.iload_n 1, 1) := by decide +kernel
theorem dX0_isBroken_17 : decode cX0_isBroken 17 = .ok (.ishr, 1) := by decide +kernel
theorem dX0_isBroken_18 : decode cX0_isBroken 18 = .ok (.iconst 1, 1) := by decide +kernel
theorem dX0_isBroken_19 : decode cX0_isBroken 19 = .ok (.iand, 1) := by decide +kernel
theorem dX0_isBroken_20 : decode cX0_isBroken 20 = .ok (.ifCond .eq 7, 3) := by decide +kernel
theorem dX0_isBroken_23 : decode cX0_isBroken 23 = .ok (.iconst 1, 1) := by decide +kernel
theorem dX0_isBroken_24 : decode cX0_isBroken 24 = .ok (.goto 4, 3) := by decide +kernel
theorem dX0_isBroken_27 : decode cX0_isBroken 27 = .ok (.iconst 0, 1) := by decide +kernel
theorem dX0_isBroken_28 : decode cX0_isBroken 28 = .ok (.ireturn, 1) := by decide +kernel
theorem dX0_anyBroken_0 : decode cX0_anyBroken 0 = .ok (.aload_n 0, 1) := by decide +kernel
theorem dX0_anyBroken_1 : decode cX0_anyBroken 1 = .ok (.getfield 40, 3) := by decide +kernel
theorem dX0_anyBroken_4 : decode cX0_anyBroken 4 = .ok (.ifCond .eq 7, 3) := by decide +kernel
theorem dX0_anyBroken_7 : decode cX0_anyBroken 7 = .ok (.iconst 1, 1) := by decide +kernel
theorem dX0_anyBroken_8 : decode cX0_anyBroken 8 = .ok (.goto 4, 3) := by decide +kernel
theorem dX0_anyBroken_11 : decode cX0_anyBroken 11 = .ok (.iconst 0, 1) := by decide +kernel
theorem dX0_anyBroken_12 : decode cX0_anyBroken 12 = .ok (.ireturn, 1) := by decide +kernel
theorem dX0_breakOne_0 : decode cX0_breakOne 0 = .ok (.iload_n 1, 1) := by decide +kernel
theorem dX0_breakOne_1 : decode cX0_breakOne 1 = .ok (.ifCond .lt 11, 3) := by decide +kernel
theorem dX0_breakOne_4 : decode cX0_breakOne 4 = .ok (.iload_n 1, 1) := by decide +kernel
theorem dX0_breakOne_5 : decode cX0_breakOne 5 = .ok (.aload_n 0, 1) := by decide +kernel
theorem dX0_breakOne_6 : decode cX0_breakOne 6 = .ok (.invokevirtual 73, 3) := by decide +kernel
theorem dX0_breakOne_9 : decode cX0_breakOne 9 = .ok (.if_icmp .lt 4, 3) := by decide +kernel
theorem dX0_breakOne_12 : decode cX0_breakOne 12 = .ok (.return_, 1) := by decide +kernel
theorem dX0_breakOne_13 : decode cX0_breakOne 13 = .ok (.aload_n 0, 1) := by decide +kernel
theorem dX0_breakOne_14 : decode cX0_breakOne 14 = .ok (.dup, 1) := by decide +kernel
theorem dX0_breakOne_15 : decode cX0_breakOne 15 = .ok (.getfield 40, 3) := by decide +kernel
theorem dX0_breakOne_18 : decode cX0_breakOne 18 = .ok (.iconst 1, 1) := by decide +kernel
theorem dX0_breakOne_19 : decode cX0_breakOne 19 = .ok (.iload_n 1, 1) := by decide +kernel
theorem dX0_breakOne_20 : decode cX0_breakOne 20 = .ok (.ishl, 1) := by decide +kernel
theorem dX0_breakOne_21 : decode cX0_breakOne 21 = .ok (.ior, 1) := by decide +kernel
theorem dX0_breakOne_22 : decode cX0_breakOne 22 = .ok (.putfield 40, 3) := by decide +kernel
theorem dX0_breakOne_25 : decode cX0_breakOne 25 = .ok (.iconst 4, 1) := by decide +kernel
theorem dX0_breakOne_26 : decode cX0_breakOne 26 = .ok (.iload_n 1, 1) := by decide +kernel
theorem dX0_breakOne_27 : decode cX0_breakOne 27 = .ok (.imul, 1) := by decide +kernel
theorem dX0_breakOne_28 : decode cX0_breakOne 28 = .ok (.istore_n 2, 1) := by decide +kernel
theorem dX0_breakOne_29 : decode cX0_breakOne 29 = .ok (.iload_n 2, 1) := by decide +kernel
theorem dX0_breakOne_30 : decode cX0_breakOne 30 = .ok (.aload_n 0, 1) := by decide +kernel
theorem dX0_breakOne_31 : decode cX0_breakOne 31 = .ok (.iload_n 1, 1) := by decide +kernel
theorem dX0_breakOne_32 : decode cX0_breakOne 32 = .ok (.invokevirtual 77, 3) := by decide +kernel
theorem dX0_breakOne_35 : decode cX0_breakOne 35 = .ok (.if_icmp .ge 16, 3) := by decide +kernel
theorem dX0_breakOne_38 : decode cX0_breakOne 38 = .ok (.aload_n 0, 1) := by decide +kernel
theorem dX0_breakOne_39 : decode cX0_breakOne 39 = .ok (.getfield 9, 3) := by decide +kernel
theorem dX0_breakOne_42 : decode cX0_breakOne 42 = .ok (.iload_n 2, 1) := by decide +kernel
theorem dX0_breakOne_43 : decode cX0_breakOne 43 = .ok (.iconst 0, 1) := by decide +kernel
theorem dX0_breakOne_44 : decode cX0_breakOne 44 = .ok (.iastore, 1) := by decide +kernel
theorem dX0_breakOne_45 : decode cX0_breakOne 45 = .ok (.iinc 2 1, 3) := by decide +kernel
theorem dX0_breakOne_48 : decode cX0_breakOne 48 = .ok (.goto (-19), 3) := by decide +kernel
theorem dX0_breakOne_51 : decode cX0_breakOne 51 = .ok (.return_, 1) := by decide +kernel
theorem dX0_endTreaty_0 : decode cX0_endTreaty 0 = .ok (.aload_n 0, 1) := by decide +kernel
theorem dX0_endTreaty_1 : decode cX0_endTreaty 1 = .ok (.iload_n 1, 1) := by decide +kernel
theorem dX0_endTreaty_2 : decode cX0_endTreaty 2 = .ok (.invokevirtual 80, 3) := by decide +kernel
theorem dX0_endTreaty_5 : decode cX0_endTreaty 5 = .ok (.ifCond .eq 8, 3) := by decide +kernel
theorem dX0_endTreaty_8 : decode cX0_endTreaty 8 = .ok (.aload_n 0, 1) := by decide +kernel
theorem dX0_endTreaty_9 : decode cX0_endTreaty 9 = .ok (.iconst 1, 1) := by decide +kernel
theorem dX0_endTreaty_10 : decode cX0_endTreaty 10 = .ok (.putfield 46, 3) := by decide +kernel
theorem dX0_endTreaty_13 : decode cX0_endTreaty 13 = .ok (.return_, 1) := by decide +kernel
theorem dX0_canRebuild_0 : decode cX0_canRebuild 0 = .ok (.aload_n 0, 1) := by decide +kernel
theorem dX0_canRebuild_1 : decode cX0_canRebuild 1 = .ok (.getfield 43, 3) := by decide +kernel
theorem dX0_canRebuild_4 : decode cX0_canRebuild 4 = .ok (.ifCond .eq 10, 3) := by decide +kernel
theorem dX0_canRebuild_7 : decode cX0_canRebuild 7 = .ok (.aload_n 0, 1) := by decide +kernel
theorem dX0_canRebuild_8 : decode cX0_canRebuild 8 = .ok (.getfield 46, 3) := by decide +kernel
theorem dX0_canRebuild_11 : decode cX0_canRebuild 11 = .ok (.ifCond .eq 5, 3) := by decide +kernel
theorem dX0_canRebuild_14 : decode cX0_canRebuild 14 = .ok (.iconst 0, 1) := by decide +kernel
theorem dX0_canRebuild_15 : decode cX0_canRebuild 15 = .ok (.ireturn, 1) := by decide +kernel
theorem dX0_canRebuild_16 : decode cX0_canRebuild 16 = .ok (.iconst 0, 1) := by decide +kernel
theorem dX0_canRebuild_17 : decode cX0_canRebuild 17 = .ok (.istore_n 3, 1) := by decide +kernel
theorem dX0_canRebuild_18 : decode cX0_canRebuild 18 = .ok (.iload_n 3, 1) := by decide +kernel
theorem dX0_canRebuild_19 : decode cX0_canRebuild 19 = .ok (.iconst 4, 1) := by decide +kernel
theorem dX0_canRebuild_20 : decode cX0_canRebuild 20 = .ok (.if_icmp .ge 29, 3) := by decide +kernel
theorem dX0_canRebuild_23 : decode cX0_canRebuild 23 = .ok (.aload_n 0, 1) := by decide +kernel
theorem dX0_canRebuild_24 : decode cX0_canRebuild 24 = .ok (.iload_n 3, 1) := by decide +kernel
theorem dX0_canRebuild_25 : decode cX0_canRebuild 25 = .ok (.invokevirtual 80, 3) := by decide +kernel
theorem dX0_canRebuild_28 : decode cX0_canRebuild 28 = .ok (.ifCond .eq 15, 3) := by decide +kernel
theorem dX0_canRebuild_31 : decode cX0_canRebuild 31 = .ok (.aload_n 2, 1) := by decide +kernel
theorem dX0_canRebuild_32 : decode cX0_canRebuild 32 = .ok (.iload_n 3, 1) := by decide +kernel
theorem dX0_canRebuild_33 : decode cX0_canRebuild 33 = .ok (.aaload, 1) := by decide +kernel
theorem dX0_canRebuild_34 : decode cX0_canRebuild 34 = .ok (.iload_n 1, 1) := by decide +kernel
theorem dX0_canRebuild_35 : decode cX0_canRebuild 35 = .ok (.invokevirtual 84, 3) := by decide +kernel
theorem dX0_canRebuild_38 : decode cX0_canRebuild 38 = .ok (.ifCond .eq 5, 3) := by decide +kernel
theorem dX0_canRebuild_41 : decode cX0_canRebuild 41 = .ok (.iconst 0, 1) := by decide +kernel
theorem dX0_canRebuild_42 : decode cX0_canRebuild 42 = .ok (.ireturn, 1) := by decide +kernel
theorem dX0_canRebuild_43 : decode cX0_canRebuild 43 = .ok (.iinc 3 1, 3) := by decide +kernel
theorem dX0_canRebuild_46 : decode cX0_canRebuild 46 = .ok (.goto (-28), 3) := by decide +kernel
theorem dX0_canRebuild_49 : decode cX0_canRebuild 49 = .ok (.iconst 1, 1) := by decide +kernel
theorem dX0_canRebuild_50 : decode cX0_canRebuild 50 = .ok (.ireturn, 1) := by decide +kernel
theorem dX0_rebuild_0 : decode cX0_rebuild 0 = .ok (.iload_n 1, 1) := by decide +kernel
theorem dX0_rebuild_1 : decode cX0_rebuild 1 = .ok (.ifCond .lt 11, 3) := by decide +kernel
theorem dX0_rebuild_4 : decode cX0_rebuild 4 = .ok (.iload_n 1, 1) := by decide +kernel
theorem dX0_rebuild_5 : decode cX0_rebuild 5 = .ok (.aload_n 0, 1) := by decide +kernel
theorem dX0_rebuild_6 : decode cX0_rebuild 6 = .ok (.invokevirtual 73, 3) := by decide +kernel
theorem dX0_rebuild_9 : decode cX0_rebuild 9 = .ok (.if_icmp .lt 4, 3) := by decide +kernel
theorem dX0_rebuild_12 : decode cX0_rebuild 12 = .ok (.return_, 1) := by decide +kernel
theorem dX0_rebuild_13 : decode cX0_rebuild 13 = .ok (.iconst 4, 1) := by decide +kernel
theorem dX0_rebuild_14 : decode cX0_rebuild 14 = .ok (.iload_n 1, 1) := by decide +kernel
theorem dX0_rebuild_15 : decode cX0_rebuild 15 = .ok (.imul, 1) := by decide +kernel
theorem dX0_rebuild_16 : decode cX0_rebuild 16 = .ok (.istore_n 3, 1) := by decide +kernel
theorem dX0_rebuild_17 : decode cX0_rebuild 17 = .ok (.iload_n 3, 1) := by decide +kernel
theorem dX0_rebuild_18 : decode cX0_rebuild 18 = .ok (.aload_n 0, 1) := by decide +kernel
theorem dX0_rebuild_19 : decode cX0_rebuild 19 = .ok (.iload_n 1, 1) := by decide +kernel
theorem dX0_rebuild_20 : decode cX0_rebuild 20 = .ok (.invokevirtual 77, 3) := by decide +kernel
theorem dX0_rebuild_23 : decode cX0_rebuild 23 = .ok (.if_icmp .ge 28, 3) := by decide +kernel
theorem dX0_rebuild_26 : decode cX0_rebuild 26 = .ok (.aload_n 0, 1) := by decide +kernel
theorem dX0_rebuild_27 : decode cX0_rebuild 27 = .ok (.getfield 9, 3) := by decide +kernel
theorem dX0_rebuild_30 : decode cX0_rebuild 30 = .ok (.iload_n 3, 1) := by decide +kernel
theorem dX0_rebuild_31 : decode cX0_rebuild 31 = .ok (.aload_n 0, 1) := by decide +kernel
theorem dX0_rebuild_32 : decode cX0_rebuild 32 = .ok (.getfield 15, 3) := by decide +kernel
theorem dX0_rebuild_35 : decode cX0_rebuild 35 = .ok (.iload_n 3, 1) := by decide +kernel
theorem dX0_rebuild_36 : decode cX0_rebuild 36 = .ok (.iaload, 1) := by decide +kernel
theorem dX0_rebuild_37 : decode cX0_rebuild 37 = .ok (.aload_n 0, 1) := by decide +kernel
theorem dX0_rebuild_38 : decode cX0_rebuild 38 = .ok (.iload_n 3, 1) := by decide +kernel
theorem dX0_rebuild_39 : decode cX0_rebuild 39 = .ok (.aload_n 2, 1) := by decide +kernel
theorem dX0_rebuild_40 : decode cX0_rebuild 40 = .ok (.invokevirtual 53, 3) := by decide +kernel
theorem dX0_rebuild_43 : decode cX0_rebuild 43 = .ok (.ixor, 1) := by decide +kernel
theorem dX0_rebuild_44 : decode cX0_rebuild 44 = .ok (.iastore, 1) := by decide +kernel
theorem dX0_rebuild_45 : decode cX0_rebuild 45 = .ok (.iinc 3 1, 3) := by decide +kernel
theorem dX0_rebuild_48 : decode cX0_rebuild 48 = .ok (.goto (-31), 3) := by decide +kernel
theorem dX0_rebuild_51 : decode cX0_rebuild 51 = .ok (.aload_n 0, 1) := by decide +kernel
theorem dX0_rebuild_52 : decode cX0_rebuild 52 = .ok (.dup, 1) := by decide +kernel
theorem dX0_rebuild_53 : decode cX0_rebuild 53 = .ok (.getfield 40, 3) := by decide +kernel
theorem dX0_rebuild_56 : decode cX0_rebuild 56 = .ok (.iconst 1, 1) := by decide +kernel
theorem dX0_rebuild_57 : decode cX0_rebuild 57 = .ok (.iload_n 1, 1) := by decide +kernel
theorem dX0_rebuild_58 : decode cX0_rebuild 58 = .ok (.ishl, 1) := by decide +kernel
theorem dX0_rebuild_59 : decode cX0_rebuild 59 = .ok (.iconst (-1), 1) := by decide +kernel
theorem dX0_rebuild_60 : decode cX0_rebuild 60 = .ok (.ixor, 1) := by decide +kernel
theorem dX0_rebuild_61 : decode cX0_rebuild 61 = .ok (.iand, 1) := by decide +kernel
theorem dX0_rebuild_62 : decode cX0_rebuild 62 = .ok (.putfield 40, 3) := by decide +kernel
theorem dX0_rebuild_65 : decode cX0_rebuild 65 = .ok (.return_, 1) := by decide +kernel
theorem dX0_isAsTaken_0 : decode cX0_isAsTaken 0 = .ok (.iconst 0, 1) := by decide +kernel
theorem dX0_isAsTaken_1 : decode cX0_isAsTaken 1 = .ok (.istore_n 1, 1) := by decide +kernel
theorem dX0_isAsTaken_2 : decode cX0_isAsTaken 2 = .ok (.iload_n 1, 1) := by decide +kernel
theorem dX0_isAsTaken_3 : decode cX0_isAsTaken 3 = .ok (.aload_n 0, 1) := by decide +kernel
theorem dX0_isAsTaken_4 : decode cX0_isAsTaken 4 = .ok (.getfield 33, 3) := by decide +kernel
theorem dX0_isAsTaken_7 : decode cX0_isAsTaken 7 = .ok (.if_icmp .ge 34, 3) := by decide +kernel
theorem dX0_isAsTaken_10 : decode cX0_isAsTaken 10 = .ok (.aload_n 0, 1) := by decide +kernel
theorem dX0_isAsTaken_11 : decode cX0_isAsTaken 11 = .ok (.iload_n 1, 1) := by decide +kernel
theorem dX0_isAsTaken_12 : decode cX0_isAsTaken 12 = .ok (.iconst 4, 1) := by decide +kernel
theorem dX0_isAsTaken_13 : decode cX0_isAsTaken 13 = .ok (.idiv, 1) := by decide +kernel
theorem dX0_isAsTaken_14 : decode cX0_isAsTaken 14 = .ok (.invokevirtual 84, 3) := by decide +kernel
theorem dX0_isAsTaken_17 : decode cX0_isAsTaken 17 = .ok (.ifCond .ne 18, 3) := by decide +kernel
theorem dX0_isAsTaken_20 : decode cX0_isAsTaken 20 = .ok (.aload_n 0, 1) := by decide +kernel
theorem dX0_isAsTaken_21 : decode cX0_isAsTaken 21 = .ok (.aload_n 0, 1) := by decide +kernel
theorem dX0_isAsTaken_22 : decode cX0_isAsTaken 22 = .ok (.getfield 9, 3) := by decide +kernel
theorem dX0_isAsTaken_25 : decode cX0_isAsTaken 25 = .ok (.iload_n 1, 1) := by decide +kernel
theorem dX0_isAsTaken_26 : decode cX0_isAsTaken 26 = .ok (.iaload, 1) := by decide +kernel
theorem dX0_isAsTaken_27 : decode cX0_isAsTaken 27 = .ok (.invokevirtual 87, 3) := by decide +kernel
theorem dX0_isAsTaken_30 : decode cX0_isAsTaken 30 = .ok (.ifCond .ne 5, 3) := by decide +kernel
theorem dX0_isAsTaken_33 : decode cX0_isAsTaken 33 = .ok (.iconst 0, 1) := by decide +kernel
theorem dX0_isAsTaken_34 : decode cX0_isAsTaken 34 = .ok (.ireturn, 1) := by decide +kernel
theorem dX0_isAsTaken_35 : decode cX0_isAsTaken 35 = .ok (.iinc 1 1, 3) := by decide +kernel
theorem dX0_isAsTaken_38 : decode cX0_isAsTaken 38 = .ok (.goto (-36), 3) := by decide +kernel
theorem dX0_isAsTaken_41 : decode cX0_isAsTaken 41 = .ok (.iconst 1, 1) := by decide +kernel
theorem dX0_isAsTaken_42 : decode cX0_isAsTaken 42 = .ok (.ireturn, 1) := by decide +kernel
theorem dX0_wasTaken_0 : decode cX0_wasTaken 0 = .ok (.iconst 0, 1) := by decide +kernel
theorem dX0_wasTaken_1 : decode cX0_wasTaken 1 = .ok (.istore_n 2, 1) := by decide +kernel
theorem dX0_wasTaken_2 : decode cX0_wasTaken 2 = .ok (.iload_n 2, 1) := by decide +kernel
theorem dX0_wasTaken_3 : decode cX0_wasTaken 3 = .ok (.aload_n 0, 1) := by decide +kernel
theorem dX0_wasTaken_4 : decode cX0_wasTaken 4 = .ok (.getfield 33, 3) := by decide +kernel
theorem dX0_wasTaken_7 : decode cX0_wasTaken 7 = .ok (.if_icmp .ge 21, 3) := by decide +kernel
theorem dX0_wasTaken_10 : decode cX0_wasTaken 10 = .ok (.aload_n 0, 1) := by decide +kernel
theorem dX0_wasTaken_11 : decode cX0_wasTaken 11 = .ok (.getfield 18, 3) := by decide +kernel
theorem dX0_wasTaken_14 : decode cX0_wasTaken 14 = .ok (.iload_n 2, 1) := by decide +kernel
theorem dX0_wasTaken_15 : decode cX0_wasTaken 15 = .ok (.iaload, 1) := by decide +kernel
theorem dX0_wasTaken_16 : decode cX0_wasTaken 16 = .ok (.iload_n 1, 1) := by decide +kernel
theorem dX0_wasTaken_17 : decode cX0_wasTaken 17 = .ok (.if_icmp .ne 5, 3) := by decide +kernel
theorem dX0_wasTaken_20 : decode cX0_wasTaken 20 = .ok (.iconst 1, 1) := by decide +kernel
theorem dX0_wasTaken_21 : decode cX0_wasTaken 21 = .ok (.ireturn, 1) := by decide +kernel
theorem dX0_wasTaken_22 : decode cX0_wasTaken 22 = .ok (.iinc 2 1, 3) := by decide +kernel
theorem dX0_wasTaken_25 : decode cX0_wasTaken 25 = .ok (.goto (-23), 3) := by decide +kernel
theorem dX0_wasTaken_28 : decode cX0_wasTaken 28 = .ok (.iconst 0, 1) := by decide +kernel
theorem dX0_wasTaken_29 : decode cX0_wasTaken 29 = .ok (.ireturn, 1) := by decide +kernel
theorem dX0_isAlly_0 : decode cX0_isAlly 0 = .ok (.aload_n 0, 1) := by decide +kernel
theorem dX0_isAlly_1 : decode cX0_isAlly 1 = .ok (.getfield 43, 3) := by decide +kernel
theorem dX0_isAlly_4 : decode cX0_isAlly 4 = .ok (.iload_n 1, 1) := by decide +kernel
theorem dX0_isAlly_5 : decode cX0_isAlly 5 = .ok (.ishr, 1) := by decide +kernel
theorem dX0_isAlly_6 : decode cX0_isAlly 6 = .ok (.iconst 1, 1) := by decide +kernel
theorem dX0_isAlly_7 : decode cX0_isAlly 7 = .ok (.iand, 1) := by decide +kernel
theorem dX0_isAlly_8 : decode cX0_isAlly 8 = .ok (.ifCond .eq 7, 3) := by decide +kernel
theorem dX0_isAlly_11 : decode cX0_isAlly 11 = .ok (.iconst 1, 1) := by decide +kernel
theorem dX0_isAlly_12 : decode cX0_isAlly 12 = .ok (.goto 4, 3) := by decide +kernel
theorem dX0_isAlly_15 : decode cX0_isAlly 15 = .ok (.iconst 0, 1) := by decide +kernel
theorem dX0_isAlly_16 : decode cX0_isAlly 16 = .ok (.ireturn, 1) := by decide +kernel
theorem dX0_blockEnd_0 : decode cX0_blockEnd 0 = .ok (.iconst 4, 1) := by decide +kernel
theorem dX0_blockEnd_1 : decode cX0_blockEnd 1 = .ok (.iload_n 1, 1) := by decide +kernel
theorem dX0_blockEnd_2 : decode cX0_blockEnd 2 = .ok (.imul, 1) := by decide +kernel
theorem dX0_blockEnd_3 : decode cX0_blockEnd 3 = .ok (.iconst 4, 1) := by decide +kernel
theorem dX0_blockEnd_4 : decode cX0_blockEnd 4 = .ok (.iadd, 1) := by decide +kernel
theorem dX0_blockEnd_5 : decode cX0_blockEnd 5 = .ok (.aload_n 0, 1) := by decide +kernel
theorem dX0_blockEnd_6 : decode cX0_blockEnd 6 = .ok (.getfield 33, 3) := by decide +kernel
theorem dX0_blockEnd_9 : decode cX0_blockEnd 9 = .ok (.invokestatic 27, 3) := by decide +kernel
theorem dX0_blockEnd_12 : decode cX0_blockEnd 12 = .ok (.ireturn, 1) := by decide +kernel
theorem dX0_alliesAt_0 : decode cX0_alliesAt 0 = .ok (.iconst 0, 1) := by decide +kernel
theorem dX0_alliesAt_1 : decode cX0_alliesAt 1 = .ok (.istore_n 3, 1) := by decide +kernel
theorem dX0_alliesAt_2 : decode cX0_alliesAt 2 = .ok (.iconst 0, 1) := by decide +kernel
theorem dX0_alliesAt_3 : decode cX0_alliesAt 3 = .ok (.istore 4, 2) := by decide +kernel
theorem dX0_alliesAt_5 : decode cX0_alliesAt 5 = .ok (.iload 4, 2) := by decide +kernel
theorem dX0_alliesAt_7 : decode cX0_alliesAt 7 = .ok (.iconst 4, 1) := by decide +kernel
theorem dX0_alliesAt_8 : decode cX0_alliesAt 8 = .ok (.if_icmp .ge 29, 3) := by decide +kernel
theorem dX0_alliesAt_11 : decode cX0_alliesAt 11 = .ok (.aload_n 0, 1) := by decide +kernel
theorem dX0_alliesAt_12 : decode cX0_alliesAt 12 = .ok (.iload 4, 2) := by decide +kernel
theorem dX0_alliesAt_14 : decode cX0_alliesAt 14 = .ok (.invokevirtual 80, 3) := by decide +kernel
theorem dX0_alliesAt_17 : decode cX0_alliesAt 17 = .ok (.ifCond .eq 14, 3) := by decide +kernel
theorem dX0_alliesAt_20 : decode cX0_alliesAt 20 = .ok (.iload_n 3, 1) := by decide +kernel
theorem dX0_alliesAt_21 : decode cX0_alliesAt 21 = .ok (.aload_n 2, 1) := by decide +kernel
theorem dX0_alliesAt_22 : decode cX0_alliesAt 22 = .ok (.iload 4, 2) := by decide +kernel
theorem dX0_alliesAt_24 : decode cX0_alliesAt 24 = .ok (.aaload, 1) := by decide +kernel
theorem dX0_alliesAt_25 : decode cX0_alliesAt 25 = .ok (.iload_n 1, 1) := by decide +kernel
theorem dX0_alliesAt_26 : decode cX0_alliesAt 26 = .ok (.invokevirtual 50, 3) := by decide +kernel
theorem dX0_alliesAt_29 : decode cX0_alliesAt 29 = .ok (.ixor, 1) := by decide +kernel
theorem dX0_alliesAt_30 : decode cX0_alliesAt 30 = .ok (.istore_n 3, 1) := by decide +kernel
theorem dX0_alliesAt_31 : decode cX0_alliesAt 31 = .ok (.iinc 4 1, 3) := by decide +kernel
theorem dX0_alliesAt_34 : decode cX0_alliesAt 34 = .ok (.goto (-29), 3) := by decide +kernel
theorem dX0_alliesAt_37 : decode cX0_alliesAt 37 = .ok (.iload_n 3, 1) := by decide +kernel
theorem dX0_alliesAt_38 : decode cX0_alliesAt 38 = .ok (.ireturn, 1) := by decide +kernel
theorem dX1_init_0 : decode cX1_init 0 = .ok (.aload_n 0, 1) := by decide +kernel
theorem dX1_init_1 : decode cX1_init 1 = .ok (.invokespecial 3, 3) := by decide +kernel
theorem dX1_init_4 : decode cX1_init 4 = .ok (.aload_n 0, 1) := by decide +kernel
theorem dX1_init_5 : decode cX1_init 5 = .ok (.new 9, 3) := by decide +kernel
theorem dX1_init_8 : decode cX1_init 8 = .ok (.dup, 1) := by decide +kernel
theorem dX1_init_9 : decode cX1_init 9 = .ok (.invokespecial 11, 3) := by decide +kernel
theorem dX1_init_12 : decode cX1_init 12 = .ok (.putfield 12, 3) := by decide +kernel
theorem dX1_init_15 : decode cX1_init 15 = .ok (.aload_n 0, 1) := by decide +kernel
theorem dX1_init_16 : decode cX1_init 16 = .ok (.new 18, 3) := by decide +kernel
theorem dX1_init_19 : decode cX1_init 19 = .ok (.dup, 1) := by decide +kernel
theorem dX1_init_20 : decode cX1_init 20 = .ok (.invokespecial 20, 3) := by decide +kernel
theorem dX1_init_23 : decode cX1_init 23 = .ok (.putfield 21, 3) := by decide +kernel
theorem dX1_init_26 : decode cX1_init 26 = .ok (.aload_n 0, 1) := by decide +kernel
theorem dX1_init_27 : decode cX1_init 27 = .ok (.bipush 24, 2) := by decide +kernel
theorem dX1_init_29 : decode cX1_init 29 = .ok (.newarray .int, 2) := by decide +kernel
theorem dX1_init_31 : decode cX1_init 31 = .ok (.putfield 25, 3) := by decide +kernel
theorem dX1_init_34 : decode cX1_init 34 = .ok (.aload_n 0, 1) := by decide +kernel
theorem dX1_init_35 : decode cX1_init 35 = .ok (.iconst 4, 1) := by decide +kernel
theorem dX1_init_36 : decode cX1_init 36 = .ok (.newarray .int, 2) := by decide +kernel
theorem dX1_init_38 : decode cX1_init 38 = .ok (.putfield 29, 3) := by decide +kernel
theorem dX1_init_41 : decode cX1_init 41 = .ok (.return_, 1) := by decide +kernel
theorem dX1_playTurn_0 : decode cX1_playTurn 0 = .ok (.iconst 0, 1) := by decide +kernel
theorem dX1_playTurn_1 : decode cX1_playTurn 1 = .ok (.istore_n 3, 1) := by decide +kernel
theorem dX1_playTurn_2 : decode cX1_playTurn 2 = .ok (.iconst 0, 1) := by decide +kernel
theorem dX1_playTurn_3 : decode cX1_playTurn 3 = .ok (.istore 4, 2) := by decide +kernel
theorem dX1_playTurn_5 : decode cX1_playTurn 5 = .ok (.iload 4, 2) := by decide +kernel
theorem dX1_playTurn_7 : decode cX1_playTurn 7 = .ok (.iconst 2, 1) := by decide +kernel
theorem dX1_playTurn_8 : decode cX1_playTurn 8 = .ok (.if_icmp .ge 38, 3) := by decide +kernel
theorem dX1_playTurn_11 : decode cX1_playTurn 11 = .ok (.aload_n 0, 1) := by decide +kernel
theorem dX1_playTurn_12 : decode cX1_playTurn 12 = .ok (.aload_n 1, 1) := by decide +kernel
theorem dX1_playTurn_13 : decode cX1_playTurn 13 = .ok (.iload_n 2, 1) := by decide +kernel
theorem dX1_playTurn_14 : decode cX1_playTurn 14 = .ok (.iload 4, 2) := by decide +kernel
theorem dX1_playTurn_16 : decode cX1_playTurn 16 = .ok (.invokevirtual 32, 3) := by decide +kernel
theorem dX1_playTurn_19 : decode cX1_playTurn 19 = .ok (.ifCond .eq 21, 3) := by decide +kernel
theorem dX1_playTurn_22 : decode cX1_playTurn 22 = .ok (.iload_n 3, 1) := by decide +kernel
theorem dX1_playTurn_23 : decode cX1_playTurn 23 = .ok (.aload_n 0, 1) := by decide +kernel
theorem dX1_playTurn_24 : decode cX1_playTurn 24 = .ok (.invokevirtual 36, 3) := by decide +kernel
theorem dX1_playTurn_27 : decode cX1_playTurn 27 = .ok (.iadd, 1) := by decide +kernel
theorem dX1_playTurn_28 : decode cX1_playTurn 28 = .ok (.istore_n 3, 1) := by decide +kernel
theorem dX1_playTurn_29 : decode cX1_playTurn 29 = .ok (.iload_n 3, 1) := by decide +kernel
theorem dX1_playTurn_30 : decode cX1_playTurn 30 = .ok (.aload_n 0, 1) := by decide +kernel
theorem dX1_playTurn_31 : decode cX1_playTurn 31 = .ok (.invokevirtual 40, 3) := by decide +kernel
theorem dX1_playTurn_34 : decode cX1_playTurn 34 = .ok (.iadd, 1) := by decide +kernel
theorem dX1_playTurn_35 : decode cX1_playTurn 35 = .ok (.istore_n 3, 1) := by decide +kernel
theorem dX1_playTurn_36 : decode cX1_playTurn 36 = .ok (.aload_n 0, 1) := by decide +kernel
theorem dX1_playTurn_37 : decode cX1_playTurn 37 = .ok (.invokevirtual 43, 3) := by decide +kernel
theorem dX1_playTurn_40 : decode cX1_playTurn 40 = .ok (.iinc 4 1, 3) := by decide +kernel
theorem dX1_playTurn_43 : decode cX1_playTurn 43 = .ok (.goto (-38), 3) := by decide +kernel
theorem dX1_playTurn_46 : decode cX1_playTurn 46 = .ok (.iload_n 3, 1) := by decide +kernel
theorem dX1_playTurn_47 : decode cX1_playTurn 47 = .ok (.ireturn, 1) := by decide +kernel
theorem dX1_readWants_0 : decode cX1_readWants 0 = .ok (.iconst 0, 1) := by decide +kernel
theorem dX1_readWants_1 : decode cX1_readWants 1 = .ok (.istore 4, 2) := by decide +kernel
theorem dX1_readWants_3 : decode cX1_readWants 3 = .ok (.iconst 0, 1) := by decide +kernel
theorem dX1_readWants_4 : decode cX1_readWants 4 = .ok (.istore 5, 2) := by decide +kernel
theorem dX1_readWants_6 : decode cX1_readWants 6 = .ok (.iload 5, 2) := by decide +kernel
theorem dX1_readWants_8 : decode cX1_readWants 8 = .ok (.aload_n 0, 1) := by decide +kernel
theorem dX1_readWants_9 : decode cX1_readWants 9 = .ok (.getfield 21, 3) := by decide +kernel
theorem dX1_readWants_12 : decode cX1_readWants 12 = .ok (.getfield 46, 3) := by decide +kernel
theorem dX1_readWants_15 : decode cX1_readWants 15 = .ok (.if_icmp .ge 70, 3) := by decide +kernel
theorem dX1_readWants_18 : decode cX1_readWants 18 = .ok (.aload_n 0, 1) := by decide +kernel
theorem dX1_readWants_19 : decode cX1_readWants 19 = .ok (.getfield 21, 3) := by decide +kernel
theorem dX1_readWants_22 : decode cX1_readWants 22 = .ok (.iload 5, 2) := by decide +kernel
theorem dX1_readWants_24 : decode cX1_readWants 24 = .ok (.invokevirtual 50, 3) := by decide +kernel
theorem dX1_readWants_27 : decode cX1_readWants 27 = .ok (.istore 6, 2) := by decide +kernel
theorem dX1_readWants_29 : decode cX1_readWants 29 = .ok (.aload_n 0, 1) := by decide +kernel
theorem dX1_readWants_30 : decode cX1_readWants 30 = .ok (.getfield 25, 3) := by decide +kernel
theorem dX1_readWants_33 : decode cX1_readWants 33 = .ok (.iload 5, 2) := by decide +kernel
theorem dX1_readWants_35 : decode cX1_readWants 35 = .ok (.iload 6, 2) := by decide +kernel
theorem dX1_readWants_37 : decode cX1_readWants 37 = .ok (.iastore, 1) := by decide +kernel
theorem dX1_readWants_38 : decode cX1_readWants 38 = .ok (.iload 6, 2) := by decide +kernel
theorem dX1_readWants_40 : decode cX1_readWants 40 = .ok (.iconst (-1), 1) := by decide +kernel
theorem dX1_readWants_41 : decode cX1_readWants 41 = .ok (.if_icmp .eq 38, 3) := by decide +kernel
theorem dX1_readWants_44 : decode cX1_readWants 44 = .ok (.aload_n 0, 1) := by decide +kernel
theorem dX1_readWants_45 : decode cX1_readWants 45 = .ok (.getfield 25, 3) := by decide +kernel
theorem dX1_readWants_48 : decode cX1_readWants 48 = .ok (.iload 5, 2) := by decide +kernel
theorem dX1_readWants_50 : decode cX1_readWants 50 = .ok (.aload_n 0, 1) := by decide +kernel
theorem dX1_readWants_51 : decode cX1_readWants 51 = .ok (.getfield 12, 3) := by decide +kernel
theorem dX1_readWants_54 : decode cX1_readWants 54 = .ok (.iload 6, 2) := by decide +kernel
theorem dX1_readWants_56 : decode cX1_readWants 56 = .ok (.aload_n 1, 1) := by decide +kernel
theorem dX1_readWants_57 : decode cX1_readWants 57 = .ok (.iload_n 2, 1) := by decide +kernel
theorem dX1_readWants_58 : decode cX1_readWants 58 = .ok (.iload 5, 2) := by decide +kernel
theorem dX1_readWants_60 : decode cX1_readWants 60 = .ok (.iload_n 3, 1) := by decide +kernel
theorem dX1_readWants_61 : decode cX1_readWants 61 = .ok (.invokevirtual 54, 3) := by decide +kernel
theorem dX1_readWants_64 : decode cX1_readWants 64 = .ok (.invokevirtual 60, 3) := by decide +kernel
theorem dX1_readWants_67 : decode cX1_readWants 67 = .ok (.iastore, 1) := by decide +kernel
theorem dX1_readWants_68 : decode cX1_readWants 68 = .ok (.iload 4, 2) := by decide +kernel
theorem dX1_readWants_70 : decode cX1_readWants 70 = .ok (.aload_n 0, 1) := by decide +kernel
theorem dX1_readWants_71 : decode cX1_readWants 71 = .ok (.iload 5, 2) := by decide +kernel
theorem dX1_readWants_73 : decode cX1_readWants 73 = .ok (.invokevirtual 64, 3) := by decide +kernel
theorem dX1_readWants_76 : decode cX1_readWants 76 = .ok (.ior, 1) := by decide +kernel
theorem dX1_readWants_77 : decode cX1_readWants 77 = .ok (.istore 4, 2) := by decide +kernel
theorem dX1_readWants_79 : decode cX1_readWants 79 = .ok (.iinc 5 1, 3) := by decide +kernel
theorem dX1_readWants_82 : decode cX1_readWants 82 = .ok (.goto (-76), 3) := by decide +kernel
theorem dX1_readWants_85 : decode cX1_readWants 85 = .ok (.iload 4, 2) := by decide +kernel
theorem dX1_readWants_87 : decode cX1_readWants 87 = .ok (.ireturn, 1) := by decide +kernel
theorem dX1_isMover_0 : decode cX1_isMover 0 = .ok (.aload_n 0, 1) := by decide +kernel
theorem dX1_isMover_1 : decode cX1_isMover 1 = .ok (.getfield 25, 3) := by decide +kernel
theorem dX1_isMover_4 : decode cX1_isMover 4 = .ok (.iload_n 1, 1) := by decide +kernel
theorem dX1_isMover_5 : decode cX1_isMover 5 = .ok (.iaload, 1) := by decide +kernel
theorem dX1_isMover_6 : decode cX1_isMover 6 = .ok (.aload_n 0, 1) := by decide +kernel
theorem dX1_isMover_7 : decode cX1_isMover 7 = .ok (.getfield 21, 3) := by decide +kernel
theorem dX1_isMover_10 : decode cX1_isMover 10 = .ok (.iload_n 1, 1) := by decide +kernel
theorem dX1_isMover_11 : decode cX1_isMover 11 = .ok (.invokevirtual 50, 3) := by decide +kernel
theorem dX1_isMover_14 : decode cX1_isMover 14 = .ok (.if_icmp .eq 7, 3) := by decide +kernel
theorem dX1_isMover_17 : decode cX1_isMover 17 = .ok (.iconst 1, 1) := by decide +kernel
theorem dX1_isMover_18 : decode cX1_isMover 18 = .ok (.goto 4, 3) := by decide +kernel
theorem dX1_isMover_21 : decode cX1_isMover 21 = .ok (.iconst 0, 1) := by decide +kernel
theorem dX1_isMover_22 : decode cX1_isMover 22 = .ok (.ireturn, 1) := by decide +kernel
theorem dX1_meetPairs_0 : decode cX1_meetPairs 0 = .ok (.iconst 0, 1) := by decide +kernel
theorem dX1_meetPairs_1 : decode cX1_meetPairs 1 = .ok (.istore_n 1, 1) := by decide +kernel
theorem dX1_meetPairs_2 : decode cX1_meetPairs 2 = .ok (.iconst 0, 1) := by decide +kernel
theorem dX1_meetPairs_3 : decode cX1_meetPairs 3 = .ok (.istore_n 2, 1) := by decide +kernel
theorem dX1_meetPairs_4 : decode cX1_meetPairs 4 = .ok (.iload_n 2, 1) := by decide +kernel
theorem dX1_meetPairs_5 : decode cX1_meetPairs 5 = .ok (.aload_n 0, 1) := by decide +kernel
theorem dX1_meetPairs_6 : decode cX1_meetPairs 6 = .ok (.getfield 21, 3) := by decide +kernel
theorem dX1_meetPairs_9 : decode cX1_meetPairs 9 = .ok (.getfield 46, 3) := by decide +kernel
theorem dX1_meetPairs_12 : decode cX1_meetPairs 12 = .ok (.if_icmp .ge 29, 3) := by decide +kernel
theorem dX1_meetPairs_15 : decode cX1_meetPairs 15 = .ok (.aload_n 0, 1) := by decide +kernel
theorem dX1_meetPairs_16 : decode cX1_meetPairs 16 = .ok (.iload_n 2, 1) := by decide +kernel
theorem dX1_meetPairs_17 : decode cX1_meetPairs 17 = .ok (.invokevirtual 68, 3) := by decide +kernel
theorem dX1_meetPairs_20 : decode cX1_meetPairs 20 = .ok (.istore_n 3, 1) := by decide +kernel
theorem dX1_meetPairs_21 : decode cX1_meetPairs 21 = .ok (.iload_n 3, 1) := by decide +kernel
theorem dX1_meetPairs_22 : decode cX1_meetPairs 22 = .ok (.iconst (-1), 1) := by decide +kernel
theorem dX1_meetPairs_23 : decode cX1_meetPairs 23 = .ok (.if_icmp .eq 12, 3) := by decide +kernel
theorem dX1_meetPairs_26 : decode cX1_meetPairs 26 = .ok (.iload_n 1, 1) := by decide +kernel
theorem dX1_meetPairs_27 : decode cX1_meetPairs 27 = .ok (.aload_n 0, 1) := by decide +kernel
theorem dX1_meetPairs_28 : decode cX1_meetPairs 28 = .ok (.iload_n 2, 1) := by decide +kernel
theorem dX1_meetPairs_29 : decode cX1_meetPairs 29 = .ok (.iload_n 3, 1) := by decide +kernel
theorem dX1_meetPairs_30 : decode cX1_meetPairs 30 = .ok (.invokevirtual 71, 3) := by decide +kernel
theorem dX1_meetPairs_33 : decode cX1_meetPairs 33 = .ok (.iadd, 1) := by decide +kernel
theorem dX1_meetPairs_34 : decode cX1_meetPairs 34 = .ok (.istore_n 1, 1) := by decide +kernel
theorem dX1_meetPairs_35 : decode cX1_meetPairs 35 = .ok (.iinc 2 1, 3) := by decide +kernel
theorem dX1_meetPairs_38 : decode cX1_meetPairs 38 = .ok (.goto (-34), 3) := by decide +kernel
theorem dX1_meetPairs_41 : decode cX1_meetPairs 41 = .ok (.iload_n 1, 1) := by decide +kernel
theorem dX1_meetPairs_42 : decode cX1_meetPairs 42 = .ok (.ireturn, 1) := by decide +kernel
theorem dX1_facing_0 : decode cX1_facing 0 = .ok (.aload_n 0, 1) := by decide +kernel
theorem dX1_facing_1 : decode cX1_facing 1 = .ok (.iload_n 1, 1) := by decide +kernel
theorem dX1_facing_2 : decode cX1_facing 2 = .ok (.invokevirtual 64, 3) := by decide +kernel
theorem dX1_facing_5 : decode cX1_facing 5 = .ok (.ifCond .ne 5, 3) := by decide +kernel
theorem dX1_facing_8 : decode cX1_facing 8 = .ok (.iconst (-1), 1) := by decide +kernel
theorem dX1_facing_9 : decode cX1_facing 9 = .ok (.ireturn, 1) := by decide +kernel
theorem dX1_facing_10 : decode cX1_facing 10 = .ok (.aload_n 0, 1) := by decide +kernel
theorem dX1_facing_11 : decode cX1_facing 11 = .ok (.getfield 21, 3) := by decide +kernel
theorem dX1_facing_14 : decode cX1_facing 14 = .ok (.aload_n 0, 1) := by decide +kernel
theorem dX1_facing_15 : decode cX1_facing 15 = .ok (.getfield 25, 3) := by decide +kernel
theorem dX1_facing_18 : decode cX1_facing 18 = .ok (.iload_n 1, 1) := by decide +kernel
theorem dX1_facing_19 : decode cX1_facing 19 = .ok (.iaload, 1) := by decide +kernel
theorem dX1_facing_20 : decode cX1_facing 20 = .ok (.invokevirtual 74, 3) := by decide +kernel
theorem dX1_facing_23 : decode cX1_facing 23 = .ok (.istore_n 2, 1) := by decide +kernel
theorem dX1_facing_24 : decode cX1_facing 24 = .ok (.iload_n 2, 1) := by decide +kernel
theorem dX1_facing_25 : decode cX1_facing 25 = .ok (.iconst (-1), 1) := by decide +kernel
theorem dX1_facing_26 : decode cX1_facing 26 = .ok (.if_icmp .eq 20, 3) := by decide +kernel
theorem dX1_facing_29 : decode cX1_facing 29 = .ok (.aload_n 0, 1) := by decide +kernel
theorem dX1_facing_30 : decode cX1_facing 30 = .ok (.getfield 25, 3) := by decide +kernel
theorem dX1_facing_33 : decode cX1_facing 33 = .ok (.iload_n 2, 1) := by decide +kernel
theorem dX1_facing_34 : decode cX1_facing 34 = .ok (.iaload, 1) := by decide +kernel
theorem dX1_facing_35 : decode cX1_facing 35 = .ok (.aload_n 0, 1) := by decide +kernel
theorem dX1_facing_36 : decode cX1_facing 36 = .ok (.getfield 21, 3) := by decide +kernel
theorem dX1_facing_39 : decode cX1_facing 39 = .ok (.iload_n 1, 1) := by decide +kernel
theorem dX1_facing_40 : decode cX1_facing 40 = .ok (.invokevirtual 50, 3) := by decide +kernel
theorem dX1_facing_43 : decode cX1_facing 43 = .ok (.if_icmp .eq 5, 3) := by decide +kernel
theorem dX1_facing_46 : decode cX1_facing 46 = .ok (.iconst (-1), 1) := by decide +kernel
theorem dX1_facing_47 : decode cX1_facing 47 = .ok (.ireturn, 1) := by decide +kernel
theorem dX1_facing_48 : decode cX1_facing 48 = .ok (.aload_n 0, 1) := by decide +kernel
theorem dX1_facing_49 : decode cX1_facing 49 = .ok (.getfield 21, 3) := by decide +kernel
theorem dX1_facing_52 : decode cX1_facing 52 = .ok (.iload_n 2, 1) := by decide +kernel
theorem dX1_facing_53 : decode cX1_facing 53 = .ok (.invokevirtual 77, 3) := by decide +kernel
theorem dX1_facing_56 : decode cX1_facing 56 = .ok (.aload_n 0, 1) := by decide +kernel
theorem dX1_facing_57 : decode cX1_facing 57 = .ok (.getfield 21, 3) := by decide +kernel
theorem dX1_facing_60 : decode cX1_facing 60 = .ok (.iload_n 1, 1) := by decide +kernel
theorem dX1_facing_61 : decode cX1_facing 61 = .ok (.invokevirtual 77, 3) := by decide +kernel
theorem dX1_facing_64 : decode cX1_facing 64 = .ok (.if_icmp .ne 7, 3) := by decide +kernel
theorem dX1_facing_67 : decode cX1_facing 67 = .ok (.iconst (-1), 1) := by decide +kernel
theorem dX1_facing_68 : decode cX1_facing 68 = .ok (.goto 4, 3) := by decide +kernel
theorem dX1_facing_71 : decode cX1_facing 71 = .ok (.iload_n 2, 1) := by decide +kernel
theorem dX1_facing_72 : decode cX1_facing 72 = .ok (.ireturn, 1) := by decide +kernel
theorem dX1_meet_0 : decode cX1_meet 0 = .ok (.aload_n 0, 1) := by decide +kernel
theorem dX1_meet_1 : decode cX1_meet 1 = .ok (.getfield 21, 3) := by decide +kernel
theorem dX1_meet_4 : decode cX1_meet 4 = .ok (.iload_n 1, 1) := by decide +kernel
theorem dX1_meet_5 : decode cX1_meet 5 = .ok (.invokevirtual 80, 3) := by decide +kernel
theorem dX1_meet_8 : decode cX1_meet 8 = .ok (.aload_n 0, 1) := by decide +kernel
theorem dX1_meet_9 : decode cX1_meet 9 = .ok (.getfield 21, 3) := by decide +kernel
theorem dX1_meet_12 : decode cX1_meet 12 = .ok (.iload_n 2, 1) := by decide +kernel
theorem dX1_meet_13 : decode cX1_meet 13 = .ok (.invokevirtual 80, 3) := by decide +kernel
theorem dX1_meet_16 : decode cX1_meet 16 = .ok (.isub, 1) := by decide +kernel
theorem dX1_meet_17 : decode cX1_meet 17 = .ok (.istore_n 3, 1) := by decide +kernel
theorem dX1_meet_18 : decode cX1_meet 18 = .ok (.iload_n 3, 1) := by decide +kernel
theorem dX1_meet_19 : decode cX1_meet 19 = .ok (.ifCond .ne 33, 3) := by decide +kernel
theorem dX1_meet_22 : decode cX1_meet 22 = .ok (.aload_n 0, 1) := by decide +kernel
theorem dX1_meet_23 : decode cX1_meet 23 = .ok (.getfield 25, 3) := by decide +kernel
theorem dX1_meet_26 : decode cX1_meet 26 = .ok (.iload_n 1, 1) := by decide +kernel
theorem dX1_meet_27 : decode cX1_meet 27 = .ok (.aload_n 0, 1) := by decide +kernel
theorem dX1_meet_28 : decode cX1_meet 28 = .ok (.getfield 21, 3) := by decide +kernel
theorem dX1_meet_31 : decode cX1_meet 31 = .ok (.iload_n 1, 1) := by decide +kernel
theorem dX1_meet_32 : decode cX1_meet 32 = .ok (.invokevirtual 50, 3) := by decide +kernel
theorem dX1_meet_35 : decode cX1_meet 35 = .ok (.iastore, 1) := by decide +kernel
theorem dX1_meet_36 : decode cX1_meet 36 = .ok (.aload_n 0, 1) := by decide +kernel
theorem dX1_meet_37 : decode cX1_meet 37 = .ok (.getfield 25, 3) := by decide +kernel
theorem dX1_meet_40 : decode cX1_meet 40 = .ok (.iload_n 2, 1) := by decide +kernel
theorem dX1_meet_41 : decode cX1_meet 41 = .ok (.aload_n 0, 1) := by decide +kernel
theorem dX1_meet_42 : decode cX1_meet 42 = .ok (.getfield 21, 3) := by decide +kernel
theorem dX1_meet_45 : decode cX1_meet 45 = .ok (.iload_n 2, 1) := by decide +kernel
theorem dX1_meet_46 : decode cX1_meet 46 = .ok (.invokevirtual 50, 3) := by decide +kernel
theorem dX1_meet_49 : decode cX1_meet 49 = .ok (.iastore, 1) := by decide +kernel
theorem dX1_meet_50 : decode cX1_meet 50 = .ok (.iconst 0, 1) := by decide +kernel
theorem dX1_meet_51 : decode cX1_meet 51 = .ok (.ireturn, 1) := by decide +kernel
theorem dX1_meet_52 : decode cX1_meet 52 = .ok (.aload_n 0, 1) := by decide +kernel
theorem dX1_meet_53 : decode cX1_meet 53 = .ok (.iload_n 3, 1) := by decide +kernel
theorem dX1_meet_54 : decode cX1_meet 54 = .ok (.ifCond .ge 7, 3) := by decide +kernel
theorem dX1_meet_57 : decode cX1_meet 57 = .ok (.iload_n 1, 1) := by decide +kernel
theorem dX1_meet_58 : decode cX1_meet 58 = .ok (.goto 4, 3) := by decide +kernel
theorem dX1_meet_61 : decode cX1_meet 61 = .ok (.iload_n 2, 1) := by decide +kernel
theorem dX1_meet_62 : decode cX1_meet 62 = .ok (.invokevirtual 83, 3) := by decide +kernel
theorem dX1_meet_65 : decode cX1_meet 65 = .ok (.iconst 1, 1) := by decide +kernel
theorem dX1_meet_66 : decode cX1_meet 66 = .ok (.ireturn, 1) := by decide +kernel
theorem dX1_lose_0 : decode cX1_lose 0 = .ok (.aload_n 0, 1) := by decide +kernel
theorem dX1_lose_1 : decode cX1_lose 1 = .ok (.getfield 21, 3) := by decide +kernel
theorem dX1_lose_4 : decode cX1_lose 4 = .ok (.iload_n 1, 1) := by decide +kernel
theorem dX1_lose_5 : decode cX1_lose 5 = .ok (.iconst (-1), 1) := by decide +kernel
theorem dX1_lose_6 : decode cX1_lose 6 = .ok (.invokevirtual 87, 3) := by decide +kernel
theorem dX1_lose_9 : decode cX1_lose 9 = .ok (.aload_n 0, 1) := by decide +kernel
theorem dX1_lose_10 : decode cX1_lose 10 = .ok (.getfield 25, 3) := by decide +kernel
theorem dX1_lose_13 : decode cX1_lose 13 = .ok (.iload_n 1, 1) := by decide +kernel
theorem dX1_lose_14 : decode cX1_lose 14 = .ok (.iconst (-1), 1) := by decide +kernel
theorem dX1_lose_15 : decode cX1_lose 15 = .ok (.iastore, 1) := by decide +kernel
theorem dX1_lose_16 : decode cX1_lose 16 = .ok (.return_, 1) := by decide +kernel
theorem dX1_settleCells_0 : decode cX1_settleCells 0 = .ok (.iconst 0, 1) := by decide +kernel
theorem dX1_settleCells_1 : decode cX1_settleCells 1 = .ok (.istore_n 1, 1) := by decide +kernel
theorem dX1_settleCells_2 : decode cX1_settleCells 2 = .ok (.iconst 0, 1) := by decide +kernel
theorem dX1_settleCells_3 : decode cX1_settleCells 3 = .ok (.istore_n 2, 1) := by decide +kernel
theorem dX1_settleCells_4 : decode cX1_settleCells 4 = .ok (.iload_n 2, 1) := by decide +kernel
theorem dX1_settleCells_5 : decode cX1_settleCells 5 = .ok (.bipush 48, 2) := by decide +kernel
theorem dX1_settleCells_7 : decode cX1_settleCells 7 = .ok (.if_icmp .ge 29, 3) := by decide +kernel
theorem dX1_settleCells_10 : decode cX1_settleCells 10 = .ok (.aload_n 0, 1) := by decide +kernel
theorem dX1_settleCells_11 : decode cX1_settleCells 11 = .ok (.invokevirtual 91, 3) := by decide +kernel
theorem dX1_settleCells_14 : decode cX1_settleCells 14 = .ok (.istore_n 3, 1) := by decide +kernel
theorem dX1_settleCells_15 : decode cX1_settleCells 15 = .ok (.iload_n 3, 1) := by decide +kernel
theorem dX1_settleCells_16 : decode cX1_settleCells 16 = .ok (.iconst (-1), 1) := by decide +kernel
theorem dX1_settleCells_17 : decode cX1_settleCells 17 = .ok (.if_icmp .ne 5, 3) := by decide +kernel
theorem dX1_settleCells_20 : decode cX1_settleCells 20 = .ok (.iload_n 1, 1) := by decide +kernel
theorem dX1_settleCells_21 : decode cX1_settleCells 21 = .ok (.ireturn, 1) := by decide +kernel
theorem dX1_settleCells_22 : decode cX1_settleCells 22 = .ok (.iload_n 1, 1) := by decide +kernel
theorem dX1_settleCells_23 : decode cX1_settleCells 23 = .ok (.aload_n 0, 1) := by decide +kernel
theorem dX1_settleCells_24 : decode cX1_settleCells 24 = .ok (.iload_n 3, 1) := by decide +kernel
theorem dX1_settleCells_25 : decode cX1_settleCells 25 = .ok (.invokevirtual 94, 3) := by decide +kernel
theorem dX1_settleCells_28 : decode cX1_settleCells 28 = .ok (.iadd, 1) := by decide +kernel
theorem dX1_settleCells_29 : decode cX1_settleCells 29 = .ok (.istore_n 1, 1) := by decide +kernel
theorem dX1_settleCells_30 : decode cX1_settleCells 30 = .ok (.iinc 2 1, 3) := by decide +kernel
theorem dX1_settleCells_33 : decode cX1_settleCells 33 = .ok (.goto (-29), 3) := by decide +kernel
theorem dX1_settleCells_36 : decode cX1_settleCells 36 = .ok (.iload_n 1, 1) := by decide +kernel
theorem dX1_settleCells_37 : decode cX1_settleCells 37 = .ok (.ireturn, 1) := by decide +kernel
theorem dX1_lowestContested_0 : decode cX1_lowestContested 0 = .ok (.bipush 64, 2) := by decide +kernel
theorem dX1_lowestContested_2 : decode cX1_lowestContested 2 = .ok (.istore_n 1, 1) := by decide +kernel
theorem dX1_lowestContested_3 : decode cX1_lowestContested 3 = .ok (.iconst 0, 1) := by decide +kernel
theorem dX1_lowestContested_4 : decode cX1_lowestContested 4 = .ok (.istore_n 2, 1) := by decide +kernel
theorem dX1_lowestContested_5 : decode cX1_lowestContested 5 = .ok (.iload_n 2, 1) := by decide +kernel
theorem dX1_lowestContested_6 : decode cX1_lowestContested 6 = .ok (.aload_n 0, 1) := by decide +kernel
theorem dX1_lowestContested_7 : decode cX1_lowestContested 7 = .ok (.getfield 21, 3) := by decide +kernel
theorem dX1_lowestContested_10 : decode cX1_lowestContested 10 = .ok (.getfield 46, 3) := by decide +kernel
theorem dX1_lowestContested_13 : decode cX1_lowestContested 13 = .ok (.if_icmp .ge 47, 3) := by decide +kernel
theorem dX1_lowestContested_16 : decode cX1_lowestContested 16 = .ok (.aload_n 0, 1) := by decide +kernel
theorem dX1_lowestContested_17 : decode cX1_lowestContested 17 = .ok (.iload_n 2, 1) := by decide +kernel
theorem dX1_lowestContested_18 : decode cX1_lowestContested 18 = .ok (.invokevirtual 64, 3) := by decide +kernel
theorem dX1_lowestContested_21 : decode cX1_lowestContested 21 = .ok (.ifCond .eq 33, 3) := by decide +kernel
theorem dX1_lowestContested_24 : decode cX1_lowestContested 24 = .ok (.aload_n 0, 1) := by decide +kernel
theorem dX1_lowestContested_25 : decode cX1_lowestContested 25 = .ok (.getfield 25, 3) := by decide +kernel
theorem dX1_lowestContested_28 : decode cX1_lowestContested 28 = .ok (.iload_n 2, 1) := by decide +kernel
theorem dX1_lowestContested_29 : decode cX1_lowestContested 29 = .ok (.iaload, 1) := by decide +kernel
theorem dX1_lowestContested_30 : decode cX1_lowestContested 30 = .ok (.iload_n 1, 1) := by decide +kernel
theorem dX1_lowestContested_31 : decode cX1_lowestContested 31 = .ok (.if_icmp .ge 23, 3) := by decide +kernel
theorem dX1_lowestContested_34 : decode cX1_lowestContested 34 = .ok (.aload_n 0, 1) := by decide +kernel
theorem dX1_lowestContested_35 : decode cX1_lowestContested 35 = .ok (.aload_n 0, 1) := by decide +kernel
theorem dX1_lowestContested_36 : decode cX1_lowestContested 36 = .ok (.getfield 25, 3) := by decide +kernel
theorem dX1_lowestContested_39 : decode cX1_lowestContested 39 = .ok (.iload_n 2, 1) := by decide +kernel
theorem dX1_lowestContested_40 : decode cX1_lowestContested 40 = .ok (.iaload, 1) := by decide +kernel
theorem dX1_lowestContested_41 : decode cX1_lowestContested 41 = .ok (.invokevirtual 97, 3) := by decide +kernel
theorem dX1_lowestContested_44 : decode cX1_lowestContested 44 = .ok (.ifCond .eq 10, 3) := by decide +kernel
theorem dX1_lowestContested_47 : decode cX1_lowestContested 47 = .ok (.aload_n 0, 1) := by decide +kernel
theorem dX1_lowestContested_48 : decode cX1_lowestContested 48 = .ok (.getfield 25, 3) := by decide +kernel
theorem dX1_lowestContested_51 : decode cX1_lowestContested 51 = .ok (.iload_n 2, 1) := by decide +kernel
theorem dX1_lowestContested_52 : decode cX1_lowestContested 52 = .ok (.iaload, 1) := by decide +kernel
theorem dX1_lowestContested_53 : decode cX1_lowestContested 53 = .ok (.istore_n 1, 1) := by decide +kernel
theorem dX1_lowestContested_54 : decode cX1_lowestContested 54 = .ok (.iinc 2 1, 3) := by decide +kernel
theorem dX1_lowestContested_57 : decode cX1_lowestContested 57 = .ok (.goto (-52), 3) := by decide +kernel
theorem dX1_lowestContested_60 : decode cX1_lowestContested 60 = .ok (.iload_n 1, 1) := by decide +kernel
theorem dX1_lowestContested_61 : decode cX1_lowestContested 61 = .ok (.bipush 64, 2) := by decide +kernel
theorem dX1_lowestContested_63 : decode cX1_lowestContested 63 = .ok (.if_icmp .ne 7, 3) := by decide +kernel
theorem dX1_lowestContested_66 : decode cX1_lowestContested 66 = .ok (.iconst (-1), 1) := by decide +kernel
theorem dX1_lowestContested_67 : decode cX1_lowestContested 67 = .ok (.goto 4, 3) := by decide +kernel
theorem dX1_lowestContested_70 : decode cX1_lowestContested 70 = .ok (.iload_n 1, 1) := by decide +kernel
theorem dX1_lowestContested_71 : decode cX1_lowestContested 71 = .ok (.ireturn, 1) := by decide +kernel
theorem dX1_isContested_0 : decode cX1_isContested 0 = .ok (.iconst 0, 1) := by decide +kernel
theorem dX1_isContested_1 : decode cX1_isContested 1 = .ok (.istore_n 2, 1) := by decide +kernel
theorem dX1_isContested_2 : decode cX1_isContested 2 = .ok (.iconst 0, 1) := by decide +kernel
theorem dX1_isContested_3 : decode cX1_isContested 3 = .ok (.istore_n 3, 1) := by decide +kernel
theorem dX1_isContested_4 : decode cX1_isContested 4 = .ok (.iload_n 3, 1) := by decide +kernel
theorem dX1_isContested_5 : decode cX1_isContested 5 = .ok (.aload_n 0, 1) := by decide +kernel
theorem dX1_isContested_6 : decode cX1_isContested 6 = .ok (.getfield 21, 3) := by decide +kernel
theorem dX1_isContested_9 : decode cX1_isContested 9 = .ok (.getfield 46, 3) := by decide +kernel
theorem dX1_isContested_12 : decode cX1_isContested 12 = .ok (.if_icmp .ge 22, 3) := by decide +kernel
theorem dX1_isContested_15 : decode cX1_isContested 15 = .ok (.aload_n 0, 1) := by decide +kernel
theorem dX1_isContested_16 : decode cX1_isContested 16 = .ok (.getfield 25, 3) := by decide +kernel
theorem dX1_isContested_19 : decode cX1_isContested 19 = .ok (.iload_n 3, 1) := by decide +kernel
theorem dX1_isContested_20 : decode cX1_isContested 20 = .ok (.iaload, 1) := by decide +kernel
theorem dX1_isContested_21 : decode cX1_isContested 21 = .ok (.iload_n 1, 1) := by decide +kernel
theorem dX1_isContested_22 : decode cX1_isContested 22 = .ok (.if_icmp .ne 6, 3) := by decide +kernel
theorem dX1_isContested_25 : decode cX1_isContested 25 = .ok (.iinc 2 1, 3) := by decide +kernel
theorem dX1_isContested_28 : decode cX1_isContested 28 = .ok (.iinc 3 1, 3) := by decide +kernel
theorem dX1_isContested_31 : decode cX1_isContested 31 = .ok (.goto (-27), 3) := by decide +kernel
theorem dX1_isContested_34 : decode cX1_isContested 34 = .ok (.iload_n 2, 1) := by decide +kernel
theorem dX1_isContested_35 : decode cX1_isContested 35 = .ok (.iconst 1, 1) := by decide +kernel
theorem dX1_isContested_36 : decode cX1_isContested 36 = .ok (.if_icmp .le 7, 3) := by decide +kernel
theorem dX1_isContested_39 : decode cX1_isContested 39 = .ok (.iconst 1, 1) := by decide +kernel
theorem dX1_isContested_40 : decode cX1_isContested 40 = .ok (.goto 4, 3) := by decide +kernel
theorem dX1_isContested_43 : decode cX1_isContested 43 = .ok (.iconst 0, 1) := by decide +kernel
theorem dX1_isContested_44 : decode cX1_isContested 44 = .ok (.ireturn, 1) := by decide +kernel
theorem dX1_lookAt_0 : decode cX1_lookAt 0 = .ok (.aload_n 0, 1) := by decide +kernel
theorem dX1_lookAt_1 : decode cX1_lookAt 1 = .ok (.getfield 21, 3) := by decide +kernel
theorem dX1_lookAt_4 : decode cX1_lookAt 4 = .ok (.iload_n 1, 1) := by decide +kernel
theorem dX1_lookAt_5 : decode cX1_lookAt 5 = .ok (.invokevirtual 74, 3) := by decide +kernel
theorem dX1_lookAt_8 : decode cX1_lookAt 8 = .ok (.istore_n 2, 1) := by decide +kernel
theorem dX1_lookAt_9 : decode cX1_lookAt 9 = .ok (.aload_n 0, 1) := by decide +kernel
theorem dX1_lookAt_10 : decode cX1_lookAt 10 = .ok (.iload_n 1, 1) := by decide +kernel
theorem dX1_lookAt_11 : decode cX1_lookAt 11 = .ok (.invokevirtual 100, 3) := by decide +kernel
theorem dX1_lookAt_14 : decode cX1_lookAt 14 = .ok (.istore_n 3, 1) := by decide +kernel
theorem dX1_lookAt_15 : decode cX1_lookAt 15 = .ok (.iload_n 2, 1) := by decide +kernel
theorem dX1_lookAt_16 : decode cX1_lookAt 16 = .ok (.iconst (-1), 1) := by decide +kernel
theorem dX1_lookAt_17 : decode cX1_lookAt 17 = .ok (.if_icmp .eq 13, 3) := by decide +kernel
theorem dX1_lookAt_20 : decode cX1_lookAt 20 = .ok (.aload_n 0, 1) := by decide +kernel
theorem dX1_lookAt_21 : decode cX1_lookAt 21 = .ok (.getfield 25, 3) := by decide +kernel
theorem dX1_lookAt_24 : decode cX1_lookAt 24 = .ok (.iload_n 2, 1) := by decide +kernel
theorem dX1_lookAt_25 : decode cX1_lookAt 25 = .ok (.iaload, 1) := by decide +kernel
theorem dX1_lookAt_26 : decode cX1_lookAt 26 = .ok (.iload_n 1, 1) := by decide +kernel
theorem dX1_lookAt_27 : decode cX1_lookAt 27 = .ok (.if_icmp .eq 16, 3) := by decide +kernel
theorem dX1_lookAt_30 : decode cX1_lookAt 30 = .ok (.aload_n 0, 1) := by decide +kernel
theorem dX1_lookAt_31 : decode cX1_lookAt 31 = .ok (.iload_n 1, 1) := by decide +kernel
theorem dX1_lookAt_32 : decode cX1_lookAt 32 = .ok (.aload_n 0, 1) := by decide +kernel
theorem dX1_lookAt_33 : decode cX1_lookAt 33 = .ok (.iload_n 1, 1) := by decide +kernel
theorem dX1_lookAt_34 : decode cX1_lookAt 34 = .ok (.iload_n 3, 1) := by decide +kernel
theorem dX1_lookAt_35 : decode cX1_lookAt 35 = .ok (.invokevirtual 103, 3) := by decide +kernel
theorem dX1_lookAt_38 : decode cX1_lookAt 38 = .ok (.invokevirtual 106, 3) := by decide +kernel
theorem dX1_lookAt_41 : decode cX1_lookAt 41 = .ok (.iconst 0, 1) := by decide +kernel
theorem dX1_lookAt_42 : decode cX1_lookAt 42 = .ok (.ireturn, 1) := by decide +kernel
theorem dX1_lookAt_43 : decode cX1_lookAt 43 = .ok (.iload_n 3, 1) := by decide +kernel
theorem dX1_lookAt_44 : decode cX1_lookAt 44 = .ok (.iconst (-1), 1) := by decide +kernel
theorem dX1_lookAt_45 : decode cX1_lookAt 45 = .ok (.if_icmp .eq 15, 3) := by decide +kernel
theorem dX1_lookAt_48 : decode cX1_lookAt 48 = .ok (.iload_n 3, 1) := by decide +kernel
theorem dX1_lookAt_49 : decode cX1_lookAt 49 = .ok (.aload_n 0, 1) := by decide +kernel
theorem dX1_lookAt_50 : decode cX1_lookAt 50 = .ok (.getfield 21, 3) := by decide +kernel
theorem dX1_lookAt_53 : decode cX1_lookAt 53 = .ok (.iload_n 2, 1) := by decide +kernel
theorem dX1_lookAt_54 : decode cX1_lookAt 54 = .ok (.invokevirtual 77, 3) := by decide +kernel
theorem dX1_lookAt_57 : decode cX1_lookAt 57 = .ok (.if_icmp .ne 11, 3) := by decide +kernel
theorem dX1_lookAt_60 : decode cX1_lookAt 60 = .ok (.aload_n 0, 1) := by decide +kernel
theorem dX1_lookAt_61 : decode cX1_lookAt 61 = .ok (.iload_n 1, 1) := by decide +kernel
theorem dX1_lookAt_62 : decode cX1_lookAt 62 = .ok (.iconst (-1), 1) := by decide +kernel
theorem dX1_lookAt_63 : decode cX1_lookAt 63 = .ok (.invokevirtual 106, 3) := by decide +kernel
theorem dX1_lookAt_66 : decode cX1_lookAt 66 = .ok (.iconst 0, 1) := by decide +kernel
theorem dX1_lookAt_67 : decode cX1_lookAt 67 = .ok (.ireturn, 1) := by decide +kernel
theorem dX1_lookAt_68 : decode cX1_lookAt 68 = .ok (.aload_n 0, 1) := by decide +kernel
theorem dX1_lookAt_69 : decode cX1_lookAt 69 = .ok (.iload_n 2, 1) := by decide +kernel
theorem dX1_lookAt_70 : decode cX1_lookAt 70 = .ok (.invokevirtual 83, 3) := by decide +kernel
theorem dX1_lookAt_73 : decode cX1_lookAt 73 = .ok (.iconst 1, 1) := by decide +kernel
theorem dX1_lookAt_74 : decode cX1_lookAt 74 = .ok (.ireturn, 1) := by decide +kernel
theorem dX1_strongestFor_0 : decode cX1_strongestFor 0 = .ok (.aload_n 0, 1) := by decide +kernel
theorem dX1_strongestFor_1 : decode cX1_strongestFor 1 = .ok (.getfield 29, 3) := by decide +kernel
theorem dX1_strongestFor_4 : decode cX1_strongestFor 4 = .ok (.iconst 0, 1) := by decide +kernel
theorem dX1_strongestFor_5 : decode cX1_strongestFor 5 = .ok (.invokestatic 109, 3) := by decide +kernel
theorem dX1_strongestFor_8 : decode cX1_strongestFor 8 = .ok (.iconst 0, 1) := by decide +kernel
theorem dX1_strongestFor_9 : decode cX1_strongestFor 9 = .ok (.istore_n 2, 1) := by decide +kernel
theorem dX1_strongestFor_10 : decode cX1_strongestFor 10 = .ok (.iload_n 2, 1) := by decide +kernel
theorem dX1_strongestFor_11 : decode cX1_strongestFor 11 = .ok (.aload_n 0, 1) := by decide +kernel
theorem dX1_strongestFor_12 : decode cX1_strongestFor 12 = .ok (.getfield 21, 3) := by decide +kernel
theorem dX1_strongestFor_15 : decode cX1_strongestFor 15 = .ok (.getfield 46, 3) := by decide +kernel
theorem dX1_strongestFor_18 : decode cX1_strongestFor 18 = .ok (.if_icmp .ge 54, 3) := by decide +kernel
theorem dX1_strongestFor_21 : decode cX1_strongestFor 21 = .ok (.aload_n 0, 1) := by decide +kernel
theorem dX1_strongestFor_22 : decode cX1_strongestFor 22 = .ok (.getfield 21, 3) := by decide +kernel
theorem dX1_strongestFor_25 : decode cX1_strongestFor 25 = .ok (.iload_n 2, 1) := by decide +kernel
theorem dX1_strongestFor_26 : decode cX1_strongestFor 26 = .ok (.invokevirtual 77, 3) := by decide +kernel
theorem dX1_strongestFor_29 : decode cX1_strongestFor 29 = .ok (.istore_n 3, 1) := by decide +kernel
theorem dX1_strongestFor_30 : decode cX1_strongestFor 30 = .ok (.aload_n 0, 1) := by decide +kernel
theorem dX1_strongestFor_31 : decode cX1_strongestFor 31 = .ok (.getfield 25, 3) := by decide +kernel
theorem dX1_strongestFor_34 : decode cX1_strongestFor 34 = .ok (.iload_n 2, 1) := by decide +kernel
theorem dX1_strongestFor_35 : decode cX1_strongestFor 35 = .ok (.iaload, 1) := by decide +kernel
theorem dX1_strongestFor_36 : decode cX1_strongestFor 36 = .ok (.iload_n 1, 1) := by decide +kernel
theorem dX1_strongestFor_37 : decode cX1_strongestFor 37 = .ok (.if_icmp .ne 29, 3) := by decide +kernel
theorem dX1_strongestFor_40 : decode cX1_strongestFor 40 = .ok (.iload_n 3, 1) := by decide +kernel
theorem dX1_strongestFor_41 : decode cX1_strongestFor 41 = .ok (.ifCond .lt 25, 3) := by decide +kernel
theorem dX1_strongestFor_44 : decode cX1_strongestFor 44 = .ok (.iload_n 3, 1) := by decide +kernel
theorem dX1_strongestFor_45 : decode cX1_strongestFor 45 = .ok (.iconst 4, 1) := by decide +kernel
theorem dX1_strongestFor_46 : decode cX1_strongestFor 46 = .ok (.if_icmp .ge 20, 3) := by decide +kernel
theorem dX1_strongestFor_49 : decode cX1_strongestFor 49 = .ok (.aload_n 0, 1) := by decide +kernel
theorem dX1_strongestFor_50 : decode cX1_strongestFor 50 = .ok (.getfield 29, 3) := by decide +kernel
theorem dX1_strongestFor_53 : decode cX1_strongestFor 53 = .ok (.iload_n 3, 1) := by decide +kernel
theorem dX1_strongestFor_54 : decode cX1_strongestFor 54 = .ok (.dup2, 1) := by decide +kernel
theorem dX1_strongestFor_55 : decode cX1_strongestFor 55 = .ok (.iaload, 1) := by decide +kernel
theorem dX1_strongestFor_56 : decode cX1_strongestFor 56 = .ok (.aload_n 0, 1) := by decide +kernel
theorem dX1_strongestFor_57 : decode cX1_strongestFor 57 = .ok (.getfield 21, 3) := by decide +kernel
theorem dX1_strongestFor_60 : decode cX1_strongestFor 60 = .ok (.iload_n 2, 1) := by decide +kernel
theorem dX1_strongestFor_61 : decode cX1_strongestFor 61 = .ok (.invokevirtual 80, 3) := by decide +kernel
theorem dX1_strongestFor_64 : decode cX1_strongestFor 64 = .ok (.iadd, 1) := by decide +kernel
theorem dX1_strongestFor_65 : decode cX1_strongestFor 65 = .ok (.iastore, 1) := by decide +kernel
theorem dX1_strongestFor_66 : decode cX1_strongestFor 66 = .ok (.iinc 2 1, 3) := by decide +kernel
theorem dX1_strongestFor_69 : decode cX1_strongestFor 69 = .ok (.goto (-59), 3) := by decide +kernel
theorem dX1_strongestFor_72 : decode cX1_strongestFor 72 = .ok (.iconst (-1), 1) := by decide +kernel
theorem dX1_strongestFor_73 : decode cX1_strongestFor 73 = .ok (.istore_n 2, 1) := by decide +kernel
theorem dX1_strongestFor_74 : decode cX1_strongestFor 74 = .ok (.iconst 0, 1) := by decide +kernel
theorem dX1_strongestFor_75 : decode cX1_strongestFor 75 = .ok (.istore_n 3, 1) := by decide +kernel
theorem dX1_strongestFor_76 : decode cX1_strongestFor 76 = .ok (.iconst 0, 1) := by decide +kernel
theorem dX1_strongestFor_77 : decode cX1_strongestFor 77 = .ok (.istore 4, 2) := by decide +kernel
theorem dX1_strongestFor_79 : decode cX1_strongestFor 79 = .ok (.iload 4, 2) := by decide +kernel
theorem dX1_strongestFor_81 : decode cX1_strongestFor 81 = .ok (.iconst 4, 1) := by decide +kernel
theorem dX1_strongestFor_82 : decode cX1_strongestFor 82 = .ok (.if_icmp .ge 47, 3) := by decide +kernel
theorem dX1_strongestFor_85 : decode cX1_strongestFor 85 = .ok (.aload_n 0, 1) := by decide +kernel
theorem dX1_strongestFor_86 : decode cX1_strongestFor 86 = .ok (.getfield 29, 3) := by decide +kernel
theorem dX1_strongestFor_89 : decode cX1_strongestFor 89 = .ok (.iload 4, 2) := by decide +kernel
theorem dX1_strongestFor_91 : decode cX1_strongestFor 91 = .ok (.iaload, 1) := by decide +kernel
theorem dX1_strongestFor_92 : decode cX1_strongestFor 92 = .ok (.iload_n 3, 1) := by decide +kernel
theorem dX1_strongestFor_93 : decode cX1_strongestFor 93 = .ok (.if_icmp .le 17, 3) := by decide +kernel
theorem dX1_strongestFor_96 : decode cX1_strongestFor 96 = .ok (.aload_n 0, 1) := by decide +kernel
theorem dX1_strongestFor_97 : decode cX1_strongestFor 97 = .ok (.getfield 29, 3) := by decide +kernel
theorem dX1_strongestFor_100 : decode cX1_strongestFor 100 = .ok (.iload 4, 2) := by decide +kernel
theorem dX1_strongestFor_102 : decode cX1_strongestFor 102 = .ok (.iaload, 1) := by decide +kernel
theorem dX1_strongestFor_103 : decode cX1_strongestFor 103 = .ok (.istore_n 3, 1) := by decide +kernel
theorem dX1_strongestFor_104 : decode cX1_strongestFor 104 = .ok (.iload 4, 2) := by decide +kernel
theorem dX1_strongestFor_106 : decode cX1_strongestFor 106 = .ok (.istore_n 2, 1) := by decide +kernel
theorem dX1_strongestFor_107 : decode cX1_strongestFor 107 = .ok (.goto 16, 3) := by decide +kernel
theorem dX1_strongestFor_110 : decode cX1_strongestFor 110 = .ok (.aload_n 0, 1) := by decide +kernel
theorem dX1_strongestFor_111 : decode cX1_strongestFor 111 = .ok (.getfield 29, 3) := by decide +kernel
theorem dX1_strongestFor_114 : decode cX1_strongestFor 114 = .ok (.iload 4, 2) := by decide +kernel
theorem dX1_strongestFor_116 : decode cX1_strongestFor 116 = .ok (.iaload, 1) := by decide +kernel
theorem dX1_strongestFor_117 : decode cX1_strongestFor 117 = .ok (.iload_n 3, 1) := by decide +kernel
theorem dX1_strongestFor_118 : decode cX1_strongestFor 118 = .ok (.if_icmp .ne 5, 3) := by decide +kernel
theorem dX1_strongestFor_121 : decode cX1_strongestFor 121 = .ok (.iconst (-1), 1) := by decide +kernel
theorem dX1_strongestFor_122 : decode cX1_strongestFor 122 = .ok (.istore_n 2, 1) := by decide +kernel
theorem dX1_strongestFor_123 : decode cX1_strongestFor 123 = .ok (.iinc 4 1, 3) := by decide +kernel
theorem dX1_strongestFor_126 : decode cX1_strongestFor 126 = .ok (.goto (-47), 3) := by decide +kernel
theorem dX1_strongestFor_129 : decode cX1_strongestFor 129 = .ok (.iload_n 2, 1) := by decide +kernel
theorem dX1_strongestFor_130 : decode cX1_strongestFor 130 = .ok (.ireturn, 1) := by decide +kernel
theorem dX1_firstMover_0 : decode cX1_firstMover 0 = .ok (.iconst 0, 1) := by decide +kernel
theorem dX1_firstMover_1 : decode cX1_firstMover 1 = .ok (.istore_n 3, 1) := by decide +kernel
theorem dX1_firstMover_2 : decode cX1_firstMover 2 = .ok (.iload_n 3, 1) := by decide +kernel
theorem dX1_firstMover_3 : decode cX1_firstMover 3 = .ok (.aload_n 0, 1) := by decide +kernel
theorem dX1_firstMover_4 : decode cX1_firstMover 4 = .ok (.getfield 21, 3) := by decide +kernel
theorem dX1_firstMover_7 : decode cX1_firstMover 7 = .ok (.getfield 46, 3) := by decide +kernel
theorem dX1_firstMover_10 : decode cX1_firstMover 10 = .ok (.if_icmp .ge 33, 3) := by decide +kernel
theorem dX1_firstMover_13 : decode cX1_firstMover 13 = .ok (.aload_n 0, 1) := by decide +kernel
theorem dX1_firstMover_14 : decode cX1_firstMover 14 = .ok (.getfield 25, 3) := by decide +kernel
theorem dX1_firstMover_17 : decode cX1_firstMover 17 = .ok (.iload_n 3, 1) := by decide +kernel
theorem dX1_firstMover_18 : decode cX1_firstMover 18 = .ok (.iaload, 1) := by decide +kernel
theorem dX1_firstMover_19 : decode cX1_firstMover 19 = .ok (.iload_n 1, 1) := by decide +kernel
theorem dX1_firstMover_20 : decode cX1_firstMover 20 = .ok (.if_icmp .ne 17, 3) := by decide +kernel
theorem dX1_firstMover_23 : decode cX1_firstMover 23 = .ok (.aload_n 0, 1) := by decide +kernel
theorem dX1_firstMover_24 : decode cX1_firstMover 24 = .ok (.getfield 21, 3) := by decide +kernel
theorem dX1_firstMover_27 : decode cX1_firstMover 27 = .ok (.iload_n 3, 1) := by decide +kernel
theorem dX1_firstMover_28 : decode cX1_firstMover 28 = .ok (.invokevirtual 77, 3) := by decide +kernel
theorem dX1_firstMover_31 : decode cX1_firstMover 31 = .ok (.iload_n 2, 1) := by decide +kernel
theorem dX1_firstMover_32 : decode cX1_firstMover 32 = .ok (.if_icmp .ne 5, 3) := by decide +kernel
theorem dX1_firstMover_35 : decode cX1_firstMover 35 = .ok (.iload_n 3, 1) := by decide +kernel
theorem dX1_firstMover_36 : decode cX1_firstMover 36 = .ok (.ireturn, 1) := by decide +kernel
theorem dX1_firstMover_37 : decode cX1_firstMover 37 = .ok (.iinc 3 1, 3) := by decide +kernel
theorem dX1_firstMover_40 : decode cX1_firstMover 40 = .ok (.goto (-38), 3) := by decide +kernel
theorem dX1_firstMover_43 : decode cX1_firstMover 43 = .ok (.iconst (-1), 1) := by decide +kernel
theorem dX1_firstMover_44 : decode cX1_firstMover 44 = .ok (.ireturn, 1) := by decide +kernel
theorem dX1_turnBack_0 : decode cX1_turnBack 0 = .ok (.iconst 0, 1) := by decide +kernel
theorem dX1_turnBack_1 : decode cX1_turnBack 1 = .ok (.istore_n 3, 1) := by decide +kernel
theorem dX1_turnBack_2 : decode cX1_turnBack 2 = .ok (.iload_n 3, 1) := by decide +kernel
theorem dX1_turnBack_3 : decode cX1_turnBack 3 = .ok (.aload_n 0, 1) := by decide +kernel
theorem dX1_turnBack_4 : decode cX1_turnBack 4 = .ok (.getfield 21, 3) := by decide +kernel
theorem dX1_turnBack_7 : decode cX1_turnBack 7 = .ok (.getfield 46, 3) := by decide +kernel
theorem dX1_turnBack_10 : decode cX1_turnBack 10 = .ok (.if_icmp .ge 38, 3) := by decide +kernel
theorem dX1_turnBack_13 : decode cX1_turnBack 13 = .ok (.aload_n 0, 1) := by decide +kernel
theorem dX1_turnBack_14 : decode cX1_turnBack 14 = .ok (.getfield 25, 3) := by decide +kernel
theorem dX1_turnBack_17 : decode cX1_turnBack 17 = .ok (.iload_n 3, 1) := by decide +kernel
theorem dX1_turnBack_18 : decode cX1_turnBack 18 = .ok (.iaload, 1) := by decide +kernel
theorem dX1_turnBack_19 : decode cX1_turnBack 19 = .ok (.iload_n 1, 1) := by decide +kernel
theorem dX1_turnBack_20 : decode cX1_turnBack 20 = .ok (.if_icmp .ne 22, 3) := by decide +kernel
theorem dX1_turnBack_23 : decode cX1_turnBack 23 = .ok (.iload_n 3, 1) := by decide +kernel
theorem dX1_turnBack_24 : decode cX1_turnBack 24 = .ok (.iload_n 2, 1) := by decide +kernel
theorem dX1_turnBack_25 : decode cX1_turnBack 25 = .ok (.if_icmp .eq 17, 3) := by decide +kernel
theorem dX1_turnBack_28 : decode cX1_turnBack 28 = .ok (.aload_n 0, 1) := by decide +kernel
theorem dX1_turnBack_29 : decode cX1_turnBack 29 = .ok (.getfield 25, 3) := by decide +kernel
theorem dX1_turnBack_32 : decode cX1_turnBack 32 = .ok (.iload_n 3, 1) := by decide +kernel
theorem dX1_turnBack_33 : decode cX1_turnBack 33 = .ok (.aload_n 0, 1) := by decide +kernel
theorem dX1_turnBack_34 : decode cX1_turnBack 34 = .ok (.getfield 21, 3) := by decide +kernel
theorem dX1_turnBack_37 : decode cX1_turnBack 37 = .ok (.iload_n 3, 1) := by decide +kernel
theorem dX1_turnBack_38 : decode cX1_turnBack 38 = .ok (.invokevirtual 50, 3) := by decide +kernel
theorem dX1_turnBack_41 : decode cX1_turnBack 41 = .ok (.iastore, 1) := by decide +kernel
theorem dX1_turnBack_42 : decode cX1_turnBack 42 = .ok (.iinc 3 1, 3) := by decide +kernel
theorem dX1_turnBack_45 : decode cX1_turnBack 45 = .ok (.goto (-43), 3) := by decide +kernel
theorem dX1_turnBack_48 : decode cX1_turnBack 48 = .ok (.return_, 1) := by decide +kernel
theorem dX1_moveAll_0 : decode cX1_moveAll 0 = .ok (.iconst 0, 1) := by decide +kernel
theorem dX1_moveAll_1 : decode cX1_moveAll 1 = .ok (.istore_n 1, 1) := by decide +kernel
theorem dX1_moveAll_2 : decode cX1_moveAll 2 = .ok (.iload_n 1, 1) := by decide +kernel
theorem dX1_moveAll_3 : decode cX1_moveAll 3 = .ok (.aload_n 0, 1) := by decide +kernel
theorem dX1_moveAll_4 : decode cX1_moveAll 4 = .ok (.getfield 21, 3) := by decide +kernel
theorem dX1_moveAll_7 : decode cX1_moveAll 7 = .ok (.getfield 46, 3) := by decide +kernel
theorem dX1_moveAll_10 : decode cX1_moveAll 10 = .ok (.if_icmp .ge 23, 3) := by decide +kernel
theorem dX1_moveAll_13 : decode cX1_moveAll 13 = .ok (.aload_n 0, 1) := by decide +kernel
theorem dX1_moveAll_14 : decode cX1_moveAll 14 = .ok (.getfield 21, 3) := by decide +kernel
theorem dX1_moveAll_17 : decode cX1_moveAll 17 = .ok (.iload_n 1, 1) := by decide +kernel
theorem dX1_moveAll_18 : decode cX1_moveAll 18 = .ok (.aload_n 0, 1) := by decide +kernel
theorem dX1_moveAll_19 : decode cX1_moveAll 19 = .ok (.getfield 25, 3) := by decide +kernel
theorem dX1_moveAll_22 : decode cX1_moveAll 22 = .ok (.iload_n 1, 1) := by decide +kernel
theorem dX1_moveAll_23 : decode cX1_moveAll 23 = .ok (.iaload, 1) := by decide +kernel
theorem dX1_moveAll_24 : decode cX1_moveAll 24 = .ok (.invokevirtual 87, 3) := by decide +kernel
theorem dX1_moveAll_27 : decode cX1_moveAll 27 = .ok (.iinc 1 1, 3) := by decide +kernel
theorem dX1_moveAll_30 : decode cX1_moveAll 30 = .ok (.goto (-28), 3) := by decide +kernel
theorem dX1_moveAll_33 : decode cX1_moveAll 33 = .ok (.return_, 1) := by decide +kernel
theorem dX1_unitSpots_0 : decode cX1_unitSpots 0 = .ok (.aload_n 0, 1) := by decide +kernel
theorem dX1_unitSpots_1 : decode cX1_unitSpots 1 = .ok (.getfield 21, 3) := by decide +kernel
theorem dX1_unitSpots_4 : decode cX1_unitSpots 4 = .ok (.iload_n 1, 1) := by decide +kernel
theorem dX1_unitSpots_5 : decode cX1_unitSpots 5 = .ok (.invokevirtual 50, 3) := by decide +kernel
theorem dX1_unitSpots_8 : decode cX1_unitSpots 8 = .ok (.istore_n 3, 1) := by decide +kernel
theorem dX1_unitSpots_9 : decode cX1_unitSpots 9 = .ok (.iload_n 3, 1) := by decide +kernel
theorem dX1_unitSpots_10 : decode cX1_unitSpots 10 = .ok (.iconst (-1), 1) := by decide +kernel
theorem dX1_unitSpots_11 : decode cX1_unitSpots 11 = .ok (.if_icmp .ne 5, 3) := by decide +kernel
theorem dX1_unitSpots_14 : decode cX1_unitSpots 14 = .ok (.iconst 0, 1) := by decide +kernel
theorem dX1_unitSpots_15 : decode cX1_unitSpots 15 = .ok (.ireturn, 1) := by decide +kernel
theorem dX1_unitSpots_16 : decode cX1_unitSpots 16 = .ok (.aload_n 0, 1) := by decide +kernel
theorem dX1_unitSpots_17 : decode cX1_unitSpots 17 = .ok (.getfield 21, 3) := by decide +kernel
theorem dX1_unitSpots_20 : decode cX1_unitSpots 20 = .ok (.iload_n 1, 1) := by decide +kernel
theorem dX1_unitSpots_21 : decode cX1_unitSpots 21 = .ok (.invokevirtual 115, 3) := by decide +kernel
theorem dX1_unitSpots_24 : decode cX1_unitSpots 24 = .ok (.aload_n 0, 1) := by decide +kernel
theorem dX1_unitSpots_25 : decode cX1_unitSpots 25 = .ok (.getfield 12, 3) := by decide +kernel
theorem dX1_unitSpots_28 : decode cX1_unitSpots 28 = .ok (.iload_n 3, 1) := by decide +kernel
theorem dX1_unitSpots_29 : decode cX1_unitSpots 29 = .ok (.invokevirtual 118, 3) := by decide +kernel
theorem dX1_unitSpots_32 : decode cX1_unitSpots 32 = .ok (.bipush 104, 2) := by decide +kernel
theorem dX1_unitSpots_34 : decode cX1_unitSpots 34 = .ok (.if_icmp .ne 7, 3) := by decide +kernel
theorem dX1_unitSpots_37 : decode cX1_unitSpots 37 = .ok (.iconst 1, 1) := by decide +kernel
theorem dX1_unitSpots_38 : decode cX1_unitSpots 38 = .ok (.goto 4, 3) := by decide +kernel
theorem dX1_unitSpots_41 : decode cX1_unitSpots 41 = .ok (.iconst 0, 1) := by decide +kernel
theorem dX1_unitSpots_42 : decode cX1_unitSpots 42 = .ok (.iadd, 1) := by decide +kernel
theorem dX1_unitSpots_43 : decode cX1_unitSpots 43 = .ok (.istore 4, 2) := by decide +kernel
theorem dX1_unitSpots_45 : decode cX1_unitSpots 45 = .ok (.iload_n 3, 1) := by decide +kernel
theorem dX1_unitSpots_46 : decode cX1_unitSpots 46 = .ok (.iload_n 2, 1) := by decide +kernel
theorem dX1_unitSpots_47 : decode cX1_unitSpots 47 = .ok (.invokestatic 122, 3) := by decide +kernel
theorem dX1_unitSpots_50 : decode cX1_unitSpots 50 = .ok (.iload 4, 2) := by decide +kernel
theorem dX1_unitSpots_52 : decode cX1_unitSpots 52 = .ok (.if_icmp .gt 19, 3) := by decide +kernel
theorem dX1_unitSpots_55 : decode cX1_unitSpots 55 = .ok (.aload_n 0, 1) := by decide +kernel
theorem dX1_unitSpots_56 : decode cX1_unitSpots 56 = .ok (.getfield 12, 3) := by decide +kernel
theorem dX1_unitSpots_59 : decode cX1_unitSpots 59 = .ok (.iload_n 3, 1) := by decide +kernel
theorem dX1_unitSpots_60 : decode cX1_unitSpots 60 = .ok (.iload_n 2, 1) := by decide +kernel
theorem dX1_unitSpots_61 : decode cX1_unitSpots 61 = .ok (.invokevirtual 125, 3) := by decide +kernel
theorem dX1_unitSpots_64 : decode cX1_unitSpots 64 = .ok (.ifCond .eq 7, 3) := by decide +kernel
theorem dX1_unitSpots_67 : decode cX1_unitSpots 67 = .ok (.iconst 1, 1) := by decide +kernel
theorem dX1_unitSpots_68 : decode cX1_unitSpots 68 = .ok (.goto 4, 3) := by decide +kernel
theorem dX1_unitSpots_71 : decode cX1_unitSpots 71 = .ok (.iconst 0, 1) := by decide +kernel
theorem dX1_unitSpots_72 : decode cX1_unitSpots 72 = .ok (.ireturn, 1) := by decide +kernel
theorem dX1_playerSpots_0 : decode cX1_playerSpots 0 = .ok (.iconst 0, 1) := by decide +kernel
theorem dX1_playerSpots_1 : decode cX1_playerSpots 1 = .ok (.istore_n 3, 1) := by decide +kernel
theorem dX1_playerSpots_2 : decode cX1_playerSpots 2 = .ok (.iload_n 3, 1) := by decide +kernel
theorem dX1_playerSpots_3 : decode cX1_playerSpots 3 = .ok (.aload_n 0, 1) := by decide +kernel
theorem dX1_playerSpots_4 : decode cX1_playerSpots 4 = .ok (.getfield 21, 3) := by decide +kernel
theorem dX1_playerSpots_7 : decode cX1_playerSpots 7 = .ok (.getfield 46, 3) := by decide +kernel
theorem dX1_playerSpots_10 : decode cX1_playerSpots 10 = .ok (.if_icmp .ge 32, 3) := by decide +kernel
theorem dX1_playerSpots_13 : decode cX1_playerSpots 13 = .ok (.aload_n 0, 1) := by decide +kernel
theorem dX1_playerSpots_14 : decode cX1_playerSpots 14 = .ok (.getfield 21, 3) := by decide +kernel
theorem dX1_playerSpots_17 : decode cX1_playerSpots 17 = .ok (.iload_n 3, 1) := by decide +kernel
theorem dX1_playerSpots_18 : decode cX1_playerSpots 18 = .ok (.invokevirtual 77, 3) := by decide +kernel
theorem dX1_playerSpots_21 : decode cX1_playerSpots 21 = .ok (.iload_n 1, 1) := by decide +kernel
theorem dX1_playerSpots_22 : decode cX1_playerSpots 22 = .ok (.if_icmp .ne 14, 3) := by decide +kernel
theorem dX1_playerSpots_25 : decode cX1_playerSpots 25 = .ok (.aload_n 0, 1) := by decide +kernel
theorem dX1_playerSpots_26 : decode cX1_playerSpots 26 = .ok (.iload_n 3, 1) := by decide +kernel
theorem dX1_playerSpots_27 : decode cX1_playerSpots 27 = .ok (.iload_n 2, 1) := by decide +kernel
theorem dX1_playerSpots_28 : decode cX1_playerSpots 28 = .ok (.invokevirtual 129, 3) := by decide +kernel
theorem dX1_playerSpots_31 : decode cX1_playerSpots 31 = .ok (.ifCond .eq 5, 3) := by decide +kernel
theorem dX1_playerSpots_34 : decode cX1_playerSpots 34 = .ok (.iconst 1, 1) := by decide +kernel
theorem dX1_playerSpots_35 : decode cX1_playerSpots 35 = .ok (.ireturn, 1) := by decide +kernel
theorem dX1_playerSpots_36 : decode cX1_playerSpots 36 = .ok (.iinc 3 1, 3) := by decide +kernel
theorem dX1_playerSpots_39 : decode cX1_playerSpots 39 = .ok (.goto (-37), 3) := by decide +kernel
theorem dX1_playerSpots_42 : decode cX1_playerSpots 42 = .ok (.iconst 0, 1) := by decide +kernel
theorem dX1_playerSpots_43 : decode cX1_playerSpots 43 = .ok (.ireturn, 1) := by decide +kernel
theorem dX2_init_0 : decode cX2_init 0 = .ok (.aload_n 0, 1) := by decide +kernel
theorem dX2_init_1 : decode cX2_init 1 = .ok (.invokespecial 3, 3) := by decide +kernel
theorem dX2_init_4 : decode cX2_init 4 = .ok (.aload_n 0, 1) := by decide +kernel
theorem dX2_init_5 : decode cX2_init 5 = .ok (.bipush 61, 2) := by decide +kernel
theorem dX2_init_7 : decode cX2_init 7 = .ok (.newarray .int, 2) := by decide +kernel
theorem dX2_init_9 : decode cX2_init 9 = .ok (.putfield 9, 3) := by decide +kernel
theorem dX2_init_12 : decode cX2_init 12 = .ok (.return_, 1) := by decide +kernel
theorem dX2_at_0 : decode cX2_at 0 = .ok (.iload_n 1, 1) := by decide +kernel
theorem dX2_at_1 : decode cX2_at 1 = .ok (.ifCond .lt 20, 3) := by decide +kernel
theorem dX2_at_4 : decode cX2_at 4 = .ok (.iload_n 1, 1) := by decide +kernel
theorem dX2_at_5 : decode cX2_at 5 = .ok (.aload_n 0, 1) := by decide +kernel
theorem dX2_at_6 : decode cX2_at 6 = .ok (.getfield 15, 3) := by decide +kernel
theorem dX2_at_9 : decode cX2_at 9 = .ok (.if_icmp .ge 12, 3) := by decide +kernel
theorem dX2_at_12 : decode cX2_at 12 = .ok (.aload_n 0, 1) := by decide +kernel
theorem dX2_at_13 : decode cX2_at 13 = .ok (.getfield 9, 3) := by decide +kernel
theorem dX2_at_16 : decode cX2_at 16 = .ok (.iload_n 1, 1) := by decide +kernel
theorem dX2_at_17 : decode cX2_at 17 = .ok (.iaload, 1) := by decide +kernel
theorem dX2_at_18 : decode cX2_at 18 = .ok (.goto 4, 3) := by decide +kernel
theorem dX2_at_21 : decode cX2_at 21 = .ok (.iconst (-1), 1) := by decide +kernel
theorem dX2_at_22 : decode cX2_at 22 = .ok (.ireturn, 1) := by decide +kernel
theorem dX2_clear_0 : decode cX2_clear 0 = .ok (.aload_n 0, 1) := by decide +kernel
theorem dX2_clear_1 : decode cX2_clear 1 = .ok (.iconst 0, 1) := by decide +kernel
theorem dX2_clear_2 : decode cX2_clear 2 = .ok (.putfield 15, 3) := by decide +kernel
theorem dX2_clear_5 : decode cX2_clear 5 = .ok (.return_, 1) := by decide +kernel
theorem dX2_add_0 : decode cX2_add 0 = .ok (.aload_n 0, 1) := by decide +kernel
theorem dX2_add_1 : decode cX2_add 1 = .ok (.getfield 15, 3) := by decide +kernel
theorem dX2_add_4 : decode cX2_add 4 = .ok (.bipush 60, 2) := by decide +kernel
theorem dX2_add_6 : decode cX2_add 6 = .ok (.if_icmp .le 4, 3) := by decide +kernel
theorem dX2_add_9 : decode cX2_add 9 = .ok (.return_, 1) := by decide +kernel
theorem dX2_add_10 : decode cX2_add 10 = .ok (.aload_n 0, 1) := by decide +kernel
theorem dX2_add_11 : decode cX2_add 11 = .ok (.getfield 15, 3) := by decide +kernel
theorem dX2_add_14 : decode cX2_add 14 = .ok (.istore 4, 2) := by decide +kernel
theorem dX2_add_16 : decode cX2_add 16 = .ok (.iload 4, 2) := by decide +kernel
theorem dX2_add_18 : decode cX2_add 18 = .ok (.ifCond .le 42, 3) := by decide +kernel
theorem dX2_add_21 : decode cX2_add 21 = .ok (.aload_n 0, 1) := by decide +kernel
theorem dX2_add_22 : decode cX2_add 22 = .ok (.getfield 9, 3) := by decide +kernel
theorem dX2_add_25 : decode cX2_add 25 = .ok (.iload 4, 2) := by decide +kernel
theorem dX2_add_27 : decode cX2_add 27 = .ok (.iconst 1, 1) := by decide +kernel
theorem dX2_add_28 : decode cX2_add 28 = .ok (.isub, 1) := by decide +kernel
theorem dX2_add_29 : decode cX2_add 29 = .ok (.iaload, 1) := by decide +kernel
theorem dX2_add_30 : decode cX2_add 30 = .ok (.iload_n 1, 1) := by decide +kernel
theorem dX2_add_31 : decode cX2_add 31 = .ok (.iload_n 3, 1) := by decide +kernel
theorem dX2_add_32 : decode cX2_add 32 = .ok (.invokestatic 19, 3) := by decide +kernel
theorem dX2_add_35 : decode cX2_add 35 = .ok (.ifCond .eq 25, 3) := by decide +kernel
theorem dX2_add_38 : decode cX2_add 38 = .ok (.aload_n 0, 1) := by decide +kernel
theorem dX2_add_39 : decode cX2_add 39 = .ok (.getfield 9, 3) := by decide +kernel
theorem dX2_add_42 : decode cX2_add 42 = .ok (.iload 4, 2) := by decide +kernel
theorem dX2_add_44 : decode cX2_add 44 = .ok (.aload_n 0, 1) := by decide +kernel
theorem dX2_add_45 : decode cX2_add 45 = .ok (.getfield 9, 3) := by decide +kernel
theorem dX2_add_48 : decode cX2_add 48 = .ok (.iload 4, 2) := by decide +kernel
theorem dX2_add_50 : decode cX2_add 50 = .ok (.iconst 1, 1) := by decide +kernel
theorem dX2_add_51 : decode cX2_add 51 = .ok (.isub, 1) := by decide +kernel
theorem dX2_add_52 : decode cX2_add 52 = .ok (.iaload, 1) := by decide +kernel
theorem dX2_add_53 : decode cX2_add 53 = .ok (.iastore, 1) := by decide +kernel
theorem dX2_add_54 : decode cX2_add 54 = .ok (.iinc 4 (-1), 3) := by decide +kernel
theorem dX2_add_57 : decode cX2_add 57 = .ok (.goto (-41), 3) := by decide +kernel
theorem dX2_add_60 : decode cX2_add 60 = .ok (.aload_n 0, 1) := by decide +kernel
theorem dX2_add_61 : decode cX2_add 61 = .ok (.getfield 9, 3) := by decide +kernel
theorem dX2_add_64 : decode cX2_add 64 = .ok (.iload 4, 2) := by decide +kernel
theorem dX2_add_66 : decode cX2_add 66 = .ok (.iload_n 1, 1) := by decide +kernel
theorem dX2_add_67 : decode cX2_add 67 = .ok (.iload_n 2, 1) := by decide +kernel
theorem dX2_add_68 : decode cX2_add 68 = .ok (.iload_n 3, 1) := by decide +kernel
theorem dX2_add_69 : decode cX2_add 69 = .ok (.invokestatic 23, 3) := by decide +kernel
theorem dX2_add_72 : decode cX2_add 72 = .ok (.iastore, 1) := by decide +kernel
theorem dX2_add_73 : decode cX2_add 73 = .ok (.aload_n 0, 1) := by decide +kernel
theorem dX2_add_74 : decode cX2_add 74 = .ok (.dup, 1) := by decide +kernel
theorem dX2_add_75 : decode cX2_add 75 = .ok (.getfield 15, 3) := by decide +kernel
theorem dX2_add_78 : decode cX2_add 78 = .ok (.iconst 1, 1) := by decide +kernel
theorem dX2_add_79 : decode cX2_add 79 = .ok (.iadd, 1) := by decide +kernel
theorem dX2_add_80 : decode cX2_add 80 = .ok (.putfield 15, 3) := by decide +kernel
theorem dX2_add_83 : decode cX2_add 83 = .ok (.aload_n 0, 1) := by decide +kernel
theorem dX2_add_84 : decode cX2_add 84 = .ok (.getfield 15, 3) := by decide +kernel
theorem dX2_add_87 : decode cX2_add 87 = .ok (.bipush 60, 2) := by decide +kernel
theorem dX2_add_89 : decode cX2_add 89 = .ok (.if_icmp .le 7, 3) := by decide +kernel
theorem dX2_add_92 : decode cX2_add 92 = .ok (.aload_n 0, 1) := by decide +kernel
theorem dX2_add_93 : decode cX2_add 93 = .ok (.invokevirtual 27, 3) := by decide +kernel
theorem dX2_add_96 : decode cX2_add 96 = .ok (.return_, 1) := by decide +kernel
theorem dX2_has_0 : decode cX2_has 0 = .ok (.iconst 0, 1) := by decide +kernel
theorem dX2_has_1 : decode cX2_has 1 = .ok (.istore_n 3, 1) := by decide +kernel
theorem dX2_has_2 : decode cX2_has 2 = .ok (.iload_n 3, 1) := by decide +kernel
theorem dX2_has_3 : decode cX2_has 3 = .ok (.aload_n 0, 1) := by decide +kernel
theorem dX2_has_4 : decode cX2_has 4 = .ok (.getfield 15, 3) := by decide +kernel
theorem dX2_has_7 : decode cX2_has 7 = .ok (.if_icmp .ge 37, 3) := by decide +kernel
theorem dX2_has_10 : decode cX2_has 10 = .ok (.aload_n 0, 1) := by decide +kernel
theorem dX2_has_11 : decode cX2_has 11 = .ok (.getfield 9, 3) := by decide +kernel
theorem dX2_has_14 : decode cX2_has 14 = .ok (.iload_n 3, 1) := by decide +kernel
theorem dX2_has_15 : decode cX2_has 15 = .ok (.iaload, 1) := by decide +kernel
theorem dX2_has_16 : decode cX2_has 16 = .ok (.invokestatic 30, 3) := by decide +kernel
theorem dX2_has_19 : decode cX2_has 19 = .ok (.iload_n 1, 1) := by decide +kernel
theorem dX2_has_20 : decode cX2_has 20 = .ok (.if_icmp .ne 18, 3) := by decide +kernel
theorem dX2_has_23 : decode cX2_has 23 = .ok (.aload_n 0, 1) := by decide +kernel
theorem dX2_has_24 : decode cX2_has 24 = .ok (.getfield 9, 3) := by decide +kernel
theorem dX2_has_27 : decode cX2_has 27 = .ok (.iload_n 3, 1) := by decide +kernel
theorem dX2_has_28 : decode cX2_has 28 = .ok (.iaload, 1) := by decide +kernel
theorem dX2_has_29 : decode cX2_has 29 = .ok (.invokestatic 34, 3) := by decide +kernel
theorem dX2_has_32 : decode cX2_has 32 = .ok (.iload_n 2, 1) := by decide +kernel
theorem dX2_has_33 : decode cX2_has 33 = .ok (.if_icmp .ne 5, 3) := by decide +kernel
theorem dX2_has_36 : decode cX2_has 36 = .ok (.iconst 1, 1) := by decide +kernel
theorem dX2_has_37 : decode cX2_has 37 = .ok (.ireturn, 1) := by decide +kernel
theorem dX2_has_38 : decode cX2_has 38 = .ok (.iinc 3 1, 3) := by decide +kernel
theorem dX2_has_41 : decode cX2_has 41 = .ok (.goto (-39), 3) := by decide +kernel
theorem dX2_has_44 : decode cX2_has 44 = .ok (.iconst 0, 1) := by decide +kernel
theorem dX2_has_45 : decode cX2_has 45 = .ok (.ireturn, 1) := by decide +kernel
theorem dX2_latestOnCell_0 : decode cX2_latestOnCell 0 = .ok (.aload_n 0, 1) := by decide +kernel
theorem dX2_latestOnCell_1 : decode cX2_latestOnCell 1 = .ok (.getfield 15, 3) := by decide +kernel
theorem dX2_latestOnCell_4 : decode cX2_latestOnCell 4 = .ok (.iconst 1, 1) := by decide +kernel
theorem dX2_latestOnCell_5 : decode cX2_latestOnCell 5 = .ok (.isub, 1) := by decide +kernel
theorem dX2_latestOnCell_6 : decode cX2_latestOnCell 6 = .ok (.istore_n 2, 1) := by decide +kernel
theorem dX2_latestOnCell_7 : decode cX2_latestOnCell 7 = .ok (.iload_n 2, 1) := by decide +kernel
theorem dX2_latestOnCell_8 : decode cX2_latestOnCell 8 = .ok (.ifCond .lt 29, 3) := by decide +kernel
theorem dX2_latestOnCell_11 : decode cX2_latestOnCell 11 = .ok (.aload_n 0, 1) := by decide +kernel
theorem dX2_latestOnCell_12 : decode cX2_latestOnCell 12 = .ok (.getfield 9, 3) := by decide +kernel
theorem dX2_latestOnCell_15 : decode cX2_latestOnCell 15 = .ok (.iload_n 2, 1) := by decide +kernel
theorem dX2_latestOnCell_16 : decode cX2_latestOnCell 16 = .ok (.iaload, 1) := by decide +kernel
theorem dX2_latestOnCell_17 : decode cX2_latestOnCell 17 = .ok (.invokestatic 37, 3) := by decide +kernel
theorem dX2_latestOnCell_20 : decode cX2_latestOnCell 20 = .ok (.iload_n 1, 1) := by decide +kernel
theorem dX2_latestOnCell_21 : decode cX2_latestOnCell 21 = .ok (.if_icmp .ne 10, 3) := by decide +kernel
theorem dX2_latestOnCell_24 : decode cX2_latestOnCell 24 = .ok (.aload_n 0, 1) := by decide +kernel
theorem dX2_latestOnCell_25 : decode cX2_latestOnCell 25 = .ok (.getfield 9, 3) := by decide +kernel
theorem dX2_latestOnCell_28 : decode cX2_latestOnCell 28 = .ok (.iload_n 2, 1) := by decide +kernel
theorem dX2_latestOnCell_29 : decode cX2_latestOnCell 29 = .ok (.iaload, 1) := by decide +kernel
theorem dX2_latestOnCell_30 : decode cX2_latestOnCell 30 = .ok (.ireturn, 1) := by decide +kernel
theorem dX2_latestOnCell_31 : decode cX2_latestOnCell 31 = .ok (.iinc 2 (-1), 3) := by decide +kernel
theorem dX2_latestOnCell_34 : decode cX2_latestOnCell 34 = .ok (.goto (-27), 3) := by decide +kernel
theorem dX2_latestOnCell_37 : decode cX2_latestOnCell 37 = .ok (.iconst (-1), 1) := by decide +kernel
theorem dX2_latestOnCell_38 : decode cX2_latestOnCell 38 = .ok (.ireturn, 1) := by decide +kernel
theorem dX2_latestOfUnit_0 : decode cX2_latestOfUnit 0 = .ok (.aload_n 0, 1) := by decide +kernel
theorem dX2_latestOfUnit_1 : decode cX2_latestOfUnit 1 = .ok (.getfield 15, 3) := by decide +kernel
theorem dX2_latestOfUnit_4 : decode cX2_latestOfUnit 4 = .ok (.iconst 1, 1) := by decide +kernel
theorem dX2_latestOfUnit_5 : decode cX2_latestOfUnit 5 = .ok (.isub, 1) := by decide +kernel
theorem dX2_latestOfUnit_6 : decode cX2_latestOfUnit 6 = .ok (.istore_n 2, 1) := by decide +kernel
theorem dX2_latestOfUnit_7 : decode cX2_latestOfUnit 7 = .ok (.iload_n 2, 1) := by decide +kernel
theorem dX2_latestOfUnit_8 : decode cX2_latestOfUnit 8 = .ok (.ifCond .lt 29, 3) := by decide +kernel
theorem dX2_latestOfUnit_11 : decode cX2_latestOfUnit 11 = .ok (.aload_n 0, 1) := by decide +kernel
theorem dX2_latestOfUnit_12 : decode cX2_latestOfUnit 12 = .ok (.getfield 9, 3) := by decide +kernel
theorem dX2_latestOfUnit_15 : decode cX2_latestOfUnit 15 = .ok (.iload_n 2, 1) := by decide +kernel
theorem dX2_latestOfUnit_16 : decode cX2_latestOfUnit 16 = .ok (.iaload, 1) := by decide +kernel
theorem dX2_latestOfUnit_17 : decode cX2_latestOfUnit 17 = .ok (.invokestatic 34, 3) := by decide +kernel
theorem dX2_latestOfUnit_20 : decode cX2_latestOfUnit 20 = .ok (.iload_n 1, 1) := by decide +kernel
theorem dX2_latestOfUnit_21 : decode cX2_latestOfUnit 21 = .ok (.if_icmp .ne 10, 3) := by decide +kernel
theorem dX2_latestOfUnit_24 : decode cX2_latestOfUnit 24 = .ok (.aload_n 0, 1) := by decide +kernel
theorem dX2_latestOfUnit_25 : decode cX2_latestOfUnit 25 = .ok (.getfield 9, 3) := by decide +kernel
theorem dX2_latestOfUnit_28 : decode cX2_latestOfUnit 28 = .ok (.iload_n 2, 1) := by decide +kernel
theorem dX2_latestOfUnit_29 : decode cX2_latestOfUnit 29 = .ok (.iaload, 1) := by decide +kernel
theorem dX2_latestOfUnit_30 : decode cX2_latestOfUnit 30 = .ok (.ireturn, 1) := by decide +kernel
theorem dX2_latestOfUnit_31 : decode cX2_latestOfUnit 31 = .ok (.iinc 2 (-1), 3) := by decide +kernel
theorem dX2_latestOfUnit_34 : decode cX2_latestOfUnit 34 = .ok (.goto (-27), 3) := by decide +kernel
theorem dX2_latestOfUnit_37 : decode cX2_latestOfUnit 37 = .ok (.iconst (-1), 1) := by decide +kernel
theorem dX2_latestOfUnit_38 : decode cX2_latestOfUnit 38 = .ok (.ireturn, 1) := by decide +kernel
theorem dX2_dropFirst_0 : decode cX2_dropFirst 0 = .ok (.iconst 1, 1) := by decide +kernel
theorem dX2_dropFirst_1 : decode cX2_dropFirst 1 = .ok (.istore_n 1, 1) := by decide +kernel
theorem dX2_dropFirst_2 : decode cX2_dropFirst 2 = .ok (.iload_n 1, 1) := by decide +kernel
theorem dX2_dropFirst_3 : decode cX2_dropFirst 3 = .ok (.aload_n 0, 1) := by decide +kernel
theorem dX2_dropFirst_4 : decode cX2_dropFirst 4 = .ok (.getfield 15, 3) := by decide +kernel
theorem dX2_dropFirst_7 : decode cX2_dropFirst 7 = .ok (.if_icmp .ge 23, 3) := by decide +kernel
theorem dX2_dropFirst_10 : decode cX2_dropFirst 10 = .ok (.aload_n 0, 1) := by decide +kernel
theorem dX2_dropFirst_11 : decode cX2_dropFirst 11 = .ok (.getfield 9, 3) := by decide +kernel
theorem dX2_dropFirst_14 : decode cX2_dropFirst 14 = .ok (.iload_n 1, 1) := by decide +kernel
theorem dX2_dropFirst_15 : decode cX2_dropFirst 15 = .ok (.iconst 1, 1) := by decide +kernel
theorem dX2_dropFirst_16 : decode cX2_dropFirst 16 = .ok (.isub, 1) := by decide +kernel
theorem dX2_dropFirst_17 : decode cX2_dropFirst 17 = .ok (.aload_n 0, 1) := by decide +kernel
theorem dX2_dropFirst_18 : decode cX2_dropFirst 18 = .ok (.getfield 9, 3) := by decide +kernel
theorem dX2_dropFirst_21 : decode cX2_dropFirst 21 = .ok (.iload_n 1, 1) := by decide +kernel
theorem dX2_dropFirst_22 : decode cX2_dropFirst 22 = .ok (.iaload, 1) := by decide +kernel
theorem dX2_dropFirst_23 : decode cX2_dropFirst 23 = .ok (.iastore, 1) := by decide +kernel
theorem dX2_dropFirst_24 : decode cX2_dropFirst 24 = .ok (.iinc 1 1, 3) := by decide +kernel
theorem dX2_dropFirst_27 : decode cX2_dropFirst 27 = .ok (.goto (-25), 3) := by decide +kernel
theorem dX2_dropFirst_30 : decode cX2_dropFirst 30 = .ok (.aload_n 0, 1) := by decide +kernel
theorem dX2_dropFirst_31 : decode cX2_dropFirst 31 = .ok (.dup, 1) := by decide +kernel
theorem dX2_dropFirst_32 : decode cX2_dropFirst 32 = .ok (.getfield 15, 3) := by decide +kernel
theorem dX2_dropFirst_35 : decode cX2_dropFirst 35 = .ok (.iconst 1, 1) := by decide +kernel
theorem dX2_dropFirst_36 : decode cX2_dropFirst 36 = .ok (.isub, 1) := by decide +kernel
theorem dX2_dropFirst_37 : decode cX2_dropFirst 37 = .ok (.putfield 15, 3) := by decide +kernel
theorem dX2_dropFirst_40 : decode cX2_dropFirst 40 = .ok (.return_, 1) := by decide +kernel
theorem dX2_isBehind_0 : decode cX2_isBehind 0 = .ok (.iload_n 0, 1) := by decide +kernel
theorem dX2_isBehind_1 : decode cX2_isBehind 1 = .ok (.invokestatic 30, 3) := by decide +kernel
theorem dX2_isBehind_4 : decode cX2_isBehind 4 = .ok (.iload_n 1, 1) := by decide +kernel
theorem dX2_isBehind_5 : decode cX2_isBehind 5 = .ok (.if_icmp .gt 19, 3) := by decide +kernel
theorem dX2_isBehind_8 : decode cX2_isBehind 8 = .ok (.iload_n 0, 1) := by decide +kernel
theorem dX2_isBehind_9 : decode cX2_isBehind 9 = .ok (.invokestatic 30, 3) := by decide +kernel
theorem dX2_isBehind_12 : decode cX2_isBehind 12 = .ok (.iload_n 1, 1) := by decide +kernel
theorem dX2_isBehind_13 : decode cX2_isBehind 13 = .ok (.if_icmp .ne 15, 3) := by decide +kernel
theorem dX2_isBehind_16 : decode cX2_isBehind 16 = .ok (.iload_n 0, 1) := by decide +kernel
theorem dX2_isBehind_17 : decode cX2_isBehind 17 = .ok (.invokestatic 34, 3) := by decide +kernel
theorem dX2_isBehind_20 : decode cX2_isBehind 20 = .ok (.iload_n 2, 1) := by decide +kernel
theorem dX2_isBehind_21 : decode cX2_isBehind 21 = .ok (.if_icmp .le 7, 3) := by decide +kernel
theorem dX2_isBehind_24 : decode cX2_isBehind 24 = .ok (.iconst 1, 1) := by decide +kernel
theorem dX2_isBehind_25 : decode cX2_isBehind 25 = .ok (.goto 4, 3) := by decide +kernel
theorem dX2_isBehind_28 : decode cX2_isBehind 28 = .ok (.iconst 0, 1) := by decide +kernel
theorem dX2_isBehind_29 : decode cX2_isBehind 29 = .ok (.ireturn, 1) := by decide +kernel
theorem dX3_init_0 : decode cX3_init 0 = .ok (.aload_n 0, 1) := by decide +kernel
theorem dX3_init_1 : decode cX3_init 1 = .ok (.invokespecial 3, 3) := by decide +kernel
theorem dX3_init_4 : decode cX3_init 4 = .ok (.aload_n 0, 1) := by decide +kernel
theorem dX3_init_5 : decode cX3_init 5 = .ok (.bipush 64, 2) := by decide +kernel
theorem dX3_init_7 : decode cX3_init 7 = .ok (.newarray .char, 2) := by decide +kernel
theorem dX3_init_9 : decode cX3_init 9 = .ok (.putfield 9, 3) := by decide +kernel
theorem dX3_init_12 : decode cX3_init 12 = .ok (.return_, 1) := by decide +kernel
theorem dX3_grow_0 : decode cX3_grow 0 = .ok (.iload_n 1, 1) := by decide +kernel
theorem dX3_grow_1 : decode cX3_grow 1 = .ok (.istore_n 2, 1) := by decide +kernel
theorem dX3_grow_2 : decode cX3_grow 2 = .ok (.iconst 0, 1) := by decide +kernel
theorem dX3_grow_3 : decode cX3_grow 3 = .ok (.istore_n 3, 1) := by decide +kernel
theorem dX3_grow_4 : decode cX3_grow 4 = .ok (.iload_n 3, 1) := by decide +kernel
theorem dX3_grow_5 : decode cX3_grow 5 = .ok (.bipush 64, 2) := by decide +kernel
theorem dX3_grow_7 : decode cX3_grow 7 = .ok (.if_icmp .ge 36, 3) := by decide +kernel
theorem dX3_grow_10 : decode cX3_grow 10 = .ok (.iload_n 2, 1) := by decide +kernel
theorem dX3_grow_11 : decode cX3_grow 11 = .ok (.ldc 15, 2) := by decide +kernel
theorem dX3_grow_13 : decode cX3_grow 13 = .ok (.imul, 1) := by decide +kernel
theorem dX3_grow_14 : decode cX3_grow 14 = .ok (.sipush 12345, 3) := by decide +kernel
theorem dX3_grow_17 : decode cX3_grow 17 = .ok (.iadd, 1) := by decide +kernel
theorem dX3_grow_18 : decode cX3_grow 18 = .ok (.istore_n 2, 1) := by decide +kernel
theorem dX3_grow_19 : decode cX3_grow 19 = .ok (.aload_n 0, 1) := by decide +kernel
theorem dX3_grow_20 : decode cX3_grow 20 = .ok (.getfield 9, 3) := by decide +kernel
theorem dX3_grow_23 : decode cX3_grow 23 = .ok (.iload_n 3, 1) := by decide +kernel
theorem dX3_grow_24 : decode cX3_grow 24 = .ok (.ldc 16, 2) := by decide +kernel
theorem dX3_grow_26 : decode cX3_grow 26 = .ok (.iload_n 2, 1) := by decide +kernel
theorem dX3_grow_27 : decode cX3_grow 27 = .ok (.bipush 16, 2) := by decide +kernel
theorem dX3_grow_29 : decode cX3_grow 29 = .ok (.iushr, 1) := by decide +kernel
theorem dX3_grow_30 : decode cX3_grow 30 = .ok (.bipush 8, 2) := by decide +kernel
theorem dX3_grow_32 : decode cX3_grow 32 = .ok (.irem, 1) := by decide +kernel
theorem dX3_grow_33 : decode cX3_grow 33 = .ok (.invokevirtual 18, 3) := by decide +kernel
theorem dX3_grow_36 : decode cX3_grow 36 = .ok (.castore, 1) := by decide +kernel
theorem dX3_grow_37 : decode cX3_grow 37 = .ok (.iinc 3 1, 3) := by decide +kernel
theorem dX3_grow_40 : decode cX3_grow 40 = .ok (.goto (-36), 3) := by decide +kernel
theorem dX3_grow_43 : decode cX3_grow 43 = .ok (.return_, 1) := by decide +kernel
theorem dX3_at_0 : decode cX3_at 0 = .ok (.iload_n 1, 1) := by decide +kernel
theorem dX3_at_1 : decode cX3_at 1 = .ok (.invokestatic 24, 3) := by decide +kernel
theorem dX3_at_4 : decode cX3_at 4 = .ok (.ifCond .eq 12, 3) := by decide +kernel
theorem dX3_at_7 : decode cX3_at 7 = .ok (.aload_n 0, 1) := by decide +kernel
theorem dX3_at_8 : decode cX3_at 8 = .ok (.getfield 9, 3) := by decide +kernel
theorem dX3_at_11 : decode cX3_at 11 = .ok (.iload_n 1, 1) := by decide +kernel
theorem dX3_at_12 : decode cX3_at 12 = .ok (.caload, 1) := by decide +kernel
theorem dX3_at_13 : decode cX3_at 13 = .ok (.goto 5, 3) := by decide +kernel
theorem dX3_at_16 : decode cX3_at 16 = .ok (.bipush 120, 2) := by decide +kernel
theorem dX3_at_18 : decode cX3_at 18 = .ok (.ireturn, 1) := by decide +kernel
theorem dX3_beside_0 : decode cX3_beside 0 = .ok (.iload_n 2, 1) := by decide +kernel
theorem dX3_beside_1 : decode cX3_beside 1 = .ok (.ifCond .lt 9, 3) := by decide +kernel
theorem dX3_beside_4 : decode cX3_beside 4 = .ok (.iload_n 2, 1) := by decide +kernel
theorem dX3_beside_5 : decode cX3_beside 5 = .ok (.bipush 8, 2) := by decide +kernel
theorem dX3_beside_7 : decode cX3_beside 7 = .ok (.if_icmp .lt 5, 3) := by decide +kernel
theorem dX3_beside_10 : decode cX3_beside 10 = .ok (.iload_n 1, 1) := by decide +kernel
theorem dX3_beside_11 : decode cX3_beside 11 = .ok (.ireturn, 1) := by decide +kernel
theorem dX3_beside_12 : decode cX3_beside 12 = .ok (.iload_n 1, 1) := by decide +kernel
theorem dX3_beside_13 : decode cX3_beside 13 = .ok (.bipush 8, 2) := by decide +kernel
theorem dX3_beside_15 : decode cX3_beside 15 = .ok (.irem, 1) := by decide +kernel
theorem dX3_beside_16 : decode cX3_beside 16 = .ok (.getstatic 28, 3) := by decide +kernel
theorem dX3_beside_19 : decode cX3_beside 19 = .ok (.iload_n 2, 1) := by decide +kernel
theorem dX3_beside_20 : decode cX3_beside 20 = .ok (.iaload, 1) := by decide +kernel
theorem dX3_beside_21 : decode cX3_beside 21 = .ok (.iadd, 1) := by decide +kernel
theorem dX3_beside_22 : decode cX3_beside 22 = .ok (.istore_n 3, 1) := by decide +kernel
theorem dX3_beside_23 : decode cX3_beside 23 = .ok (.iload_n 1, 1) := by decide +kernel
theorem dX3_beside_24 : decode cX3_beside 24 = .ok (.bipush 8, 2) := by decide +kernel
theorem dX3_beside_26 : decode cX3_beside 26 = .ok (.idiv, 1) := by decide +kernel
theorem dX3_beside_27 : decode cX3_beside 27 = .ok (.getstatic 32, 3) := by decide +kernel
theorem dX3_beside_30 : decode cX3_beside 30 = .ok (.iload_n 2, 1) := by decide +kernel
theorem dX3_beside_31 : decode cX3_beside 31 = .ok (.iaload, 1) := by decide +kernel
theorem dX3_beside_32 : decode cX3_beside 32 = .ok (.iadd, 1) := by decide +kernel
theorem dX3_beside_33 : decode cX3_beside 33 = .ok (.istore 4, 2) := by decide +kernel
theorem dX3_beside_35 : decode cX3_beside 35 = .ok (.iload_n 3, 1) := by decide +kernel
theorem dX3_beside_36 : decode cX3_beside 36 = .ok (.ifCond .lt 21, 3) := by decide +kernel
theorem dX3_beside_39 : decode cX3_beside 39 = .ok (.iload_n 3, 1) := by decide +kernel
theorem dX3_beside_40 : decode cX3_beside 40 = .ok (.bipush 8, 2) := by decide +kernel
theorem dX3_beside_42 : decode cX3_beside 42 = .ok (.if_icmp .ge 15, 3) := by decide +kernel
theorem dX3_beside_45 : decode cX3_beside 45 = .ok (.iload 4, 2) := by decide +kernel
theorem dX3_beside_47 : decode cX3_beside 47 = .ok (.ifCond .lt 10, 3) := by decide +kernel
theorem dX3_beside_50 : decode cX3_beside 50 = .ok (.iload 4, 2) := by decide +kernel
theorem dX3_beside_52 : decode cX3_beside 52 = .ok (.bipush 8, 2) := by decide +kernel
theorem dX3_beside_54 : decode cX3_beside 54 = .ok (.if_icmp .lt 5, 3) := by decide +kernel
theorem dX3_beside_57 : decode cX3_beside 57 = .ok (.iload_n 1, 1) := by decide +kernel
theorem dX3_beside_58 : decode cX3_beside 58 = .ok (.ireturn, 1) := by decide +kernel
theorem dX3_beside_59 : decode cX3_beside 59 = .ok (.bipush 8, 2) := by decide +kernel
theorem dX3_beside_61 : decode cX3_beside 61 = .ok (.iload 4, 2) := by decide +kernel
theorem dX3_beside_63 : decode cX3_beside 63 = .ok (.imul, 1) := by decide +kernel
theorem dX3_beside_64 : decode cX3_beside 64 = .ok (.iload_n 3, 1) := by decide +kernel
theorem dX3_beside_65 : decode cX3_beside 65 = .ok (.iadd, 1) := by decide +kernel
theorem dX3_beside_66 : decode cX3_beside 66 = .ok (.istore 5, 2) := by decide +kernel
theorem dX3_beside_68 : decode cX3_beside 68 = .ok (.aload_n 0, 1) := by decide +kernel
theorem dX3_beside_69 : decode cX3_beside 69 = .ok (.iload 5, 2) := by decide +kernel
theorem dX3_beside_71 : decode cX3_beside 71 = .ok (.invokevirtual 35, 3) := by decide +kernel
theorem dX3_beside_74 : decode cX3_beside 74 = .ok (.bipush 120, 2) := by decide +kernel
theorem dX3_beside_76 : decode cX3_beside 76 = .ok (.if_icmp .ne 7, 3) := by decide +kernel
theorem dX3_beside_79 : decode cX3_beside 79 = .ok (.iload_n 1, 1) := by decide +kernel
theorem dX3_beside_80 : decode cX3_beside 80 = .ok (.goto 5, 3) := by decide +kernel
theorem dX3_beside_83 : decode cX3_beside 83 = .ok (.iload 5, 2) := by decide +kernel
theorem dX3_beside_85 : decode cX3_beside 85 = .ok (.ireturn, 1) := by decide +kernel
theorem dX3_isClear_0 : decode cX3_isClear 0 = .ok (.iload_n 2, 1) := by decide +kernel
theorem dX3_isClear_1 : decode cX3_isClear 1 = .ok (.bipush 8, 2) := by decide +kernel
theorem dX3_isClear_3 : decode cX3_isClear 3 = .ok (.irem, 1) := by decide +kernel
theorem dX3_isClear_4 : decode cX3_isClear 4 = .ok (.iload_n 1, 1) := by decide +kernel
theorem dX3_isClear_5 : decode cX3_isClear 5 = .ok (.bipush 8, 2) := by decide +kernel
theorem dX3_isClear_7 : decode cX3_isClear 7 = .ok (.irem, 1) := by decide +kernel
theorem dX3_isClear_8 : decode cX3_isClear 8 = .ok (.isub, 1) := by decide +kernel
theorem dX3_isClear_9 : decode cX3_isClear 9 = .ok (.istore_n 3, 1) := by decide +kernel
theorem dX3_isClear_10 : decode cX3_isClear 10 = .ok (.iload_n 2, 1) := by decide +kernel
theorem dX3_isClear_11 : decode cX3_isClear 11 = .ok (.bipush 8, 2) := by decide +kernel
theorem dX3_isClear_13 : decode cX3_isClear 13 = .ok (.idiv, 1) := by decide +kernel
theorem dX3_isClear_14 : decode cX3_isClear 14 = .ok (.iload_n 1, 1) := by decide +kernel
theorem dX3_isClear_15 : decode cX3_isClear 15 = .ok (.bipush 8, 2) := by decide +kernel
theorem dX3_isClear_17 : decode cX3_isClear 17 = .ok (.idiv, 1) := by decide +kernel
theorem dX3_isClear_18 : decode cX3_isClear 18 = .ok (.isub, 1) := by decide +kernel
theorem dX3_isClear_19 : decode cX3_isClear 19 = .ok (.istore 4, 2) := by decide +kernel
theorem dX3_isClear_21 : decode cX3_isClear 21 = .ok (.iload_n 1, 1) := by decide +kernel
theorem dX3_isClear_22 : decode cX3_isClear 22 = .ok (.iload_n 2, 1) := by decide +kernel
theorem dX3_isClear_23 : decode cX3_isClear 23 = .ok (.invokestatic 38, 3) := by decide +kernel
theorem dX3_isClear_26 : decode cX3_isClear 26 = .ok (.istore 5, 2) := by decide +kernel
theorem dX3_isClear_28 : decode cX3_isClear 28 = .ok (.aload_n 0, 1) := by decide +kernel
theorem dX3_isClear_29 : decode cX3_isClear 29 = .ok (.iload_n 1, 1) := by decide +kernel
theorem dX3_isClear_30 : decode cX3_isClear 30 = .ok (.invokevirtual 35, 3) := by decide +kernel
theorem dX3_isClear_33 : decode cX3_isClear 33 = .ok (.bipush 104, 2) := by decide +kernel
theorem dX3_isClear_35 : decode cX3_isClear 35 = .ok (.if_icmp .ne 7, 3) := by decide +kernel
theorem dX3_isClear_38 : decode cX3_isClear 38 = .ok (.iconst 1, 1) := by decide +kernel
theorem dX3_isClear_39 : decode cX3_isClear 39 = .ok (.goto 4, 3) := by decide +kernel
theorem dX3_isClear_42 : decode cX3_isClear 42 = .ok (.iconst 0, 1) := by decide +kernel
theorem dX3_isClear_43 : decode cX3_isClear 43 = .ok (.istore 6, 2) := by decide +kernel
theorem dX3_isClear_45 : decode cX3_isClear 45 = .ok (.iconst 1, 1) := by decide +kernel
theorem dX3_isClear_46 : decode cX3_isClear 46 = .ok (.istore 7, 2) := by decide +kernel
theorem dX3_isClear_48 : decode cX3_isClear 48 = .ok (.iload 7, 2) := by decide +kernel
theorem dX3_isClear_50 : decode cX3_isClear 50 = .ok (.iload 5, 2) := by decide +kernel
theorem dX3_isClear_52 : decode cX3_isClear 52 = .ok (.if_icmp .ge 77, 3) := by decide +kernel
theorem dX3_isClear_55 : decode cX3_isClear 55 = .ok (.iload_n 1, 1) := by decide +kernel
theorem dX3_isClear_56 : decode cX3_isClear 56 = .ok (.bipush 8, 2) := by decide +kernel
theorem dX3_isClear_58 : decode cX3_isClear 58 = .ok (.irem, 1) := by decide +kernel
theorem dX3_isClear_59 : decode cX3_isClear 59 = .ok (.iload 7, 2) := by decide +kernel
theorem dX3_isClear_61 : decode cX3_isClear 61 = .ok (.iload_n 3, 1) := by decide +kernel
theorem dX3_isClear_62 : decode cX3_isClear 62 = .ok (.imul, 1) := by decide +kernel
theorem dX3_isClear_63 : decode cX3_isClear 63 = .ok (.iload 5, 2) := by decide +kernel
theorem dX3_isClear_65 : decode cX3_isClear 65 = .ok (.invokestatic 42, 3) := by decide +kernel
theorem dX3_isClear_68 : decode cX3_isClear 68 = .ok (.iadd, 1) := by decide +kernel
theorem dX3_isClear_69 : decode cX3_isClear 69 = .ok (.istore 8, 2) := by decide +kernel
theorem dX3_isClear_71 : decode cX3_isClear 71 = .ok (.iload_n 1, 1) := by decide +kernel
theorem dX3_isClear_72 : decode cX3_isClear 72 = .ok (.bipush 8, 2) := by decide +kernel
theorem dX3_isClear_74 : decode cX3_isClear 74 = .ok (.idiv, 1) := by decide +kernel
theorem dX3_isClear_75 : decode cX3_isClear 75 = .ok (.iload 7, 2) := by decide +kernel
theorem dX3_isClear_77 : decode cX3_isClear 77 = .ok (.iload 4, 2) := by decide +kernel
theorem dX3_isClear_79 : decode cX3_isClear 79 = .ok (.imul, 1) := by decide +kernel
theorem dX3_isClear_80 : decode cX3_isClear 80 = .ok (.iload 5, 2) := by decide +kernel
theorem dX3_isClear_82 : decode cX3_isClear 82 = .ok (.invokestatic 42, 3) := by decide +kernel
theorem dX3_isClear_85 : decode cX3_isClear 85 = .ok (.iadd, 1) := by decide +kernel
theorem dX3_isClear_86 : decode cX3_isClear 86 = .ok (.istore 9, 2) := by decide +kernel
theorem dX3_isClear_88 : decode cX3_isClear 88 = .ok (.aload_n 0, 1) := by decide +kernel
theorem dX3_isClear_89 : decode cX3_isClear 89 = .ok (.bipush 8, 2) := by decide +kernel
theorem dX3_isClear_91 : decode cX3_isClear 91 = .ok (.iload 9, 2) := by decide +kernel
theorem dX3_isClear_93 : decode cX3_isClear 93 = .ok (.imul, 1) := by decide +kernel
theorem dX3_isClear_94 : decode cX3_isClear 94 = .ok (.iload 8, 2) := by decide +kernel
theorem dX3_isClear_96 : decode cX3_isClear 96 = .ok (.iadd, 1) := by decide +kernel
theorem dX3_isClear_97 : decode cX3_isClear 97 = .ok (.invokevirtual 35, 3) := by decide +kernel
theorem dX3_isClear_100 : decode cX3_isClear 100 = .ok (.istore 10, 2) := by decide +kernel
theorem dX3_isClear_102 : decode cX3_isClear 102 = .ok (.iload 10, 2) := by decide +kernel
theorem dX3_isClear_104 : decode cX3_isClear 104 = .ok (.bipush 104, 2) := by decide +kernel
theorem dX3_isClear_106 : decode cX3_isClear 106 = .ok (.if_icmp .eq 15, 3) := by decide +kernel
theorem dX3_isClear_109 : decode cX3_isClear 109 = .ok (.iload 10, 2) := by decide +kernel
theorem dX3_isClear_111 : decode cX3_isClear 111 = .ok (.bipush 119, 2) := by decide +kernel
theorem dX3_isClear_113 : decode cX3_isClear 113 = .ok (.if_icmp .ne 10, 3) := by decide +kernel
theorem dX3_isClear_116 : decode cX3_isClear 116 = .ok (.iload 6, 2) := by decide +kernel
theorem dX3_isClear_118 : decode cX3_isClear 118 = .ok (.ifCond .ne 5, 3) := by decide +kernel
theorem dX3_isClear_121 : decode cX3_isClear 121 = .ok (.iconst 0, 1) := by decide +kernel
theorem dX3_isClear_122 : decode cX3_isClear 122 = .ok (.ireturn, 1) := by decide +kernel
theorem dX3_isClear_123 : decode cX3_isClear 123 = .ok (.iinc 7 1, 3) := by decide +kernel
theorem dX3_isClear_126 : decode cX3_isClear 126 = .ok (.goto (-78), 3) := by decide +kernel
theorem dX3_isClear_129 : decode cX3_isClear 129 = .ok (.iconst 1, 1) := by decide +kernel
theorem dX3_isClear_130 : decode cX3_isClear 130 = .ok (.ireturn, 1) := by decide +kernel
theorem dX3_distance_0 : decode cX3_distance 0 = .ok (.iload_n 1, 1) := by decide +kernel
theorem dX3_distance_1 : decode cX3_distance 1 = .ok (.bipush 8, 2) := by decide +kernel
theorem dX3_distance_3 : decode cX3_distance 3 = .ok (.irem, 1) := by decide +kernel
theorem dX3_distance_4 : decode cX3_distance 4 = .ok (.iload_n 0, 1) := by decide +kernel
theorem dX3_distance_5 : decode cX3_distance 5 = .ok (.bipush 8, 2) := by decide +kernel
theorem dX3_distance_7 : decode cX3_distance 7 = .ok (.irem, 1) := by decide +kernel
theorem dX3_distance_8 : decode cX3_distance 8 = .ok (.isub, 1) := by decide +kernel
theorem dX3_distance_9 : decode cX3_distance 9 = .ok (.invokestatic 45, 3) := by decide +kernel
theorem dX3_distance_12 : decode cX3_distance 12 = .ok (.istore_n 2, 1) := by decide +kernel
theorem dX3_distance_13 : decode cX3_distance 13 = .ok (.iload_n 1, 1) := by decide +kernel
theorem dX3_distance_14 : decode cX3_distance 14 = .ok (.bipush 8, 2) := by decide +kernel
theorem dX3_distance_16 : decode cX3_distance 16 = .ok (.idiv, 1) := by decide +kernel
theorem dX3_distance_17 : decode cX3_distance 17 = .ok (.iload_n 0, 1) := by decide +kernel
theorem dX3_distance_18 : decode cX3_distance 18 = .ok (.bipush 8, 2) := by decide +kernel
theorem dX3_distance_20 : decode cX3_distance 20 = .ok (.idiv, 1) := by decide +kernel
theorem dX3_distance_21 : decode cX3_distance 21 = .ok (.isub, 1) := by decide +kernel
theorem dX3_distance_22 : decode cX3_distance 22 = .ok (.invokestatic 45, 3) := by decide +kernel
theorem dX3_distance_25 : decode cX3_distance 25 = .ok (.istore_n 3, 1) := by decide +kernel
theorem dX3_distance_26 : decode cX3_distance 26 = .ok (.iload_n 2, 1) := by decide +kernel
theorem dX3_distance_27 : decode cX3_distance 27 = .ok (.iload_n 3, 1) := by decide +kernel
theorem dX3_distance_28 : decode cX3_distance 28 = .ok (.invokestatic 51, 3) := by decide +kernel
theorem dX3_distance_31 : decode cX3_distance 31 = .ok (.ireturn, 1) := by decide +kernel
theorem dX3_share_0 : decode cX3_share 0 = .ok (.iload_n 1, 1) := by decide +kernel
theorem dX3_share_1 : decode cX3_share 1 = .ok (.ifCond .gt 5, 3) := by decide +kernel
theorem dX3_share_4 : decode cX3_share 4 = .ok (.iconst 0, 1) := by decide +kernel
theorem dX3_share_5 : decode cX3_share 5 = .ok (.ireturn, 1) := by decide +kernel
theorem dX3_share_6 : decode cX3_share 6 = .ok (.iconst 2, 1) := by decide +kernel
theorem dX3_share_7 : decode cX3_share 7 = .ok (.iload_n 0, 1) := by decide +kernel
theorem dX3_share_8 : decode cX3_share 8 = .ok (.invokestatic 45, 3) := by decide +kernel
theorem dX3_share_11 : decode cX3_share 11 = .ok (.imul, 1) := by decide +kernel
theorem dX3_share_12 : decode cX3_share 12 = .ok (.iload_n 1, 1) := by decide +kernel
theorem dX3_share_13 : decode cX3_share 13 = .ok (.iadd, 1) := by decide +kernel
theorem dX3_share_14 : decode cX3_share 14 = .ok (.iconst 1, 1) := by decide +kernel
theorem dX3_share_15 : decode cX3_share 15 = .ok (.isub, 1) := by decide +kernel
theorem dX3_share_16 : decode cX3_share 16 = .ok (.iconst 2, 1) := by decide +kernel
theorem dX3_share_17 : decode cX3_share 17 = .ok (.iload_n 1, 1) := by decide +kernel
theorem dX3_share_18 : decode cX3_share 18 = .ok (.imul, 1) := by decide +kernel
theorem dX3_share_19 : decode cX3_share 19 = .ok (.idiv, 1) := by decide +kernel
theorem dX3_share_20 : decode cX3_share 20 = .ok (.istore_n 2, 1) := by decide +kernel
theorem dX3_share_21 : decode cX3_share 21 = .ok (.iload_n 0, 1) := by decide +kernel
theorem dX3_share_22 : decode cX3_share 22 = .ok (.ifCond .ge 8, 3) := by decide +kernel
theorem dX3_share_25 : decode cX3_share 25 = .ok (.iload_n 2, 1) := by decide +kernel
theorem dX3_share_26 : decode cX3_share 26 = .ok (.ineg, 1) := by decide +kernel
theorem dX3_share_27 : decode cX3_share 27 = .ok (.goto 4, 3) := by decide +kernel
theorem dX3_share_30 : decode cX3_share 30 = .ok (.iload_n 2, 1) := by decide +kernel
theorem dX3_share_31 : decode cX3_share 31 = .ok (.ireturn, 1) := by decide +kernel
theorem dX4_init_0 : decode cX4_init 0 = .ok (.aload_n 0, 1) := by decide +kernel
theorem dX4_init_1 : decode cX4_init 1 = .ok (.invokespecial 3, 3) := by decide +kernel
theorem dX4_init_4 : decode cX4_init 4 = .ok (.aload_n 0, 1) := by decide +kernel
theorem dX4_init_5 : decode cX4_init 5 = .ok (.sipush 4800, 3) := by decide +kernel
theorem dX4_init_8 : decode cX4_init 8 = .ok (.newarray .int, 2) := by decide +kernel
theorem dX4_init_10 : decode cX4_init 10 = .ok (.putfield 9, 3) := by decide +kernel
theorem dX4_init_13 : decode cX4_init 13 = .ok (.aload_n 0, 1) := by decide +kernel
theorem dX4_init_14 : decode cX4_init 14 = .ok (.bipush 24, 2) := by decide +kernel
theorem dX4_init_16 : decode cX4_init 16 = .ok (.newarray .int, 2) := by decide +kernel
theorem dX4_init_18 : decode cX4_init 18 = .ok (.putfield 15, 3) := by decide +kernel
theorem dX4_init_21 : decode cX4_init 21 = .ok (.aload_n 0, 1) := by decide +kernel
theorem dX4_init_22 : decode cX4_init 22 = .ok (.getfield 9, 3) := by decide +kernel
theorem dX4_init_25 : decode cX4_init 25 = .ok (.iconst (-1), 1) := by decide +kernel
theorem dX4_init_26 : decode cX4_init 26 = .ok (.invokestatic 18, 3) := by decide +kernel
theorem dX4_init_29 : decode cX4_init 29 = .ok (.return_, 1) := by decide +kernel
theorem dX4_give_0 : decode cX4_give 0 = .ok (.iload_n 1, 1) := by decide +kernel
theorem dX4_give_1 : decode cX4_give 1 = .ok (.iload_n 2, 1) := by decide +kernel
theorem dX4_give_2 : decode cX4_give 2 = .ok (.aload_n 0, 1) := by decide +kernel
theorem dX4_give_3 : decode cX4_give 3 = .ok (.iload_n 2, 1) := by decide +kernel
theorem dX4_give_4 : decode cX4_give 4 = .ok (.invokevirtual 24, 3) := by decide +kernel
theorem dX4_give_7 : decode cX4_give 7 = .ok (.invokestatic 28, 3) := by decide +kernel
theorem dX4_give_10 : decode cX4_give 10 = .ok (.istore 4, 2) := by decide +kernel
theorem dX4_give_12 : decode cX4_give 12 = .ok (.iload 4, 2) := by decide +kernel
theorem dX4_give_14 : decode cX4_give 14 = .ok (.iconst (-1), 1) := by decide +kernel
theorem dX4_give_15 : decode cX4_give 15 = .ok (.if_icmp .ne 9, 3) := by decide +kernel
theorem dX4_give_18 : decode cX4_give 18 = .ok (.aload_n 0, 1) := by decide +kernel
theorem dX4_give_19 : decode cX4_give 19 = .ok (.iload_n 2, 1) := by decide +kernel
theorem dX4_give_20 : decode cX4_give 20 = .ok (.invokevirtual 24, 3) := by decide +kernel
theorem dX4_give_23 : decode cX4_give 23 = .ok (.ireturn, 1) := by decide +kernel
theorem dX4_give_24 : decode cX4_give 24 = .ok (.aload_n 0, 1) := by decide +kernel
theorem dX4_give_25 : decode cX4_give 25 = .ok (.getfield 9, 3) := by decide +kernel
theorem dX4_give_28 : decode cX4_give 28 = .ok (.iload 4, 2) := by decide +kernel
theorem dX4_give_30 : decode cX4_give 30 = .ok (.iload_n 3, 1) := by decide +kernel
theorem dX4_give_31 : decode cX4_give 31 = .ok (.iastore, 1) := by decide +kernel
theorem dX4_give_32 : decode cX4_give 32 = .ok (.aload_n 0, 1) := by decide +kernel
theorem dX4_give_33 : decode cX4_give 33 = .ok (.getfield 15, 3) := by decide +kernel
theorem dX4_give_36 : decode cX4_give 36 = .ok (.iload_n 2, 1) := by decide +kernel
theorem dX4_give_37 : decode cX4_give 37 = .ok (.dup2, 1) := by decide +kernel
theorem dX4_give_38 : decode cX4_give 38 = .ok (.iaload, 1) := by decide +kernel
theorem dX4_give_39 : decode cX4_give 39 = .ok (.iconst 1, 1) := by decide +kernel
theorem dX4_give_40 : decode cX4_give 40 = .ok (.iadd, 1) := by decide +kernel
theorem dX4_give_41 : decode cX4_give 41 = .ok (.iastore, 1) := by decide +kernel
theorem dX4_give_42 : decode cX4_give 42 = .ok (.aload_n 0, 1) := by decide +kernel
theorem dX4_give_43 : decode cX4_give 43 = .ok (.getfield 15, 3) := by decide +kernel
theorem dX4_give_46 : decode cX4_give 46 = .ok (.iload_n 2, 1) := by decide +kernel
theorem dX4_give_47 : decode cX4_give 47 = .ok (.iaload, 1) := by decide +kernel
theorem dX4_give_48 : decode cX4_give 48 = .ok (.ireturn, 1) := by decide +kernel
theorem dX4_givenTo_0 : decode cX4_givenTo 0 = .ok (.iload_n 1, 1) := by decide +kernel
theorem dX4_givenTo_1 : decode cX4_givenTo 1 = .ok (.ifCond .lt 18, 3) := by decide +kernel
theorem dX4_givenTo_4 : decode cX4_givenTo 4 = .ok (.iload_n 1, 1) := by decide +kernel
theorem dX4_givenTo_5 : decode cX4_givenTo 5 = .ok (.bipush 24, 2) := by decide +kernel
theorem dX4_givenTo_7 : decode cX4_givenTo 7 = .ok (.if_icmp .ge 12, 3) := by decide +kernel
theorem dX4_givenTo_10 : decode cX4_givenTo 10 = .ok (.aload_n 0, 1) := by decide +kernel
theorem dX4_givenTo_11 : decode cX4_givenTo 11 = .ok (.getfield 15, 3) := by decide +kernel
theorem dX4_givenTo_14 : decode cX4_givenTo 14 = .ok (.iload_n 1, 1) := by decide +kernel
theorem dX4_givenTo_15 : decode cX4_givenTo 15 = .ok (.iaload, 1) := by decide +kernel
theorem dX4_givenTo_16 : decode cX4_givenTo 16 = .ok (.goto 4, 3) := by decide +kernel
theorem dX4_givenTo_19 : decode cX4_givenTo 19 = .ok (.iconst 0, 1) := by decide +kernel
theorem dX4_givenTo_20 : decode cX4_givenTo 20 = .ok (.ireturn, 1) := by decide +kernel
theorem dX4_startTurn_0 : decode cX4_startTurn 0 = .ok (.aload_n 0, 1) := by decide +kernel
theorem dX4_startTurn_1 : decode cX4_startTurn 1 = .ok (.getfield 15, 3) := by decide +kernel
theorem dX4_startTurn_4 : decode cX4_startTurn 4 = .ok (.iconst 0, 1) := by decide +kernel
theorem dX4_startTurn_5 : decode cX4_startTurn 5 = .ok (.invokestatic 18, 3) := by decide +kernel
theorem dX4_startTurn_8 : decode cX4_startTurn 8 = .ok (.return_, 1) := by decide +kernel
theorem dX4_direction_0 : decode cX4_direction 0 = .ok (.iload_n 1, 1) := by decide +kernel
theorem dX4_direction_1 : decode cX4_direction 1 = .ok (.iload_n 2, 1) := by decide +kernel
theorem dX4_direction_2 : decode cX4_direction 2 = .ok (.iload_n 3, 1) := by decide +kernel
theorem dX4_direction_3 : decode cX4_direction 3 = .ok (.invokestatic 28, 3) := by decide +kernel
theorem dX4_direction_6 : decode cX4_direction 6 = .ok (.istore 4, 2) := by decide +kernel
theorem dX4_direction_8 : decode cX4_direction 8 = .ok (.iload 4, 2) := by decide +kernel
theorem dX4_direction_10 : decode cX4_direction 10 = .ok (.iconst (-1), 1) := by decide +kernel
theorem dX4_direction_11 : decode cX4_direction 11 = .ok (.if_icmp .ne 7, 3) := by decide +kernel
theorem dX4_direction_14 : decode cX4_direction 14 = .ok (.iconst (-1), 1) := by decide +kernel
theorem dX4_direction_15 : decode cX4_direction 15 = .ok (.goto 10, 3) := by decide +kernel
theorem dX4_direction_18 : decode cX4_direction 18 = .ok (.aload_n 0, 1) := by decide +kernel
theorem dX4_direction_19 : decode cX4_direction 19 = .ok (.getfield 9, 3) := by decide +kernel
theorem dX4_direction_22 : decode cX4_direction 22 = .ok (.iload 4, 2) := by decide +kernel
theorem dX4_direction_24 : decode cX4_direction 24 = .ok (.iaload, 1) := by decide +kernel
theorem dX4_direction_25 : decode cX4_direction 25 = .ok (.ireturn, 1) := by decide +kernel
theorem dX4_spotOf_0 : decode cX4_spotOf 0 = .ok (.iload_n 0, 1) := by decide +kernel
theorem dX4_spotOf_1 : decode cX4_spotOf 1 = .ok (.ifCond .lt 32, 3) := by decide +kernel
theorem dX4_spotOf_4 : decode cX4_spotOf 4 = .ok (.iload_n 0, 1) := by decide +kernel
theorem dX4_spotOf_5 : decode cX4_spotOf 5 = .ok (.bipush 99, 2) := by decide +kernel
theorem dX4_spotOf_7 : decode cX4_spotOf 7 = .ok (.if_icmp .gt 26, 3) := by decide +kernel
theorem dX4_spotOf_10 : decode cX4_spotOf 10 = .ok (.iload_n 1, 1) := by decide +kernel
theorem dX4_spotOf_11 : decode cX4_spotOf 11 = .ok (.ifCond .lt 22, 3) := by decide +kernel
theorem dX4_spotOf_14 : decode cX4_spotOf 14 = .ok (.iload_n 1, 1) := by decide +kernel
theorem dX4_spotOf_15 : decode cX4_spotOf 15 = .ok (.bipush 24, 2) := by decide +kernel
theorem dX4_spotOf_17 : decode cX4_spotOf 17 = .ok (.if_icmp .ge 16, 3) := by decide +kernel
theorem dX4_spotOf_20 : decode cX4_spotOf 20 = .ok (.iload_n 2, 1) := by decide +kernel
theorem dX4_spotOf_21 : decode cX4_spotOf 21 = .ok (.ifCond .lt 12, 3) := by decide +kernel
theorem dX4_spotOf_24 : decode cX4_spotOf 24 = .ok (.iload_n 2, 1) := by decide +kernel
theorem dX4_spotOf_25 : decode cX4_spotOf 25 = .ok (.iconst 2, 1) := by decide +kernel
theorem dX4_spotOf_26 : decode cX4_spotOf 26 = .ok (.if_icmp .ge 7, 3) := by decide +kernel
theorem dX4_spotOf_29 : decode cX4_spotOf 29 = .ok (.iconst 1, 1) := by decide +kernel
theorem dX4_spotOf_30 : decode cX4_spotOf 30 = .ok (.goto 4, 3) := by decide +kernel
theorem dX4_spotOf_33 : decode cX4_spotOf 33 = .ok (.iconst 0, 1) := by decide +kernel
theorem dX4_spotOf_34 : decode cX4_spotOf 34 = .ok (.istore_n 3, 1) := by decide +kernel
theorem dX4_spotOf_35 : decode cX4_spotOf 35 = .ok (.iload_n 3, 1) := by decide +kernel
theorem dX4_spotOf_36 : decode cX4_spotOf 36 = .ok (.ifCond .eq 16, 3) := by decide +kernel
theorem dX4_spotOf_39 : decode cX4_spotOf 39 = .ok (.iload_n 0, 1) := by decide +kernel
theorem dX4_spotOf_40 : decode cX4_spotOf 40 = .ok (.bipush 24, 2) := by decide +kernel
theorem dX4_spotOf_42 : decode cX4_spotOf 42 = .ok (.imul, 1) := by decide +kernel
theorem dX4_spotOf_43 : decode cX4_spotOf 43 = .ok (.iload_n 1, 1) := by decide +kernel
theorem dX4_spotOf_44 : decode cX4_spotOf 44 = .ok (.iadd, 1) := by decide +kernel
theorem dX4_spotOf_45 : decode cX4_spotOf 45 = .ok (.iconst 2, 1) := by decide +kernel
theorem dX4_spotOf_46 : decode cX4_spotOf 46 = .ok (.imul, 1) := by decide +kernel
theorem dX4_spotOf_47 : decode cX4_spotOf 47 = .ok (.iload_n 2, 1) := by decide +kernel
theorem dX4_spotOf_48 : decode cX4_spotOf 48 = .ok (.iadd, 1) := by decide +kernel
theorem dX4_spotOf_49 : decode cX4_spotOf 49 = .ok (.goto 4, 3) := by decide +kernel
theorem dX4_spotOf_52 : decode cX4_spotOf 52 = .ok (.iconst (-1), 1) := by decide +kernel
theorem dX4_spotOf_53 : decode cX4_spotOf 53 = .ok (.ireturn, 1) := by decide +kernel
theorem dX5_init_0 : decode cX5_init 0 = .ok (.aload_n 0, 1) := by decide +kernel
theorem dX5_init_1 : decode cX5_init 1 = .ok (.invokespecial 3, 3) := by decide +kernel
theorem dX5_init_4 : decode cX5_init 4 = .ok (.aload_n 0, 1) := by decide +kernel
theorem dX5_init_5 : decode cX5_init 5 = .ok (.bipush 24, 2) := by decide +kernel
theorem dX5_init_7 : decode cX5_init 7 = .ok (.newarray .int, 2) := by decide +kernel
theorem dX5_init_9 : decode cX5_init 9 = .ok (.putfield 9, 3) := by decide +kernel
theorem dX5_init_12 : decode cX5_init 12 = .ok (.aload_n 0, 1) := by decide +kernel
theorem dX5_init_13 : decode cX5_init 13 = .ok (.bipush 24, 2) := by decide +kernel
theorem dX5_init_15 : decode cX5_init 15 = .ok (.newarray .int, 2) := by decide +kernel
theorem dX5_init_17 : decode cX5_init 17 = .ok (.putfield 15, 3) := by decide +kernel
theorem dX5_init_20 : decode cX5_init 20 = .ok (.aload_n 0, 1) := by decide +kernel
theorem dX5_init_21 : decode cX5_init 21 = .ok (.bipush 24, 2) := by decide +kernel
theorem dX5_init_23 : decode cX5_init 23 = .ok (.newarray .int, 2) := by decide +kernel
theorem dX5_init_25 : decode cX5_init 25 = .ok (.putfield 18, 3) := by decide +kernel
theorem dX5_init_28 : decode cX5_init 28 = .ok (.aload_n 0, 1) := by decide +kernel
theorem dX5_init_29 : decode cX5_init 29 = .ok (.bipush 24, 2) := by decide +kernel
theorem dX5_init_31 : decode cX5_init 31 = .ok (.newarray .int, 2) := by decide +kernel
theorem dX5_init_33 : decode cX5_init 33 = .ok (.putfield 21, 3) := by decide +kernel
theorem dX5_init_36 : decode cX5_init 36 = .ok (.return_, 1) := by decide +kernel
theorem dX5_put_0 : decode cX5_put 0 = .ok (.aload_n 0, 1) := by decide +kernel
theorem dX5_put_1 : decode cX5_put 1 = .ok (.getfield 24, 3) := by decide +kernel
theorem dX5_put_4 : decode cX5_put 4 = .ok (.bipush 24, 2) := by decide +kernel
theorem dX5_put_6 : decode cX5_put 6 = .ok (.if_icmp .lt 5, 3) := by decide +kernel
theorem dX5_put_9 : decode cX5_put 9 = .ok (.iconst (-1), 1) := by decide +kernel
theorem dX5_put_10 : decode cX5_put 10 = .ok (.ireturn, 1) := by decide +kernel
theorem dX5_put_11 : decode cX5_put 11 = .ok (.aload_n 0, 1) := by decide +kernel
theorem dX5_put_12 : decode cX5_put 12 = .ok (.getfield 9, 3) := by decide +kernel
theorem dX5_put_15 : decode cX5_put 15 = .ok (.aload_n 0, 1) := by decide +kernel
theorem dX5_put_16 : decode cX5_put 16 = .ok (.getfield 24, 3) := by decide +kernel
theorem dX5_put_19 : decode cX5_put 19 = .ok (.iload_n 1, 1) := by decide +kernel
theorem dX5_put_20 : decode cX5_put 20 = .ok (.iastore, 1) := by decide +kernel
theorem dX5_put_21 : decode cX5_put 21 = .ok (.aload_n 0, 1) := by decide +kernel
theorem dX5_put_22 : decode cX5_put 22 = .ok (.getfield 15, 3) := by decide +kernel
theorem dX5_put_25 : decode cX5_put 25 = .ok (.aload_n 0, 1) := by decide +kernel
theorem dX5_put_26 : decode cX5_put 26 = .ok (.getfield 24, 3) := by decide +kernel
theorem dX5_put_29 : decode cX5_put 29 = .ok (.iload_n 2, 1) := by decide +kernel
theorem dX5_put_30 : decode cX5_put 30 = .ok (.iastore, 1) := by decide +kernel
theorem dX5_put_31 : decode cX5_put 31 = .ok (.aload_n 0, 1) := by decide +kernel
theorem dX5_put_32 : decode cX5_put 32 = .ok (.getfield 18, 3) := by decide +kernel
theorem dX5_put_35 : decode cX5_put 35 = .ok (.aload_n 0, 1) := by decide +kernel
theorem dX5_put_36 : decode cX5_put 36 = .ok (.getfield 24, 3) := by decide +kernel
theorem dX5_put_39 : decode cX5_put 39 = .ok (.iload_n 3, 1) := by decide +kernel
theorem dX5_put_40 : decode cX5_put 40 = .ok (.iastore, 1) := by decide +kernel
theorem dX5_put_41 : decode cX5_put 41 = .ok (.aload_n 0, 1) := by decide +kernel
theorem dX5_put_42 : decode cX5_put 42 = .ok (.getfield 21, 3) := by decide +kernel
theorem dX5_put_45 : decode cX5_put 45 = .ok (.aload_n 0, 1) := by decide +kernel
theorem dX5_put_46 : decode cX5_put 46 = .ok (.getfield 24, 3) := by decide +kernel
theorem dX5_put_49 : decode cX5_put 49 = .ok (.iload_n 3, 1) := by decide +kernel
theorem dX5_put_50 : decode cX5_put 50 = .ok (.iastore, 1) := by decide +kernel
theorem dX5_put_51 : decode cX5_put 51 = .ok (.aload_n 0, 1) := by decide +kernel
theorem dX5_put_52 : decode cX5_put 52 = .ok (.dup, 1) := by decide +kernel
theorem dX5_put_53 : decode cX5_put 53 = .ok (.getfield 24, 3) := by decide +kernel
theorem dX5_put_56 : decode cX5_put 56 = .ok (.iconst 1, 1) := by decide +kernel
theorem dX5_put_57 : decode cX5_put 57 = .ok (.iadd, 1) := by decide +kernel
theorem dX5_put_58 : decode cX5_put 58 = .ok (.putfield 24, 3) := by decide +kernel
theorem dX5_put_61 : decode cX5_put 61 = .ok (.aload_n 0, 1) := by decide +kernel
theorem dX5_put_62 : decode cX5_put 62 = .ok (.getfield 24, 3) := by decide +kernel
theorem dX5_put_65 : decode cX5_put 65 = .ok (.iconst 1, 1) := by decide +kernel
theorem dX5_put_66 : decode cX5_put 66 = .ok (.isub, 1) := by decide +kernel
theorem dX5_put_67 : decode cX5_put 67 = .ok (.ireturn, 1) := by decide +kernel
theorem dX5_startLike_0 : decode cX5_startLike 0 = .ok (.aload_n 0, 1) := by decide +kernel
theorem dX5_startLike_1 : decode cX5_startLike 1 = .ok (.iconst 0, 1) := by decide +kernel
theorem dX5_startLike_2 : decode cX5_startLike 2 = .ok (.putfield 24, 3) := by decide +kernel
theorem dX5_startLike_5 : decode cX5_startLike 5 = .ok (.iconst 0, 1) := by decide +kernel
theorem dX5_startLike_6 : decode cX5_startLike 6 = .ok (.istore_n 2, 1) := by decide +kernel
theorem dX5_startLike_7 : decode cX5_startLike 7 = .ok (.iload_n 2, 1) := by decide +kernel
theorem dX5_startLike_8 : decode cX5_startLike 8 = .ok (.aload_n 1, 1) := by decide +kernel
theorem dX5_startLike_9 : decode cX5_startLike 9 = .ok (.getfield 24, 3) := by decide +kernel
theorem dX5_startLike_12 : decode cX5_startLike 12 = .ok (.if_icmp .ge 32, 3) := by decide +kernel
theorem dX5_startLike_15 : decode cX5_startLike 15 = .ok (.aload_n 0, 1) := by decide +kernel
theorem dX5_startLike_16 : decode cX5_startLike 16 = .ok (.aload_n 1, 1) := by decide +kernel
theorem dX5_startLike_17 : decode cX5_startLike 17 = .ok (.getfield 9, 3) := by decide +kernel
theorem dX5_startLike_20 : decode cX5_startLike 20 = .ok (.iload_n 2, 1) := by decide +kernel
theorem dX5_startLike_21 : decode cX5_startLike 21 = .ok (.iaload, 1) := by decide +kernel
theorem dX5_startLike_22 : decode cX5_startLike 22 = .ok (.aload_n 1, 1) := by decide +kernel
theorem dX5_startLike_23 : decode cX5_startLike 23 = .ok (.getfield 15, 3) := by decide +kernel
theorem dX5_startLike_26 : decode cX5_startLike 26 = .ok (.iload_n 2, 1) := by decide +kernel
theorem dX5_startLike_27 : decode cX5_startLike 27 = .ok (.iaload, 1) := by decide +kernel
theorem dX5_startLike_28 : decode cX5_startLike 28 = .ok (.aload_n 1, 1) := by decide +kernel
theorem dX5_startLike_29 : decode cX5_startLike 29 = .ok (.getfield 18, 3) := by decide +kernel
theorem dX5_startLike_32 : decode cX5_startLike 32 = .ok (.iload_n 2, 1) := by decide +kernel
theorem dX5_startLike_33 : decode cX5_startLike 33 = .ok (.iaload, 1) := by decide +kernel
theorem dX5_startLike_34 : decode cX5_startLike 34 = .ok (.invokevirtual 28, 3) := by decide +kernel
theorem dX5_startLike_37 : decode cX5_startLike 37 = .ok (.pop, 1) := by decide +kernel
theorem dX5_startLike_38 : decode cX5_startLike 38 = .ok (.iinc 2 1, 3) := by decide +kernel
theorem dX5_startLike_41 : decode cX5_startLike 41 = .ok (.goto (-34), 3) := by decide +kernel
theorem dX5_startLike_44 : decode cX5_startLike 44 = .ok (.return_, 1) := by decide +kernel
theorem dX5_has_0 : decode cX5_has 0 = .ok (.iload_n 1, 1) := by decide +kernel
theorem dX5_has_1 : decode cX5_has 1 = .ok (.ifCond .lt 15, 3) := by decide +kernel
theorem dX5_has_4 : decode cX5_has 4 = .ok (.iload_n 1, 1) := by decide +kernel
theorem dX5_has_5 : decode cX5_has 5 = .ok (.aload_n 0, 1) := by decide +kernel
theorem dX5_has_6 : decode cX5_has 6 = .ok (.getfield 24, 3) := by decide +kernel
theorem dX5_has_9 : decode cX5_has 9 = .ok (.if_icmp .ge 7, 3) := by decide +kernel
theorem dX5_has_12 : decode cX5_has 12 = .ok (.iconst 1, 1) := by decide +kernel
theorem dX5_has_13 : decode cX5_has 13 = .ok (.goto 4, 3) := by decide +kernel
theorem dX5_has_16 : decode cX5_has 16 = .ok (.iconst 0, 1) := by decide +kernel
theorem dX5_has_17 : decode cX5_has 17 = .ok (.ireturn, 1) := by decide +kernel
theorem dX5_lives_0 : decode cX5_lives 0 = .ok (.aload_n 0, 1) := by decide +kernel
theorem dX5_lives_1 : decode cX5_lives 1 = .ok (.iload_n 1, 1) := by decide +kernel
theorem dX5_lives_2 : decode cX5_lives 2 = .ok (.invokevirtual 32, 3) := by decide +kernel
theorem dX5_lives_5 : decode cX5_lives 5 = .ok (.iconst (-1), 1) := by decide +kernel
theorem dX5_lives_6 : decode cX5_lives 6 = .ok (.if_icmp .eq 7, 3) := by decide +kernel
theorem dX5_lives_9 : decode cX5_lives 9 = .ok (.iconst 1, 1) := by decide +kernel
theorem dX5_lives_10 : decode cX5_lives 10 = .ok (.goto 4, 3) := by decide +kernel
theorem dX5_lives_13 : decode cX5_lives 13 = .ok (.iconst 0, 1) := by decide +kernel
theorem dX5_lives_14 : decode cX5_lives 14 = .ok (.ireturn, 1) := by decide +kernel
theorem dX5_place_0 : decode cX5_place 0 = .ok (.iload_n 1, 1) := by decide +kernel
theorem dX5_place_1 : decode cX5_place 1 = .ok (.ifCond .lt 20, 3) := by decide +kernel
theorem dX5_place_4 : decode cX5_place 4 = .ok (.iload_n 1, 1) := by decide +kernel
theorem dX5_place_5 : decode cX5_place 5 = .ok (.aload_n 0, 1) := by decide +kernel
theorem dX5_place_6 : decode cX5_place 6 = .ok (.getfield 24, 3) := by decide +kernel
theorem dX5_place_9 : decode cX5_place 9 = .ok (.if_icmp .ge 12, 3) := by decide +kernel
theorem dX5_place_12 : decode cX5_place 12 = .ok (.aload_n 0, 1) := by decide +kernel
theorem dX5_place_13 : decode cX5_place 13 = .ok (.getfield 21, 3) := by decide +kernel
theorem dX5_place_16 : decode cX5_place 16 = .ok (.iload_n 1, 1) := by decide +kernel
theorem dX5_place_17 : decode cX5_place 17 = .ok (.iaload, 1) := by decide +kernel
theorem dX5_place_18 : decode cX5_place 18 = .ok (.goto 4, 3) := by decide +kernel
theorem dX5_place_21 : decode cX5_place 21 = .ok (.iconst (-1), 1) := by decide +kernel
theorem dX5_place_22 : decode cX5_place 22 = .ok (.ireturn, 1) := by decide +kernel
theorem dX5_owner_0 : decode cX5_owner 0 = .ok (.iload_n 1, 1) := by decide +kernel
theorem dX5_owner_1 : decode cX5_owner 1 = .ok (.ifCond .lt 20, 3) := by decide +kernel
theorem dX5_owner_4 : decode cX5_owner 4 = .ok (.iload_n 1, 1) := by decide +kernel
theorem dX5_owner_5 : decode cX5_owner 5 = .ok (.aload_n 0, 1) := by decide +kernel
theorem dX5_owner_6 : decode cX5_owner 6 = .ok (.getfield 24, 3) := by decide +kernel
theorem dX5_owner_9 : decode cX5_owner 9 = .ok (.if_icmp .ge 12, 3) := by decide +kernel
theorem dX5_owner_12 : decode cX5_owner 12 = .ok (.aload_n 0, 1) := by decide +kernel
theorem dX5_owner_13 : decode cX5_owner 13 = .ok (.getfield 9, 3) := by decide +kernel
theorem dX5_owner_16 : decode cX5_owner 16 = .ok (.iload_n 1, 1) := by decide +kernel
theorem dX5_owner_17 : decode cX5_owner 17 = .ok (.iaload, 1) := by decide +kernel
theorem dX5_owner_18 : decode cX5_owner 18 = .ok (.goto 4, 3) := by decide +kernel
theorem dX5_owner_21 : decode cX5_owner 21 = .ok (.iconst (-1), 1) := by decide +kernel
theorem dX5_owner_22 : decode cX5_owner 22 = .ok (.ireturn, 1) := by decide +kernel
theorem dX5_sight_0 : decode cX5_sight 0 = .ok (.iload_n 1, 1) := by decide +kernel
theorem dX5_sight_1 : decode cX5_sight 1 = .ok (.ifCond .lt 24, 3) := by decide +kernel
theorem dX5_sight_4 : decode cX5_sight 4 = .ok (.iload_n 1, 1) := by decide +kernel
theorem dX5_sight_5 : decode cX5_sight 5 = .ok (.aload_n 0, 1) := by decide +kernel
theorem dX5_sight_6 : decode cX5_sight 6 = .ok (.getfield 24, 3) := by decide +kernel
theorem dX5_sight_9 : decode cX5_sight 9 = .ok (.if_icmp .ge 16, 3) := by decide +kernel
theorem dX5_sight_12 : decode cX5_sight 12 = .ok (.getstatic 36, 3) := by decide +kernel
theorem dX5_sight_15 : decode cX5_sight 15 = .ok (.aload_n 0, 1) := by decide +kernel
theorem dX5_sight_16 : decode cX5_sight 16 = .ok (.getfield 15, 3) := by decide +kernel
theorem dX5_sight_19 : decode cX5_sight 19 = .ok (.iload_n 1, 1) := by decide +kernel
theorem dX5_sight_20 : decode cX5_sight 20 = .ok (.iaload, 1) := by decide +kernel
theorem dX5_sight_21 : decode cX5_sight 21 = .ok (.iaload, 1) := by decide +kernel
theorem dX5_sight_22 : decode cX5_sight 22 = .ok (.goto 4, 3) := by decide +kernel
theorem dX5_sight_25 : decode cX5_sight 25 = .ok (.iconst 0, 1) := by decide +kernel
theorem dX5_sight_26 : decode cX5_sight 26 = .ok (.ireturn, 1) := by decide +kernel
theorem dX5_steps_0 : decode cX5_steps 0 = .ok (.iload_n 1, 1) := by decide +kernel
theorem dX5_steps_1 : decode cX5_steps 1 = .ok (.ifCond .lt 24, 3) := by decide +kernel
theorem dX5_steps_4 : decode cX5_steps 4 = .ok (.iload_n 1, 1) := by decide +kernel
theorem dX5_steps_5 : decode cX5_steps 5 = .ok (.aload_n 0, 1) := by decide +kernel
theorem dX5_steps_6 : decode cX5_steps 6 = .ok (.getfield 24, 3) := by decide +kernel
theorem dX5_steps_9 : decode cX5_steps 9 = .ok (.if_icmp .ge 16, 3) := by decide +kernel
theorem dX5_steps_12 : decode cX5_steps 12 = .ok (.getstatic 39, 3) := by decide +kernel
theorem dX5_steps_15 : decode cX5_steps 15 = .ok (.aload_n 0, 1) := by decide +kernel
theorem dX5_steps_16 : decode cX5_steps 16 = .ok (.getfield 15, 3) := by decide +kernel
theorem dX5_steps_19 : decode cX5_steps 19 = .ok (.iload_n 1, 1) := by decide +kernel
theorem dX5_steps_20 : decode cX5_steps 20 = .ok (.iaload, 1) := by decide +kernel
theorem dX5_steps_21 : decode cX5_steps 21 = .ok (.iaload, 1) := by decide +kernel
theorem dX5_steps_22 : decode cX5_steps 22 = .ok (.goto 4, 3) := by decide +kernel
theorem dX5_steps_25 : decode cX5_steps 25 = .ok (.iconst 0, 1) := by decide +kernel
theorem dX5_steps_26 : decode cX5_steps 26 = .ok (.ireturn, 1) := by decide +kernel
theorem dX5_power_0 : decode cX5_power 0 = .ok (.iload_n 1, 1) := by decide +kernel
theorem dX5_power_1 : decode cX5_power 1 = .ok (.ifCond .lt 24, 3) := by decide +kernel
theorem dX5_power_4 : decode cX5_power 4 = .ok (.iload_n 1, 1) := by decide +kernel
theorem dX5_power_5 : decode cX5_power 5 = .ok (.aload_n 0, 1) := by decide +kernel
theorem dX5_power_6 : decode cX5_power 6 = .ok (.getfield 24, 3) := by decide +kernel
theorem dX5_power_9 : decode cX5_power 9 = .ok (.if_icmp .ge 16, 3) := by decide +kernel
theorem dX5_power_12 : decode cX5_power 12 = .ok (.getstatic 42, 3) := by decide +kernel
theorem dX5_power_15 : decode cX5_power 15 = .ok (.aload_n 0, 1) := by decide +kernel
theorem dX5_power_16 : decode cX5_power 16 = .ok (.getfield 15, 3) := by decide +kernel
theorem dX5_power_19 : decode cX5_power 19 = .ok (.iload_n 1, 1) := by decide +kernel
theorem dX5_power_20 : decode cX5_power 20 = .ok (.iaload, 1) := by decide +kernel
theorem dX5_power_21 : decode cX5_power 21 = .ok (.iaload, 1) := by decide +kernel
theorem dX5_power_22 : decode cX5_power 22 = .ok (.goto 4, 3) := by decide +kernel
theorem dX5_power_25 : decode cX5_power 25 = .ok (.iconst 0, 1) := by decide +kernel
theorem dX5_power_26 : decode cX5_power 26 = .ok (.ireturn, 1) := by decide +kernel
theorem dX5_on_0 : decode cX5_on 0 = .ok (.iconst 0, 1) := by decide +kernel
theorem dX5_on_1 : decode cX5_on 1 = .ok (.istore_n 2, 1) := by decide +kernel
theorem dX5_on_2 : decode cX5_on 2 = .ok (.iload_n 2, 1) := by decide +kernel
theorem dX5_on_3 : decode cX5_on 3 = .ok (.aload_n 0, 1) := by decide +kernel
theorem dX5_on_4 : decode cX5_on 4 = .ok (.getfield 24, 3) := by decide +kernel
theorem dX5_on_7 : decode cX5_on 7 = .ok (.if_icmp .ge 26, 3) := by decide +kernel
theorem dX5_on_10 : decode cX5_on 10 = .ok (.aload_n 0, 1) := by decide +kernel
theorem dX5_on_11 : decode cX5_on 11 = .ok (.getfield 21, 3) := by decide +kernel
theorem dX5_on_14 : decode cX5_on 14 = .ok (.iload_n 2, 1) := by decide +kernel
theorem dX5_on_15 : decode cX5_on 15 = .ok (.iaload, 1) := by decide +kernel
theorem dX5_on_16 : decode cX5_on 16 = .ok (.iload_n 1, 1) := by decide +kernel
theorem dX5_on_17 : decode cX5_on 17 = .ok (.if_icmp .ne 10, 3) := by decide +kernel
theorem dX5_on_20 : decode cX5_on 20 = .ok (.iload_n 1, 1) := by decide +kernel
theorem dX5_on_21 : decode cX5_on 21 = .ok (.iconst (-1), 1) := by decide +kernel
theorem dX5_on_22 : decode cX5_on 22 = .ok (.if_icmp .eq 5, 3) := by decide +kernel
theorem dX5_on_25 : decode cX5_on 25 = .ok (.iload_n 2, 1) := by decide +kernel
theorem dX5_on_26 : decode cX5_on 26 = .ok (.ireturn, 1) := by decide +kernel
theorem dX5_on_27 : decode cX5_on 27 = .ok (.iinc 2 1, 3) := by decide +kernel
theorem dX5_on_30 : decode cX5_on 30 = .ok (.goto (-28), 3) := by decide +kernel
theorem dX5_on_33 : decode cX5_on 33 = .ok (.iconst (-1), 1) := by decide +kernel
theorem dX5_on_34 : decode cX5_on 34 = .ok (.ireturn, 1) := by decide +kernel
theorem dX5_move_0 : decode cX5_move 0 = .ok (.iload_n 1, 1) := by decide +kernel
theorem dX5_move_1 : decode cX5_move 1 = .ok (.ifCond .lt 18, 3) := by decide +kernel
theorem dX5_move_4 : decode cX5_move 4 = .ok (.iload_n 1, 1) := by decide +kernel
theorem dX5_move_5 : decode cX5_move 5 = .ok (.aload_n 0, 1) := by decide +kernel
theorem dX5_move_6 : decode cX5_move 6 = .ok (.getfield 24, 3) := by decide +kernel
theorem dX5_move_9 : decode cX5_move 9 = .ok (.if_icmp .ge 10, 3) := by decide +kernel
theorem dX5_move_12 : decode cX5_move 12 = .ok (.aload_n 0, 1) := by decide +kernel
theorem dX5_move_13 : decode cX5_move 13 = .ok (.getfield 21, 3) := by decide +kernel
theorem dX5_move_16 : decode cX5_move 16 = .ok (.iload_n 1, 1) := by decide +kernel
theorem dX5_move_17 : decode cX5_move 17 = .ok (.iload_n 2, 1) := by decide +kernel
theorem dX5_move_18 : decode cX5_move 18 = .ok (.iastore, 1) := by decide +kernel
theorem dX5_move_19 : decode cX5_move 19 = .ok (.return_, 1) := by decide +kernel
theorem dX6_isCell_0 : decode cX6_isCell 0 = .ok (.iload_n 0, 1) := by decide +kernel
theorem dX6_isCell_1 : decode cX6_isCell 1 = .ok (.ifCond .lt 13, 3) := by decide +kernel
theorem dX6_isCell_4 : decode cX6_isCell 4 = .ok (.iload_n 0, 1) := by decide +kernel
theorem dX6_isCell_5 : decode cX6_isCell 5 = .ok (.bipush 64, 2) := by decide +kernel
theorem dX6_isCell_7 : decode cX6_isCell 7 = .ok (.if_icmp .ge 7, 3) := by decide +kernel
theorem dX6_isCell_10 : decode cX6_isCell 10 = .ok (.iconst 1, 1) := by decide +kernel
theorem dX6_isCell_11 : decode cX6_isCell 11 = .ok (.goto 4, 3) := by decide +kernel
theorem dX6_isCell_14 : decode cX6_isCell 14 = .ok (.iconst 0, 1) := by decide +kernel
theorem dX6_isCell_15 : decode cX6_isCell 15 = .ok (.ireturn, 1) := by decide +kernel
theorem dX6_numberFor_0 : decode cX6_numberFor 0 = .ok (.ldc_w 297, 3) := by decide +kernel
theorem dX6_numberFor_3 : decode cX6_numberFor 3 = .ok (.iload_n 0, 1) := by decide +kernel
theorem dX6_numberFor_4 : decode cX6_numberFor 4 = .ok (.imul, 1) := by decide +kernel
theorem dX6_numberFor_5 : decode cX6_numberFor 5 = .ok (.sipush 1000, 3) := by decide +kernel
theorem dX6_numberFor_8 : decode cX6_numberFor 8 = .ok (.iload_n 1, 1) := by decide +kernel
theorem dX6_numberFor_9 : decode cX6_numberFor 9 = .ok (.imul, 1) := by decide +kernel
theorem dX6_numberFor_10 : decode cX6_numberFor 10 = .ok (.iadd, 1) := by decide +kernel
theorem dX6_numberFor_11 : decode cX6_numberFor 11 = .ok (.iload_n 2, 1) := by decide +kernel
theorem dX6_numberFor_12 : decode cX6_numberFor 12 = .ok (.iadd, 1) := by decide +kernel
theorem dX6_numberFor_13 : decode cX6_numberFor 13 = .ok (.ireturn, 1) := by decide +kernel
theorem dX6_turnOf_0 : decode cX6_turnOf 0 = .ok (.iload_n 0, 1) := by decide +kernel
theorem dX6_turnOf_1 : decode cX6_turnOf 1 = .ok (.ldc_w 297, 3) := by decide +kernel
theorem dX6_turnOf_4 : decode cX6_turnOf 4 = .ok (.idiv, 1) := by decide +kernel
theorem dX6_turnOf_5 : decode cX6_turnOf 5 = .ok (.ireturn, 1) := by decide +kernel
theorem dX6_placeOf_0 : decode cX6_placeOf 0 = .ok (.iload_n 0, 1) := by decide +kernel
theorem dX6_placeOf_1 : decode cX6_placeOf 1 = .ok (.ldc_w 297, 3) := by decide +kernel
theorem dX6_placeOf_4 : decode cX6_placeOf 4 = .ok (.irem, 1) := by decide +kernel
theorem dX6_placeOf_5 : decode cX6_placeOf 5 = .ok (.sipush 1000, 3) := by decide +kernel
theorem dX6_placeOf_8 : decode cX6_placeOf 8 = .ok (.idiv, 1) := by decide +kernel
theorem dX6_placeOf_9 : decode cX6_placeOf 9 = .ok (.ireturn, 1) := by decide +kernel
theorem dX6_unitOf_0 : decode cX6_unitOf 0 = .ok (.iload_n 0, 1) := by decide +kernel
theorem dX6_unitOf_1 : decode cX6_unitOf 1 = .ok (.sipush 1000, 3) := by decide +kernel
theorem dX6_unitOf_4 : decode cX6_unitOf 4 = .ok (.irem, 1) := by decide +kernel
theorem dX6_unitOf_5 : decode cX6_unitOf 5 = .ok (.ireturn, 1) := by decide +kernel

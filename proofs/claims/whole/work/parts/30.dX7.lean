theorem dX7_init_0 : decode cX7_init 0 = .ok (.aload_n 0, 1) := by decide +kernel
theorem dX7_init_1 : decode cX7_init 1 = .ok (.invokespecial 1, 3) := by decide +kernel
theorem dX7_init_4 : decode cX7_init 4 = .ok (.aload_n 0, 1) := by decide +kernel
theorem dX7_init_5 : decode cX7_init 5 = .ok (.bipush 24, 2) := by decide +kernel
theorem dX7_init_7 : decode cX7_init 7 = .ok (.newarray .int, 2) := by decide +kernel
theorem dX7_init_9 : decode cX7_init 9 = .ok (.putfield 7, 3) := by decide +kernel
theorem dX7_init_12 : decode cX7_init 12 = .ok (.aload_n 0, 1) := by decide +kernel
theorem dX7_init_13 : decode cX7_init 13 = .ok (.bipush 24, 2) := by decide +kernel
theorem dX7_init_15 : decode cX7_init 15 = .ok (.newarray .int, 2) := by decide +kernel
theorem dX7_init_17 : decode cX7_init 17 = .ok (.putfield 13, 3) := by decide +kernel
theorem dX7_init_20 : decode cX7_init 20 = .ok (.aload_n 0, 1) := by decide +kernel
theorem dX7_init_21 : decode cX7_init 21 = .ok (.bipush 24, 2) := by decide +kernel
theorem dX7_init_23 : decode cX7_init 23 = .ok (.newarray .int, 2) := by decide +kernel
theorem dX7_init_25 : decode cX7_init 25 = .ok (.putfield 16, 3) := by decide +kernel
theorem dX7_init_28 : decode cX7_init 28 = .ok (.aload_n 0, 1) := by decide +kernel
theorem dX7_init_29 : decode cX7_init 29 = .ok (.bipush 24, 2) := by decide +kernel
theorem dX7_init_31 : decode cX7_init 31 = .ok (.newarray .int, 2) := by decide +kernel
theorem dX7_init_33 : decode cX7_init 33 = .ok (.putfield 19, 3) := by decide +kernel
theorem dX7_init_36 : decode cX7_init 36 = .ok (.aload_n 0, 1) := by decide +kernel
theorem dX7_init_37 : decode cX7_init 37 = .ok (.bipush 24, 2) := by decide +kernel
theorem dX7_init_39 : decode cX7_init 39 = .ok (.newarray .int, 2) := by decide +kernel
theorem dX7_init_41 : decode cX7_init 41 = .ok (.putfield 22, 3) := by decide +kernel
theorem dX7_init_44 : decode cX7_init 44 = .ok (.aload_n 0, 1) := by decide +kernel
theorem dX7_init_45 : decode cX7_init 45 = .ok (.bipush 24, 2) := by decide +kernel
theorem dX7_init_47 : decode cX7_init 47 = .ok (.newarray .int, 2) := by decide +kernel
theorem dX7_init_49 : decode cX7_init 49 = .ok (.putfield 25, 3) := by decide +kernel
theorem dX7_init_52 : decode cX7_init 52 = .ok (.aload_n 0, 1) := by decide +kernel
theorem dX7_init_53 : decode cX7_init 53 = .ok (.bipush 24, 2) := by decide +kernel
theorem dX7_init_55 : decode cX7_init 55 = .ok (.newarray .char, 2) := by decide +kernel
theorem dX7_init_57 : decode cX7_init 57 = .ok (.putfield 28, 3) := by decide +kernel
theorem dX7_init_60 : decode cX7_init 60 = .ok (.aload_n 0, 1) := by decide +kernel
theorem dX7_init_61 : decode cX7_init 61 = .ok (.bipush 16, 2) := by decide +kernel
theorem dX7_init_63 : decode cX7_init 63 = .ok (.newarray .boolean, 2) := by decide +kernel
theorem dX7_init_65 : decode cX7_init 65 = .ok (.putfield 32, 3) := by decide +kernel
theorem dX7_init_68 : decode cX7_init 68 = .ok (.aload_n 0, 1) := by decide +kernel
theorem dX7_init_69 : decode cX7_init 69 = .ok (.sipush 244, 3) := by decide +kernel
theorem dX7_init_72 : decode cX7_init 72 = .ok (.newarray .int, 2) := by decide +kernel
theorem dX7_init_74 : decode cX7_init 74 = .ok (.putfield 36, 3) := by decide +kernel
theorem dX7_init_77 : decode cX7_init 77 = .ok (.aload_n 0, 1) := by decide +kernel
theorem dX7_init_78 : decode cX7_init 78 = .ok (.iconst 4, 1) := by decide +kernel
theorem dX7_init_79 : decode cX7_init 79 = .ok (.newarray .int, 2) := by decide +kernel
theorem dX7_init_81 : decode cX7_init 81 = .ok (.putfield 39, 3) := by decide +kernel
theorem dX7_init_84 : decode cX7_init 84 = .ok (.aload_n 0, 1) := by decide +kernel
theorem dX7_init_85 : decode cX7_init 85 = .ok (.sipush 244, 3) := by decide +kernel
theorem dX7_init_88 : decode cX7_init 88 = .ok (.newarray .int, 2) := by decide +kernel
theorem dX7_init_90 : decode cX7_init 90 = .ok (.putfield 42, 3) := by decide +kernel
theorem dX7_init_93 : decode cX7_init 93 = .ok (.aload_n 0, 1) := by decide +kernel
theorem dX7_init_94 : decode cX7_init 94 = .ok (.iconst 4, 1) := by decide +kernel
theorem dX7_init_95 : decode cX7_init 95 = .ok (.newarray .int, 2) := by decide +kernel
theorem dX7_init_97 : decode cX7_init 97 = .ok (.putfield 45, 3) := by decide +kernel
theorem dX7_init_100 : decode cX7_init 100 = .ok (.aload_n 0, 1) := by decide +kernel
theorem dX7_init_101 : decode cX7_init 101 = .ok (.bipush 64, 2) := by decide +kernel
theorem dX7_init_103 : decode cX7_init 103 = .ok (.newarray .boolean, 2) := by decide +kernel
theorem dX7_init_105 : decode cX7_init 105 = .ok (.putfield 48, 3) := by decide +kernel
theorem dX7_init_108 : decode cX7_init 108 = .ok (.aload_n 0, 1) := by decide +kernel
theorem dX7_init_109 : decode cX7_init 109 = .ok (.bipush 16, 2) := by decide +kernel
theorem dX7_init_111 : decode cX7_init 111 = .ok (.newarray .boolean, 2) := by decide +kernel
theorem dX7_init_113 : decode cX7_init 113 = .ok (.putfield 51, 3) := by decide +kernel
theorem dX7_init_116 : decode cX7_init 116 = .ok (.aload_n 0, 1) := by decide +kernel
theorem dX7_init_117 : decode cX7_init 117 = .ok (.bipush 16, 2) := by decide +kernel
theorem dX7_init_119 : decode cX7_init 119 = .ok (.newarray .boolean, 2) := by decide +kernel
theorem dX7_init_121 : decode cX7_init 121 = .ok (.putfield 54, 3) := by decide +kernel
theorem dX7_init_124 : decode cX7_init 124 = .ok (.return_, 1) := by decide +kernel
theorem dX7_thrown_0 : decode cX7_thrown 0 = .ok (.aload_n 0, 1) := by decide +kernel
theorem dX7_thrown_1 : decode cX7_thrown 1 = .ok (.getfield 57, 3) := by decide +kernel
theorem dX7_thrown_4 : decode cX7_thrown 4 = .ok (.ireturn, 1) := by decide +kernel
theorem dX7_no_0 : decode cX7_no 0 = .ok (.aload_n 0, 1) := by decide +kernel
theorem dX7_no_1 : decode cX7_no 1 = .ok (.iload_n 1, 1) := by decide +kernel
theorem dX7_no_2 : decode cX7_no 2 = .ok (.ifCond .eq 7, 3) := by decide +kernel
theorem dX7_no_5 : decode cX7_no 5 = .ok (.iconst 0, 1) := by decide +kernel
theorem dX7_no_6 : decode cX7_no 6 = .ok (.goto 4, 3) := by decide +kernel
theorem dX7_no_9 : decode cX7_no 9 = .ok (.iload_n 2, 1) := by decide +kernel
theorem dX7_no_10 : decode cX7_no 10 = .ok (.putfield 57, 3) := by decide +kernel
theorem dX7_no_13 : decode cX7_no 13 = .ok (.iload_n 1, 1) := by decide +kernel
theorem dX7_no_14 : decode cX7_no 14 = .ok (.ifCond .ne 7, 3) := by decide +kernel
theorem dX7_no_17 : decode cX7_no 17 = .ok (.iconst 1, 1) := by decide +kernel
theorem dX7_no_18 : decode cX7_no 18 = .ok (.goto 4, 3) := by decide +kernel
theorem dX7_no_21 : decode cX7_no 21 = .ok (.iconst 0, 1) := by decide +kernel
theorem dX7_no_22 : decode cX7_no 22 = .ok (.ireturn, 1) := by decide +kernel
theorem dX7_noPlayer_0 : decode cX7_noPlayer 0 = .ok (.aload_n 0, 1) := by decide +kernel
theorem dX7_noPlayer_1 : decode cX7_noPlayer 1 = .ok (.iload_n 1, 1) := by decide +kernel
theorem dX7_noPlayer_2 : decode cX7_noPlayer 2 = .ok (.ifCond .lt 12, 3) := by decide +kernel
theorem dX7_noPlayer_5 : decode cX7_noPlayer 5 = .ok (.iload_n 1, 1) := by decide +kernel
theorem dX7_noPlayer_6 : decode cX7_noPlayer 6 = .ok (.iconst 4, 1) := by decide +kernel
theorem dX7_noPlayer_7 : decode cX7_noPlayer 7 = .ok (.if_icmp .ge 7, 3) := by decide +kernel
theorem dX7_noPlayer_10 : decode cX7_noPlayer 10 = .ok (.iconst 1, 1) := by decide +kernel
theorem dX7_noPlayer_11 : decode cX7_noPlayer 11 = .ok (.goto 4, 3) := by decide +kernel
theorem dX7_noPlayer_14 : decode cX7_noPlayer 14 = .ok (.iconst 0, 1) := by decide +kernel
theorem dX7_noPlayer_15 : decode cX7_noPlayer 15 = .ok (.iconst 1, 1) := by decide +kernel
theorem dX7_noPlayer_16 : decode cX7_noPlayer 16 = .ok (.invokevirtual 61, 3) := by decide +kernel
theorem dX7_noPlayer_19 : decode cX7_noPlayer 19 = .ok (.ireturn, 1) := by decide +kernel
theorem dX7_noUnit_0 : decode cX7_noUnit 0 = .ok (.aload_n 0, 1) := by decide +kernel
theorem dX7_noUnit_1 : decode cX7_noUnit 1 = .ok (.iload_n 1, 1) := by decide +kernel
theorem dX7_noUnit_2 : decode cX7_noUnit 2 = .ok (.ifCond .lt 15, 3) := by decide +kernel
theorem dX7_noUnit_5 : decode cX7_noUnit 5 = .ok (.iload_n 1, 1) := by decide +kernel
theorem dX7_noUnit_6 : decode cX7_noUnit 6 = .ok (.aload_n 0, 1) := by decide +kernel
theorem dX7_noUnit_7 : decode cX7_noUnit 7 = .ok (.getfield 65, 3) := by decide +kernel
theorem dX7_noUnit_10 : decode cX7_noUnit 10 = .ok (.if_icmp .ge 7, 3) := by decide +kernel
theorem dX7_noUnit_13 : decode cX7_noUnit 13 = .ok (.iconst 1, 1) := by decide +kernel
theorem dX7_noUnit_14 : decode cX7_noUnit 14 = .ok (.goto 4, 3) := by decide +kernel
theorem dX7_noUnit_17 : decode cX7_noUnit 17 = .ok (.iconst 0, 1) := by decide +kernel
theorem dX7_noUnit_18 : decode cX7_noUnit 18 = .ok (.iconst 1, 1) := by decide +kernel
theorem dX7_noUnit_19 : decode cX7_noUnit 19 = .ok (.invokevirtual 61, 3) := by decide +kernel
theorem dX7_noUnit_22 : decode cX7_noUnit 22 = .ok (.ireturn, 1) := by decide +kernel
theorem dX7_isCell_0 : decode cX7_isCell 0 = .ok (.iload_n 0, 1) := by decide +kernel
theorem dX7_isCell_1 : decode cX7_isCell 1 = .ok (.ifCond .lt 13, 3) := by decide +kernel
theorem dX7_isCell_4 : decode cX7_isCell 4 = .ok (.iload_n 0, 1) := by decide +kernel
theorem dX7_isCell_5 : decode cX7_isCell 5 = .ok (.bipush 64, 2) := by decide +kernel
theorem dX7_isCell_7 : decode cX7_isCell 7 = .ok (.if_icmp .ge 7, 3) := by decide +kernel
theorem dX7_isCell_10 : decode cX7_isCell 10 = .ok (.iconst 1, 1) := by decide +kernel
theorem dX7_isCell_11 : decode cX7_isCell 11 = .ok (.goto 4, 3) := by decide +kernel
theorem dX7_isCell_14 : decode cX7_isCell 14 = .ok (.iconst 0, 1) := by decide +kernel
theorem dX7_isCell_15 : decode cX7_isCell 15 = .ok (.ireturn, 1) := by decide +kernel
theorem dX7_setSeed_0 : decode cX7_setSeed 0 = .ok (.aload_n 0, 1) := by decide +kernel
theorem dX7_setSeed_1 : decode cX7_setSeed 1 = .ok (.aload_n 0, 1) := by decide +kernel
theorem dX7_setSeed_2 : decode cX7_setSeed 2 = .ok (.getfield 65, 3) := by decide +kernel
theorem dX7_setSeed_5 : decode cX7_setSeed 5 = .ok (.ifCond .ne 7, 3) := by decide +kernel
theorem dX7_setSeed_8 : decode cX7_setSeed 8 = .ok (.iconst 1, 1) := by decide +kernel
theorem dX7_setSeed_9 : decode cX7_setSeed 9 = .ok (.goto 4, 3) := by decide +kernel
theorem dX7_setSeed_12 : decode cX7_setSeed 12 = .ok (.iconst 0, 1) := by decide +kernel
theorem dX7_setSeed_13 : decode cX7_setSeed 13 = .ok (.iconst 1, 1) := by decide +kernel
theorem dX7_setSeed_14 : decode cX7_setSeed 14 = .ok (.invokevirtual 61, 3) := by decide +kernel
theorem dX7_setSeed_17 : decode cX7_setSeed 17 = .ok (.ifCond .eq 5, 3) := by decide +kernel
theorem dX7_setSeed_20 : decode cX7_setSeed 20 = .ok (.iconst 0, 1) := by decide +kernel
theorem dX7_setSeed_21 : decode cX7_setSeed 21 = .ok (.ireturn, 1) := by decide +kernel
theorem dX7_setSeed_22 : decode cX7_setSeed 22 = .ok (.aload_n 0, 1) := by decide +kernel
theorem dX7_setSeed_23 : decode cX7_setSeed 23 = .ok (.getfield 68, 3) := by decide +kernel
theorem dX7_setSeed_26 : decode cX7_setSeed 26 = .ok (.istore_n 2, 1) := by decide +kernel
theorem dX7_setSeed_27 : decode cX7_setSeed 27 = .ok (.aload_n 0, 1) := by decide +kernel
theorem dX7_setSeed_28 : decode cX7_setSeed 28 = .ok (.iload_n 1, 1) := by decide +kernel
theorem dX7_setSeed_29 : decode cX7_setSeed 29 = .ok (.putfield 68, 3) := by decide +kernel
theorem dX7_setSeed_32 : decode cX7_setSeed 32 = .ok (.iload_n 2, 1) := by decide +kernel
theorem dX7_setSeed_33 : decode cX7_setSeed 33 = .ok (.ireturn, 1) := by decide +kernel
theorem dX7_groundOf_0 : decode cX7_groundOf 0 = .ok (.aload_n 0, 1) := by decide +kernel
theorem dX7_groundOf_1 : decode cX7_groundOf 1 = .ok (.getfield 68, 3) := by decide +kernel
theorem dX7_groundOf_4 : decode cX7_groundOf 4 = .ok (.istore_n 2, 1) := by decide +kernel
theorem dX7_groundOf_5 : decode cX7_groundOf 5 = .ok (.iconst 0, 1) := by decide +kernel
theorem dX7_groundOf_6 : decode cX7_groundOf 6 = .ok (.istore_n 3, 1) := by decide +kernel
theorem dX7_groundOf_7 : decode cX7_groundOf 7 = .ok (.iload_n 3, 1) := by decide +kernel
theorem dX7_groundOf_8 : decode cX7_groundOf 8 = .ok (.iload_n 1, 1) := by decide +kernel
theorem dX7_groundOf_9 : decode cX7_groundOf 9 = .ok (.if_icmp .gt 18, 3) := by decide +kernel
theorem dX7_groundOf_12 : decode cX7_groundOf 12 = .ok (.iload_n 2, 1) := by decide +kernel
theorem dX7_groundOf_13 : decode cX7_groundOf 13 = .ok (.ldc 71, 2) := by decide +kernel
theorem dX7_groundOf_15 : decode cX7_groundOf 15 = .ok (.imul, 1) := by decide +kernel
theorem dX7_groundOf_16 : decode cX7_groundOf 16 = .ok (.sipush 12345, 3) := by decide +kernel
theorem dX7_groundOf_19 : decode cX7_groundOf 19 = .ok (.iadd, 1) := by decide +kernel
theorem dX7_groundOf_20 : decode cX7_groundOf 20 = .ok (.istore_n 2, 1) := by decide +kernel
theorem dX7_groundOf_21 : decode cX7_groundOf 21 = .ok (.iinc 3 1, 3) := by decide +kernel
theorem dX7_groundOf_24 : decode cX7_groundOf 24 = .ok (.goto (-17), 3) := by decide +kernel
theorem dX7_groundOf_27 : decode cX7_groundOf 27 = .ok (.iload_n 2, 1) := by decide +kernel
theorem dX7_groundOf_28 : decode cX7_groundOf 28 = .ok (.bipush 16, 2) := by decide +kernel
theorem dX7_groundOf_30 : decode cX7_groundOf 30 = .ok (.iushr, 1) := by decide +kernel
theorem dX7_groundOf_31 : decode cX7_groundOf 31 = .ok (.bipush 8, 2) := by decide +kernel
theorem dX7_groundOf_33 : decode cX7_groundOf 33 = .ok (.irem, 1) := by decide +kernel
theorem dX7_groundOf_34 : decode cX7_groundOf 34 = .ok (.istore_n 3, 1) := by decide +kernel
theorem dX7_groundOf_35 : decode cX7_groundOf 35 = .ok (.iload_n 3, 1) := by decide +kernel
theorem dX7_groundOf_36 : decode cX7_groundOf 36 = .ok (.iconst 4, 1) := by decide +kernel
theorem dX7_groundOf_37 : decode cX7_groundOf 37 = .ok (.if_icmp .ge 8, 3) := by decide +kernel
theorem dX7_groundOf_40 : decode cX7_groundOf 40 = .ok (.bipush 112, 2) := by decide +kernel
theorem dX7_groundOf_42 : decode cX7_groundOf 42 = .ok (.goto 27, 3) := by decide +kernel
theorem dX7_groundOf_45 : decode cX7_groundOf 45 = .ok (.iload_n 3, 1) := by decide +kernel
theorem dX7_groundOf_46 : decode cX7_groundOf 46 = .ok (.bipush 6, 2) := by decide +kernel
theorem dX7_groundOf_48 : decode cX7_groundOf 48 = .ok (.if_icmp .ge 8, 3) := by decide +kernel
theorem dX7_groundOf_51 : decode cX7_groundOf 51 = .ok (.bipush 119, 2) := by decide +kernel
theorem dX7_groundOf_53 : decode cX7_groundOf 53 = .ok (.goto 16, 3) := by decide +kernel
theorem dX7_groundOf_56 : decode cX7_groundOf 56 = .ok (.iload_n 3, 1) := by decide +kernel
theorem dX7_groundOf_57 : decode cX7_groundOf 57 = .ok (.bipush 6, 2) := by decide +kernel
theorem dX7_groundOf_59 : decode cX7_groundOf 59 = .ok (.if_icmp .ne 8, 3) := by decide +kernel
theorem dX7_groundOf_62 : decode cX7_groundOf 62 = .ok (.bipush 104, 2) := by decide +kernel
theorem dX7_groundOf_64 : decode cX7_groundOf 64 = .ok (.goto 5, 3) := by decide +kernel
theorem dX7_groundOf_67 : decode cX7_groundOf 67 = .ok (.bipush 120, 2) := by decide +kernel
theorem dX7_groundOf_69 : decode cX7_groundOf 69 = .ok (.ireturn, 1) := by decide +kernel
theorem dX7_ground_0 : decode cX7_ground 0 = .ok (.aload_n 0, 1) := by decide +kernel
theorem dX7_ground_1 : decode cX7_ground 1 = .ok (.iload_n 1, 1) := by decide +kernel
theorem dX7_ground_2 : decode cX7_ground 2 = .ok (.invokestatic 72, 3) := by decide +kernel
theorem dX7_ground_5 : decode cX7_ground 5 = .ok (.iconst 1, 1) := by decide +kernel
theorem dX7_ground_6 : decode cX7_ground 6 = .ok (.invokevirtual 61, 3) := by decide +kernel
theorem dX7_ground_9 : decode cX7_ground 9 = .ok (.ifCond .eq 8, 3) := by decide +kernel
theorem dX7_ground_12 : decode cX7_ground 12 = .ok (.bipush 112, 2) := by decide +kernel
theorem dX7_ground_14 : decode cX7_ground 14 = .ok (.goto 8, 3) := by decide +kernel
theorem dX7_ground_17 : decode cX7_ground 17 = .ok (.aload_n 0, 1) := by decide +kernel
theorem dX7_ground_18 : decode cX7_ground 18 = .ok (.iload_n 1, 1) := by decide +kernel
theorem dX7_ground_19 : decode cX7_ground 19 = .ok (.invokevirtual 76, 3) := by decide +kernel
theorem dX7_ground_22 : decode cX7_ground 22 = .ok (.ireturn, 1) := by decide +kernel
theorem dX7_steps_0 : decode cX7_steps 0 = .ok (.aload_n 0, 1) := by decide +kernel
theorem dX7_steps_1 : decode cX7_steps 1 = .ok (.getfield 28, 3) := by decide +kernel
theorem dX7_steps_4 : decode cX7_steps 4 = .ok (.iload_n 1, 1) := by decide +kernel
theorem dX7_steps_5 : decode cX7_steps 5 = .ok (.caload, 1) := by decide +kernel
theorem dX7_steps_6 : decode cX7_steps 6 = .ok (.bipush 115, 2) := by decide +kernel
theorem dX7_steps_8 : decode cX7_steps 8 = .ok (.if_icmp .ne 7, 3) := by decide +kernel
theorem dX7_steps_11 : decode cX7_steps 11 = .ok (.iconst 2, 1) := by decide +kernel
theorem dX7_steps_12 : decode cX7_steps 12 = .ok (.goto 19, 3) := by decide +kernel
theorem dX7_steps_15 : decode cX7_steps 15 = .ok (.aload_n 0, 1) := by decide +kernel
theorem dX7_steps_16 : decode cX7_steps 16 = .ok (.getfield 28, 3) := by decide +kernel
theorem dX7_steps_19 : decode cX7_steps 19 = .ok (.iload_n 1, 1) := by decide +kernel
theorem dX7_steps_20 : decode cX7_steps 20 = .ok (.caload, 1) := by decide +kernel
theorem dX7_steps_21 : decode cX7_steps 21 = .ok (.bipush 97, 2) := by decide +kernel
theorem dX7_steps_23 : decode cX7_steps 23 = .ok (.if_icmp .ne 7, 3) := by decide +kernel
theorem dX7_steps_26 : decode cX7_steps 26 = .ok (.iconst 1, 1) := by decide +kernel
theorem dX7_steps_27 : decode cX7_steps 27 = .ok (.goto 4, 3) := by decide +kernel
theorem dX7_steps_30 : decode cX7_steps 30 = .ok (.iconst 0, 1) := by decide +kernel
theorem dX7_steps_31 : decode cX7_steps 31 = .ok (.ireturn, 1) := by decide +kernel
theorem dX7_power_0 : decode cX7_power 0 = .ok (.aload_n 0, 1) := by decide +kernel
theorem dX7_power_1 : decode cX7_power 1 = .ok (.getfield 28, 3) := by decide +kernel
theorem dX7_power_4 : decode cX7_power 4 = .ok (.iload_n 1, 1) := by decide +kernel
theorem dX7_power_5 : decode cX7_power 5 = .ok (.caload, 1) := by decide +kernel
theorem dX7_power_6 : decode cX7_power 6 = .ok (.bipush 115, 2) := by decide +kernel
theorem dX7_power_8 : decode cX7_power 8 = .ok (.if_icmp .ne 7, 3) := by decide +kernel
theorem dX7_power_11 : decode cX7_power 11 = .ok (.iconst 1, 1) := by decide +kernel
theorem dX7_power_12 : decode cX7_power 12 = .ok (.goto 19, 3) := by decide +kernel
theorem dX7_power_15 : decode cX7_power 15 = .ok (.aload_n 0, 1) := by decide +kernel
theorem dX7_power_16 : decode cX7_power 16 = .ok (.getfield 28, 3) := by decide +kernel
theorem dX7_power_19 : decode cX7_power 19 = .ok (.iload_n 1, 1) := by decide +kernel
theorem dX7_power_20 : decode cX7_power 20 = .ok (.caload, 1) := by decide +kernel
theorem dX7_power_21 : decode cX7_power 21 = .ok (.bipush 97, 2) := by decide +kernel
theorem dX7_power_23 : decode cX7_power 23 = .ok (.if_icmp .ne 7, 3) := by decide +kernel
theorem dX7_power_26 : decode cX7_power 26 = .ok (.iconst 3, 1) := by decide +kernel
theorem dX7_power_27 : decode cX7_power 27 = .ok (.goto 4, 3) := by decide +kernel
theorem dX7_power_30 : decode cX7_power 30 = .ok (.iconst 2, 1) := by decide +kernel
theorem dX7_power_31 : decode cX7_power 31 = .ok (.ireturn, 1) := by decide +kernel
theorem dX7_on_0 : decode cX7_on 0 = .ok (.iconst 0, 1) := by decide +kernel
theorem dX7_on_1 : decode cX7_on 1 = .ok (.istore_n 2, 1) := by decide +kernel
theorem dX7_on_2 : decode cX7_on 2 = .ok (.iload_n 2, 1) := by decide +kernel
theorem dX7_on_3 : decode cX7_on 3 = .ok (.aload_n 0, 1) := by decide +kernel
theorem dX7_on_4 : decode cX7_on 4 = .ok (.getfield 65, 3) := by decide +kernel
theorem dX7_on_7 : decode cX7_on 7 = .ok (.if_icmp .ge 21, 3) := by decide +kernel
theorem dX7_on_10 : decode cX7_on 10 = .ok (.aload_n 0, 1) := by decide +kernel
theorem dX7_on_11 : decode cX7_on 11 = .ok (.getfield 13, 3) := by decide +kernel
theorem dX7_on_14 : decode cX7_on 14 = .ok (.iload_n 2, 1) := by decide +kernel
theorem dX7_on_15 : decode cX7_on 15 = .ok (.iaload, 1) := by decide +kernel
theorem dX7_on_16 : decode cX7_on 16 = .ok (.iload_n 1, 1) := by decide +kernel
theorem dX7_on_17 : decode cX7_on 17 = .ok (.if_icmp .ne 5, 3) := by decide +kernel
theorem dX7_on_20 : decode cX7_on 20 = .ok (.iload_n 2, 1) := by decide +kernel
theorem dX7_on_21 : decode cX7_on 21 = .ok (.ireturn, 1) := by decide +kernel
theorem dX7_on_22 : decode cX7_on 22 = .ok (.iinc 2 1, 3) := by decide +kernel
theorem dX7_on_25 : decode cX7_on 25 = .ok (.goto (-23), 3) := by decide +kernel
theorem dX7_on_28 : decode cX7_on 28 = .ok (.iconst (-1), 1) := by decide +kernel
theorem dX7_on_29 : decode cX7_on 29 = .ok (.ireturn, 1) := by decide +kernel
theorem dX7_addUnit_0 : decode cX7_addUnit 0 = .ok (.aload_n 0, 1) := by decide +kernel
theorem dX7_addUnit_1 : decode cX7_addUnit 1 = .ok (.iload_n 1, 1) := by decide +kernel
theorem dX7_addUnit_2 : decode cX7_addUnit 2 = .ok (.ifCond .lt 19, 3) := by decide +kernel
theorem dX7_addUnit_5 : decode cX7_addUnit 5 = .ok (.iload_n 1, 1) := by decide +kernel
theorem dX7_addUnit_6 : decode cX7_addUnit 6 = .ok (.iconst 4, 1) := by decide +kernel
theorem dX7_addUnit_7 : decode cX7_addUnit 7 = .ok (.if_icmp .ge 14, 3) := by decide +kernel
theorem dX7_addUnit_10 : decode cX7_addUnit 10 = .ok (.iload_n 3, 1) := by decide +kernel
theorem dX7_addUnit_11 : decode cX7_addUnit 11 = .ok (.invokestatic 72, 3) := by decide +kernel
theorem dX7_addUnit_14 : decode cX7_addUnit 14 = .ok (.ifCond .eq 7, 3) := by decide +kernel
theorem dX7_addUnit_17 : decode cX7_addUnit 17 = .ok (.iconst 1, 1) := by decide +kernel
theorem dX7_addUnit_18 : decode cX7_addUnit 18 = .ok (.goto 4, 3) := by decide +kernel
theorem dX7_addUnit_21 : decode cX7_addUnit 21 = .ok (.iconst 0, 1) := by decide +kernel
theorem dX7_addUnit_22 : decode cX7_addUnit 22 = .ok (.iconst 1, 1) := by decide +kernel
theorem dX7_addUnit_23 : decode cX7_addUnit 23 = .ok (.invokevirtual 61, 3) := by decide +kernel
theorem dX7_addUnit_26 : decode cX7_addUnit 26 = .ok (.ifCond .ne 34, 3) := by decide +kernel
theorem dX7_addUnit_29 : decode cX7_addUnit 29 = .ok (.aload_n 0, 1) := by decide +kernel
theorem dX7_addUnit_30 : decode cX7_addUnit 30 = .ok (.iload_n 2, 1) := by decide +kernel
theorem dX7_addUnit_31 : decode cX7_addUnit 31 = .ok (.bipush 115, 2) := by decide +kernel
theorem dX7_addUnit_33 : decode cX7_addUnit 33 = .ok (.if_icmp .eq 15, 3) := by decide +kernel
theorem dX7_addUnit_36 : decode cX7_addUnit 36 = .ok (.iload_n 2, 1) := by decide +kernel
theorem dX7_addUnit_37 : decode cX7_addUnit 37 = .ok (.bipush 97, 2) := by decide +kernel
theorem dX7_addUnit_39 : decode cX7_addUnit 39 = .ok (.if_icmp .eq 9, 3) := by decide +kernel
theorem dX7_addUnit_42 : decode cX7_addUnit 42 = .ok (.iload_n 2, 1) := by decide +kernel
theorem dX7_addUnit_43 : decode cX7_addUnit 43 = .ok (.bipush 116, 2) := by decide +kernel
theorem dX7_addUnit_45 : decode cX7_addUnit 45 = .ok (.if_icmp .ne 7, 3) := by decide +kernel
theorem dX7_addUnit_48 : decode cX7_addUnit 48 = .ok (.iconst 1, 1) := by decide +kernel
theorem dX7_addUnit_49 : decode cX7_addUnit 49 = .ok (.goto 4, 3) := by decide +kernel
theorem dX7_addUnit_52 : decode cX7_addUnit 52 = .ok (.iconst 0, 1) := by decide +kernel
theorem dX7_addUnit_53 : decode cX7_addUnit 53 = .ok (.iconst 2, 1) := by decide +kernel
theorem dX7_addUnit_54 : decode cX7_addUnit 54 = .ok (.invokevirtual 61, 3) := by decide +kernel
theorem dX7_addUnit_57 : decode cX7_addUnit 57 = .ok (.ifCond .eq 5, 3) := by decide +kernel
theorem dX7_addUnit_60 : decode cX7_addUnit 60 = .ok (.iconst 0, 1) := by decide +kernel
theorem dX7_addUnit_61 : decode cX7_addUnit 61 = .ok (.ireturn, 1) := by decide +kernel
theorem dX7_addUnit_62 : decode cX7_addUnit 62 = .ok (.aload_n 0, 1) := by decide +kernel
theorem dX7_addUnit_63 : decode cX7_addUnit 63 = .ok (.aload_n 0, 1) := by decide +kernel
theorem dX7_addUnit_64 : decode cX7_addUnit 64 = .ok (.iload_n 3, 1) := by decide +kernel
theorem dX7_addUnit_65 : decode cX7_addUnit 65 = .ok (.invokevirtual 76, 3) := by decide +kernel
theorem dX7_addUnit_68 : decode cX7_addUnit 68 = .ok (.bipush 120, 2) := by decide +kernel
theorem dX7_addUnit_70 : decode cX7_addUnit 70 = .ok (.if_icmp .eq 16, 3) := by decide +kernel
theorem dX7_addUnit_73 : decode cX7_addUnit 73 = .ok (.aload_n 0, 1) := by decide +kernel
theorem dX7_addUnit_74 : decode cX7_addUnit 74 = .ok (.iload_n 3, 1) := by decide +kernel
theorem dX7_addUnit_75 : decode cX7_addUnit 75 = .ok (.invokevirtual 80, 3) := by decide +kernel
theorem dX7_addUnit_78 : decode cX7_addUnit 78 = .ok (.iconst (-1), 1) := by decide +kernel
theorem dX7_addUnit_79 : decode cX7_addUnit 79 = .ok (.if_icmp .ne 7, 3) := by decide +kernel
theorem dX7_addUnit_82 : decode cX7_addUnit 82 = .ok (.iconst 1, 1) := by decide +kernel
theorem dX7_addUnit_83 : decode cX7_addUnit 83 = .ok (.goto 4, 3) := by decide +kernel
theorem dX7_addUnit_86 : decode cX7_addUnit 86 = .ok (.iconst 0, 1) := by decide +kernel
theorem dX7_addUnit_87 : decode cX7_addUnit 87 = .ok (.iconst 3, 1) := by decide +kernel
theorem dX7_addUnit_88 : decode cX7_addUnit 88 = .ok (.invokevirtual 61, 3) := by decide +kernel
theorem dX7_addUnit_91 : decode cX7_addUnit 91 = .ok (.ifCond .ne 32, 3) := by decide +kernel
theorem dX7_addUnit_94 : decode cX7_addUnit 94 = .ok (.aload_n 0, 1) := by decide +kernel
theorem dX7_addUnit_95 : decode cX7_addUnit 95 = .ok (.aload_n 0, 1) := by decide +kernel
theorem dX7_addUnit_96 : decode cX7_addUnit 96 = .ok (.getfield 65, 3) := by decide +kernel
theorem dX7_addUnit_99 : decode cX7_addUnit 99 = .ok (.bipush 24, 2) := by decide +kernel
theorem dX7_addUnit_101 : decode cX7_addUnit 101 = .ok (.if_icmp .ge 14, 3) := by decide +kernel
theorem dX7_addUnit_104 : decode cX7_addUnit 104 = .ok (.aload_n 0, 1) := by decide +kernel
theorem dX7_addUnit_105 : decode cX7_addUnit 105 = .ok (.getfield 84, 3) := by decide +kernel
theorem dX7_addUnit_108 : decode cX7_addUnit 108 = .ok (.ifCond .ne 7, 3) := by decide +kernel
theorem dX7_addUnit_111 : decode cX7_addUnit 111 = .ok (.iconst 1, 1) := by decide +kernel
theorem dX7_addUnit_112 : decode cX7_addUnit 112 = .ok (.goto 4, 3) := by decide +kernel
theorem dX7_addUnit_115 : decode cX7_addUnit 115 = .ok (.iconst 0, 1) := by decide +kernel
theorem dX7_addUnit_116 : decode cX7_addUnit 116 = .ok (.iconst 4, 1) := by decide +kernel
theorem dX7_addUnit_117 : decode cX7_addUnit 117 = .ok (.invokevirtual 61, 3) := by decide +kernel
theorem dX7_addUnit_120 : decode cX7_addUnit 120 = .ok (.ifCond .eq 5, 3) := by decide +kernel
theorem dX7_addUnit_123 : decode cX7_addUnit 123 = .ok (.iconst 0, 1) := by decide +kernel
theorem dX7_addUnit_124 : decode cX7_addUnit 124 = .ok (.ireturn, 1) := by decide +kernel
theorem dX7_addUnit_125 : decode cX7_addUnit 125 = .ok (.aload_n 0, 1) := by decide +kernel
theorem dX7_addUnit_126 : decode cX7_addUnit 126 = .ok (.getfield 7, 3) := by decide +kernel
theorem dX7_addUnit_129 : decode cX7_addUnit 129 = .ok (.aload_n 0, 1) := by decide +kernel
theorem dX7_addUnit_130 : decode cX7_addUnit 130 = .ok (.getfield 65, 3) := by decide +kernel
theorem dX7_addUnit_133 : decode cX7_addUnit 133 = .ok (.iload_n 1, 1) := by decide +kernel
theorem dX7_addUnit_134 : decode cX7_addUnit 134 = .ok (.iastore, 1) := by decide +kernel
theorem dX7_addUnit_135 : decode cX7_addUnit 135 = .ok (.aload_n 0, 1) := by decide +kernel
theorem dX7_addUnit_136 : decode cX7_addUnit 136 = .ok (.getfield 28, 3) := by decide +kernel
theorem dX7_addUnit_139 : decode cX7_addUnit 139 = .ok (.aload_n 0, 1) := by decide +kernel
theorem dX7_addUnit_140 : decode cX7_addUnit 140 = .ok (.getfield 65, 3) := by decide +kernel
theorem dX7_addUnit_143 : decode cX7_addUnit 143 = .ok (.iload_n 2, 1) := by decide +kernel
theorem dX7_addUnit_144 : decode cX7_addUnit 144 = .ok (.castore, 1) := by decide +kernel
theorem dX7_addUnit_145 : decode cX7_addUnit 145 = .ok (.aload_n 0, 1) := by decide +kernel
theorem dX7_addUnit_146 : decode cX7_addUnit 146 = .ok (.getfield 13, 3) := by decide +kernel
theorem dX7_addUnit_149 : decode cX7_addUnit 149 = .ok (.aload_n 0, 1) := by decide +kernel
theorem dX7_addUnit_150 : decode cX7_addUnit 150 = .ok (.getfield 65, 3) := by decide +kernel
theorem dX7_addUnit_153 : decode cX7_addUnit 153 = .ok (.iload_n 3, 1) := by decide +kernel
theorem dX7_addUnit_154 : decode cX7_addUnit 154 = .ok (.iastore, 1) := by decide +kernel
theorem dX7_addUnit_155 : decode cX7_addUnit 155 = .ok (.aload_n 0, 1) := by decide +kernel
theorem dX7_addUnit_156 : decode cX7_addUnit 156 = .ok (.dup, 1) := by decide +kernel
theorem dX7_addUnit_157 : decode cX7_addUnit 157 = .ok (.getfield 65, 3) := by decide +kernel
theorem dX7_addUnit_160 : decode cX7_addUnit 160 = .ok (.dup_x1, 1) := by decide +kernel
theorem dX7_addUnit_161 : decode cX7_addUnit 161 = .ok (.iconst 1, 1) := by decide +kernel
theorem dX7_addUnit_162 : decode cX7_addUnit 162 = .ok (.iadd, 1) := by decide +kernel
theorem dX7_addUnit_163 : decode cX7_addUnit 163 = .ok (.putfield 65, 3) := by decide +kernel
theorem dX7_addUnit_166 : decode cX7_addUnit 166 = .ok (.ireturn, 1) := by decide +kernel
theorem dX7_order_0 : decode cX7_order 0 = .ok (.aload_n 0, 1) := by decide +kernel
theorem dX7_order_1 : decode cX7_order 1 = .ok (.iload_n 1, 1) := by decide +kernel
theorem dX7_order_2 : decode cX7_order 2 = .ok (.invokevirtual 87, 3) := by decide +kernel
theorem dX7_order_5 : decode cX7_order 5 = .ok (.ifCond .ne 63, 3) := by decide +kernel
theorem dX7_order_8 : decode cX7_order 8 = .ok (.aload_n 0, 1) := by decide +kernel
theorem dX7_order_9 : decode cX7_order 9 = .ok (.iload_n 2, 1) := by decide +kernel
theorem dX7_order_10 : decode cX7_order 10 = .ok (.ifCond .lt 13, 3) := by decide +kernel
theorem dX7_order_13 : decode cX7_order 13 = .ok (.iload_n 2, 1) := by decide +kernel
theorem dX7_order_14 : decode cX7_order 14 = .ok (.bipush 8, 2) := by decide +kernel
theorem dX7_order_16 : decode cX7_order 16 = .ok (.if_icmp .ge 7, 3) := by decide +kernel
theorem dX7_order_19 : decode cX7_order 19 = .ok (.iconst 1, 1) := by decide +kernel
theorem dX7_order_20 : decode cX7_order 20 = .ok (.goto 4, 3) := by decide +kernel
theorem dX7_order_23 : decode cX7_order 23 = .ok (.iconst 0, 1) := by decide +kernel
theorem dX7_order_24 : decode cX7_order 24 = .ok (.iconst 2, 1) := by decide +kernel
theorem dX7_order_25 : decode cX7_order 25 = .ok (.invokevirtual 61, 3) := by decide +kernel
theorem dX7_order_28 : decode cX7_order 28 = .ok (.ifCond .ne 40, 3) := by decide +kernel
theorem dX7_order_31 : decode cX7_order 31 = .ok (.aload_n 0, 1) := by decide +kernel
theorem dX7_order_32 : decode cX7_order 32 = .ok (.aload_n 0, 1) := by decide +kernel
theorem dX7_order_33 : decode cX7_order 33 = .ok (.getfield 13, 3) := by decide +kernel
theorem dX7_order_36 : decode cX7_order 36 = .ok (.iload_n 1, 1) := by decide +kernel
theorem dX7_order_37 : decode cX7_order 37 = .ok (.iaload, 1) := by decide +kernel
theorem dX7_order_38 : decode cX7_order 38 = .ok (.iconst (-1), 1) := by decide +kernel
theorem dX7_order_39 : decode cX7_order 39 = .ok (.if_icmp .eq 21, 3) := by decide +kernel
theorem dX7_order_42 : decode cX7_order 42 = .ok (.aload_n 0, 1) := by decide +kernel
theorem dX7_order_43 : decode cX7_order 43 = .ok (.getfield 19, 3) := by decide +kernel
theorem dX7_order_46 : decode cX7_order 46 = .ok (.iload_n 1, 1) := by decide +kernel
theorem dX7_order_47 : decode cX7_order 47 = .ok (.iaload, 1) := by decide +kernel
theorem dX7_order_48 : decode cX7_order 48 = .ok (.aload_n 0, 1) := by decide +kernel
theorem dX7_order_49 : decode cX7_order 49 = .ok (.iload_n 1, 1) := by decide +kernel
theorem dX7_order_50 : decode cX7_order 50 = .ok (.invokevirtual 90, 3) := by decide +kernel
theorem dX7_order_53 : decode cX7_order 53 = .ok (.if_icmp .ge 7, 3) := by decide +kernel
theorem dX7_order_56 : decode cX7_order 56 = .ok (.iconst 1, 1) := by decide +kernel
theorem dX7_order_57 : decode cX7_order 57 = .ok (.goto 4, 3) := by decide +kernel
theorem dX7_order_60 : decode cX7_order 60 = .ok (.iconst 0, 1) := by decide +kernel
theorem dX7_order_61 : decode cX7_order 61 = .ok (.iconst 3, 1) := by decide +kernel
theorem dX7_order_62 : decode cX7_order 62 = .ok (.invokevirtual 61, 3) := by decide +kernel
theorem dX7_order_65 : decode cX7_order 65 = .ok (.ifCond .eq 5, 3) := by decide +kernel
theorem dX7_order_68 : decode cX7_order 68 = .ok (.iconst 0, 1) := by decide +kernel
theorem dX7_order_69 : decode cX7_order 69 = .ok (.ireturn, 1) := by decide +kernel
theorem dX7_order_70 : decode cX7_order 70 = .ok (.aload_n 0, 1) := by decide +kernel
theorem dX7_order_71 : decode cX7_order 71 = .ok (.getfield 19, 3) := by decide +kernel
theorem dX7_order_74 : decode cX7_order 74 = .ok (.iload_n 1, 1) := by decide +kernel
theorem dX7_order_75 : decode cX7_order 75 = .ok (.iaload, 1) := by decide +kernel
theorem dX7_order_76 : decode cX7_order 76 = .ok (.ifCond .ne 13, 3) := by decide +kernel
theorem dX7_order_79 : decode cX7_order 79 = .ok (.aload_n 0, 1) := by decide +kernel
theorem dX7_order_80 : decode cX7_order 80 = .ok (.getfield 22, 3) := by decide +kernel
theorem dX7_order_83 : decode cX7_order 83 = .ok (.iload_n 1, 1) := by decide +kernel
theorem dX7_order_84 : decode cX7_order 84 = .ok (.iload_n 2, 1) := by decide +kernel
theorem dX7_order_85 : decode cX7_order 85 = .ok (.iastore, 1) := by decide +kernel
theorem dX7_order_86 : decode cX7_order 86 = .ok (.goto 10, 3) := by decide +kernel
theorem dX7_order_89 : decode cX7_order 89 = .ok (.aload_n 0, 1) := by decide +kernel
theorem dX7_order_90 : decode cX7_order 90 = .ok (.getfield 25, 3) := by decide +kernel
theorem dX7_order_93 : decode cX7_order 93 = .ok (.iload_n 1, 1) := by decide +kernel
theorem dX7_order_94 : decode cX7_order 94 = .ok (.iload_n 2, 1) := by decide +kernel
theorem dX7_order_95 : decode cX7_order 95 = .ok (.iastore, 1) := by decide +kernel
theorem dX7_order_96 : decode cX7_order 96 = .ok (.aload_n 0, 1) := by decide +kernel
theorem dX7_order_97 : decode cX7_order 97 = .ok (.getfield 19, 3) := by decide +kernel
theorem dX7_order_100 : decode cX7_order 100 = .ok (.iload_n 1, 1) := by decide +kernel
theorem dX7_order_101 : decode cX7_order 101 = .ok (.dup2, 1) := by decide +kernel
theorem dX7_order_102 : decode cX7_order 102 = .ok (.iaload, 1) := by decide +kernel
theorem dX7_order_103 : decode cX7_order 103 = .ok (.iconst 1, 1) := by decide +kernel
theorem dX7_order_104 : decode cX7_order 104 = .ok (.iadd, 1) := by decide +kernel
theorem dX7_order_105 : decode cX7_order 105 = .ok (.dup_x2, 1) := by decide +kernel
theorem dX7_order_106 : decode cX7_order 106 = .ok (.iastore, 1) := by decide +kernel
theorem dX7_order_107 : decode cX7_order 107 = .ok (.ireturn, 1) := by decide +kernel
theorem dX7_moved_0 : decode cX7_moved 0 = .ok (.iload_n 1, 1) := by decide +kernel
theorem dX7_moved_1 : decode cX7_moved 1 = .ok (.ifCond .eq 8, 3) := by decide +kernel
theorem dX7_moved_4 : decode cX7_moved 4 = .ok (.iload_n 1, 1) := by decide +kernel
theorem dX7_moved_5 : decode cX7_moved 5 = .ok (.iconst 4, 1) := by decide +kernel
theorem dX7_moved_6 : decode cX7_moved 6 = .ok (.if_icmp .ne 7, 3) := by decide +kernel
theorem dX7_moved_9 : decode cX7_moved 9 = .ok (.iconst 0, 1) := by decide +kernel
theorem dX7_moved_10 : decode cX7_moved 10 = .ok (.goto 13, 3) := by decide +kernel
theorem dX7_moved_13 : decode cX7_moved 13 = .ok (.iload_n 1, 1) := by decide +kernel
theorem dX7_moved_14 : decode cX7_moved 14 = .ok (.iconst 4, 1) := by decide +kernel
theorem dX7_moved_15 : decode cX7_moved 15 = .ok (.if_icmp .ge 7, 3) := by decide +kernel
theorem dX7_moved_18 : decode cX7_moved 18 = .ok (.iconst 1, 1) := by decide +kernel
theorem dX7_moved_19 : decode cX7_moved 19 = .ok (.goto 4, 3) := by decide +kernel
theorem dX7_moved_22 : decode cX7_moved 22 = .ok (.iconst (-1), 1) := by decide +kernel
theorem dX7_moved_23 : decode cX7_moved 23 = .ok (.istore_n 2, 1) := by decide +kernel
theorem dX7_moved_24 : decode cX7_moved 24 = .ok (.iload_n 1, 1) := by decide +kernel
theorem dX7_moved_25 : decode cX7_moved 25 = .ok (.iconst 2, 1) := by decide +kernel
theorem dX7_moved_26 : decode cX7_moved 26 = .ok (.if_icmp .eq 9, 3) := by decide +kernel
theorem dX7_moved_29 : decode cX7_moved 29 = .ok (.iload_n 1, 1) := by decide +kernel
theorem dX7_moved_30 : decode cX7_moved 30 = .ok (.bipush 6, 2) := by decide +kernel
theorem dX7_moved_32 : decode cX7_moved 32 = .ok (.if_icmp .ne 7, 3) := by decide +kernel
theorem dX7_moved_35 : decode cX7_moved 35 = .ok (.iconst 0, 1) := by decide +kernel
theorem dX7_moved_36 : decode cX7_moved 36 = .ok (.goto 19, 3) := by decide +kernel
theorem dX7_moved_39 : decode cX7_moved 39 = .ok (.iload_n 1, 1) := by decide +kernel
theorem dX7_moved_40 : decode cX7_moved 40 = .ok (.iconst 2, 1) := by decide +kernel
theorem dX7_moved_41 : decode cX7_moved 41 = .ok (.if_icmp .le 13, 3) := by decide +kernel
theorem dX7_moved_44 : decode cX7_moved 44 = .ok (.iload_n 1, 1) := by decide +kernel
theorem dX7_moved_45 : decode cX7_moved 45 = .ok (.bipush 6, 2) := by decide +kernel
theorem dX7_moved_47 : decode cX7_moved 47 = .ok (.if_icmp .ge 7, 3) := by decide +kernel
theorem dX7_moved_50 : decode cX7_moved 50 = .ok (.iconst 1, 1) := by decide +kernel
theorem dX7_moved_51 : decode cX7_moved 51 = .ok (.goto 4, 3) := by decide +kernel
theorem dX7_moved_54 : decode cX7_moved 54 = .ok (.iconst (-1), 1) := by decide +kernel
theorem dX7_moved_55 : decode cX7_moved 55 = .ok (.istore_n 3, 1) := by decide +kernel
theorem dX7_moved_56 : decode cX7_moved 56 = .ok (.iload_n 0, 1) := by decide +kernel
theorem dX7_moved_57 : decode cX7_moved 57 = .ok (.bipush 8, 2) := by decide +kernel
theorem dX7_moved_59 : decode cX7_moved 59 = .ok (.irem, 1) := by decide +kernel
theorem dX7_moved_60 : decode cX7_moved 60 = .ok (.iload_n 2, 1) := by decide +kernel
theorem dX7_moved_61 : decode cX7_moved 61 = .ok (.iadd, 1) := by decide +kernel
theorem dX7_moved_62 : decode cX7_moved 62 = .ok (.istore 4, 2) := by decide +kernel
theorem dX7_moved_64 : decode cX7_moved 64 = .ok (.iload_n 0, 1) := by decide +kernel
theorem dX7_moved_65 : decode cX7_moved 65 = .ok (.bipush 8, 2) := by decide +kernel
theorem dX7_moved_67 : decode cX7_moved 67 = .ok (.idiv, 1) := by decide +kernel
theorem dX7_moved_68 : decode cX7_moved 68 = .ok (.iload_n 3, 1) := by decide +kernel
theorem dX7_moved_69 : decode cX7_moved 69 = .ok (.iadd, 1) := by decide +kernel
theorem dX7_moved_70 : decode cX7_moved 70 = .ok (.istore 5, 2) := by decide +kernel
theorem dX7_moved_72 : decode cX7_moved 72 = .ok (.iload 4, 2) := by decide +kernel
theorem dX7_moved_74 : decode cX7_moved 74 = .ok (.ifCond .lt 22, 3) := by decide +kernel
theorem dX7_moved_77 : decode cX7_moved 77 = .ok (.iload 4, 2) := by decide +kernel
theorem dX7_moved_79 : decode cX7_moved 79 = .ok (.bipush 7, 2) := by decide +kernel
theorem dX7_moved_81 : decode cX7_moved 81 = .ok (.if_icmp .gt 15, 3) := by decide +kernel
theorem dX7_moved_84 : decode cX7_moved 84 = .ok (.iload 5, 2) := by decide +kernel
theorem dX7_moved_86 : decode cX7_moved 86 = .ok (.ifCond .lt 10, 3) := by decide +kernel
theorem dX7_moved_89 : decode cX7_moved 89 = .ok (.iload 5, 2) := by decide +kernel
theorem dX7_moved_91 : decode cX7_moved 91 = .ok (.bipush 7, 2) := by decide +kernel
theorem dX7_moved_93 : decode cX7_moved 93 = .ok (.if_icmp .le 7, 3) := by decide +kernel
theorem dX7_moved_96 : decode cX7_moved 96 = .ok (.iconst (-1), 1) := by decide +kernel
theorem dX7_moved_97 : decode cX7_moved 97 = .ok (.goto 11, 3) := by decide +kernel
theorem dX7_moved_100 : decode cX7_moved 100 = .ok (.bipush 8, 2) := by decide +kernel
theorem dX7_moved_102 : decode cX7_moved 102 = .ok (.iload 5, 2) := by decide +kernel
theorem dX7_moved_104 : decode cX7_moved 104 = .ok (.imul, 1) := by decide +kernel
theorem dX7_moved_105 : decode cX7_moved 105 = .ok (.iload 4, 2) := by decide +kernel
theorem dX7_moved_107 : decode cX7_moved 107 = .ok (.iadd, 1) := by decide +kernel
theorem dX7_moved_108 : decode cX7_moved 108 = .ok (.ireturn, 1) := by decide +kernel
theorem dX7_lose_0 : decode cX7_lose 0 = .ok (.aload_n 0, 1) := by decide +kernel
theorem dX7_lose_1 : decode cX7_lose 1 = .ok (.getfield 13, 3) := by decide +kernel
theorem dX7_lose_4 : decode cX7_lose 4 = .ok (.iload_n 1, 1) := by decide +kernel
theorem dX7_lose_5 : decode cX7_lose 5 = .ok (.iconst (-1), 1) := by decide +kernel
theorem dX7_lose_6 : decode cX7_lose 6 = .ok (.iastore, 1) := by decide +kernel
theorem dX7_lose_7 : decode cX7_lose 7 = .ok (.aload_n 0, 1) := by decide +kernel
theorem dX7_lose_8 : decode cX7_lose 8 = .ok (.getfield 16, 3) := by decide +kernel
theorem dX7_lose_11 : decode cX7_lose 11 = .ok (.iload_n 1, 1) := by decide +kernel
theorem dX7_lose_12 : decode cX7_lose 12 = .ok (.iconst (-1), 1) := by decide +kernel
theorem dX7_lose_13 : decode cX7_lose 13 = .ok (.iastore, 1) := by decide +kernel
theorem dX7_lose_14 : decode cX7_lose 14 = .ok (.return_, 1) := by decide +kernel
theorem dX7_step_0 : decode cX7_step 0 = .ok (.iconst 0, 1) := by decide +kernel
theorem dX7_step_1 : decode cX7_step 1 = .ok (.istore_n 2, 1) := by decide +kernel
theorem dX7_step_2 : decode cX7_step 2 = .ok (.iload_n 2, 1) := by decide +kernel
theorem dX7_step_3 : decode cX7_step 3 = .ok (.aload_n 0, 1) := by decide +kernel
theorem dX7_step_4 : decode cX7_step 4 = .ok (.getfield 65, 3) := by decide +kernel
theorem dX7_step_7 : decode cX7_step 7 = .ok (.if_icmp .ge 93, 3) := by decide +kernel
theorem dX7_step_10 : decode cX7_step 10 = .ok (.aload_n 0, 1) := by decide +kernel
theorem dX7_step_11 : decode cX7_step 11 = .ok (.getfield 13, 3) := by decide +kernel
theorem dX7_step_14 : decode cX7_step 14 = .ok (.iload_n 2, 1) := by decide +kernel
theorem dX7_step_15 : decode cX7_step 15 = .ok (.iaload, 1) := by decide +kernel
theorem dX7_step_16 : decode cX7_step 16 = .ok (.iconst (-1), 1) := by decide +kernel
theorem dX7_step_17 : decode cX7_step 17 = .ok (.if_icmp .eq 13, 3) := by decide +kernel
theorem dX7_step_20 : decode cX7_step 20 = .ok (.aload_n 0, 1) := by decide +kernel
theorem dX7_step_21 : decode cX7_step 21 = .ok (.getfield 19, 3) := by decide +kernel
theorem dX7_step_24 : decode cX7_step 24 = .ok (.iload_n 2, 1) := by decide +kernel
theorem dX7_step_25 : decode cX7_step 25 = .ok (.iaload, 1) := by decide +kernel
theorem dX7_step_26 : decode cX7_step 26 = .ok (.iload_n 1, 1) := by decide +kernel
theorem dX7_step_27 : decode cX7_step 27 = .ok (.if_icmp .gt 7, 3) := by decide +kernel
theorem dX7_step_30 : decode cX7_step 30 = .ok (.iconst (-1), 1) := by decide +kernel
theorem dX7_step_31 : decode cX7_step 31 = .ok (.goto 31, 3) := by decide +kernel
theorem dX7_step_34 : decode cX7_step 34 = .ok (.aload_n 0, 1) := by decide +kernel
theorem dX7_step_35 : decode cX7_step 35 = .ok (.getfield 13, 3) := by decide +kernel
theorem dX7_step_38 : decode cX7_step 38 = .ok (.iload_n 2, 1) := by decide +kernel
theorem dX7_step_39 : decode cX7_step 39 = .ok (.iaload, 1) := by decide +kernel
theorem dX7_step_40 : decode cX7_step 40 = .ok (.iload_n 1, 1) := by decide +kernel
theorem dX7_step_41 : decode cX7_step 41 = .ok (.ifCond .ne 12, 3) := by decide +kernel
theorem dX7_step_44 : decode cX7_step 44 = .ok (.aload_n 0, 1) := by decide +kernel
theorem dX7_step_45 : decode cX7_step 45 = .ok (.getfield 22, 3) := by decide +kernel
theorem dX7_step_48 : decode cX7_step 48 = .ok (.iload_n 2, 1) := by decide +kernel
theorem dX7_step_49 : decode cX7_step 49 = .ok (.iaload, 1) := by decide +kernel
theorem dX7_step_50 : decode cX7_step 50 = .ok (.goto 9, 3) := by decide +kernel
theorem dX7_step_53 : decode cX7_step 53 = .ok (.aload_n 0, 1) := by decide +kernel
theorem dX7_step_54 : decode cX7_step 54 = .ok (.getfield 25, 3) := by decide +kernel
theorem dX7_step_57 : decode cX7_step 57 = .ok (.iload_n 2, 1) := by decide +kernel
theorem dX7_step_58 : decode cX7_step 58 = .ok (.iaload, 1) := by decide +kernel
theorem dX7_step_59 : decode cX7_step 59 = .ok (.invokestatic 93, 3) := by decide +kernel
theorem dX7_step_62 : decode cX7_step 62 = .ok (.istore_n 3, 1) := by decide +kernel
theorem dX7_step_63 : decode cX7_step 63 = .ok (.aload_n 0, 1) := by decide +kernel
theorem dX7_step_64 : decode cX7_step 64 = .ok (.getfield 16, 3) := by decide +kernel
theorem dX7_step_67 : decode cX7_step 67 = .ok (.iload_n 2, 1) := by decide +kernel
theorem dX7_step_68 : decode cX7_step 68 = .ok (.iload_n 3, 1) := by decide +kernel
theorem dX7_step_69 : decode cX7_step 69 = .ok (.iconst (-1), 1) := by decide +kernel
theorem dX7_step_70 : decode cX7_step 70 = .ok (.if_icmp .eq 13, 3) := by decide +kernel
theorem dX7_step_73 : decode cX7_step 73 = .ok (.aload_n 0, 1) := by decide +kernel
theorem dX7_step_74 : decode cX7_step 74 = .ok (.iload_n 3, 1) := by decide +kernel
theorem dX7_step_75 : decode cX7_step 75 = .ok (.invokevirtual 76, 3) := by decide +kernel
theorem dX7_step_78 : decode cX7_step 78 = .ok (.bipush 120, 2) := by decide +kernel
theorem dX7_step_80 : decode cX7_step 80 = .ok (.if_icmp .ne 12, 3) := by decide +kernel
theorem dX7_step_83 : decode cX7_step 83 = .ok (.aload_n 0, 1) := by decide +kernel
theorem dX7_step_84 : decode cX7_step 84 = .ok (.getfield 13, 3) := by decide +kernel
theorem dX7_step_87 : decode cX7_step 87 = .ok (.iload_n 2, 1) := by decide +kernel
theorem dX7_step_88 : decode cX7_step 88 = .ok (.iaload, 1) := by decide +kernel
theorem dX7_step_89 : decode cX7_step 89 = .ok (.goto 4, 3) := by decide +kernel
theorem dX7_step_92 : decode cX7_step 92 = .ok (.iload_n 3, 1) := by decide +kernel
theorem dX7_step_93 : decode cX7_step 93 = .ok (.iastore, 1) := by decide +kernel
theorem dX7_step_94 : decode cX7_step 94 = .ok (.iinc 2 1, 3) := by decide +kernel
theorem dX7_step_97 : decode cX7_step 97 = .ok (.goto (-95), 3) := by decide +kernel
theorem dX7_step_100 : decode cX7_step 100 = .ok (.iconst 0, 1) := by decide +kernel
theorem dX7_step_101 : decode cX7_step 101 = .ok (.istore_n 2, 1) := by decide +kernel
theorem dX7_step_102 : decode cX7_step 102 = .ok (.iload_n 2, 1) := by decide +kernel
theorem dX7_step_103 : decode cX7_step 103 = .ok (.aload_n 0, 1) := by decide +kernel
theorem dX7_step_104 : decode cX7_step 104 = .ok (.getfield 65, 3) := by decide +kernel
theorem dX7_step_107 : decode cX7_step 107 = .ok (.if_icmp .ge 33, 3) := by decide +kernel
theorem dX7_step_110 : decode cX7_step 110 = .ok (.iload_n 2, 1) := by decide +kernel
theorem dX7_step_111 : decode cX7_step 111 = .ok (.iconst 1, 1) := by decide +kernel
theorem dX7_step_112 : decode cX7_step 112 = .ok (.iadd, 1) := by decide +kernel
theorem dX7_step_113 : decode cX7_step 113 = .ok (.istore_n 3, 1) := by decide +kernel
theorem dX7_step_114 : decode cX7_step 114 = .ok (.iload_n 3, 1) := by decide +kernel
theorem dX7_step_115 : decode cX7_step 115 = .ok (.aload_n 0, 1) := by decide +kernel
theorem dX7_step_116 : decode cX7_step 116 = .ok (.getfield 65, 3) := by decide +kernel
theorem dX7_step_119 : decode cX7_step 119 = .ok (.if_icmp .ge 15, 3) := by decide +kernel
theorem dX7_step_122 : decode cX7_step 122 = .ok (.aload_n 0, 1) := by decide +kernel
theorem dX7_step_123 : decode cX7_step 123 = .ok (.iload_n 2, 1) := by decide +kernel
theorem dX7_step_124 : decode cX7_step 124 = .ok (.iload_n 3, 1) := by decide +kernel
theorem dX7_step_125 : decode cX7_step 125 = .ok (.invokevirtual 97, 3) := by decide +kernel
theorem dX7_step_128 : decode cX7_step 128 = .ok (.iinc 3 1, 3) := by decide +kernel
theorem dX7_step_131 : decode cX7_step 131 = .ok (.goto (-17), 3) := by decide +kernel
theorem dX7_step_134 : decode cX7_step 134 = .ok (.iinc 2 1, 3) := by decide +kernel
theorem dX7_step_137 : decode cX7_step 137 = .ok (.goto (-35), 3) := by decide +kernel
theorem dX7_step_140 : decode cX7_step 140 = .ok (.aload_n 0, 1) := by decide +kernel
theorem dX7_step_141 : decode cX7_step 141 = .ok (.invokevirtual 101, 3) := by decide +kernel
theorem dX7_step_144 : decode cX7_step 144 = .ok (.istore_n 2, 1) := by decide +kernel
theorem dX7_step_145 : decode cX7_step 145 = .ok (.iload_n 2, 1) := by decide +kernel
theorem dX7_step_146 : decode cX7_step 146 = .ok (.iconst (-1), 1) := by decide +kernel
theorem dX7_step_147 : decode cX7_step 147 = .ok (.if_icmp .eq 16, 3) := by decide +kernel
theorem dX7_step_150 : decode cX7_step 150 = .ok (.aload_n 0, 1) := by decide +kernel
theorem dX7_step_151 : decode cX7_step 151 = .ok (.iload_n 2, 1) := by decide +kernel
theorem dX7_step_152 : decode cX7_step 152 = .ok (.invokevirtual 105, 3) := by decide +kernel
theorem dX7_step_155 : decode cX7_step 155 = .ok (.aload_n 0, 1) := by decide +kernel
theorem dX7_step_156 : decode cX7_step 156 = .ok (.invokevirtual 101, 3) := by decide +kernel
theorem dX7_step_159 : decode cX7_step 159 = .ok (.istore_n 2, 1) := by decide +kernel
theorem dX7_step_160 : decode cX7_step 160 = .ok (.goto (-15), 3) := by decide +kernel
theorem dX7_step_163 : decode cX7_step 163 = .ok (.iconst 0, 1) := by decide +kernel
theorem dX7_step_164 : decode cX7_step 164 = .ok (.istore_n 3, 1) := by decide +kernel
theorem dX7_step_165 : decode cX7_step 165 = .ok (.iload_n 3, 1) := by decide +kernel
theorem dX7_step_166 : decode cX7_step 166 = .ok (.aload_n 0, 1) := by decide +kernel
theorem dX7_step_167 : decode cX7_step 167 = .ok (.getfield 65, 3) := by decide +kernel
theorem dX7_step_170 : decode cX7_step 170 = .ok (.if_icmp .ge 21, 3) := by decide +kernel
theorem dX7_step_173 : decode cX7_step 173 = .ok (.aload_n 0, 1) := by decide +kernel
theorem dX7_step_174 : decode cX7_step 174 = .ok (.getfield 13, 3) := by decide +kernel
theorem dX7_step_177 : decode cX7_step 177 = .ok (.iload_n 3, 1) := by decide +kernel
theorem dX7_step_178 : decode cX7_step 178 = .ok (.aload_n 0, 1) := by decide +kernel
theorem dX7_step_179 : decode cX7_step 179 = .ok (.getfield 16, 3) := by decide +kernel
theorem dX7_step_182 : decode cX7_step 182 = .ok (.iload_n 3, 1) := by decide +kernel
theorem dX7_step_183 : decode cX7_step 183 = .ok (.iaload, 1) := by decide +kernel
theorem dX7_step_184 : decode cX7_step 184 = .ok (.iastore, 1) := by decide +kernel
theorem dX7_step_185 : decode cX7_step 185 = .ok (.iinc 3 1, 3) := by decide +kernel
theorem dX7_step_188 : decode cX7_step 188 = .ok (.goto (-23), 3) := by decide +kernel
theorem dX7_step_191 : decode cX7_step 191 = .ok (.return_, 1) := by decide +kernel
theorem dX7_meets_0 : decode cX7_meets 0 = .ok (.aload_n 0, 1) := by decide +kernel
theorem dX7_meets_1 : decode cX7_meets 1 = .ok (.getfield 13, 3) := by decide +kernel
theorem dX7_meets_4 : decode cX7_meets 4 = .ok (.iload_n 1, 1) := by decide +kernel
theorem dX7_meets_5 : decode cX7_meets 5 = .ok (.iaload, 1) := by decide +kernel
theorem dX7_meets_6 : decode cX7_meets 6 = .ok (.iconst (-1), 1) := by decide +kernel
theorem dX7_meets_7 : decode cX7_meets 7 = .ok (.if_icmp .eq 62, 3) := by decide +kernel
theorem dX7_meets_10 : decode cX7_meets 10 = .ok (.aload_n 0, 1) := by decide +kernel
theorem dX7_meets_11 : decode cX7_meets 11 = .ok (.getfield 13, 3) := by decide +kernel
theorem dX7_meets_14 : decode cX7_meets 14 = .ok (.iload_n 2, 1) := by decide +kernel
theorem dX7_meets_15 : decode cX7_meets 15 = .ok (.iaload, 1) := by decide +kernel
theorem dX7_meets_16 : decode cX7_meets 16 = .ok (.iconst (-1), 1) := by decide +kernel
theorem dX7_meets_17 : decode cX7_meets 17 = .ok (.if_icmp .eq 52, 3) := by decide +kernel
theorem dX7_meets_20 : decode cX7_meets 20 = .ok (.aload_n 0, 1) := by decide +kernel
theorem dX7_meets_21 : decode cX7_meets 21 = .ok (.getfield 13, 3) := by decide +kernel
theorem dX7_meets_24 : decode cX7_meets 24 = .ok (.iload_n 1, 1) := by decide +kernel
theorem dX7_meets_25 : decode cX7_meets 25 = .ok (.iaload, 1) := by decide +kernel
theorem dX7_meets_26 : decode cX7_meets 26 = .ok (.aload_n 0, 1) := by decide +kernel
theorem dX7_meets_27 : decode cX7_meets 27 = .ok (.getfield 13, 3) := by decide +kernel
theorem dX7_meets_30 : decode cX7_meets 30 = .ok (.iload_n 2, 1) := by decide +kernel
theorem dX7_meets_31 : decode cX7_meets 31 = .ok (.iaload, 1) := by decide +kernel
theorem dX7_meets_32 : decode cX7_meets 32 = .ok (.if_icmp .eq 37, 3) := by decide +kernel
theorem dX7_meets_35 : decode cX7_meets 35 = .ok (.aload_n 0, 1) := by decide +kernel
theorem dX7_meets_36 : decode cX7_meets 36 = .ok (.getfield 16, 3) := by decide +kernel
theorem dX7_meets_39 : decode cX7_meets 39 = .ok (.iload_n 1, 1) := by decide +kernel
theorem dX7_meets_40 : decode cX7_meets 40 = .ok (.iaload, 1) := by decide +kernel
theorem dX7_meets_41 : decode cX7_meets 41 = .ok (.aload_n 0, 1) := by decide +kernel
theorem dX7_meets_42 : decode cX7_meets 42 = .ok (.getfield 13, 3) := by decide +kernel
theorem dX7_meets_45 : decode cX7_meets 45 = .ok (.iload_n 2, 1) := by decide +kernel
theorem dX7_meets_46 : decode cX7_meets 46 = .ok (.iaload, 1) := by decide +kernel
theorem dX7_meets_47 : decode cX7_meets 47 = .ok (.if_icmp .ne 22, 3) := by decide +kernel
theorem dX7_meets_50 : decode cX7_meets 50 = .ok (.aload_n 0, 1) := by decide +kernel
theorem dX7_meets_51 : decode cX7_meets 51 = .ok (.getfield 16, 3) := by decide +kernel
theorem dX7_meets_54 : decode cX7_meets 54 = .ok (.iload_n 2, 1) := by decide +kernel
theorem dX7_meets_55 : decode cX7_meets 55 = .ok (.iaload, 1) := by decide +kernel
theorem dX7_meets_56 : decode cX7_meets 56 = .ok (.aload_n 0, 1) := by decide +kernel
theorem dX7_meets_57 : decode cX7_meets 57 = .ok (.getfield 13, 3) := by decide +kernel
theorem dX7_meets_60 : decode cX7_meets 60 = .ok (.iload_n 1, 1) := by decide +kernel
theorem dX7_meets_61 : decode cX7_meets 61 = .ok (.iaload, 1) := by decide +kernel
theorem dX7_meets_62 : decode cX7_meets 62 = .ok (.if_icmp .ne 7, 3) := by decide +kernel
theorem dX7_meets_65 : decode cX7_meets 65 = .ok (.iconst 1, 1) := by decide +kernel
theorem dX7_meets_66 : decode cX7_meets 66 = .ok (.goto 4, 3) := by decide +kernel
theorem dX7_meets_69 : decode cX7_meets 69 = .ok (.iconst 0, 1) := by decide +kernel
theorem dX7_meets_70 : decode cX7_meets 70 = .ok (.istore_n 3, 1) := by decide +kernel
theorem dX7_meets_71 : decode cX7_meets 71 = .ok (.iload_n 3, 1) := by decide +kernel
theorem dX7_meets_72 : decode cX7_meets 72 = .ok (.ifCond .eq 18, 3) := by decide +kernel
theorem dX7_meets_75 : decode cX7_meets 75 = .ok (.aload_n 0, 1) := by decide +kernel
theorem dX7_meets_76 : decode cX7_meets 76 = .ok (.getfield 7, 3) := by decide +kernel
theorem dX7_meets_79 : decode cX7_meets 79 = .ok (.iload_n 1, 1) := by decide +kernel
theorem dX7_meets_80 : decode cX7_meets 80 = .ok (.iaload, 1) := by decide +kernel
theorem dX7_meets_81 : decode cX7_meets 81 = .ok (.aload_n 0, 1) := by decide +kernel
theorem dX7_meets_82 : decode cX7_meets 82 = .ok (.getfield 7, 3) := by decide +kernel
theorem dX7_meets_85 : decode cX7_meets 85 = .ok (.iload_n 2, 1) := by decide +kernel
theorem dX7_meets_86 : decode cX7_meets 86 = .ok (.iaload, 1) := by decide +kernel
theorem dX7_meets_87 : decode cX7_meets 87 = .ok (.if_icmp .ne 4, 3) := by decide +kernel
theorem dX7_meets_90 : decode cX7_meets 90 = .ok (.return_, 1) := by decide +kernel
theorem dX7_meets_91 : decode cX7_meets 91 = .ok (.aload_n 0, 1) := by decide +kernel
theorem dX7_meets_92 : decode cX7_meets 92 = .ok (.iload_n 1, 1) := by decide +kernel
theorem dX7_meets_93 : decode cX7_meets 93 = .ok (.invokevirtual 109, 3) := by decide +kernel
theorem dX7_meets_96 : decode cX7_meets 96 = .ok (.aload_n 0, 1) := by decide +kernel
theorem dX7_meets_97 : decode cX7_meets 97 = .ok (.iload_n 2, 1) := by decide +kernel
theorem dX7_meets_98 : decode cX7_meets 98 = .ok (.invokevirtual 109, 3) := by decide +kernel
theorem dX7_meets_101 : decode cX7_meets 101 = .ok (.if_icmp .ne 30, 3) := by decide +kernel
theorem dX7_meets_104 : decode cX7_meets 104 = .ok (.aload_n 0, 1) := by decide +kernel
theorem dX7_meets_105 : decode cX7_meets 105 = .ok (.getfield 16, 3) := by decide +kernel
theorem dX7_meets_108 : decode cX7_meets 108 = .ok (.iload_n 1, 1) := by decide +kernel
theorem dX7_meets_109 : decode cX7_meets 109 = .ok (.aload_n 0, 1) := by decide +kernel
theorem dX7_meets_110 : decode cX7_meets 110 = .ok (.getfield 13, 3) := by decide +kernel
theorem dX7_meets_113 : decode cX7_meets 113 = .ok (.iload_n 1, 1) := by decide +kernel
theorem dX7_meets_114 : decode cX7_meets 114 = .ok (.iaload, 1) := by decide +kernel
theorem dX7_meets_115 : decode cX7_meets 115 = .ok (.iastore, 1) := by decide +kernel
theorem dX7_meets_116 : decode cX7_meets 116 = .ok (.aload_n 0, 1) := by decide +kernel
theorem dX7_meets_117 : decode cX7_meets 117 = .ok (.getfield 16, 3) := by decide +kernel
theorem dX7_meets_120 : decode cX7_meets 120 = .ok (.iload_n 2, 1) := by decide +kernel
theorem dX7_meets_121 : decode cX7_meets 121 = .ok (.aload_n 0, 1) := by decide +kernel
theorem dX7_meets_122 : decode cX7_meets 122 = .ok (.getfield 13, 3) := by decide +kernel
theorem dX7_meets_125 : decode cX7_meets 125 = .ok (.iload_n 2, 1) := by decide +kernel
theorem dX7_meets_126 : decode cX7_meets 126 = .ok (.iaload, 1) := by decide +kernel
theorem dX7_meets_127 : decode cX7_meets 127 = .ok (.iastore, 1) := by decide +kernel
theorem dX7_meets_128 : decode cX7_meets 128 = .ok (.goto 25, 3) := by decide +kernel
theorem dX7_meets_131 : decode cX7_meets 131 = .ok (.aload_n 0, 1) := by decide +kernel
theorem dX7_meets_132 : decode cX7_meets 132 = .ok (.aload_n 0, 1) := by decide +kernel
theorem dX7_meets_133 : decode cX7_meets 133 = .ok (.iload_n 1, 1) := by decide +kernel
theorem dX7_meets_134 : decode cX7_meets 134 = .ok (.invokevirtual 109, 3) := by decide +kernel
theorem dX7_meets_137 : decode cX7_meets 137 = .ok (.aload_n 0, 1) := by decide +kernel
theorem dX7_meets_138 : decode cX7_meets 138 = .ok (.iload_n 2, 1) := by decide +kernel
theorem dX7_meets_139 : decode cX7_meets 139 = .ok (.invokevirtual 109, 3) := by decide +kernel
theorem dX7_meets_142 : decode cX7_meets 142 = .ok (.if_icmp .ge 7, 3) := by decide +kernel
theorem dX7_meets_145 : decode cX7_meets 145 = .ok (.iload_n 1, 1) := by decide +kernel
theorem dX7_meets_146 : decode cX7_meets 146 = .ok (.goto 4, 3) := by decide +kernel
theorem dX7_meets_149 : decode cX7_meets 149 = .ok (.iload_n 2, 1) := by decide +kernel
theorem dX7_meets_150 : decode cX7_meets 150 = .ok (.invokevirtual 112, 3) := by decide +kernel
theorem dX7_meets_153 : decode cX7_meets 153 = .ok (.return_, 1) := by decide +kernel
theorem dX7_contested_0 : decode cX7_contested 0 = .ok (.iconst 0, 1) := by decide +kernel
theorem dX7_contested_1 : decode cX7_contested 1 = .ok (.istore_n 1, 1) := by decide +kernel
theorem dX7_contested_2 : decode cX7_contested 2 = .ok (.iload_n 1, 1) := by decide +kernel
theorem dX7_contested_3 : decode cX7_contested 3 = .ok (.bipush 64, 2) := by decide +kernel
theorem dX7_contested_5 : decode cX7_contested 5 = .ok (.if_icmp .ge 52, 3) := by decide +kernel
theorem dX7_contested_8 : decode cX7_contested 8 = .ok (.iconst 0, 1) := by decide +kernel
theorem dX7_contested_9 : decode cX7_contested 9 = .ok (.istore_n 2, 1) := by decide +kernel
theorem dX7_contested_10 : decode cX7_contested 10 = .ok (.iconst 0, 1) := by decide +kernel
theorem dX7_contested_11 : decode cX7_contested 11 = .ok (.istore_n 3, 1) := by decide +kernel
theorem dX7_contested_12 : decode cX7_contested 12 = .ok (.iload_n 3, 1) := by decide +kernel
theorem dX7_contested_13 : decode cX7_contested 13 = .ok (.aload_n 0, 1) := by decide +kernel
theorem dX7_contested_14 : decode cX7_contested 14 = .ok (.getfield 65, 3) := by decide +kernel
theorem dX7_contested_17 : decode cX7_contested 17 = .ok (.if_icmp .ge 27, 3) := by decide +kernel
theorem dX7_contested_20 : decode cX7_contested 20 = .ok (.iload_n 2, 1) := by decide +kernel
theorem dX7_contested_21 : decode cX7_contested 21 = .ok (.aload_n 0, 1) := by decide +kernel
theorem dX7_contested_22 : decode cX7_contested 22 = .ok (.getfield 16, 3) := by decide +kernel
theorem dX7_contested_25 : decode cX7_contested 25 = .ok (.iload_n 3, 1) := by decide +kernel
theorem dX7_contested_26 : decode cX7_contested 26 = .ok (.iaload, 1) := by decide +kernel
theorem dX7_contested_27 : decode cX7_contested 27 = .ok (.iload_n 1, 1) := by decide +kernel
theorem dX7_contested_28 : decode cX7_contested 28 = .ok (.if_icmp .ne 7, 3) := by decide +kernel
theorem dX7_contested_31 : decode cX7_contested 31 = .ok (.iconst 1, 1) := by decide +kernel
theorem dX7_contested_32 : decode cX7_contested 32 = .ok (.goto 4, 3) := by decide +kernel
theorem dX7_contested_35 : decode cX7_contested 35 = .ok (.iconst 0, 1) := by decide +kernel
theorem dX7_contested_36 : decode cX7_contested 36 = .ok (.iadd, 1) := by decide +kernel
theorem dX7_contested_37 : decode cX7_contested 37 = .ok (.istore_n 2, 1) := by decide +kernel
theorem dX7_contested_38 : decode cX7_contested 38 = .ok (.iinc 3 1, 3) := by decide +kernel
theorem dX7_contested_41 : decode cX7_contested 41 = .ok (.goto (-29), 3) := by decide +kernel
theorem dX7_contested_44 : decode cX7_contested 44 = .ok (.iload_n 2, 1) := by decide +kernel
theorem dX7_contested_45 : decode cX7_contested 45 = .ok (.iconst 1, 1) := by decide +kernel
theorem dX7_contested_46 : decode cX7_contested 46 = .ok (.if_icmp .le 5, 3) := by decide +kernel
theorem dX7_contested_49 : decode cX7_contested 49 = .ok (.iload_n 1, 1) := by decide +kernel
theorem dX7_contested_50 : decode cX7_contested 50 = .ok (.ireturn, 1) := by decide +kernel
theorem dX7_contested_51 : decode cX7_contested 51 = .ok (.iinc 1 1, 3) := by decide +kernel
theorem dX7_contested_54 : decode cX7_contested 54 = .ok (.goto (-52), 3) := by decide +kernel
theorem dX7_contested_57 : decode cX7_contested 57 = .ok (.iconst (-1), 1) := by decide +kernel
theorem dX7_contested_58 : decode cX7_contested 58 = .ok (.ireturn, 1) := by decide +kernel
theorem dX7_powerAt_0 : decode cX7_powerAt 0 = .ok (.iconst 0, 1) := by decide +kernel
theorem dX7_powerAt_1 : decode cX7_powerAt 1 = .ok (.istore_n 3, 1) := by decide +kernel
theorem dX7_powerAt_2 : decode cX7_powerAt 2 = .ok (.iconst 0, 1) := by decide +kernel
theorem dX7_powerAt_3 : decode cX7_powerAt 3 = .ok (.istore 4, 2) := by decide +kernel
theorem dX7_powerAt_5 : decode cX7_powerAt 5 = .ok (.iload 4, 2) := by decide +kernel
theorem dX7_powerAt_7 : decode cX7_powerAt 7 = .ok (.aload_n 0, 1) := by decide +kernel
theorem dX7_powerAt_8 : decode cX7_powerAt 8 = .ok (.getfield 65, 3) := by decide +kernel
theorem dX7_powerAt_11 : decode cX7_powerAt 11 = .ok (.if_icmp .ge 44, 3) := by decide +kernel
theorem dX7_powerAt_14 : decode cX7_powerAt 14 = .ok (.iload_n 3, 1) := by decide +kernel
theorem dX7_powerAt_15 : decode cX7_powerAt 15 = .ok (.aload_n 0, 1) := by decide +kernel
theorem dX7_powerAt_16 : decode cX7_powerAt 16 = .ok (.getfield 16, 3) := by decide +kernel
theorem dX7_powerAt_19 : decode cX7_powerAt 19 = .ok (.iload 4, 2) := by decide +kernel
theorem dX7_powerAt_21 : decode cX7_powerAt 21 = .ok (.iaload, 1) := by decide +kernel
theorem dX7_powerAt_22 : decode cX7_powerAt 22 = .ok (.iload_n 2, 1) := by decide +kernel
theorem dX7_powerAt_23 : decode cX7_powerAt 23 = .ok (.if_icmp .ne 23, 3) := by decide +kernel
theorem dX7_powerAt_26 : decode cX7_powerAt 26 = .ok (.aload_n 0, 1) := by decide +kernel
theorem dX7_powerAt_27 : decode cX7_powerAt 27 = .ok (.getfield 7, 3) := by decide +kernel
theorem dX7_powerAt_30 : decode cX7_powerAt 30 = .ok (.iload 4, 2) := by decide +kernel
theorem dX7_powerAt_32 : decode cX7_powerAt 32 = .ok (.iaload, 1) := by decide +kernel
theorem dX7_powerAt_33 : decode cX7_powerAt 33 = .ok (.iload_n 1, 1) := by decide +kernel
theorem dX7_powerAt_34 : decode cX7_powerAt 34 = .ok (.if_icmp .ne 12, 3) := by decide +kernel
theorem dX7_powerAt_37 : decode cX7_powerAt 37 = .ok (.aload_n 0, 1) := by decide +kernel
theorem dX7_powerAt_38 : decode cX7_powerAt 38 = .ok (.iload 4, 2) := by decide +kernel
theorem dX7_powerAt_40 : decode cX7_powerAt 40 = .ok (.invokevirtual 109, 3) := by decide +kernel
theorem dX7_powerAt_43 : decode cX7_powerAt 43 = .ok (.goto 4, 3) := by decide +kernel
theorem dX7_powerAt_46 : decode cX7_powerAt 46 = .ok (.iconst 0, 1) := by decide +kernel
theorem dX7_powerAt_47 : decode cX7_powerAt 47 = .ok (.iadd, 1) := by decide +kernel
theorem dX7_powerAt_48 : decode cX7_powerAt 48 = .ok (.istore_n 3, 1) := by decide +kernel
theorem dX7_powerAt_49 : decode cX7_powerAt 49 = .ok (.iinc 4 1, 3) := by decide +kernel
theorem dX7_powerAt_52 : decode cX7_powerAt 52 = .ok (.goto (-47), 3) := by decide +kernel
theorem dX7_powerAt_55 : decode cX7_powerAt 55 = .ok (.iload_n 3, 1) := by decide +kernel
theorem dX7_powerAt_56 : decode cX7_powerAt 56 = .ok (.ireturn, 1) := by decide +kernel
theorem dX7_strongest_0 : decode cX7_strongest 0 = .ok (.iconst 0, 1) := by decide +kernel
theorem dX7_strongest_1 : decode cX7_strongest 1 = .ok (.istore_n 2, 1) := by decide +kernel
theorem dX7_strongest_2 : decode cX7_strongest 2 = .ok (.iload_n 2, 1) := by decide +kernel
theorem dX7_strongest_3 : decode cX7_strongest 3 = .ok (.iconst 4, 1) := by decide +kernel
theorem dX7_strongest_4 : decode cX7_strongest 4 = .ok (.if_icmp .ge 75, 3) := by decide +kernel
theorem dX7_strongest_7 : decode cX7_strongest 7 = .ok (.aload_n 0, 1) := by decide +kernel
theorem dX7_strongest_8 : decode cX7_strongest 8 = .ok (.iload_n 2, 1) := by decide +kernel
theorem dX7_strongest_9 : decode cX7_strongest 9 = .ok (.iload_n 1, 1) := by decide +kernel
theorem dX7_strongest_10 : decode cX7_strongest 10 = .ok (.invokevirtual 115, 3) := by decide +kernel
theorem dX7_strongest_13 : decode cX7_strongest 13 = .ok (.ifCond .le 7, 3) := by decide +kernel
theorem dX7_strongest_16 : decode cX7_strongest 16 = .ok (.iconst 1, 1) := by decide +kernel
theorem dX7_strongest_17 : decode cX7_strongest 17 = .ok (.goto 4, 3) := by decide +kernel
theorem dX7_strongest_20 : decode cX7_strongest 20 = .ok (.iconst 0, 1) := by decide +kernel
theorem dX7_strongest_21 : decode cX7_strongest 21 = .ok (.istore_n 3, 1) := by decide +kernel
theorem dX7_strongest_22 : decode cX7_strongest 22 = .ok (.iconst 0, 1) := by decide +kernel
theorem dX7_strongest_23 : decode cX7_strongest 23 = .ok (.istore 4, 2) := by decide +kernel
theorem dX7_strongest_25 : decode cX7_strongest 25 = .ok (.iload 4, 2) := by decide +kernel
theorem dX7_strongest_27 : decode cX7_strongest 27 = .ok (.iconst 4, 1) := by decide +kernel
theorem dX7_strongest_28 : decode cX7_strongest 28 = .ok (.if_icmp .ge 39, 3) := by decide +kernel
theorem dX7_strongest_31 : decode cX7_strongest 31 = .ok (.iload_n 3, 1) := by decide +kernel
theorem dX7_strongest_32 : decode cX7_strongest 32 = .ok (.iload 4, 2) := by decide +kernel
theorem dX7_strongest_34 : decode cX7_strongest 34 = .ok (.iload_n 2, 1) := by decide +kernel
theorem dX7_strongest_35 : decode cX7_strongest 35 = .ok (.if_icmp .eq 19, 3) := by decide +kernel
theorem dX7_strongest_38 : decode cX7_strongest 38 = .ok (.aload_n 0, 1) := by decide +kernel
theorem dX7_strongest_39 : decode cX7_strongest 39 = .ok (.iload_n 2, 1) := by decide +kernel
theorem dX7_strongest_40 : decode cX7_strongest 40 = .ok (.iload_n 1, 1) := by decide +kernel
theorem dX7_strongest_41 : decode cX7_strongest 41 = .ok (.invokevirtual 115, 3) := by decide +kernel
theorem dX7_strongest_44 : decode cX7_strongest 44 = .ok (.aload_n 0, 1) := by decide +kernel
theorem dX7_strongest_45 : decode cX7_strongest 45 = .ok (.iload 4, 2) := by decide +kernel
theorem dX7_strongest_47 : decode cX7_strongest 47 = .ok (.iload_n 1, 1) := by decide +kernel
theorem dX7_strongest_48 : decode cX7_strongest 48 = .ok (.invokevirtual 115, 3) := by decide +kernel
theorem dX7_strongest_51 : decode cX7_strongest 51 = .ok (.if_icmp .le 7, 3) := by decide +kernel
theorem dX7_strongest_54 : decode cX7_strongest 54 = .ok (.iconst 1, 1) := by decide +kernel
theorem dX7_strongest_55 : decode cX7_strongest 55 = .ok (.goto 4, 3) := by decide +kernel
theorem dX7_strongest_58 : decode cX7_strongest 58 = .ok (.iconst 0, 1) := by decide +kernel
theorem dX7_strongest_59 : decode cX7_strongest 59 = .ok (.iand, 1) := by decide +kernel
theorem dX7_strongest_60 : decode cX7_strongest 60 = .ok (.istore_n 3, 1) := by decide +kernel
theorem dX7_strongest_61 : decode cX7_strongest 61 = .ok (.iinc 4 1, 3) := by decide +kernel
theorem dX7_strongest_64 : decode cX7_strongest 64 = .ok (.goto (-39), 3) := by decide +kernel
theorem dX7_strongest_67 : decode cX7_strongest 67 = .ok (.iload_n 3, 1) := by decide +kernel
theorem dX7_strongest_68 : decode cX7_strongest 68 = .ok (.ifCond .eq 5, 3) := by decide +kernel
theorem dX7_strongest_71 : decode cX7_strongest 71 = .ok (.iload_n 2, 1) := by decide +kernel
theorem dX7_strongest_72 : decode cX7_strongest 72 = .ok (.ireturn, 1) := by decide +kernel
theorem dX7_strongest_73 : decode cX7_strongest 73 = .ok (.iinc 2 1, 3) := by decide +kernel
theorem dX7_strongest_76 : decode cX7_strongest 76 = .ok (.goto (-74), 3) := by decide +kernel
theorem dX7_strongest_79 : decode cX7_strongest 79 = .ok (.iconst (-1), 1) := by decide +kernel
theorem dX7_strongest_80 : decode cX7_strongest 80 = .ok (.ireturn, 1) := by decide +kernel
theorem dX7_solves_0 : decode cX7_solves 0 = .ok (.iconst (-1), 1) := by decide +kernel
theorem dX7_solves_1 : decode cX7_solves 1 = .ok (.istore_n 2, 1) := by decide +kernel
theorem dX7_solves_2 : decode cX7_solves 2 = .ok (.aload_n 0, 1) := by decide +kernel
theorem dX7_solves_3 : decode cX7_solves 3 = .ok (.iload_n 1, 1) := by decide +kernel
theorem dX7_solves_4 : decode cX7_solves 4 = .ok (.invokevirtual 118, 3) := by decide +kernel
theorem dX7_solves_7 : decode cX7_solves 7 = .ok (.istore_n 3, 1) := by decide +kernel
theorem dX7_solves_8 : decode cX7_solves 8 = .ok (.iconst (-1), 1) := by decide +kernel
theorem dX7_solves_9 : decode cX7_solves 9 = .ok (.istore 4, 2) := by decide +kernel
theorem dX7_solves_11 : decode cX7_solves 11 = .ok (.iconst 0, 1) := by decide +kernel
theorem dX7_solves_12 : decode cX7_solves 12 = .ok (.istore 5, 2) := by decide +kernel
theorem dX7_solves_14 : decode cX7_solves 14 = .ok (.iload 5, 2) := by decide +kernel
theorem dX7_solves_16 : decode cX7_solves 16 = .ok (.aload_n 0, 1) := by decide +kernel
theorem dX7_solves_17 : decode cX7_solves 17 = .ok (.getfield 65, 3) := by decide +kernel
theorem dX7_solves_20 : decode cX7_solves 20 = .ok (.if_icmp .ge 34, 3) := by decide +kernel
theorem dX7_solves_23 : decode cX7_solves 23 = .ok (.aload_n 0, 1) := by decide +kernel
theorem dX7_solves_24 : decode cX7_solves 24 = .ok (.getfield 13, 3) := by decide +kernel
theorem dX7_solves_27 : decode cX7_solves 27 = .ok (.iload 5, 2) := by decide +kernel
theorem dX7_solves_29 : decode cX7_solves 29 = .ok (.iaload, 1) := by decide +kernel
theorem dX7_solves_30 : decode cX7_solves 30 = .ok (.iload_n 1, 1) := by decide +kernel
theorem dX7_solves_31 : decode cX7_solves 31 = .ok (.if_icmp .ne 17, 3) := by decide +kernel
theorem dX7_solves_34 : decode cX7_solves 34 = .ok (.aload_n 0, 1) := by decide +kernel
theorem dX7_solves_35 : decode cX7_solves 35 = .ok (.getfield 16, 3) := by decide +kernel
theorem dX7_solves_38 : decode cX7_solves 38 = .ok (.iload 5, 2) := by decide +kernel
theorem dX7_solves_40 : decode cX7_solves 40 = .ok (.iaload, 1) := by decide +kernel
theorem dX7_solves_41 : decode cX7_solves 41 = .ok (.iload_n 1, 1) := by decide +kernel
theorem dX7_solves_42 : decode cX7_solves 42 = .ok (.if_icmp .ne 6, 3) := by decide +kernel
theorem dX7_solves_45 : decode cX7_solves 45 = .ok (.iload 5, 2) := by decide +kernel
theorem dX7_solves_47 : decode cX7_solves 47 = .ok (.istore_n 2, 1) := by decide +kernel
theorem dX7_solves_48 : decode cX7_solves 48 = .ok (.iinc 5 1, 3) := by decide +kernel
theorem dX7_solves_51 : decode cX7_solves 51 = .ok (.goto (-37), 3) := by decide +kernel
theorem dX7_solves_54 : decode cX7_solves 54 = .ok (.iload_n 2, 1) := by decide +kernel
theorem dX7_solves_55 : decode cX7_solves 55 = .ok (.iconst (-1), 1) := by decide +kernel
theorem dX7_solves_56 : decode cX7_solves 56 = .ok (.if_icmp .eq 24, 3) := by decide +kernel
theorem dX7_solves_59 : decode cX7_solves 59 = .ok (.iload_n 3, 1) := by decide +kernel
theorem dX7_solves_60 : decode cX7_solves 60 = .ok (.iconst (-1), 1) := by decide +kernel
theorem dX7_solves_61 : decode cX7_solves 61 = .ok (.if_icmp .eq 19, 3) := by decide +kernel
theorem dX7_solves_64 : decode cX7_solves 64 = .ok (.iload_n 3, 1) := by decide +kernel
theorem dX7_solves_65 : decode cX7_solves 65 = .ok (.aload_n 0, 1) := by decide +kernel
theorem dX7_solves_66 : decode cX7_solves 66 = .ok (.getfield 7, 3) := by decide +kernel
theorem dX7_solves_69 : decode cX7_solves 69 = .ok (.iload_n 2, 1) := by decide +kernel
theorem dX7_solves_70 : decode cX7_solves 70 = .ok (.iaload, 1) := by decide +kernel
theorem dX7_solves_71 : decode cX7_solves 71 = .ok (.if_icmp .eq 9, 3) := by decide +kernel
theorem dX7_solves_74 : decode cX7_solves 74 = .ok (.aload_n 0, 1) := by decide +kernel
theorem dX7_solves_75 : decode cX7_solves 75 = .ok (.iload_n 2, 1) := by decide +kernel
theorem dX7_solves_76 : decode cX7_solves 76 = .ok (.invokevirtual 112, 3) := by decide +kernel
theorem dX7_solves_79 : decode cX7_solves 79 = .ok (.return_, 1) := by decide +kernel
theorem dX7_solves_80 : decode cX7_solves 80 = .ok (.aload_n 0, 1) := by decide +kernel
theorem dX7_solves_81 : decode cX7_solves 81 = .ok (.getfield 65, 3) := by decide +kernel
theorem dX7_solves_84 : decode cX7_solves 84 = .ok (.iconst 1, 1) := by decide +kernel
theorem dX7_solves_85 : decode cX7_solves 85 = .ok (.isub, 1) := by decide +kernel
theorem dX7_solves_86 : decode cX7_solves 86 = .ok (.istore 5, 2) := by decide +kernel
theorem dX7_solves_88 : decode cX7_solves 88 = .ok (.iload 5, 2) := by decide +kernel
theorem dX7_solves_90 : decode cX7_solves 90 = .ok (.ifCond .lt 40, 3) := by decide +kernel
theorem dX7_solves_93 : decode cX7_solves 93 = .ok (.iload_n 2, 1) := by decide +kernel
theorem dX7_solves_94 : decode cX7_solves 94 = .ok (.iconst (-1), 1) := by decide +kernel
theorem dX7_solves_95 : decode cX7_solves 95 = .ok (.if_icmp .ne 29, 3) := by decide +kernel
theorem dX7_solves_98 : decode cX7_solves 98 = .ok (.aload_n 0, 1) := by decide +kernel
theorem dX7_solves_99 : decode cX7_solves 99 = .ok (.getfield 16, 3) := by decide +kernel
theorem dX7_solves_102 : decode cX7_solves 102 = .ok (.iload 5, 2) := by decide +kernel
theorem dX7_solves_104 : decode cX7_solves 104 = .ok (.iaload, 1) := by decide +kernel
theorem dX7_solves_105 : decode cX7_solves 105 = .ok (.iload_n 1, 1) := by decide +kernel
theorem dX7_solves_106 : decode cX7_solves 106 = .ok (.if_icmp .ne 18, 3) := by decide +kernel
theorem dX7_solves_109 : decode cX7_solves 109 = .ok (.aload_n 0, 1) := by decide +kernel
theorem dX7_solves_110 : decode cX7_solves 110 = .ok (.getfield 7, 3) := by decide +kernel
theorem dX7_solves_113 : decode cX7_solves 113 = .ok (.iload 5, 2) := by decide +kernel
theorem dX7_solves_115 : decode cX7_solves 115 = .ok (.iaload, 1) := by decide +kernel
theorem dX7_solves_116 : decode cX7_solves 116 = .ok (.iload_n 3, 1) := by decide +kernel
theorem dX7_solves_117 : decode cX7_solves 117 = .ok (.if_icmp .ne 7, 3) := by decide +kernel
theorem dX7_solves_120 : decode cX7_solves 120 = .ok (.iload 5, 2) := by decide +kernel
theorem dX7_solves_122 : decode cX7_solves 122 = .ok (.istore 4, 2) := by decide +kernel
theorem dX7_solves_124 : decode cX7_solves 124 = .ok (.iinc 5 (-1), 3) := by decide +kernel
theorem dX7_solves_127 : decode cX7_solves 127 = .ok (.goto (-39), 3) := by decide +kernel
theorem dX7_solves_130 : decode cX7_solves 130 = .ok (.iconst 0, 1) := by decide +kernel
theorem dX7_solves_131 : decode cX7_solves 131 = .ok (.istore 5, 2) := by decide +kernel
theorem dX7_solves_133 : decode cX7_solves 133 = .ok (.iload 5, 2) := by decide +kernel
theorem dX7_solves_135 : decode cX7_solves 135 = .ok (.aload_n 0, 1) := by decide +kernel
theorem dX7_solves_136 : decode cX7_solves 136 = .ok (.getfield 65, 3) := by decide +kernel
theorem dX7_solves_139 : decode cX7_solves 139 = .ok (.if_icmp .ge 41, 3) := by decide +kernel
theorem dX7_solves_142 : decode cX7_solves 142 = .ok (.aload_n 0, 1) := by decide +kernel
theorem dX7_solves_143 : decode cX7_solves 143 = .ok (.getfield 16, 3) := by decide +kernel
theorem dX7_solves_146 : decode cX7_solves 146 = .ok (.iload 5, 2) := by decide +kernel
theorem dX7_solves_148 : decode cX7_solves 148 = .ok (.iaload, 1) := by decide +kernel
theorem dX7_solves_149 : decode cX7_solves 149 = .ok (.iload_n 1, 1) := by decide +kernel
theorem dX7_solves_150 : decode cX7_solves 150 = .ok (.if_icmp .ne 24, 3) := by decide +kernel
theorem dX7_solves_153 : decode cX7_solves 153 = .ok (.iload 5, 2) := by decide +kernel
theorem dX7_solves_155 : decode cX7_solves 155 = .ok (.iload 4, 2) := by decide +kernel
theorem dX7_solves_157 : decode cX7_solves 157 = .ok (.if_icmp .eq 17, 3) := by decide +kernel
theorem dX7_solves_160 : decode cX7_solves 160 = .ok (.aload_n 0, 1) := by decide +kernel
theorem dX7_solves_161 : decode cX7_solves 161 = .ok (.getfield 16, 3) := by decide +kernel
theorem dX7_solves_164 : decode cX7_solves 164 = .ok (.iload 5, 2) := by decide +kernel
theorem dX7_solves_166 : decode cX7_solves 166 = .ok (.aload_n 0, 1) := by decide +kernel
theorem dX7_solves_167 : decode cX7_solves 167 = .ok (.getfield 13, 3) := by decide +kernel
theorem dX7_solves_170 : decode cX7_solves 170 = .ok (.iload 5, 2) := by decide +kernel
theorem dX7_solves_172 : decode cX7_solves 172 = .ok (.iaload, 1) := by decide +kernel
theorem dX7_solves_173 : decode cX7_solves 173 = .ok (.iastore, 1) := by decide +kernel
theorem dX7_solves_174 : decode cX7_solves 174 = .ok (.iinc 5 1, 3) := by decide +kernel
theorem dX7_solves_177 : decode cX7_solves 177 = .ok (.goto (-44), 3) := by decide +kernel
theorem dX7_solves_180 : decode cX7_solves 180 = .ok (.return_, 1) := by decide +kernel
theorem dX7_turn_0 : decode cX7_turn 0 = .ok (.aload_n 0, 1) := by decide +kernel
theorem dX7_turn_1 : decode cX7_turn 1 = .ok (.aload_n 0, 1) := by decide +kernel
theorem dX7_turn_2 : decode cX7_turn 2 = .ok (.getfield 84, 3) := by decide +kernel
theorem dX7_turn_5 : decode cX7_turn 5 = .ok (.bipush 99, 2) := by decide +kernel
theorem dX7_turn_7 : decode cX7_turn 7 = .ok (.if_icmp .ge 7, 3) := by decide +kernel
theorem dX7_turn_10 : decode cX7_turn 10 = .ok (.iconst 1, 1) := by decide +kernel
theorem dX7_turn_11 : decode cX7_turn 11 = .ok (.goto 4, 3) := by decide +kernel
theorem dX7_turn_14 : decode cX7_turn 14 = .ok (.iconst 0, 1) := by decide +kernel
theorem dX7_turn_15 : decode cX7_turn 15 = .ok (.iconst 1, 1) := by decide +kernel
theorem dX7_turn_16 : decode cX7_turn 16 = .ok (.invokevirtual 61, 3) := by decide +kernel
theorem dX7_turn_19 : decode cX7_turn 19 = .ok (.ifCond .eq 5, 3) := by decide +kernel
theorem dX7_turn_22 : decode cX7_turn 22 = .ok (.iconst 0, 1) := by decide +kernel
theorem dX7_turn_23 : decode cX7_turn 23 = .ok (.ireturn, 1) := by decide +kernel
theorem dX7_turn_24 : decode cX7_turn 24 = .ok (.aload_n 0, 1) := by decide +kernel
theorem dX7_turn_25 : decode cX7_turn 25 = .ok (.invokevirtual 121, 3) := by decide +kernel
theorem dX7_turn_28 : decode cX7_turn 28 = .ok (.istore_n 1, 1) := by decide +kernel
theorem dX7_turn_29 : decode cX7_turn 29 = .ok (.aload_n 0, 1) := by decide +kernel
theorem dX7_turn_30 : decode cX7_turn 30 = .ok (.iconst 0, 1) := by decide +kernel
theorem dX7_turn_31 : decode cX7_turn 31 = .ok (.invokevirtual 124, 3) := by decide +kernel
theorem dX7_turn_34 : decode cX7_turn 34 = .ok (.aload_n 0, 1) := by decide +kernel
theorem dX7_turn_35 : decode cX7_turn 35 = .ok (.iconst 1, 1) := by decide +kernel
theorem dX7_turn_36 : decode cX7_turn 36 = .ok (.invokevirtual 124, 3) := by decide +kernel
theorem dX7_turn_39 : decode cX7_turn 39 = .ok (.aload_n 0, 1) := by decide +kernel
theorem dX7_turn_40 : decode cX7_turn 40 = .ok (.dup, 1) := by decide +kernel
theorem dX7_turn_41 : decode cX7_turn 41 = .ok (.getfield 84, 3) := by decide +kernel
theorem dX7_turn_44 : decode cX7_turn 44 = .ok (.iconst 1, 1) := by decide +kernel
theorem dX7_turn_45 : decode cX7_turn 45 = .ok (.iadd, 1) := by decide +kernel
theorem dX7_turn_46 : decode cX7_turn 46 = .ok (.putfield 84, 3) := by decide +kernel
theorem dX7_turn_49 : decode cX7_turn 49 = .ok (.iconst 0, 1) := by decide +kernel
theorem dX7_turn_50 : decode cX7_turn 50 = .ok (.istore_n 2, 1) := by decide +kernel
theorem dX7_turn_51 : decode cX7_turn 51 = .ok (.iload_n 2, 1) := by decide +kernel
theorem dX7_turn_52 : decode cX7_turn 52 = .ok (.aload_n 0, 1) := by decide +kernel
theorem dX7_turn_53 : decode cX7_turn 53 = .ok (.getfield 65, 3) := by decide +kernel
theorem dX7_turn_56 : decode cX7_turn 56 = .ok (.if_icmp .ge 16, 3) := by decide +kernel
theorem dX7_turn_59 : decode cX7_turn 59 = .ok (.aload_n 0, 1) := by decide +kernel
theorem dX7_turn_60 : decode cX7_turn 60 = .ok (.getfield 19, 3) := by decide +kernel
theorem dX7_turn_63 : decode cX7_turn 63 = .ok (.iload_n 2, 1) := by decide +kernel
theorem dX7_turn_64 : decode cX7_turn 64 = .ok (.iconst 0, 1) := by decide +kernel
theorem dX7_turn_65 : decode cX7_turn 65 = .ok (.iastore, 1) := by decide +kernel
theorem dX7_turn_66 : decode cX7_turn 66 = .ok (.iinc 2 1, 3) := by decide +kernel
theorem dX7_turn_69 : decode cX7_turn 69 = .ok (.goto (-18), 3) := by decide +kernel
theorem dX7_turn_72 : decode cX7_turn 72 = .ok (.aload_n 0, 1) := by decide +kernel
theorem dX7_turn_73 : decode cX7_turn 73 = .ok (.invokevirtual 127, 3) := by decide +kernel
theorem dX7_turn_76 : decode cX7_turn 76 = .ok (.iload_n 1, 1) := by decide +kernel
theorem dX7_turn_77 : decode cX7_turn 77 = .ok (.aload_n 0, 1) := by decide +kernel
theorem dX7_turn_78 : decode cX7_turn 78 = .ok (.invokevirtual 121, 3) := by decide +kernel
theorem dX7_turn_81 : decode cX7_turn 81 = .ok (.isub, 1) := by decide +kernel
theorem dX7_turn_82 : decode cX7_turn 82 = .ok (.ireturn, 1) := by decide +kernel
theorem dX7_living_0 : decode cX7_living 0 = .ok (.iconst 0, 1) := by decide +kernel
theorem dX7_living_1 : decode cX7_living 1 = .ok (.istore_n 1, 1) := by decide +kernel
theorem dX7_living_2 : decode cX7_living 2 = .ok (.iconst 0, 1) := by decide +kernel
theorem dX7_living_3 : decode cX7_living 3 = .ok (.istore_n 2, 1) := by decide +kernel
theorem dX7_living_4 : decode cX7_living 4 = .ok (.iload_n 2, 1) := by decide +kernel
theorem dX7_living_5 : decode cX7_living 5 = .ok (.aload_n 0, 1) := by decide +kernel
theorem dX7_living_6 : decode cX7_living 6 = .ok (.getfield 65, 3) := by decide +kernel
theorem dX7_living_9 : decode cX7_living 9 = .ok (.if_icmp .ge 27, 3) := by decide +kernel
theorem dX7_living_12 : decode cX7_living 12 = .ok (.iload_n 1, 1) := by decide +kernel
theorem dX7_living_13 : decode cX7_living 13 = .ok (.aload_n 0, 1) := by decide +kernel
theorem dX7_living_14 : decode cX7_living 14 = .ok (.getfield 13, 3) := by decide +kernel
theorem dX7_living_17 : decode cX7_living 17 = .ok (.iload_n 2, 1) := by decide +kernel
theorem dX7_living_18 : decode cX7_living 18 = .ok (.iaload, 1) := by decide +kernel
theorem dX7_living_19 : decode cX7_living 19 = .ok (.iconst (-1), 1) := by decide +kernel
theorem dX7_living_20 : decode cX7_living 20 = .ok (.if_icmp .ne 7, 3) := by decide +kernel
theorem dX7_living_23 : decode cX7_living 23 = .ok (.iconst 0, 1) := by decide +kernel
theorem dX7_living_24 : decode cX7_living 24 = .ok (.goto 4, 3) := by decide +kernel
theorem dX7_living_27 : decode cX7_living 27 = .ok (.iconst 1, 1) := by decide +kernel
theorem dX7_living_28 : decode cX7_living 28 = .ok (.iadd, 1) := by decide +kernel
theorem dX7_living_29 : decode cX7_living 29 = .ok (.istore_n 1, 1) := by decide +kernel
theorem dX7_living_30 : decode cX7_living 30 = .ok (.iinc 2 1, 3) := by decide +kernel
theorem dX7_living_33 : decode cX7_living 33 = .ok (.goto (-29), 3) := by decide +kernel
theorem dX7_living_36 : decode cX7_living 36 = .ok (.iload_n 1, 1) := by decide +kernel
theorem dX7_living_37 : decode cX7_living 37 = .ok (.ireturn, 1) := by decide +kernel
theorem dX7_done_0 : decode cX7_done 0 = .ok (.aload_n 0, 1) := by decide +kernel
theorem dX7_done_1 : decode cX7_done 1 = .ok (.getfield 84, 3) := by decide +kernel
theorem dX7_done_4 : decode cX7_done 4 = .ok (.ireturn, 1) := by decide +kernel
theorem dX7_cellOf_0 : decode cX7_cellOf 0 = .ok (.aload_n 0, 1) := by decide +kernel
theorem dX7_cellOf_1 : decode cX7_cellOf 1 = .ok (.iload_n 1, 1) := by decide +kernel
theorem dX7_cellOf_2 : decode cX7_cellOf 2 = .ok (.invokevirtual 87, 3) := by decide +kernel
theorem dX7_cellOf_5 : decode cX7_cellOf 5 = .ok (.ifCond .eq 7, 3) := by decide +kernel
theorem dX7_cellOf_8 : decode cX7_cellOf 8 = .ok (.iconst 0, 1) := by decide +kernel
theorem dX7_cellOf_9 : decode cX7_cellOf 9 = .ok (.goto 9, 3) := by decide +kernel
theorem dX7_cellOf_12 : decode cX7_cellOf 12 = .ok (.aload_n 0, 1) := by decide +kernel
theorem dX7_cellOf_13 : decode cX7_cellOf 13 = .ok (.getfield 13, 3) := by decide +kernel
theorem dX7_cellOf_16 : decode cX7_cellOf 16 = .ok (.iload_n 1, 1) := by decide +kernel
theorem dX7_cellOf_17 : decode cX7_cellOf 17 = .ok (.iaload, 1) := by decide +kernel
theorem dX7_cellOf_18 : decode cX7_cellOf 18 = .ok (.ireturn, 1) := by decide +kernel
theorem dX7_unitOn_0 : decode cX7_unitOn 0 = .ok (.aload_n 0, 1) := by decide +kernel
theorem dX7_unitOn_1 : decode cX7_unitOn 1 = .ok (.iload_n 1, 1) := by decide +kernel
theorem dX7_unitOn_2 : decode cX7_unitOn 2 = .ok (.invokestatic 72, 3) := by decide +kernel
theorem dX7_unitOn_5 : decode cX7_unitOn 5 = .ok (.iconst 1, 1) := by decide +kernel
theorem dX7_unitOn_6 : decode cX7_unitOn 6 = .ok (.invokevirtual 61, 3) := by decide +kernel
theorem dX7_unitOn_9 : decode cX7_unitOn 9 = .ok (.ifCond .eq 7, 3) := by decide +kernel
theorem dX7_unitOn_12 : decode cX7_unitOn 12 = .ok (.iconst 0, 1) := by decide +kernel
theorem dX7_unitOn_13 : decode cX7_unitOn 13 = .ok (.goto 8, 3) := by decide +kernel
theorem dX7_unitOn_16 : decode cX7_unitOn 16 = .ok (.aload_n 0, 1) := by decide +kernel
theorem dX7_unitOn_17 : decode cX7_unitOn 17 = .ok (.iload_n 1, 1) := by decide +kernel
theorem dX7_unitOn_18 : decode cX7_unitOn 18 = .ok (.invokevirtual 80, 3) := by decide +kernel
theorem dX7_unitOn_21 : decode cX7_unitOn 21 = .ok (.ireturn, 1) := by decide +kernel
theorem dX7_part_0 : decode cX7_part 0 = .ok (.iload_n 1, 1) := by decide +kernel
theorem dX7_part_1 : decode cX7_part 1 = .ok (.ifCond .ge 8, 3) := by decide +kernel
theorem dX7_part_4 : decode cX7_part 4 = .ok (.iload_n 1, 1) := by decide +kernel
theorem dX7_part_5 : decode cX7_part 5 = .ok (.ineg, 1) := by decide +kernel
theorem dX7_part_6 : decode cX7_part 6 = .ok (.goto 4, 3) := by decide +kernel
theorem dX7_part_9 : decode cX7_part 9 = .ok (.iload_n 1, 1) := by decide +kernel
theorem dX7_part_10 : decode cX7_part 10 = .ok (.istore_n 3, 1) := by decide +kernel
theorem dX7_part_11 : decode cX7_part 11 = .ok (.iconst 2, 1) := by decide +kernel
theorem dX7_part_12 : decode cX7_part 12 = .ok (.iload_n 0, 1) := by decide +kernel
theorem dX7_part_13 : decode cX7_part 13 = .ok (.imul, 1) := by decide +kernel
theorem dX7_part_14 : decode cX7_part 14 = .ok (.iload_n 3, 1) := by decide +kernel
theorem dX7_part_15 : decode cX7_part 15 = .ok (.imul, 1) := by decide +kernel
theorem dX7_part_16 : decode cX7_part 16 = .ok (.iload_n 2, 1) := by decide +kernel
theorem dX7_part_17 : decode cX7_part 17 = .ok (.iadd, 1) := by decide +kernel
theorem dX7_part_18 : decode cX7_part 18 = .ok (.iconst 1, 1) := by decide +kernel
theorem dX7_part_19 : decode cX7_part 19 = .ok (.isub, 1) := by decide +kernel
theorem dX7_part_20 : decode cX7_part 20 = .ok (.iconst 2, 1) := by decide +kernel
theorem dX7_part_21 : decode cX7_part 21 = .ok (.iload_n 2, 1) := by decide +kernel
theorem dX7_part_22 : decode cX7_part 22 = .ok (.imul, 1) := by decide +kernel
theorem dX7_part_23 : decode cX7_part 23 = .ok (.idiv, 1) := by decide +kernel
theorem dX7_part_24 : decode cX7_part 24 = .ok (.istore 4, 2) := by decide +kernel
theorem dX7_part_26 : decode cX7_part 26 = .ok (.iload_n 1, 1) := by decide +kernel
theorem dX7_part_27 : decode cX7_part 27 = .ok (.ifCond .ge 9, 3) := by decide +kernel
theorem dX7_part_30 : decode cX7_part 30 = .ok (.iload 4, 2) := by decide +kernel
theorem dX7_part_32 : decode cX7_part 32 = .ok (.ineg, 1) := by decide +kernel
theorem dX7_part_33 : decode cX7_part 33 = .ok (.goto 5, 3) := by decide +kernel
theorem dX7_part_36 : decode cX7_part 36 = .ok (.iload 4, 2) := by decide +kernel
theorem dX7_part_38 : decode cX7_part 38 = .ok (.ireturn, 1) := by decide +kernel
theorem dX7_looksAt_0 : decode cX7_looksAt 0 = .ok (.aload_n 0, 1) := by decide +kernel
theorem dX7_looksAt_1 : decode cX7_looksAt 1 = .ok (.getfield 13, 3) := by decide +kernel
theorem dX7_looksAt_4 : decode cX7_looksAt 4 = .ok (.iload_n 1, 1) := by decide +kernel
theorem dX7_looksAt_5 : decode cX7_looksAt 5 = .ok (.iaload, 1) := by decide +kernel
theorem dX7_looksAt_6 : decode cX7_looksAt 6 = .ok (.iconst (-1), 1) := by decide +kernel
theorem dX7_looksAt_7 : decode cX7_looksAt 7 = .ok (.if_icmp .ne 5, 3) := by decide +kernel
theorem dX7_looksAt_10 : decode cX7_looksAt 10 = .ok (.iconst 0, 1) := by decide +kernel
theorem dX7_looksAt_11 : decode cX7_looksAt 11 = .ok (.ireturn, 1) := by decide +kernel
theorem dX7_looksAt_12 : decode cX7_looksAt 12 = .ok (.aload_n 0, 1) := by decide +kernel
theorem dX7_looksAt_13 : decode cX7_looksAt 13 = .ok (.aload_n 0, 1) := by decide +kernel
theorem dX7_looksAt_14 : decode cX7_looksAt 14 = .ok (.getfield 13, 3) := by decide +kernel
theorem dX7_looksAt_17 : decode cX7_looksAt 17 = .ok (.iload_n 1, 1) := by decide +kernel
theorem dX7_looksAt_18 : decode cX7_looksAt 18 = .ok (.iaload, 1) := by decide +kernel
theorem dX7_looksAt_19 : decode cX7_looksAt 19 = .ok (.invokevirtual 76, 3) := by decide +kernel
theorem dX7_looksAt_22 : decode cX7_looksAt 22 = .ok (.bipush 104, 2) := by decide +kernel
theorem dX7_looksAt_24 : decode cX7_looksAt 24 = .ok (.if_icmp .ne 7, 3) := by decide +kernel
theorem dX7_looksAt_27 : decode cX7_looksAt 27 = .ok (.iconst 1, 1) := by decide +kernel
theorem dX7_looksAt_28 : decode cX7_looksAt 28 = .ok (.goto 4, 3) := by decide +kernel
theorem dX7_looksAt_31 : decode cX7_looksAt 31 = .ok (.iconst 0, 1) := by decide +kernel
theorem dX7_looksAt_32 : decode cX7_looksAt 32 = .ok (.istore_n 3, 1) := by decide +kernel
theorem dX7_looksAt_33 : decode cX7_looksAt 33 = .ok (.aload_n 0, 1) := by decide +kernel
theorem dX7_looksAt_34 : decode cX7_looksAt 34 = .ok (.getfield 28, 3) := by decide +kernel
theorem dX7_looksAt_37 : decode cX7_looksAt 37 = .ok (.iload_n 1, 1) := by decide +kernel
theorem dX7_looksAt_38 : decode cX7_looksAt 38 = .ok (.caload, 1) := by decide +kernel
theorem dX7_looksAt_39 : decode cX7_looksAt 39 = .ok (.bipush 115, 2) := by decide +kernel
theorem dX7_looksAt_41 : decode cX7_looksAt 41 = .ok (.if_icmp .ne 7, 3) := by decide +kernel
theorem dX7_looksAt_44 : decode cX7_looksAt 44 = .ok (.iconst 3, 1) := by decide +kernel
theorem dX7_looksAt_45 : decode cX7_looksAt 45 = .ok (.goto 19, 3) := by decide +kernel
theorem dX7_looksAt_48 : decode cX7_looksAt 48 = .ok (.aload_n 0, 1) := by decide +kernel
theorem dX7_looksAt_49 : decode cX7_looksAt 49 = .ok (.getfield 28, 3) := by decide +kernel
theorem dX7_looksAt_52 : decode cX7_looksAt 52 = .ok (.iload_n 1, 1) := by decide +kernel
theorem dX7_looksAt_53 : decode cX7_looksAt 53 = .ok (.caload, 1) := by decide +kernel
theorem dX7_looksAt_54 : decode cX7_looksAt 54 = .ok (.bipush 97, 2) := by decide +kernel
theorem dX7_looksAt_56 : decode cX7_looksAt 56 = .ok (.if_icmp .ne 7, 3) := by decide +kernel
theorem dX7_looksAt_59 : decode cX7_looksAt 59 = .ok (.iconst 2, 1) := by decide +kernel
theorem dX7_looksAt_60 : decode cX7_looksAt 60 = .ok (.goto 4, 3) := by decide +kernel
theorem dX7_looksAt_63 : decode cX7_looksAt 63 = .ok (.iconst 4, 1) := by decide +kernel
theorem dX7_looksAt_64 : decode cX7_looksAt 64 = .ok (.iload_n 3, 1) := by decide +kernel
theorem dX7_looksAt_65 : decode cX7_looksAt 65 = .ok (.ifCond .eq 7, 3) := by decide +kernel
theorem dX7_looksAt_68 : decode cX7_looksAt 68 = .ok (.iconst 1, 1) := by decide +kernel
theorem dX7_looksAt_69 : decode cX7_looksAt 69 = .ok (.goto 4, 3) := by decide +kernel
theorem dX7_looksAt_72 : decode cX7_looksAt 72 = .ok (.iconst 0, 1) := by decide +kernel
theorem dX7_looksAt_73 : decode cX7_looksAt 73 = .ok (.iadd, 1) := by decide +kernel
theorem dX7_looksAt_74 : decode cX7_looksAt 74 = .ok (.istore 4, 2) := by decide +kernel
theorem dX7_looksAt_76 : decode cX7_looksAt 76 = .ok (.aload_n 0, 1) := by decide +kernel
theorem dX7_looksAt_77 : decode cX7_looksAt 77 = .ok (.getfield 13, 3) := by decide +kernel
theorem dX7_looksAt_80 : decode cX7_looksAt 80 = .ok (.iload_n 1, 1) := by decide +kernel
theorem dX7_looksAt_81 : decode cX7_looksAt 81 = .ok (.iaload, 1) := by decide +kernel
theorem dX7_looksAt_82 : decode cX7_looksAt 82 = .ok (.bipush 8, 2) := by decide +kernel
theorem dX7_looksAt_84 : decode cX7_looksAt 84 = .ok (.irem, 1) := by decide +kernel
theorem dX7_looksAt_85 : decode cX7_looksAt 85 = .ok (.istore 5, 2) := by decide +kernel
theorem dX7_looksAt_87 : decode cX7_looksAt 87 = .ok (.aload_n 0, 1) := by decide +kernel
theorem dX7_looksAt_88 : decode cX7_looksAt 88 = .ok (.getfield 13, 3) := by decide +kernel
theorem dX7_looksAt_91 : decode cX7_looksAt 91 = .ok (.iload_n 1, 1) := by decide +kernel
theorem dX7_looksAt_92 : decode cX7_looksAt 92 = .ok (.iaload, 1) := by decide +kernel
theorem dX7_looksAt_93 : decode cX7_looksAt 93 = .ok (.bipush 8, 2) := by decide +kernel
theorem dX7_looksAt_95 : decode cX7_looksAt 95 = .ok (.idiv, 1) := by decide +kernel
theorem dX7_looksAt_96 : decode cX7_looksAt 96 = .ok (.istore 6, 2) := by decide +kernel
theorem dX7_looksAt_98 : decode cX7_looksAt 98 = .ok (.iload_n 2, 1) := by decide +kernel
theorem dX7_looksAt_99 : decode cX7_looksAt 99 = .ok (.bipush 8, 2) := by decide +kernel
theorem dX7_looksAt_101 : decode cX7_looksAt 101 = .ok (.irem, 1) := by decide +kernel
theorem dX7_looksAt_102 : decode cX7_looksAt 102 = .ok (.iload 5, 2) := by decide +kernel
theorem dX7_looksAt_104 : decode cX7_looksAt 104 = .ok (.isub, 1) := by decide +kernel
theorem dX7_looksAt_105 : decode cX7_looksAt 105 = .ok (.istore 7, 2) := by decide +kernel
theorem dX7_looksAt_107 : decode cX7_looksAt 107 = .ok (.iload_n 2, 1) := by decide +kernel
theorem dX7_looksAt_108 : decode cX7_looksAt 108 = .ok (.bipush 8, 2) := by decide +kernel
theorem dX7_looksAt_110 : decode cX7_looksAt 110 = .ok (.idiv, 1) := by decide +kernel
theorem dX7_looksAt_111 : decode cX7_looksAt 111 = .ok (.iload 6, 2) := by decide +kernel
theorem dX7_looksAt_113 : decode cX7_looksAt 113 = .ok (.isub, 1) := by decide +kernel
theorem dX7_looksAt_114 : decode cX7_looksAt 114 = .ok (.istore 8, 2) := by decide +kernel
theorem dX7_looksAt_116 : decode cX7_looksAt 116 = .ok (.iload 7, 2) := by decide +kernel
theorem dX7_looksAt_118 : decode cX7_looksAt 118 = .ok (.invokestatic 130, 3) := by decide +kernel
theorem dX7_looksAt_121 : decode cX7_looksAt 121 = .ok (.iload 8, 2) := by decide +kernel
theorem dX7_looksAt_123 : decode cX7_looksAt 123 = .ok (.invokestatic 130, 3) := by decide +kernel
theorem dX7_looksAt_126 : decode cX7_looksAt 126 = .ok (.invokestatic 135, 3) := by decide +kernel
theorem dX7_looksAt_129 : decode cX7_looksAt 129 = .ok (.istore 9, 2) := by decide +kernel
theorem dX7_looksAt_131 : decode cX7_looksAt 131 = .ok (.iload 9, 2) := by decide +kernel
theorem dX7_looksAt_133 : decode cX7_looksAt 133 = .ok (.iload 4, 2) := by decide +kernel
theorem dX7_looksAt_135 : decode cX7_looksAt 135 = .ok (.if_icmp .gt 7, 3) := by decide +kernel
theorem dX7_looksAt_138 : decode cX7_looksAt 138 = .ok (.iconst 1, 1) := by decide +kernel
theorem dX7_looksAt_139 : decode cX7_looksAt 139 = .ok (.goto 4, 3) := by decide +kernel
theorem dX7_looksAt_142 : decode cX7_looksAt 142 = .ok (.iconst 0, 1) := by decide +kernel
theorem dX7_looksAt_143 : decode cX7_looksAt 143 = .ok (.istore 10, 2) := by decide +kernel
theorem dX7_looksAt_145 : decode cX7_looksAt 145 = .ok (.iconst 1, 1) := by decide +kernel
theorem dX7_looksAt_146 : decode cX7_looksAt 146 = .ok (.istore 11, 2) := by decide +kernel
theorem dX7_looksAt_148 : decode cX7_looksAt 148 = .ok (.iload 11, 2) := by decide +kernel
theorem dX7_looksAt_150 : decode cX7_looksAt 150 = .ok (.iload 9, 2) := by decide +kernel
theorem dX7_looksAt_152 : decode cX7_looksAt 152 = .ok (.if_icmp .ge 73, 3) := by decide +kernel
theorem dX7_looksAt_155 : decode cX7_looksAt 155 = .ok (.iload 10, 2) := by decide +kernel
theorem dX7_looksAt_157 : decode cX7_looksAt 157 = .ok (.ifCond .eq 68, 3) := by decide +kernel
theorem dX7_looksAt_160 : decode cX7_looksAt 160 = .ok (.aload_n 0, 1) := by decide +kernel
theorem dX7_looksAt_161 : decode cX7_looksAt 161 = .ok (.bipush 8, 2) := by decide +kernel
theorem dX7_looksAt_163 : decode cX7_looksAt 163 = .ok (.iload 6, 2) := by decide +kernel
theorem dX7_looksAt_165 : decode cX7_looksAt 165 = .ok (.iload 11, 2) := by decide +kernel
theorem dX7_looksAt_167 : decode cX7_looksAt 167 = .ok (.iload 8, 2) := by decide +kernel
theorem dX7_looksAt_169 : decode cX7_looksAt 169 = .ok (.iload 9, 2) := by decide +kernel
theorem dX7_looksAt_171 : decode cX7_looksAt 171 = .ok (.invokestatic 138, 3) := by decide +kernel
theorem dX7_looksAt_174 : decode cX7_looksAt 174 = .ok (.iadd, 1) := by decide +kernel
theorem dX7_looksAt_175 : decode cX7_looksAt 175 = .ok (.imul, 1) := by decide +kernel
theorem dX7_looksAt_176 : decode cX7_looksAt 176 = .ok (.iload 5, 2) := by decide +kernel
theorem dX7_looksAt_178 : decode cX7_looksAt 178 = .ok (.iadd, 1) := by decide +kernel
theorem dX7_looksAt_179 : decode cX7_looksAt 179 = .ok (.iload 11, 2) := by decide +kernel
theorem dX7_looksAt_181 : decode cX7_looksAt 181 = .ok (.iload 7, 2) := by decide +kernel
theorem dX7_looksAt_183 : decode cX7_looksAt 183 = .ok (.iload 9, 2) := by decide +kernel
theorem dX7_looksAt_185 : decode cX7_looksAt 185 = .ok (.invokestatic 138, 3) := by decide +kernel
theorem dX7_looksAt_188 : decode cX7_looksAt 188 = .ok (.iadd, 1) := by decide +kernel
theorem dX7_looksAt_189 : decode cX7_looksAt 189 = .ok (.invokevirtual 76, 3) := by decide +kernel
theorem dX7_looksAt_192 : decode cX7_looksAt 192 = .ok (.istore 12, 2) := by decide +kernel
theorem dX7_looksAt_194 : decode cX7_looksAt 194 = .ok (.iload 12, 2) := by decide +kernel
theorem dX7_looksAt_196 : decode cX7_looksAt 196 = .ok (.bipush 104, 2) := by decide +kernel
theorem dX7_looksAt_198 : decode cX7_looksAt 198 = .ok (.if_icmp .eq 18, 3) := by decide +kernel
theorem dX7_looksAt_201 : decode cX7_looksAt 201 = .ok (.iload 12, 2) := by decide +kernel
theorem dX7_looksAt_203 : decode cX7_looksAt 203 = .ok (.bipush 119, 2) := by decide +kernel
theorem dX7_looksAt_205 : decode cX7_looksAt 205 = .ok (.if_icmp .ne 7, 3) := by decide +kernel
theorem dX7_looksAt_208 : decode cX7_looksAt 208 = .ok (.iload_n 3, 1) := by decide +kernel
theorem dX7_looksAt_209 : decode cX7_looksAt 209 = .ok (.ifCond .eq 7, 3) := by decide +kernel
theorem dX7_looksAt_212 : decode cX7_looksAt 212 = .ok (.iconst 1, 1) := by decide +kernel
theorem dX7_looksAt_213 : decode cX7_looksAt 213 = .ok (.goto 4, 3) := by decide +kernel
theorem dX7_looksAt_216 : decode cX7_looksAt 216 = .ok (.iconst 0, 1) := by decide +kernel
theorem dX7_looksAt_217 : decode cX7_looksAt 217 = .ok (.istore 10, 2) := by decide +kernel
theorem dX7_looksAt_219 : decode cX7_looksAt 219 = .ok (.iinc 11 1, 3) := by decide +kernel
theorem dX7_looksAt_222 : decode cX7_looksAt 222 = .ok (.goto (-74), 3) := by decide +kernel
theorem dX7_looksAt_225 : decode cX7_looksAt 225 = .ok (.iload 10, 2) := by decide +kernel
theorem dX7_looksAt_227 : decode cX7_looksAt 227 = .ok (.ireturn, 1) := by decide +kernel
theorem dX7_sees_0 : decode cX7_sees 0 = .ok (.aload_n 0, 1) := by decide +kernel
theorem dX7_sees_1 : decode cX7_sees 1 = .ok (.iload_n 1, 1) := by decide +kernel
theorem dX7_sees_2 : decode cX7_sees 2 = .ok (.ifCond .lt 22, 3) := by decide +kernel
theorem dX7_sees_5 : decode cX7_sees 5 = .ok (.iload_n 1, 1) := by decide +kernel
theorem dX7_sees_6 : decode cX7_sees 6 = .ok (.aload_n 0, 1) := by decide +kernel
theorem dX7_sees_7 : decode cX7_sees 7 = .ok (.getfield 65, 3) := by decide +kernel
theorem dX7_sees_10 : decode cX7_sees 10 = .ok (.if_icmp .ge 14, 3) := by decide +kernel
theorem dX7_sees_13 : decode cX7_sees 13 = .ok (.iload_n 2, 1) := by decide +kernel
theorem dX7_sees_14 : decode cX7_sees 14 = .ok (.invokestatic 72, 3) := by decide +kernel
theorem dX7_sees_17 : decode cX7_sees 17 = .ok (.ifCond .eq 7, 3) := by decide +kernel
theorem dX7_sees_20 : decode cX7_sees 20 = .ok (.iconst 1, 1) := by decide +kernel
theorem dX7_sees_21 : decode cX7_sees 21 = .ok (.goto 4, 3) := by decide +kernel
theorem dX7_sees_24 : decode cX7_sees 24 = .ok (.iconst 0, 1) := by decide +kernel
theorem dX7_sees_25 : decode cX7_sees 25 = .ok (.iconst 1, 1) := by decide +kernel
theorem dX7_sees_26 : decode cX7_sees 26 = .ok (.invokevirtual 61, 3) := by decide +kernel
theorem dX7_sees_29 : decode cX7_sees 29 = .ok (.ifCond .ne 16, 3) := by decide +kernel
theorem dX7_sees_32 : decode cX7_sees 32 = .ok (.aload_n 0, 1) := by decide +kernel
theorem dX7_sees_33 : decode cX7_sees 33 = .ok (.iload_n 1, 1) := by decide +kernel
theorem dX7_sees_34 : decode cX7_sees 34 = .ok (.iload_n 2, 1) := by decide +kernel
theorem dX7_sees_35 : decode cX7_sees 35 = .ok (.invokevirtual 142, 3) := by decide +kernel
theorem dX7_sees_38 : decode cX7_sees 38 = .ok (.ifCond .eq 7, 3) := by decide +kernel
theorem dX7_sees_41 : decode cX7_sees 41 = .ok (.iconst 1, 1) := by decide +kernel
theorem dX7_sees_42 : decode cX7_sees 42 = .ok (.goto 4, 3) := by decide +kernel
theorem dX7_sees_45 : decode cX7_sees 45 = .ok (.iconst 0, 1) := by decide +kernel
theorem dX7_sees_46 : decode cX7_sees 46 = .ok (.ireturn, 1) := by decide +kernel
theorem dX7_watches_0 : decode cX7_watches 0 = .ok (.iconst 0, 1) := by decide +kernel
theorem dX7_watches_1 : decode cX7_watches 1 = .ok (.istore_n 3, 1) := by decide +kernel
theorem dX7_watches_2 : decode cX7_watches 2 = .ok (.iload_n 3, 1) := by decide +kernel
theorem dX7_watches_3 : decode cX7_watches 3 = .ok (.aload_n 0, 1) := by decide +kernel
theorem dX7_watches_4 : decode cX7_watches 4 = .ok (.getfield 65, 3) := by decide +kernel
theorem dX7_watches_7 : decode cX7_watches 7 = .ok (.if_icmp .ge 30, 3) := by decide +kernel
theorem dX7_watches_10 : decode cX7_watches 10 = .ok (.aload_n 0, 1) := by decide +kernel
theorem dX7_watches_11 : decode cX7_watches 11 = .ok (.getfield 7, 3) := by decide +kernel
theorem dX7_watches_14 : decode cX7_watches 14 = .ok (.iload_n 3, 1) := by decide +kernel
theorem dX7_watches_15 : decode cX7_watches 15 = .ok (.iaload, 1) := by decide +kernel
theorem dX7_watches_16 : decode cX7_watches 16 = .ok (.iload_n 1, 1) := by decide +kernel
theorem dX7_watches_17 : decode cX7_watches 17 = .ok (.if_icmp .ne 14, 3) := by decide +kernel
theorem dX7_watches_20 : decode cX7_watches 20 = .ok (.aload_n 0, 1) := by decide +kernel
theorem dX7_watches_21 : decode cX7_watches 21 = .ok (.iload_n 3, 1) := by decide +kernel
theorem dX7_watches_22 : decode cX7_watches 22 = .ok (.iload_n 2, 1) := by decide +kernel
theorem dX7_watches_23 : decode cX7_watches 23 = .ok (.invokevirtual 142, 3) := by decide +kernel
theorem dX7_watches_26 : decode cX7_watches 26 = .ok (.ifCond .eq 5, 3) := by decide +kernel
theorem dX7_watches_29 : decode cX7_watches 29 = .ok (.iconst 1, 1) := by decide +kernel
theorem dX7_watches_30 : decode cX7_watches 30 = .ok (.ireturn, 1) := by decide +kernel
theorem dX7_watches_31 : decode cX7_watches 31 = .ok (.iinc 3 1, 3) := by decide +kernel
theorem dX7_watches_34 : decode cX7_watches 34 = .ok (.goto (-32), 3) := by decide +kernel
theorem dX7_watches_37 : decode cX7_watches 37 = .ok (.iconst 0, 1) := by decide +kernel
theorem dX7_watches_38 : decode cX7_watches 38 = .ok (.ireturn, 1) := by decide +kernel
theorem dX7_seen_0 : decode cX7_seen 0 = .ok (.aload_n 0, 1) := by decide +kernel
theorem dX7_seen_1 : decode cX7_seen 1 = .ok (.iload_n 1, 1) := by decide +kernel
theorem dX7_seen_2 : decode cX7_seen 2 = .ok (.invokevirtual 146, 3) := by decide +kernel
theorem dX7_seen_5 : decode cX7_seen 5 = .ok (.ifCond .eq 5, 3) := by decide +kernel
theorem dX7_seen_8 : decode cX7_seen 8 = .ok (.iconst 0, 1) := by decide +kernel
theorem dX7_seen_9 : decode cX7_seen 9 = .ok (.ireturn, 1) := by decide +kernel
theorem dX7_seen_10 : decode cX7_seen 10 = .ok (.iconst 0, 1) := by decide +kernel
theorem dX7_seen_11 : decode cX7_seen 11 = .ok (.istore_n 2, 1) := by decide +kernel
theorem dX7_seen_12 : decode cX7_seen 12 = .ok (.iconst 0, 1) := by decide +kernel
theorem dX7_seen_13 : decode cX7_seen 13 = .ok (.istore_n 3, 1) := by decide +kernel
theorem dX7_seen_14 : decode cX7_seen 14 = .ok (.iload_n 3, 1) := by decide +kernel
theorem dX7_seen_15 : decode cX7_seen 15 = .ok (.bipush 64, 2) := by decide +kernel
theorem dX7_seen_17 : decode cX7_seen 17 = .ok (.if_icmp .ge 26, 3) := by decide +kernel
theorem dX7_seen_20 : decode cX7_seen 20 = .ok (.iload_n 2, 1) := by decide +kernel
theorem dX7_seen_21 : decode cX7_seen 21 = .ok (.aload_n 0, 1) := by decide +kernel
theorem dX7_seen_22 : decode cX7_seen 22 = .ok (.iload_n 1, 1) := by decide +kernel
theorem dX7_seen_23 : decode cX7_seen 23 = .ok (.iload_n 3, 1) := by decide +kernel
theorem dX7_seen_24 : decode cX7_seen 24 = .ok (.invokevirtual 149, 3) := by decide +kernel
theorem dX7_seen_27 : decode cX7_seen 27 = .ok (.ifCond .eq 7, 3) := by decide +kernel
theorem dX7_seen_30 : decode cX7_seen 30 = .ok (.iconst 1, 1) := by decide +kernel
theorem dX7_seen_31 : decode cX7_seen 31 = .ok (.goto 4, 3) := by decide +kernel
theorem dX7_seen_34 : decode cX7_seen 34 = .ok (.iconst 0, 1) := by decide +kernel
theorem dX7_seen_35 : decode cX7_seen 35 = .ok (.iadd, 1) := by decide +kernel
theorem dX7_seen_36 : decode cX7_seen 36 = .ok (.istore_n 2, 1) := by decide +kernel
theorem dX7_seen_37 : decode cX7_seen 37 = .ok (.iinc 3 1, 3) := by decide +kernel
theorem dX7_seen_40 : decode cX7_seen 40 = .ok (.goto (-26), 3) := by decide +kernel
theorem dX7_seen_43 : decode cX7_seen 43 = .ok (.iload_n 2, 1) := by decide +kernel
theorem dX7_seen_44 : decode cX7_seen 44 = .ok (.ireturn, 1) := by decide +kernel
theorem dX7_turnOf_0 : decode cX7_turnOf 0 = .ok (.iload_n 0, 1) := by decide +kernel
theorem dX7_turnOf_1 : decode cX7_turnOf 1 = .ok (.ldc 152, 2) := by decide +kernel
theorem dX7_turnOf_3 : decode cX7_turnOf 3 = .ok (.idiv, 1) := by decide +kernel
theorem dX7_turnOf_4 : decode cX7_turnOf 4 = .ok (.ireturn, 1) := by decide +kernel
theorem dX7_cellIn_0 : decode cX7_cellIn 0 = .ok (.iload_n 0, 1) := by decide +kernel
theorem dX7_cellIn_1 : decode cX7_cellIn 1 = .ok (.sipush 1000, 3) := by decide +kernel
theorem dX7_cellIn_4 : decode cX7_cellIn 4 = .ok (.idiv, 1) := by decide +kernel
theorem dX7_cellIn_5 : decode cX7_cellIn 5 = .ok (.bipush 100, 2) := by decide +kernel
theorem dX7_cellIn_7 : decode cX7_cellIn 7 = .ok (.irem, 1) := by decide +kernel
theorem dX7_cellIn_8 : decode cX7_cellIn 8 = .ok (.ireturn, 1) := by decide +kernel
theorem dX7_unitIn_0 : decode cX7_unitIn 0 = .ok (.iload_n 0, 1) := by decide +kernel
theorem dX7_unitIn_1 : decode cX7_unitIn 1 = .ok (.sipush 1000, 3) := by decide +kernel
theorem dX7_unitIn_4 : decode cX7_unitIn 4 = .ok (.irem, 1) := by decide +kernel
theorem dX7_unitIn_5 : decode cX7_unitIn 5 = .ok (.ireturn, 1) := by decide +kernel
theorem dX7_adds_0 : decode cX7_adds 0 = .ok (.bipush 61, 2) := by decide +kernel
theorem dX7_adds_2 : decode cX7_adds 2 = .ok (.iload_n 1, 1) := by decide +kernel
theorem dX7_adds_3 : decode cX7_adds 3 = .ok (.imul, 1) := by decide +kernel
theorem dX7_adds_4 : decode cX7_adds 4 = .ok (.istore_n 3, 1) := by decide +kernel
theorem dX7_adds_5 : decode cX7_adds 5 = .ok (.aload_n 0, 1) := by decide +kernel
theorem dX7_adds_6 : decode cX7_adds 6 = .ok (.getfield 39, 3) := by decide +kernel
theorem dX7_adds_9 : decode cX7_adds 9 = .ok (.iload_n 1, 1) := by decide +kernel
theorem dX7_adds_10 : decode cX7_adds 10 = .ok (.iaload, 1) := by decide +kernel
theorem dX7_adds_11 : decode cX7_adds 11 = .ok (.istore 4, 2) := by decide +kernel
theorem dX7_adds_13 : decode cX7_adds 13 = .ok (.iconst 0, 1) := by decide +kernel
theorem dX7_adds_14 : decode cX7_adds 14 = .ok (.istore 5, 2) := by decide +kernel
theorem dX7_adds_16 : decode cX7_adds 16 = .ok (.iload 5, 2) := by decide +kernel
theorem dX7_adds_18 : decode cX7_adds 18 = .ok (.aload_n 0, 1) := by decide +kernel
theorem dX7_adds_19 : decode cX7_adds 19 = .ok (.getfield 39, 3) := by decide +kernel
theorem dX7_adds_22 : decode cX7_adds 22 = .ok (.iload_n 1, 1) := by decide +kernel
theorem dX7_adds_23 : decode cX7_adds 23 = .ok (.iaload, 1) := by decide +kernel
theorem dX7_adds_24 : decode cX7_adds 24 = .ok (.if_icmp .ge 48, 3) := by decide +kernel
theorem dX7_adds_27 : decode cX7_adds 27 = .ok (.aload_n 0, 1) := by decide +kernel
theorem dX7_adds_28 : decode cX7_adds 28 = .ok (.getfield 36, 3) := by decide +kernel
theorem dX7_adds_31 : decode cX7_adds 31 = .ok (.iload_n 3, 1) := by decide +kernel
theorem dX7_adds_32 : decode cX7_adds 32 = .ok (.iload 5, 2) := by decide +kernel
theorem dX7_adds_34 : decode cX7_adds 34 = .ok (.iadd, 1) := by decide +kernel
theorem dX7_adds_35 : decode cX7_adds 35 = .ok (.iaload, 1) := by decide +kernel
theorem dX7_adds_36 : decode cX7_adds 36 = .ok (.invokestatic 153, 3) := by decide +kernel
theorem dX7_adds_39 : decode cX7_adds 39 = .ok (.iload_n 2, 1) := by decide +kernel
theorem dX7_adds_40 : decode cX7_adds 40 = .ok (.invokestatic 153, 3) := by decide +kernel
theorem dX7_adds_43 : decode cX7_adds 43 = .ok (.if_icmp .ne 23, 3) := by decide +kernel
theorem dX7_adds_46 : decode cX7_adds 46 = .ok (.aload_n 0, 1) := by decide +kernel
theorem dX7_adds_47 : decode cX7_adds 47 = .ok (.getfield 36, 3) := by decide +kernel
theorem dX7_adds_50 : decode cX7_adds 50 = .ok (.iload_n 3, 1) := by decide +kernel
theorem dX7_adds_51 : decode cX7_adds 51 = .ok (.iload 5, 2) := by decide +kernel
theorem dX7_adds_53 : decode cX7_adds 53 = .ok (.iadd, 1) := by decide +kernel
theorem dX7_adds_54 : decode cX7_adds 54 = .ok (.iaload, 1) := by decide +kernel
theorem dX7_adds_55 : decode cX7_adds 55 = .ok (.invokestatic 156, 3) := by decide +kernel
theorem dX7_adds_58 : decode cX7_adds 58 = .ok (.iload_n 2, 1) := by decide +kernel
theorem dX7_adds_59 : decode cX7_adds 59 = .ok (.invokestatic 156, 3) := by decide +kernel
theorem dX7_adds_62 : decode cX7_adds 62 = .ok (.if_icmp .ne 4, 3) := by decide +kernel
theorem dX7_adds_65 : decode cX7_adds 65 = .ok (.return_, 1) := by decide +kernel
theorem dX7_adds_66 : decode cX7_adds 66 = .ok (.iinc 5 1, 3) := by decide +kernel
theorem dX7_adds_69 : decode cX7_adds 69 = .ok (.goto (-53), 3) := by decide +kernel
theorem dX7_adds_72 : decode cX7_adds 72 = .ok (.iload 4, 2) := by decide +kernel
theorem dX7_adds_74 : decode cX7_adds 74 = .ok (.ifCond .le 47, 3) := by decide +kernel
theorem dX7_adds_77 : decode cX7_adds 77 = .ok (.aload_n 0, 1) := by decide +kernel
theorem dX7_adds_78 : decode cX7_adds 78 = .ok (.getfield 36, 3) := by decide +kernel
theorem dX7_adds_81 : decode cX7_adds 81 = .ok (.iload_n 3, 1) := by decide +kernel
theorem dX7_adds_82 : decode cX7_adds 82 = .ok (.iload 4, 2) := by decide +kernel
theorem dX7_adds_84 : decode cX7_adds 84 = .ok (.iadd, 1) := by decide +kernel
theorem dX7_adds_85 : decode cX7_adds 85 = .ok (.iconst 1, 1) := by decide +kernel
theorem dX7_adds_86 : decode cX7_adds 86 = .ok (.isub, 1) := by decide +kernel
theorem dX7_adds_87 : decode cX7_adds 87 = .ok (.iaload, 1) := by decide +kernel
theorem dX7_adds_88 : decode cX7_adds 88 = .ok (.iload_n 2, 1) := by decide +kernel
theorem dX7_adds_89 : decode cX7_adds 89 = .ok (.invokestatic 159, 3) := by decide +kernel
theorem dX7_adds_92 : decode cX7_adds 92 = .ok (.ifCond .eq 29, 3) := by decide +kernel
theorem dX7_adds_95 : decode cX7_adds 95 = .ok (.aload_n 0, 1) := by decide +kernel
theorem dX7_adds_96 : decode cX7_adds 96 = .ok (.getfield 36, 3) := by decide +kernel
theorem dX7_adds_99 : decode cX7_adds 99 = .ok (.iload_n 3, 1) := by decide +kernel
theorem dX7_adds_100 : decode cX7_adds 100 = .ok (.iload 4, 2) := by decide +kernel
theorem dX7_adds_102 : decode cX7_adds 102 = .ok (.iadd, 1) := by decide +kernel
theorem dX7_adds_103 : decode cX7_adds 103 = .ok (.aload_n 0, 1) := by decide +kernel
theorem dX7_adds_104 : decode cX7_adds 104 = .ok (.getfield 36, 3) := by decide +kernel
theorem dX7_adds_107 : decode cX7_adds 107 = .ok (.iload_n 3, 1) := by decide +kernel
theorem dX7_adds_108 : decode cX7_adds 108 = .ok (.iload 4, 2) := by decide +kernel
theorem dX7_adds_110 : decode cX7_adds 110 = .ok (.iadd, 1) := by decide +kernel
theorem dX7_adds_111 : decode cX7_adds 111 = .ok (.iconst 1, 1) := by decide +kernel
theorem dX7_adds_112 : decode cX7_adds 112 = .ok (.isub, 1) := by decide +kernel
theorem dX7_adds_113 : decode cX7_adds 113 = .ok (.iaload, 1) := by decide +kernel
theorem dX7_adds_114 : decode cX7_adds 114 = .ok (.iastore, 1) := by decide +kernel
theorem dX7_adds_115 : decode cX7_adds 115 = .ok (.iinc 4 (-1), 3) := by decide +kernel
theorem dX7_adds_118 : decode cX7_adds 118 = .ok (.goto (-46), 3) := by decide +kernel
theorem dX7_adds_121 : decode cX7_adds 121 = .ok (.aload_n 0, 1) := by decide +kernel
theorem dX7_adds_122 : decode cX7_adds 122 = .ok (.getfield 36, 3) := by decide +kernel
theorem dX7_adds_125 : decode cX7_adds 125 = .ok (.iload_n 3, 1) := by decide +kernel
theorem dX7_adds_126 : decode cX7_adds 126 = .ok (.iload 4, 2) := by decide +kernel
theorem dX7_adds_128 : decode cX7_adds 128 = .ok (.iadd, 1) := by decide +kernel
theorem dX7_adds_129 : decode cX7_adds 129 = .ok (.iload_n 2, 1) := by decide +kernel
theorem dX7_adds_130 : decode cX7_adds 130 = .ok (.iastore, 1) := by decide +kernel
theorem dX7_adds_131 : decode cX7_adds 131 = .ok (.aload_n 0, 1) := by decide +kernel
theorem dX7_adds_132 : decode cX7_adds 132 = .ok (.getfield 39, 3) := by decide +kernel
theorem dX7_adds_135 : decode cX7_adds 135 = .ok (.iload_n 1, 1) := by decide +kernel
theorem dX7_adds_136 : decode cX7_adds 136 = .ok (.dup2, 1) := by decide +kernel
theorem dX7_adds_137 : decode cX7_adds 137 = .ok (.iaload, 1) := by decide +kernel
theorem dX7_adds_138 : decode cX7_adds 138 = .ok (.iconst 1, 1) := by decide +kernel
theorem dX7_adds_139 : decode cX7_adds 139 = .ok (.iadd, 1) := by decide +kernel
theorem dX7_adds_140 : decode cX7_adds 140 = .ok (.iastore, 1) := by decide +kernel
theorem dX7_adds_141 : decode cX7_adds 141 = .ok (.aload_n 0, 1) := by decide +kernel
theorem dX7_adds_142 : decode cX7_adds 142 = .ok (.getfield 39, 3) := by decide +kernel
theorem dX7_adds_145 : decode cX7_adds 145 = .ok (.iload_n 1, 1) := by decide +kernel
theorem dX7_adds_146 : decode cX7_adds 146 = .ok (.iaload, 1) := by decide +kernel
theorem dX7_adds_147 : decode cX7_adds 147 = .ok (.bipush 60, 2) := by decide +kernel
theorem dX7_adds_149 : decode cX7_adds 149 = .ok (.if_icmp .gt 4, 3) := by decide +kernel
theorem dX7_adds_152 : decode cX7_adds 152 = .ok (.return_, 1) := by decide +kernel
theorem dX7_adds_153 : decode cX7_adds 153 = .ok (.aload_n 0, 1) := by decide +kernel
theorem dX7_adds_154 : decode cX7_adds 154 = .ok (.getfield 39, 3) := by decide +kernel
theorem dX7_adds_157 : decode cX7_adds 157 = .ok (.iload_n 1, 1) := by decide +kernel
theorem dX7_adds_158 : decode cX7_adds 158 = .ok (.dup2, 1) := by decide +kernel
theorem dX7_adds_159 : decode cX7_adds 159 = .ok (.iaload, 1) := by decide +kernel
theorem dX7_adds_160 : decode cX7_adds 160 = .ok (.iconst 1, 1) := by decide +kernel
theorem dX7_adds_161 : decode cX7_adds 161 = .ok (.isub, 1) := by decide +kernel
theorem dX7_adds_162 : decode cX7_adds 162 = .ok (.iastore, 1) := by decide +kernel
theorem dX7_adds_163 : decode cX7_adds 163 = .ok (.iconst 0, 1) := by decide +kernel
theorem dX7_adds_164 : decode cX7_adds 164 = .ok (.istore 5, 2) := by decide +kernel
theorem dX7_adds_166 : decode cX7_adds 166 = .ok (.iload 5, 2) := by decide +kernel
theorem dX7_adds_168 : decode cX7_adds 168 = .ok (.bipush 60, 2) := by decide +kernel
theorem dX7_adds_170 : decode cX7_adds 170 = .ok (.if_icmp .ge 29, 3) := by decide +kernel
theorem dX7_adds_173 : decode cX7_adds 173 = .ok (.aload_n 0, 1) := by decide +kernel
theorem dX7_adds_174 : decode cX7_adds 174 = .ok (.getfield 36, 3) := by decide +kernel
theorem dX7_adds_177 : decode cX7_adds 177 = .ok (.iload_n 3, 1) := by decide +kernel
theorem dX7_adds_178 : decode cX7_adds 178 = .ok (.iload 5, 2) := by decide +kernel
theorem dX7_adds_180 : decode cX7_adds 180 = .ok (.iadd, 1) := by decide +kernel
theorem dX7_adds_181 : decode cX7_adds 181 = .ok (.aload_n 0, 1) := by decide +kernel
theorem dX7_adds_182 : decode cX7_adds 182 = .ok (.getfield 36, 3) := by decide +kernel
theorem dX7_adds_185 : decode cX7_adds 185 = .ok (.iload_n 3, 1) := by decide +kernel
theorem dX7_adds_186 : decode cX7_adds 186 = .ok (.iload 5, 2) := by decide +kernel
theorem dX7_adds_188 : decode cX7_adds 188 = .ok (.iadd, 1) := by decide +kernel
theorem dX7_adds_189 : decode cX7_adds 189 = .ok (.iconst 1, 1) := by decide +kernel
theorem dX7_adds_190 : decode cX7_adds 190 = .ok (.iadd, 1) := by decide +kernel
theorem dX7_adds_191 : decode cX7_adds 191 = .ok (.iaload, 1) := by decide +kernel
theorem dX7_adds_192 : decode cX7_adds 192 = .ok (.iastore, 1) := by decide +kernel
theorem dX7_adds_193 : decode cX7_adds 193 = .ok (.iinc 5 1, 3) := by decide +kernel
theorem dX7_adds_196 : decode cX7_adds 196 = .ok (.goto (-30), 3) := by decide +kernel
theorem dX7_adds_199 : decode cX7_adds 199 = .ok (.return_, 1) := by decide +kernel
theorem dX7_isBehind_0 : decode cX7_isBehind 0 = .ok (.iload_n 0, 1) := by decide +kernel
theorem dX7_isBehind_1 : decode cX7_isBehind 1 = .ok (.invokestatic 153, 3) := by decide +kernel
theorem dX7_isBehind_4 : decode cX7_isBehind 4 = .ok (.iload_n 1, 1) := by decide +kernel
theorem dX7_isBehind_5 : decode cX7_isBehind 5 = .ok (.invokestatic 153, 3) := by decide +kernel
theorem dX7_isBehind_8 : decode cX7_isBehind 8 = .ok (.if_icmp .gt 25, 3) := by decide +kernel
theorem dX7_isBehind_11 : decode cX7_isBehind 11 = .ok (.iload_n 0, 1) := by decide +kernel
theorem dX7_isBehind_12 : decode cX7_isBehind 12 = .ok (.invokestatic 153, 3) := by decide +kernel
theorem dX7_isBehind_15 : decode cX7_isBehind 15 = .ok (.iload_n 1, 1) := by decide +kernel
theorem dX7_isBehind_16 : decode cX7_isBehind 16 = .ok (.invokestatic 153, 3) := by decide +kernel
theorem dX7_isBehind_19 : decode cX7_isBehind 19 = .ok (.if_icmp .ne 18, 3) := by decide +kernel
theorem dX7_isBehind_22 : decode cX7_isBehind 22 = .ok (.iload_n 0, 1) := by decide +kernel
theorem dX7_isBehind_23 : decode cX7_isBehind 23 = .ok (.invokestatic 156, 3) := by decide +kernel
theorem dX7_isBehind_26 : decode cX7_isBehind 26 = .ok (.iload_n 1, 1) := by decide +kernel
theorem dX7_isBehind_27 : decode cX7_isBehind 27 = .ok (.invokestatic 156, 3) := by decide +kernel
theorem dX7_isBehind_30 : decode cX7_isBehind 30 = .ok (.if_icmp .le 7, 3) := by decide +kernel
theorem dX7_isBehind_33 : decode cX7_isBehind 33 = .ok (.iconst 1, 1) := by decide +kernel
theorem dX7_isBehind_34 : decode cX7_isBehind 34 = .ok (.goto 4, 3) := by decide +kernel
theorem dX7_isBehind_37 : decode cX7_isBehind 37 = .ok (.iconst 0, 1) := by decide +kernel
theorem dX7_isBehind_38 : decode cX7_isBehind 38 = .ok (.ireturn, 1) := by decide +kernel
theorem dX7_sights_0 : decode cX7_sights 0 = .ok (.iconst 0, 1) := by decide +kernel
theorem dX7_sights_1 : decode cX7_sights 1 = .ok (.istore_n 1, 1) := by decide +kernel
theorem dX7_sights_2 : decode cX7_sights 2 = .ok (.iload_n 1, 1) := by decide +kernel
theorem dX7_sights_3 : decode cX7_sights 3 = .ok (.iconst 4, 1) := by decide +kernel
theorem dX7_sights_4 : decode cX7_sights 4 = .ok (.if_icmp .ge 44, 3) := by decide +kernel
theorem dX7_sights_7 : decode cX7_sights 7 = .ok (.iconst 0, 1) := by decide +kernel
theorem dX7_sights_8 : decode cX7_sights 8 = .ok (.istore_n 2, 1) := by decide +kernel
theorem dX7_sights_9 : decode cX7_sights 9 = .ok (.iload_n 2, 1) := by decide +kernel
theorem dX7_sights_10 : decode cX7_sights 10 = .ok (.aload_n 0, 1) := by decide +kernel
theorem dX7_sights_11 : decode cX7_sights 11 = .ok (.getfield 65, 3) := by decide +kernel
theorem dX7_sights_14 : decode cX7_sights 14 = .ok (.if_icmp .ge 28, 3) := by decide +kernel
theorem dX7_sights_17 : decode cX7_sights 17 = .ok (.aload_n 0, 1) := by decide +kernel
theorem dX7_sights_18 : decode cX7_sights 18 = .ok (.iload_n 1, 1) := by decide +kernel
theorem dX7_sights_19 : decode cX7_sights 19 = .ok (.iload_n 2, 1) := by decide +kernel
theorem dX7_sights_20 : decode cX7_sights 20 = .ok (.invokevirtual 162, 3) := by decide +kernel
theorem dX7_sights_23 : decode cX7_sights 23 = .ok (.ifCond .eq 13, 3) := by decide +kernel
theorem dX7_sights_26 : decode cX7_sights 26 = .ok (.aload_n 0, 1) := by decide +kernel
theorem dX7_sights_27 : decode cX7_sights 27 = .ok (.iload_n 1, 1) := by decide +kernel
theorem dX7_sights_28 : decode cX7_sights 28 = .ok (.aload_n 0, 1) := by decide +kernel
theorem dX7_sights_29 : decode cX7_sights 29 = .ok (.iload_n 2, 1) := by decide +kernel
theorem dX7_sights_30 : decode cX7_sights 30 = .ok (.invokevirtual 165, 3) := by decide +kernel
theorem dX7_sights_33 : decode cX7_sights 33 = .ok (.invokevirtual 168, 3) := by decide +kernel
theorem dX7_sights_36 : decode cX7_sights 36 = .ok (.iinc 2 1, 3) := by decide +kernel
theorem dX7_sights_39 : decode cX7_sights 39 = .ok (.goto (-30), 3) := by decide +kernel
theorem dX7_sights_42 : decode cX7_sights 42 = .ok (.iinc 1 1, 3) := by decide +kernel
theorem dX7_sights_45 : decode cX7_sights 45 = .ok (.goto (-43), 3) := by decide +kernel
theorem dX7_sights_48 : decode cX7_sights 48 = .ok (.iconst 0, 1) := by decide +kernel
theorem dX7_sights_49 : decode cX7_sights 49 = .ok (.istore_n 1, 1) := by decide +kernel
theorem dX7_sights_50 : decode cX7_sights 50 = .ok (.iload_n 1, 1) := by decide +kernel
theorem dX7_sights_51 : decode cX7_sights 51 = .ok (.iconst 4, 1) := by decide +kernel
theorem dX7_sights_52 : decode cX7_sights 52 = .ok (.if_icmp .ge 88, 3) := by decide +kernel
theorem dX7_sights_55 : decode cX7_sights 55 = .ok (.iconst 0, 1) := by decide +kernel
theorem dX7_sights_56 : decode cX7_sights 56 = .ok (.istore_n 2, 1) := by decide +kernel
theorem dX7_sights_57 : decode cX7_sights 57 = .ok (.iload_n 2, 1) := by decide +kernel
theorem dX7_sights_58 : decode cX7_sights 58 = .ok (.iconst 4, 1) := by decide +kernel
theorem dX7_sights_59 : decode cX7_sights 59 = .ok (.if_icmp .ge 75, 3) := by decide +kernel
theorem dX7_sights_62 : decode cX7_sights 62 = .ok (.iload_n 2, 1) := by decide +kernel
theorem dX7_sights_63 : decode cX7_sights 63 = .ok (.iload_n 1, 1) := by decide +kernel
theorem dX7_sights_64 : decode cX7_sights 64 = .ok (.if_icmp .eq 64, 3) := by decide +kernel
theorem dX7_sights_67 : decode cX7_sights 67 = .ok (.aload_n 0, 1) := by decide +kernel
theorem dX7_sights_68 : decode cX7_sights 68 = .ok (.getfield 32, 3) := by decide +kernel
theorem dX7_sights_71 : decode cX7_sights 71 = .ok (.iconst 4, 1) := by decide +kernel
theorem dX7_sights_72 : decode cX7_sights 72 = .ok (.iload_n 1, 1) := by decide +kernel
theorem dX7_sights_73 : decode cX7_sights 73 = .ok (.imul, 1) := by decide +kernel
theorem dX7_sights_74 : decode cX7_sights 74 = .ok (.iload_n 2, 1) := by decide +kernel
theorem dX7_sights_75 : decode cX7_sights 75 = .ok (.iadd, 1) := by decide +kernel
theorem dX7_sights_76 : decode cX7_sights 76 = .ok (.baload, 1) := by decide +kernel
theorem dX7_sights_77 : decode cX7_sights 77 = .ok (.ifCond .ne 6, 3) := by decide +kernel
theorem dX7_sights_80 : decode cX7_sights 80 = .ok (.goto 48, 3) := by decide +kernel
theorem dX7_sights_83 : decode cX7_sights 83 = .ok (.iconst 0, 1) := by decide +kernel
theorem dX7_sights_84 : decode cX7_sights 84 = .ok (.istore_n 3, 1) := by decide +kernel
theorem dX7_sights_85 : decode cX7_sights 85 = .ok (.iload_n 3, 1) := by decide +kernel
theorem dX7_sights_86 : decode cX7_sights 86 = .ok (.aload_n 0, 1) := by decide +kernel
theorem dX7_sights_87 : decode cX7_sights 87 = .ok (.getfield 65, 3) := by decide +kernel
theorem dX7_sights_90 : decode cX7_sights 90 = .ok (.if_icmp .ge 38, 3) := by decide +kernel
theorem dX7_sights_93 : decode cX7_sights 93 = .ok (.aload_n 0, 1) := by decide +kernel
theorem dX7_sights_94 : decode cX7_sights 94 = .ok (.getfield 7, 3) := by decide +kernel
theorem dX7_sights_97 : decode cX7_sights 97 = .ok (.iload_n 3, 1) := by decide +kernel
theorem dX7_sights_98 : decode cX7_sights 98 = .ok (.iaload, 1) := by decide +kernel
theorem dX7_sights_99 : decode cX7_sights 99 = .ok (.iload_n 1, 1) := by decide +kernel
theorem dX7_sights_100 : decode cX7_sights 100 = .ok (.if_icmp .eq 22, 3) := by decide +kernel
theorem dX7_sights_103 : decode cX7_sights 103 = .ok (.aload_n 0, 1) := by decide +kernel
theorem dX7_sights_104 : decode cX7_sights 104 = .ok (.iload_n 2, 1) := by decide +kernel
theorem dX7_sights_105 : decode cX7_sights 105 = .ok (.iload_n 3, 1) := by decide +kernel
theorem dX7_sights_106 : decode cX7_sights 106 = .ok (.invokevirtual 162, 3) := by decide +kernel
theorem dX7_sights_109 : decode cX7_sights 109 = .ok (.ifCond .eq 13, 3) := by decide +kernel
theorem dX7_sights_112 : decode cX7_sights 112 = .ok (.aload_n 0, 1) := by decide +kernel
theorem dX7_sights_113 : decode cX7_sights 113 = .ok (.iload_n 1, 1) := by decide +kernel
theorem dX7_sights_114 : decode cX7_sights 114 = .ok (.aload_n 0, 1) := by decide +kernel
theorem dX7_sights_115 : decode cX7_sights 115 = .ok (.iload_n 3, 1) := by decide +kernel
theorem dX7_sights_116 : decode cX7_sights 116 = .ok (.invokevirtual 165, 3) := by decide +kernel
theorem dX7_sights_119 : decode cX7_sights 119 = .ok (.invokevirtual 168, 3) := by decide +kernel
theorem dX7_sights_122 : decode cX7_sights 122 = .ok (.iinc 3 1, 3) := by decide +kernel
theorem dX7_sights_125 : decode cX7_sights 125 = .ok (.goto (-40), 3) := by decide +kernel
theorem dX7_sights_128 : decode cX7_sights 128 = .ok (.iinc 2 1, 3) := by decide +kernel
theorem dX7_sights_131 : decode cX7_sights 131 = .ok (.goto (-74), 3) := by decide +kernel
theorem dX7_sights_134 : decode cX7_sights 134 = .ok (.iinc 1 1, 3) := by decide +kernel
theorem dX7_sights_137 : decode cX7_sights 137 = .ok (.goto (-87), 3) := by decide +kernel
theorem dX7_sights_140 : decode cX7_sights 140 = .ok (.return_, 1) := by decide +kernel
theorem dX7_isSighted_0 : decode cX7_isSighted 0 = .ok (.aload_n 0, 1) := by decide +kernel
theorem dX7_isSighted_1 : decode cX7_isSighted 1 = .ok (.getfield 13, 3) := by decide +kernel
theorem dX7_isSighted_4 : decode cX7_isSighted 4 = .ok (.iload_n 2, 1) := by decide +kernel
theorem dX7_isSighted_5 : decode cX7_isSighted 5 = .ok (.iaload, 1) := by decide +kernel
theorem dX7_isSighted_6 : decode cX7_isSighted 6 = .ok (.iconst (-1), 1) := by decide +kernel
theorem dX7_isSighted_7 : decode cX7_isSighted 7 = .ok (.if_icmp .eq 31, 3) := by decide +kernel
theorem dX7_isSighted_10 : decode cX7_isSighted 10 = .ok (.aload_n 0, 1) := by decide +kernel
theorem dX7_isSighted_11 : decode cX7_isSighted 11 = .ok (.getfield 7, 3) := by decide +kernel
theorem dX7_isSighted_14 : decode cX7_isSighted 14 = .ok (.iload_n 2, 1) := by decide +kernel
theorem dX7_isSighted_15 : decode cX7_isSighted 15 = .ok (.iaload, 1) := by decide +kernel
theorem dX7_isSighted_16 : decode cX7_isSighted 16 = .ok (.iload_n 1, 1) := by decide +kernel
theorem dX7_isSighted_17 : decode cX7_isSighted 17 = .ok (.if_icmp .eq 21, 3) := by decide +kernel
theorem dX7_isSighted_20 : decode cX7_isSighted 20 = .ok (.aload_n 0, 1) := by decide +kernel
theorem dX7_isSighted_21 : decode cX7_isSighted 21 = .ok (.iload_n 1, 1) := by decide +kernel
theorem dX7_isSighted_22 : decode cX7_isSighted 22 = .ok (.aload_n 0, 1) := by decide +kernel
theorem dX7_isSighted_23 : decode cX7_isSighted 23 = .ok (.getfield 13, 3) := by decide +kernel
theorem dX7_isSighted_26 : decode cX7_isSighted 26 = .ok (.iload_n 2, 1) := by decide +kernel
theorem dX7_isSighted_27 : decode cX7_isSighted 27 = .ok (.iaload, 1) := by decide +kernel
theorem dX7_isSighted_28 : decode cX7_isSighted 28 = .ok (.invokevirtual 149, 3) := by decide +kernel
theorem dX7_isSighted_31 : decode cX7_isSighted 31 = .ok (.ifCond .eq 7, 3) := by decide +kernel
theorem dX7_isSighted_34 : decode cX7_isSighted 34 = .ok (.iconst 1, 1) := by decide +kernel
theorem dX7_isSighted_35 : decode cX7_isSighted 35 = .ok (.goto 4, 3) := by decide +kernel
theorem dX7_isSighted_38 : decode cX7_isSighted 38 = .ok (.iconst 0, 1) := by decide +kernel
theorem dX7_isSighted_39 : decode cX7_isSighted 39 = .ok (.ireturn, 1) := by decide +kernel
theorem dX7_numberOf_0 : decode cX7_numberOf 0 = .ok (.ldc 152, 2) := by decide +kernel
theorem dX7_numberOf_2 : decode cX7_numberOf 2 = .ok (.aload_n 0, 1) := by decide +kernel
theorem dX7_numberOf_3 : decode cX7_numberOf 3 = .ok (.getfield 84, 3) := by decide +kernel
theorem dX7_numberOf_6 : decode cX7_numberOf 6 = .ok (.imul, 1) := by decide +kernel
theorem dX7_numberOf_7 : decode cX7_numberOf 7 = .ok (.sipush 1000, 3) := by decide +kernel
theorem dX7_numberOf_10 : decode cX7_numberOf 10 = .ok (.aload_n 0, 1) := by decide +kernel
theorem dX7_numberOf_11 : decode cX7_numberOf 11 = .ok (.getfield 13, 3) := by decide +kernel
theorem dX7_numberOf_14 : decode cX7_numberOf 14 = .ok (.iload_n 1, 1) := by decide +kernel
theorem dX7_numberOf_15 : decode cX7_numberOf 15 = .ok (.iaload, 1) := by decide +kernel
theorem dX7_numberOf_16 : decode cX7_numberOf 16 = .ok (.imul, 1) := by decide +kernel
theorem dX7_numberOf_17 : decode cX7_numberOf 17 = .ok (.iadd, 1) := by decide +kernel
theorem dX7_numberOf_18 : decode cX7_numberOf 18 = .ok (.iload_n 1, 1) := by decide +kernel
theorem dX7_numberOf_19 : decode cX7_numberOf 19 = .ok (.iadd, 1) := by decide +kernel
theorem dX7_numberOf_20 : decode cX7_numberOf 20 = .ok (.ireturn, 1) := by decide +kernel
theorem dX7_setTreaty_0 : decode cX7_setTreaty 0 = .ok (.aload_n 0, 1) := by decide +kernel
theorem dX7_setTreaty_1 : decode cX7_setTreaty 1 = .ok (.iload_n 1, 1) := by decide +kernel
theorem dX7_setTreaty_2 : decode cX7_setTreaty 2 = .ok (.ifCond .lt 21, 3) := by decide +kernel
theorem dX7_setTreaty_5 : decode cX7_setTreaty 5 = .ok (.iload_n 1, 1) := by decide +kernel
theorem dX7_setTreaty_6 : decode cX7_setTreaty 6 = .ok (.iconst 4, 1) := by decide +kernel
theorem dX7_setTreaty_7 : decode cX7_setTreaty 7 = .ok (.if_icmp .ge 16, 3) := by decide +kernel
theorem dX7_setTreaty_10 : decode cX7_setTreaty 10 = .ok (.iload_n 2, 1) := by decide +kernel
theorem dX7_setTreaty_11 : decode cX7_setTreaty 11 = .ok (.ifCond .lt 12, 3) := by decide +kernel
theorem dX7_setTreaty_14 : decode cX7_setTreaty 14 = .ok (.iload_n 2, 1) := by decide +kernel
theorem dX7_setTreaty_15 : decode cX7_setTreaty 15 = .ok (.iconst 4, 1) := by decide +kernel
theorem dX7_setTreaty_16 : decode cX7_setTreaty 16 = .ok (.if_icmp .ge 7, 3) := by decide +kernel
theorem dX7_setTreaty_19 : decode cX7_setTreaty 19 = .ok (.iconst 1, 1) := by decide +kernel
theorem dX7_setTreaty_20 : decode cX7_setTreaty 20 = .ok (.goto 4, 3) := by decide +kernel
theorem dX7_setTreaty_23 : decode cX7_setTreaty 23 = .ok (.iconst 0, 1) := by decide +kernel
theorem dX7_setTreaty_24 : decode cX7_setTreaty 24 = .ok (.iconst 1, 1) := by decide +kernel
theorem dX7_setTreaty_25 : decode cX7_setTreaty 25 = .ok (.invokevirtual 61, 3) := by decide +kernel
theorem dX7_setTreaty_28 : decode cX7_setTreaty 28 = .ok (.ifCond .ne 21, 3) := by decide +kernel
theorem dX7_setTreaty_31 : decode cX7_setTreaty 31 = .ok (.aload_n 0, 1) := by decide +kernel
theorem dX7_setTreaty_32 : decode cX7_setTreaty 32 = .ok (.iload_n 1, 1) := by decide +kernel
theorem dX7_setTreaty_33 : decode cX7_setTreaty 33 = .ok (.iload_n 2, 1) := by decide +kernel
theorem dX7_setTreaty_34 : decode cX7_setTreaty 34 = .ok (.if_icmp .eq 7, 3) := by decide +kernel
theorem dX7_setTreaty_37 : decode cX7_setTreaty 37 = .ok (.iconst 1, 1) := by decide +kernel
theorem dX7_setTreaty_38 : decode cX7_setTreaty 38 = .ok (.goto 4, 3) := by decide +kernel
theorem dX7_setTreaty_41 : decode cX7_setTreaty 41 = .ok (.iconst 0, 1) := by decide +kernel
theorem dX7_setTreaty_42 : decode cX7_setTreaty 42 = .ok (.iconst 2, 1) := by decide +kernel
theorem dX7_setTreaty_43 : decode cX7_setTreaty 43 = .ok (.invokevirtual 61, 3) := by decide +kernel
theorem dX7_setTreaty_46 : decode cX7_setTreaty 46 = .ok (.ifCond .eq 5, 3) := by decide +kernel
theorem dX7_setTreaty_49 : decode cX7_setTreaty 49 = .ok (.iconst 0, 1) := by decide +kernel
theorem dX7_setTreaty_50 : decode cX7_setTreaty 50 = .ok (.ireturn, 1) := by decide +kernel
theorem dX7_setTreaty_51 : decode cX7_setTreaty 51 = .ok (.aload_n 0, 1) := by decide +kernel
theorem dX7_setTreaty_52 : decode cX7_setTreaty 52 = .ok (.getfield 32, 3) := by decide +kernel
theorem dX7_setTreaty_55 : decode cX7_setTreaty 55 = .ok (.iconst 4, 1) := by decide +kernel
theorem dX7_setTreaty_56 : decode cX7_setTreaty 56 = .ok (.iload_n 1, 1) := by decide +kernel
theorem dX7_setTreaty_57 : decode cX7_setTreaty 57 = .ok (.imul, 1) := by decide +kernel
theorem dX7_setTreaty_58 : decode cX7_setTreaty 58 = .ok (.iload_n 2, 1) := by decide +kernel
theorem dX7_setTreaty_59 : decode cX7_setTreaty 59 = .ok (.iadd, 1) := by decide +kernel
theorem dX7_setTreaty_60 : decode cX7_setTreaty 60 = .ok (.baload, 1) := by decide +kernel
theorem dX7_setTreaty_61 : decode cX7_setTreaty 61 = .ok (.istore 4, 2) := by decide +kernel
theorem dX7_setTreaty_63 : decode cX7_setTreaty 63 = .ok (.aload_n 0, 1) := by decide +kernel
theorem dX7_setTreaty_64 : decode cX7_setTreaty 64 = .ok (.getfield 32, 3) := by decide +kernel
theorem dX7_setTreaty_67 : decode cX7_setTreaty 67 = .ok (.iconst 4, 1) := by decide +kernel
theorem dX7_setTreaty_68 : decode cX7_setTreaty 68 = .ok (.iload_n 1, 1) := by decide +kernel
theorem dX7_setTreaty_69 : decode cX7_setTreaty 69 = .ok (.imul, 1) := by decide +kernel
theorem dX7_setTreaty_70 : decode cX7_setTreaty 70 = .ok (.iload_n 2, 1) := by decide +kernel
theorem dX7_setTreaty_71 : decode cX7_setTreaty 71 = .ok (.iadd, 1) := by decide +kernel
theorem dX7_setTreaty_72 : decode cX7_setTreaty 72 = .ok (.iload_n 3, 1) := by decide +kernel
theorem dX7_setTreaty_73 : decode cX7_setTreaty 73 = .ok (.bastore, 1) := by decide +kernel
theorem dX7_setTreaty_74 : decode cX7_setTreaty 74 = .ok (.aload_n 0, 1) := by decide +kernel
theorem dX7_setTreaty_75 : decode cX7_setTreaty 75 = .ok (.getfield 32, 3) := by decide +kernel
theorem dX7_setTreaty_78 : decode cX7_setTreaty 78 = .ok (.iconst 4, 1) := by decide +kernel
theorem dX7_setTreaty_79 : decode cX7_setTreaty 79 = .ok (.iload_n 2, 1) := by decide +kernel
theorem dX7_setTreaty_80 : decode cX7_setTreaty 80 = .ok (.imul, 1) := by decide +kernel
theorem dX7_setTreaty_81 : decode cX7_setTreaty 81 = .ok (.iload_n 1, 1) := by decide +kernel
theorem dX7_setTreaty_82 : decode cX7_setTreaty 82 = .ok (.iadd, 1) := by decide +kernel
theorem dX7_setTreaty_83 : decode cX7_setTreaty 83 = .ok (.iload_n 3, 1) := by decide +kernel
theorem dX7_setTreaty_84 : decode cX7_setTreaty 84 = .ok (.bastore, 1) := by decide +kernel
theorem dX7_setTreaty_85 : decode cX7_setTreaty 85 = .ok (.aload_n 0, 1) := by decide +kernel
theorem dX7_setTreaty_86 : decode cX7_setTreaty 86 = .ok (.getfield 54, 3) := by decide +kernel
theorem dX7_setTreaty_89 : decode cX7_setTreaty 89 = .ok (.iconst 4, 1) := by decide +kernel
theorem dX7_setTreaty_90 : decode cX7_setTreaty 90 = .ok (.iload_n 1, 1) := by decide +kernel
theorem dX7_setTreaty_91 : decode cX7_setTreaty 91 = .ok (.imul, 1) := by decide +kernel
theorem dX7_setTreaty_92 : decode cX7_setTreaty 92 = .ok (.iload_n 2, 1) := by decide +kernel
theorem dX7_setTreaty_93 : decode cX7_setTreaty 93 = .ok (.iadd, 1) := by decide +kernel
theorem dX7_setTreaty_94 : decode cX7_setTreaty 94 = .ok (.dup2, 1) := by decide +kernel
theorem dX7_setTreaty_95 : decode cX7_setTreaty 95 = .ok (.baload, 1) := by decide +kernel
theorem dX7_setTreaty_96 : decode cX7_setTreaty 96 = .ok (.iload 4, 2) := by decide +kernel
theorem dX7_setTreaty_98 : decode cX7_setTreaty 98 = .ok (.ifCond .eq 11, 3) := by decide +kernel
theorem dX7_setTreaty_101 : decode cX7_setTreaty 101 = .ok (.iload_n 3, 1) := by decide +kernel
theorem dX7_setTreaty_102 : decode cX7_setTreaty 102 = .ok (.ifCond .ne 7, 3) := by decide +kernel
theorem dX7_setTreaty_105 : decode cX7_setTreaty 105 = .ok (.iconst 1, 1) := by decide +kernel
theorem dX7_setTreaty_106 : decode cX7_setTreaty 106 = .ok (.goto 4, 3) := by decide +kernel
theorem dX7_setTreaty_109 : decode cX7_setTreaty 109 = .ok (.iconst 0, 1) := by decide +kernel
theorem dX7_setTreaty_110 : decode cX7_setTreaty 110 = .ok (.ior, 1) := by decide +kernel
theorem dX7_setTreaty_111 : decode cX7_setTreaty 111 = .ok (.bastore, 1) := by decide +kernel
theorem dX7_setTreaty_112 : decode cX7_setTreaty 112 = .ok (.aload_n 0, 1) := by decide +kernel
theorem dX7_setTreaty_113 : decode cX7_setTreaty 113 = .ok (.getfield 54, 3) := by decide +kernel
theorem dX7_setTreaty_116 : decode cX7_setTreaty 116 = .ok (.iconst 4, 1) := by decide +kernel
theorem dX7_setTreaty_117 : decode cX7_setTreaty 117 = .ok (.iload_n 2, 1) := by decide +kernel
theorem dX7_setTreaty_118 : decode cX7_setTreaty 118 = .ok (.imul, 1) := by decide +kernel
theorem dX7_setTreaty_119 : decode cX7_setTreaty 119 = .ok (.iload_n 1, 1) := by decide +kernel
theorem dX7_setTreaty_120 : decode cX7_setTreaty 120 = .ok (.iadd, 1) := by decide +kernel
theorem dX7_setTreaty_121 : decode cX7_setTreaty 121 = .ok (.dup2, 1) := by decide +kernel
theorem dX7_setTreaty_122 : decode cX7_setTreaty 122 = .ok (.baload, 1) := by decide +kernel
theorem dX7_setTreaty_123 : decode cX7_setTreaty 123 = .ok (.iload 4, 2) := by decide +kernel
theorem dX7_setTreaty_125 : decode cX7_setTreaty 125 = .ok (.ifCond .eq 11, 3) := by decide +kernel
theorem dX7_setTreaty_128 : decode cX7_setTreaty 128 = .ok (.iload_n 3, 1) := by decide +kernel
theorem dX7_setTreaty_129 : decode cX7_setTreaty 129 = .ok (.ifCond .ne 7, 3) := by decide +kernel
theorem dX7_setTreaty_132 : decode cX7_setTreaty 132 = .ok (.iconst 1, 1) := by decide +kernel
theorem dX7_setTreaty_133 : decode cX7_setTreaty 133 = .ok (.goto 4, 3) := by decide +kernel
theorem dX7_setTreaty_136 : decode cX7_setTreaty 136 = .ok (.iconst 0, 1) := by decide +kernel
theorem dX7_setTreaty_137 : decode cX7_setTreaty 137 = .ok (.ior, 1) := by decide +kernel
theorem dX7_setTreaty_138 : decode cX7_setTreaty 138 = .ok (.bastore, 1) := by decide +kernel
theorem dX7_setTreaty_139 : decode cX7_setTreaty 139 = .ok (.iload 4, 2) := by decide +kernel
theorem dX7_setTreaty_141 : decode cX7_setTreaty 141 = .ok (.ireturn, 1) := by decide +kernel
theorem dX7_sightings_0 : decode cX7_sightings 0 = .ok (.aload_n 0, 1) := by decide +kernel
theorem dX7_sightings_1 : decode cX7_sightings 1 = .ok (.iload_n 1, 1) := by decide +kernel
theorem dX7_sightings_2 : decode cX7_sightings 2 = .ok (.invokevirtual 146, 3) := by decide +kernel
theorem dX7_sightings_5 : decode cX7_sightings 5 = .ok (.ifCond .eq 7, 3) := by decide +kernel
theorem dX7_sightings_8 : decode cX7_sightings 8 = .ok (.iconst 0, 1) := by decide +kernel
theorem dX7_sightings_9 : decode cX7_sightings 9 = .ok (.goto 9, 3) := by decide +kernel
theorem dX7_sightings_12 : decode cX7_sightings 12 = .ok (.aload_n 0, 1) := by decide +kernel
theorem dX7_sightings_13 : decode cX7_sightings 13 = .ok (.getfield 39, 3) := by decide +kernel
theorem dX7_sightings_16 : decode cX7_sightings 16 = .ok (.iload_n 1, 1) := by decide +kernel
theorem dX7_sightings_17 : decode cX7_sightings 17 = .ok (.iaload, 1) := by decide +kernel
theorem dX7_sightings_18 : decode cX7_sightings 18 = .ok (.ireturn, 1) := by decide +kernel
theorem dX7_sighting_0 : decode cX7_sighting 0 = .ok (.aload_n 0, 1) := by decide +kernel
theorem dX7_sighting_1 : decode cX7_sighting 1 = .ok (.iload_n 1, 1) := by decide +kernel
theorem dX7_sighting_2 : decode cX7_sighting 2 = .ok (.ifCond .lt 26, 3) := by decide +kernel
theorem dX7_sighting_5 : decode cX7_sighting 5 = .ok (.iload_n 1, 1) := by decide +kernel
theorem dX7_sighting_6 : decode cX7_sighting 6 = .ok (.iconst 4, 1) := by decide +kernel
theorem dX7_sighting_7 : decode cX7_sighting 7 = .ok (.if_icmp .ge 21, 3) := by decide +kernel
theorem dX7_sighting_10 : decode cX7_sighting 10 = .ok (.iload_n 2, 1) := by decide +kernel
theorem dX7_sighting_11 : decode cX7_sighting 11 = .ok (.ifCond .lt 17, 3) := by decide +kernel
theorem dX7_sighting_14 : decode cX7_sighting 14 = .ok (.iload_n 2, 1) := by decide +kernel
theorem dX7_sighting_15 : decode cX7_sighting 15 = .ok (.aload_n 0, 1) := by decide +kernel
theorem dX7_sighting_16 : decode cX7_sighting 16 = .ok (.getfield 39, 3) := by decide +kernel
theorem dX7_sighting_19 : decode cX7_sighting 19 = .ok (.iload_n 1, 1) := by decide +kernel
theorem dX7_sighting_20 : decode cX7_sighting 20 = .ok (.iaload, 1) := by decide +kernel
theorem dX7_sighting_21 : decode cX7_sighting 21 = .ok (.if_icmp .ge 7, 3) := by decide +kernel
theorem dX7_sighting_24 : decode cX7_sighting 24 = .ok (.iconst 1, 1) := by decide +kernel
theorem dX7_sighting_25 : decode cX7_sighting 25 = .ok (.goto 4, 3) := by decide +kernel
theorem dX7_sighting_28 : decode cX7_sighting 28 = .ok (.iconst 0, 1) := by decide +kernel
theorem dX7_sighting_29 : decode cX7_sighting 29 = .ok (.iconst 1, 1) := by decide +kernel
theorem dX7_sighting_30 : decode cX7_sighting 30 = .ok (.invokevirtual 61, 3) := by decide +kernel
theorem dX7_sighting_33 : decode cX7_sighting 33 = .ok (.ifCond .ne 34, 3) := by decide +kernel
theorem dX7_sighting_36 : decode cX7_sighting 36 = .ok (.aload_n 0, 1) := by decide +kernel
theorem dX7_sighting_37 : decode cX7_sighting 37 = .ok (.iload_n 3, 1) := by decide +kernel
theorem dX7_sighting_38 : decode cX7_sighting 38 = .ok (.bipush 116, 2) := by decide +kernel
theorem dX7_sighting_40 : decode cX7_sighting 40 = .ok (.if_icmp .eq 15, 3) := by decide +kernel
theorem dX7_sighting_43 : decode cX7_sighting 43 = .ok (.iload_n 3, 1) := by decide +kernel
theorem dX7_sighting_44 : decode cX7_sighting 44 = .ok (.bipush 99, 2) := by decide +kernel
theorem dX7_sighting_46 : decode cX7_sighting 46 = .ok (.if_icmp .eq 9, 3) := by decide +kernel
theorem dX7_sighting_49 : decode cX7_sighting 49 = .ok (.iload_n 3, 1) := by decide +kernel
theorem dX7_sighting_50 : decode cX7_sighting 50 = .ok (.bipush 117, 2) := by decide +kernel
theorem dX7_sighting_52 : decode cX7_sighting 52 = .ok (.if_icmp .ne 7, 3) := by decide +kernel
theorem dX7_sighting_55 : decode cX7_sighting 55 = .ok (.iconst 1, 1) := by decide +kernel
theorem dX7_sighting_56 : decode cX7_sighting 56 = .ok (.goto 4, 3) := by decide +kernel
theorem dX7_sighting_59 : decode cX7_sighting 59 = .ok (.iconst 0, 1) := by decide +kernel
theorem dX7_sighting_60 : decode cX7_sighting 60 = .ok (.iconst 2, 1) := by decide +kernel
theorem dX7_sighting_61 : decode cX7_sighting 61 = .ok (.invokevirtual 61, 3) := by decide +kernel
theorem dX7_sighting_64 : decode cX7_sighting 64 = .ok (.ifCond .eq 5, 3) := by decide +kernel
theorem dX7_sighting_67 : decode cX7_sighting 67 = .ok (.iconst 0, 1) := by decide +kernel
theorem dX7_sighting_68 : decode cX7_sighting 68 = .ok (.ireturn, 1) := by decide +kernel
theorem dX7_sighting_69 : decode cX7_sighting 69 = .ok (.aload_n 0, 1) := by decide +kernel
theorem dX7_sighting_70 : decode cX7_sighting 70 = .ok (.getfield 36, 3) := by decide +kernel
theorem dX7_sighting_73 : decode cX7_sighting 73 = .ok (.bipush 61, 2) := by decide +kernel
theorem dX7_sighting_75 : decode cX7_sighting 75 = .ok (.iload_n 1, 1) := by decide +kernel
theorem dX7_sighting_76 : decode cX7_sighting 76 = .ok (.imul, 1) := by decide +kernel
theorem dX7_sighting_77 : decode cX7_sighting 77 = .ok (.iload_n 2, 1) := by decide +kernel
theorem dX7_sighting_78 : decode cX7_sighting 78 = .ok (.iadd, 1) := by decide +kernel
theorem dX7_sighting_79 : decode cX7_sighting 79 = .ok (.iaload, 1) := by decide +kernel
theorem dX7_sighting_80 : decode cX7_sighting 80 = .ok (.istore 4, 2) := by decide +kernel
theorem dX7_sighting_82 : decode cX7_sighting 82 = .ok (.iload_n 3, 1) := by decide +kernel
theorem dX7_sighting_83 : decode cX7_sighting 83 = .ok (.bipush 116, 2) := by decide +kernel
theorem dX7_sighting_85 : decode cX7_sighting 85 = .ok (.if_icmp .ne 11, 3) := by decide +kernel
theorem dX7_sighting_88 : decode cX7_sighting 88 = .ok (.iload 4, 2) := by decide +kernel
theorem dX7_sighting_90 : decode cX7_sighting 90 = .ok (.invokestatic 153, 3) := by decide +kernel
theorem dX7_sighting_93 : decode cX7_sighting 93 = .ok (.goto 22, 3) := by decide +kernel
theorem dX7_sighting_96 : decode cX7_sighting 96 = .ok (.iload_n 3, 1) := by decide +kernel
theorem dX7_sighting_97 : decode cX7_sighting 97 = .ok (.bipush 99, 2) := by decide +kernel
theorem dX7_sighting_99 : decode cX7_sighting 99 = .ok (.if_icmp .ne 11, 3) := by decide +kernel
theorem dX7_sighting_102 : decode cX7_sighting 102 = .ok (.iload 4, 2) := by decide +kernel
theorem dX7_sighting_104 : decode cX7_sighting 104 = .ok (.invokestatic 171, 3) := by decide +kernel
theorem dX7_sighting_107 : decode cX7_sighting 107 = .ok (.goto 8, 3) := by decide +kernel
theorem dX7_sighting_110 : decode cX7_sighting 110 = .ok (.iload 4, 2) := by decide +kernel
theorem dX7_sighting_112 : decode cX7_sighting 112 = .ok (.invokestatic 156, 3) := by decide +kernel
theorem dX7_sighting_115 : decode cX7_sighting 115 = .ok (.ireturn, 1) := by decide +kernel
theorem dX7_age_0 : decode cX7_age 0 = .ok (.aload_n 0, 1) := by decide +kernel
theorem dX7_age_1 : decode cX7_age 1 = .ok (.iload_n 1, 1) := by decide +kernel
theorem dX7_age_2 : decode cX7_age 2 = .ok (.ifCond .lt 19, 3) := by decide +kernel
theorem dX7_age_5 : decode cX7_age 5 = .ok (.iload_n 1, 1) := by decide +kernel
theorem dX7_age_6 : decode cX7_age 6 = .ok (.iconst 4, 1) := by decide +kernel
theorem dX7_age_7 : decode cX7_age 7 = .ok (.if_icmp .ge 14, 3) := by decide +kernel
theorem dX7_age_10 : decode cX7_age 10 = .ok (.iload_n 2, 1) := by decide +kernel
theorem dX7_age_11 : decode cX7_age 11 = .ok (.invokestatic 72, 3) := by decide +kernel
theorem dX7_age_14 : decode cX7_age 14 = .ok (.ifCond .eq 7, 3) := by decide +kernel
theorem dX7_age_17 : decode cX7_age 17 = .ok (.iconst 1, 1) := by decide +kernel
theorem dX7_age_18 : decode cX7_age 18 = .ok (.goto 4, 3) := by decide +kernel
theorem dX7_age_21 : decode cX7_age 21 = .ok (.iconst 0, 1) := by decide +kernel
theorem dX7_age_22 : decode cX7_age 22 = .ok (.iconst 1, 1) := by decide +kernel
theorem dX7_age_23 : decode cX7_age 23 = .ok (.invokevirtual 61, 3) := by decide +kernel
theorem dX7_age_26 : decode cX7_age 26 = .ok (.ifCond .eq 5, 3) := by decide +kernel
theorem dX7_age_29 : decode cX7_age 29 = .ok (.iconst 0, 1) := by decide +kernel
theorem dX7_age_30 : decode cX7_age 30 = .ok (.ireturn, 1) := by decide +kernel
theorem dX7_age_31 : decode cX7_age 31 = .ok (.iconst (-1), 1) := by decide +kernel
theorem dX7_age_32 : decode cX7_age 32 = .ok (.istore_n 3, 1) := by decide +kernel
theorem dX7_age_33 : decode cX7_age 33 = .ok (.iconst 0, 1) := by decide +kernel
theorem dX7_age_34 : decode cX7_age 34 = .ok (.istore 4, 2) := by decide +kernel
theorem dX7_age_36 : decode cX7_age 36 = .ok (.iload 4, 2) := by decide +kernel
theorem dX7_age_38 : decode cX7_age 38 = .ok (.aload_n 0, 1) := by decide +kernel
theorem dX7_age_39 : decode cX7_age 39 = .ok (.getfield 39, 3) := by decide +kernel
theorem dX7_age_42 : decode cX7_age 42 = .ok (.iload_n 1, 1) := by decide +kernel
theorem dX7_age_43 : decode cX7_age 43 = .ok (.iaload, 1) := by decide +kernel
theorem dX7_age_44 : decode cX7_age 44 = .ok (.if_icmp .ge 44, 3) := by decide +kernel
theorem dX7_age_47 : decode cX7_age 47 = .ok (.aload_n 0, 1) := by decide +kernel
theorem dX7_age_48 : decode cX7_age 48 = .ok (.getfield 36, 3) := by decide +kernel
theorem dX7_age_51 : decode cX7_age 51 = .ok (.bipush 61, 2) := by decide +kernel
theorem dX7_age_53 : decode cX7_age 53 = .ok (.iload_n 1, 1) := by decide +kernel
theorem dX7_age_54 : decode cX7_age 54 = .ok (.imul, 1) := by decide +kernel
theorem dX7_age_55 : decode cX7_age 55 = .ok (.iload 4, 2) := by decide +kernel
theorem dX7_age_57 : decode cX7_age 57 = .ok (.iadd, 1) := by decide +kernel
theorem dX7_age_58 : decode cX7_age 58 = .ok (.iaload, 1) := by decide +kernel
theorem dX7_age_59 : decode cX7_age 59 = .ok (.invokestatic 171, 3) := by decide +kernel
theorem dX7_age_62 : decode cX7_age 62 = .ok (.iload_n 2, 1) := by decide +kernel
theorem dX7_age_63 : decode cX7_age 63 = .ok (.if_icmp .ne 19, 3) := by decide +kernel
theorem dX7_age_66 : decode cX7_age 66 = .ok (.aload_n 0, 1) := by decide +kernel
theorem dX7_age_67 : decode cX7_age 67 = .ok (.getfield 36, 3) := by decide +kernel
theorem dX7_age_70 : decode cX7_age 70 = .ok (.bipush 61, 2) := by decide +kernel
theorem dX7_age_72 : decode cX7_age 72 = .ok (.iload_n 1, 1) := by decide +kernel
theorem dX7_age_73 : decode cX7_age 73 = .ok (.imul, 1) := by decide +kernel
theorem dX7_age_74 : decode cX7_age 74 = .ok (.iload 4, 2) := by decide +kernel
theorem dX7_age_76 : decode cX7_age 76 = .ok (.iadd, 1) := by decide +kernel
theorem dX7_age_77 : decode cX7_age 77 = .ok (.iaload, 1) := by decide +kernel
theorem dX7_age_78 : decode cX7_age 78 = .ok (.invokestatic 153, 3) := by decide +kernel
theorem dX7_age_81 : decode cX7_age 81 = .ok (.istore_n 3, 1) := by decide +kernel
theorem dX7_age_82 : decode cX7_age 82 = .ok (.iinc 4 1, 3) := by decide +kernel
theorem dX7_age_85 : decode cX7_age 85 = .ok (.goto (-49), 3) := by decide +kernel
theorem dX7_age_88 : decode cX7_age 88 = .ok (.aload_n 0, 1) := by decide +kernel
theorem dX7_age_89 : decode cX7_age 89 = .ok (.iload_n 3, 1) := by decide +kernel
theorem dX7_age_90 : decode cX7_age 90 = .ok (.iconst (-1), 1) := by decide +kernel
theorem dX7_age_91 : decode cX7_age 91 = .ok (.if_icmp .eq 7, 3) := by decide +kernel
theorem dX7_age_94 : decode cX7_age 94 = .ok (.iconst 1, 1) := by decide +kernel
theorem dX7_age_95 : decode cX7_age 95 = .ok (.goto 4, 3) := by decide +kernel
theorem dX7_age_98 : decode cX7_age 98 = .ok (.iconst 0, 1) := by decide +kernel
theorem dX7_age_99 : decode cX7_age 99 = .ok (.iconst 2, 1) := by decide +kernel
theorem dX7_age_100 : decode cX7_age 100 = .ok (.invokevirtual 61, 3) := by decide +kernel
theorem dX7_age_103 : decode cX7_age 103 = .ok (.ifCond .eq 7, 3) := by decide +kernel
theorem dX7_age_106 : decode cX7_age 106 = .ok (.iconst 0, 1) := by decide +kernel
theorem dX7_age_107 : decode cX7_age 107 = .ok (.goto 9, 3) := by decide +kernel
theorem dX7_age_110 : decode cX7_age 110 = .ok (.aload_n 0, 1) := by decide +kernel
theorem dX7_age_111 : decode cX7_age 111 = .ok (.getfield 84, 3) := by decide +kernel
theorem dX7_age_114 : decode cX7_age 114 = .ok (.iload_n 3, 1) := by decide +kernel
theorem dX7_age_115 : decode cX7_age 115 = .ok (.isub, 1) := by decide +kernel
theorem dX7_age_116 : decode cX7_age 116 = .ok (.ireturn, 1) := by decide +kernel
theorem dX7_lastSeen_0 : decode cX7_lastSeen 0 = .ok (.aload_n 0, 1) := by decide +kernel
theorem dX7_lastSeen_1 : decode cX7_lastSeen 1 = .ok (.iload_n 1, 1) := by decide +kernel
theorem dX7_lastSeen_2 : decode cX7_lastSeen 2 = .ok (.ifCond .lt 24, 3) := by decide +kernel
theorem dX7_lastSeen_5 : decode cX7_lastSeen 5 = .ok (.iload_n 1, 1) := by decide +kernel
theorem dX7_lastSeen_6 : decode cX7_lastSeen 6 = .ok (.iconst 4, 1) := by decide +kernel
theorem dX7_lastSeen_7 : decode cX7_lastSeen 7 = .ok (.if_icmp .ge 19, 3) := by decide +kernel
theorem dX7_lastSeen_10 : decode cX7_lastSeen 10 = .ok (.iload_n 2, 1) := by decide +kernel
theorem dX7_lastSeen_11 : decode cX7_lastSeen 11 = .ok (.ifCond .lt 15, 3) := by decide +kernel
theorem dX7_lastSeen_14 : decode cX7_lastSeen 14 = .ok (.iload_n 2, 1) := by decide +kernel
theorem dX7_lastSeen_15 : decode cX7_lastSeen 15 = .ok (.aload_n 0, 1) := by decide +kernel
theorem dX7_lastSeen_16 : decode cX7_lastSeen 16 = .ok (.getfield 65, 3) := by decide +kernel
theorem dX7_lastSeen_19 : decode cX7_lastSeen 19 = .ok (.if_icmp .ge 7, 3) := by decide +kernel
theorem dX7_lastSeen_22 : decode cX7_lastSeen 22 = .ok (.iconst 1, 1) := by decide +kernel
theorem dX7_lastSeen_23 : decode cX7_lastSeen 23 = .ok (.goto 4, 3) := by decide +kernel
theorem dX7_lastSeen_26 : decode cX7_lastSeen 26 = .ok (.iconst 0, 1) := by decide +kernel
theorem dX7_lastSeen_27 : decode cX7_lastSeen 27 = .ok (.iconst 1, 1) := by decide +kernel
theorem dX7_lastSeen_28 : decode cX7_lastSeen 28 = .ok (.invokevirtual 61, 3) := by decide +kernel
theorem dX7_lastSeen_31 : decode cX7_lastSeen 31 = .ok (.ifCond .eq 5, 3) := by decide +kernel
theorem dX7_lastSeen_34 : decode cX7_lastSeen 34 = .ok (.iconst 0, 1) := by decide +kernel
theorem dX7_lastSeen_35 : decode cX7_lastSeen 35 = .ok (.ireturn, 1) := by decide +kernel
theorem dX7_lastSeen_36 : decode cX7_lastSeen 36 = .ok (.iconst (-1), 1) := by decide +kernel
theorem dX7_lastSeen_37 : decode cX7_lastSeen 37 = .ok (.istore_n 3, 1) := by decide +kernel
theorem dX7_lastSeen_38 : decode cX7_lastSeen 38 = .ok (.iconst 0, 1) := by decide +kernel
theorem dX7_lastSeen_39 : decode cX7_lastSeen 39 = .ok (.istore 4, 2) := by decide +kernel
theorem dX7_lastSeen_41 : decode cX7_lastSeen 41 = .ok (.iload 4, 2) := by decide +kernel
theorem dX7_lastSeen_43 : decode cX7_lastSeen 43 = .ok (.aload_n 0, 1) := by decide +kernel
theorem dX7_lastSeen_44 : decode cX7_lastSeen 44 = .ok (.getfield 39, 3) := by decide +kernel
theorem dX7_lastSeen_47 : decode cX7_lastSeen 47 = .ok (.iload_n 1, 1) := by decide +kernel
theorem dX7_lastSeen_48 : decode cX7_lastSeen 48 = .ok (.iaload, 1) := by decide +kernel
theorem dX7_lastSeen_49 : decode cX7_lastSeen 49 = .ok (.if_icmp .ge 44, 3) := by decide +kernel
theorem dX7_lastSeen_52 : decode cX7_lastSeen 52 = .ok (.aload_n 0, 1) := by decide +kernel
theorem dX7_lastSeen_53 : decode cX7_lastSeen 53 = .ok (.getfield 36, 3) := by decide +kernel
theorem dX7_lastSeen_56 : decode cX7_lastSeen 56 = .ok (.bipush 61, 2) := by decide +kernel
theorem dX7_lastSeen_58 : decode cX7_lastSeen 58 = .ok (.iload_n 1, 1) := by decide +kernel
theorem dX7_lastSeen_59 : decode cX7_lastSeen 59 = .ok (.imul, 1) := by decide +kernel
theorem dX7_lastSeen_60 : decode cX7_lastSeen 60 = .ok (.iload 4, 2) := by decide +kernel
theorem dX7_lastSeen_62 : decode cX7_lastSeen 62 = .ok (.iadd, 1) := by decide +kernel
theorem dX7_lastSeen_63 : decode cX7_lastSeen 63 = .ok (.iaload, 1) := by decide +kernel
theorem dX7_lastSeen_64 : decode cX7_lastSeen 64 = .ok (.invokestatic 156, 3) := by decide +kernel
theorem dX7_lastSeen_67 : decode cX7_lastSeen 67 = .ok (.iload_n 2, 1) := by decide +kernel
theorem dX7_lastSeen_68 : decode cX7_lastSeen 68 = .ok (.if_icmp .ne 19, 3) := by decide +kernel
theorem dX7_lastSeen_71 : decode cX7_lastSeen 71 = .ok (.aload_n 0, 1) := by decide +kernel
theorem dX7_lastSeen_72 : decode cX7_lastSeen 72 = .ok (.getfield 36, 3) := by decide +kernel
theorem dX7_lastSeen_75 : decode cX7_lastSeen 75 = .ok (.bipush 61, 2) := by decide +kernel
theorem dX7_lastSeen_77 : decode cX7_lastSeen 77 = .ok (.iload_n 1, 1) := by decide +kernel
theorem dX7_lastSeen_78 : decode cX7_lastSeen 78 = .ok (.imul, 1) := by decide +kernel
theorem dX7_lastSeen_79 : decode cX7_lastSeen 79 = .ok (.iload 4, 2) := by decide +kernel
theorem dX7_lastSeen_81 : decode cX7_lastSeen 81 = .ok (.iadd, 1) := by decide +kernel
theorem dX7_lastSeen_82 : decode cX7_lastSeen 82 = .ok (.iaload, 1) := by decide +kernel
theorem dX7_lastSeen_83 : decode cX7_lastSeen 83 = .ok (.invokestatic 171, 3) := by decide +kernel
theorem dX7_lastSeen_86 : decode cX7_lastSeen 86 = .ok (.istore_n 3, 1) := by decide +kernel
theorem dX7_lastSeen_87 : decode cX7_lastSeen 87 = .ok (.iinc 4 1, 3) := by decide +kernel
theorem dX7_lastSeen_90 : decode cX7_lastSeen 90 = .ok (.goto (-49), 3) := by decide +kernel
theorem dX7_lastSeen_93 : decode cX7_lastSeen 93 = .ok (.aload_n 0, 1) := by decide +kernel
theorem dX7_lastSeen_94 : decode cX7_lastSeen 94 = .ok (.iload_n 3, 1) := by decide +kernel
theorem dX7_lastSeen_95 : decode cX7_lastSeen 95 = .ok (.iconst (-1), 1) := by decide +kernel
theorem dX7_lastSeen_96 : decode cX7_lastSeen 96 = .ok (.if_icmp .eq 7, 3) := by decide +kernel
theorem dX7_lastSeen_99 : decode cX7_lastSeen 99 = .ok (.iconst 1, 1) := by decide +kernel
theorem dX7_lastSeen_100 : decode cX7_lastSeen 100 = .ok (.goto 4, 3) := by decide +kernel
theorem dX7_lastSeen_103 : decode cX7_lastSeen 103 = .ok (.iconst 0, 1) := by decide +kernel
theorem dX7_lastSeen_104 : decode cX7_lastSeen 104 = .ok (.iconst 2, 1) := by decide +kernel
theorem dX7_lastSeen_105 : decode cX7_lastSeen 105 = .ok (.invokevirtual 61, 3) := by decide +kernel
theorem dX7_lastSeen_108 : decode cX7_lastSeen 108 = .ok (.ifCond .eq 7, 3) := by decide +kernel
theorem dX7_lastSeen_111 : decode cX7_lastSeen 111 = .ok (.iconst 0, 1) := by decide +kernel
theorem dX7_lastSeen_112 : decode cX7_lastSeen 112 = .ok (.goto 4, 3) := by decide +kernel
theorem dX7_lastSeen_115 : decode cX7_lastSeen 115 = .ok (.iload_n 3, 1) := by decide +kernel
theorem dX7_lastSeen_116 : decode cX7_lastSeen 116 = .ok (.ireturn, 1) := by decide +kernel
theorem dX7_save_0 : decode cX7_save 0 = .ok (.iconst 0, 1) := by decide +kernel
theorem dX7_save_1 : decode cX7_save 1 = .ok (.istore_n 1, 1) := by decide +kernel
theorem dX7_save_2 : decode cX7_save 2 = .ok (.aload_n 0, 1) := by decide +kernel
theorem dX7_save_3 : decode cX7_save 3 = .ok (.iconst 1, 1) := by decide +kernel
theorem dX7_save_4 : decode cX7_save 4 = .ok (.putfield 174, 3) := by decide +kernel
theorem dX7_save_7 : decode cX7_save 7 = .ok (.iconst 0, 1) := by decide +kernel
theorem dX7_save_8 : decode cX7_save 8 = .ok (.istore_n 2, 1) := by decide +kernel
theorem dX7_save_9 : decode cX7_save 9 = .ok (.iload_n 2, 1) := by decide +kernel
theorem dX7_save_10 : decode cX7_save 10 = .ok (.sipush 244, 3) := by decide +kernel
theorem dX7_save_13 : decode cX7_save 13 = .ok (.if_icmp .ge 21, 3) := by decide +kernel
theorem dX7_save_16 : decode cX7_save 16 = .ok (.aload_n 0, 1) := by decide +kernel
theorem dX7_save_17 : decode cX7_save 17 = .ok (.getfield 42, 3) := by decide +kernel
theorem dX7_save_20 : decode cX7_save 20 = .ok (.iload_n 2, 1) := by decide +kernel
theorem dX7_save_21 : decode cX7_save 21 = .ok (.aload_n 0, 1) := by decide +kernel
theorem dX7_save_22 : decode cX7_save 22 = .ok (.getfield 36, 3) := by decide +kernel
theorem dX7_save_25 : decode cX7_save 25 = .ok (.iload_n 2, 1) := by decide +kernel
theorem dX7_save_26 : decode cX7_save 26 = .ok (.iaload, 1) := by decide +kernel
theorem dX7_save_27 : decode cX7_save 27 = .ok (.iastore, 1) := by decide +kernel
theorem dX7_save_28 : decode cX7_save 28 = .ok (.iinc 2 1, 3) := by decide +kernel
theorem dX7_save_31 : decode cX7_save 31 = .ok (.goto (-22), 3) := by decide +kernel
theorem dX7_save_34 : decode cX7_save 34 = .ok (.iconst 0, 1) := by decide +kernel
theorem dX7_save_35 : decode cX7_save 35 = .ok (.istore_n 2, 1) := by decide +kernel
theorem dX7_save_36 : decode cX7_save 36 = .ok (.iload_n 2, 1) := by decide +kernel
theorem dX7_save_37 : decode cX7_save 37 = .ok (.bipush 64, 2) := by decide +kernel
theorem dX7_save_39 : decode cX7_save 39 = .ok (.if_icmp .ge 16, 3) := by decide +kernel
theorem dX7_save_42 : decode cX7_save 42 = .ok (.aload_n 0, 1) := by decide +kernel
theorem dX7_save_43 : decode cX7_save 43 = .ok (.getfield 48, 3) := by decide +kernel
theorem dX7_save_46 : decode cX7_save 46 = .ok (.iload_n 2, 1) := by decide +kernel
theorem dX7_save_47 : decode cX7_save 47 = .ok (.iconst 0, 1) := by decide +kernel
theorem dX7_save_48 : decode cX7_save 48 = .ok (.bastore, 1) := by decide +kernel
theorem dX7_save_49 : decode cX7_save 49 = .ok (.iinc 2 1, 3) := by decide +kernel
theorem dX7_save_52 : decode cX7_save 52 = .ok (.goto (-16), 3) := by decide +kernel
theorem dX7_save_55 : decode cX7_save 55 = .ok (.iconst 0, 1) := by decide +kernel
theorem dX7_save_56 : decode cX7_save 56 = .ok (.istore_n 2, 1) := by decide +kernel
theorem dX7_save_57 : decode cX7_save 57 = .ok (.iload_n 2, 1) := by decide +kernel
theorem dX7_save_58 : decode cX7_save 58 = .ok (.bipush 16, 2) := by decide +kernel
theorem dX7_save_60 : decode cX7_save 60 = .ok (.if_icmp .ge 28, 3) := by decide +kernel
theorem dX7_save_63 : decode cX7_save 63 = .ok (.aload_n 0, 1) := by decide +kernel
theorem dX7_save_64 : decode cX7_save 64 = .ok (.getfield 51, 3) := by decide +kernel
theorem dX7_save_67 : decode cX7_save 67 = .ok (.iload_n 2, 1) := by decide +kernel
theorem dX7_save_68 : decode cX7_save 68 = .ok (.aload_n 0, 1) := by decide +kernel
theorem dX7_save_69 : decode cX7_save 69 = .ok (.getfield 32, 3) := by decide +kernel
theorem dX7_save_72 : decode cX7_save 72 = .ok (.iload_n 2, 1) := by decide +kernel
theorem dX7_save_73 : decode cX7_save 73 = .ok (.baload, 1) := by decide +kernel
theorem dX7_save_74 : decode cX7_save 74 = .ok (.bastore, 1) := by decide +kernel
theorem dX7_save_75 : decode cX7_save 75 = .ok (.aload_n 0, 1) := by decide +kernel
theorem dX7_save_76 : decode cX7_save 76 = .ok (.getfield 54, 3) := by decide +kernel
theorem dX7_save_79 : decode cX7_save 79 = .ok (.iload_n 2, 1) := by decide +kernel
theorem dX7_save_80 : decode cX7_save 80 = .ok (.iconst 0, 1) := by decide +kernel
theorem dX7_save_81 : decode cX7_save 81 = .ok (.bastore, 1) := by decide +kernel
theorem dX7_save_82 : decode cX7_save 82 = .ok (.iinc 2 1, 3) := by decide +kernel
theorem dX7_save_85 : decode cX7_save 85 = .ok (.goto (-28), 3) := by decide +kernel
theorem dX7_save_88 : decode cX7_save 88 = .ok (.iconst 0, 1) := by decide +kernel
theorem dX7_save_89 : decode cX7_save 89 = .ok (.istore_n 2, 1) := by decide +kernel
theorem dX7_save_90 : decode cX7_save 90 = .ok (.iload_n 2, 1) := by decide +kernel
theorem dX7_save_91 : decode cX7_save 91 = .ok (.iconst 4, 1) := by decide +kernel
theorem dX7_save_92 : decode cX7_save 92 = .ok (.if_icmp .ge 30, 3) := by decide +kernel
theorem dX7_save_95 : decode cX7_save 95 = .ok (.aload_n 0, 1) := by decide +kernel
theorem dX7_save_96 : decode cX7_save 96 = .ok (.getfield 45, 3) := by decide +kernel
theorem dX7_save_99 : decode cX7_save 99 = .ok (.iload_n 2, 1) := by decide +kernel
theorem dX7_save_100 : decode cX7_save 100 = .ok (.aload_n 0, 1) := by decide +kernel
theorem dX7_save_101 : decode cX7_save 101 = .ok (.getfield 39, 3) := by decide +kernel
theorem dX7_save_104 : decode cX7_save 104 = .ok (.iload_n 2, 1) := by decide +kernel
theorem dX7_save_105 : decode cX7_save 105 = .ok (.iaload, 1) := by decide +kernel
theorem dX7_save_106 : decode cX7_save 106 = .ok (.iastore, 1) := by decide +kernel
theorem dX7_save_107 : decode cX7_save 107 = .ok (.iload_n 1, 1) := by decide +kernel
theorem dX7_save_108 : decode cX7_save 108 = .ok (.aload_n 0, 1) := by decide +kernel
theorem dX7_save_109 : decode cX7_save 109 = .ok (.getfield 39, 3) := by decide +kernel
theorem dX7_save_112 : decode cX7_save 112 = .ok (.iload_n 2, 1) := by decide +kernel
theorem dX7_save_113 : decode cX7_save 113 = .ok (.iaload, 1) := by decide +kernel
theorem dX7_save_114 : decode cX7_save 114 = .ok (.iadd, 1) := by decide +kernel
theorem dX7_save_115 : decode cX7_save 115 = .ok (.istore_n 1, 1) := by decide +kernel
theorem dX7_save_116 : decode cX7_save 116 = .ok (.iinc 2 1, 3) := by decide +kernel
theorem dX7_save_119 : decode cX7_save 119 = .ok (.goto (-29), 3) := by decide +kernel
theorem dX7_save_122 : decode cX7_save 122 = .ok (.iload_n 1, 1) := by decide +kernel
theorem dX7_save_123 : decode cX7_save 123 = .ok (.ireturn, 1) := by decide +kernel
theorem dX7_blocksOf_0 : decode cX7_blocksOf 0 = .ok (.aload_n 0, 1) := by decide +kernel
theorem dX7_blocksOf_1 : decode cX7_blocksOf 1 = .ok (.getfield 45, 3) := by decide +kernel
theorem dX7_blocksOf_4 : decode cX7_blocksOf 4 = .ok (.iload_n 1, 1) := by decide +kernel
theorem dX7_blocksOf_5 : decode cX7_blocksOf 5 = .ok (.iaload, 1) := by decide +kernel
theorem dX7_blocksOf_6 : decode cX7_blocksOf 6 = .ok (.iconst 3, 1) := by decide +kernel
theorem dX7_blocksOf_7 : decode cX7_blocksOf 7 = .ok (.iadd, 1) := by decide +kernel
theorem dX7_blocksOf_8 : decode cX7_blocksOf 8 = .ok (.iconst 4, 1) := by decide +kernel
theorem dX7_blocksOf_9 : decode cX7_blocksOf 9 = .ok (.idiv, 1) := by decide +kernel
theorem dX7_blocksOf_10 : decode cX7_blocksOf 10 = .ok (.ireturn, 1) := by decide +kernel
theorem dX7_noSave_0 : decode cX7_noSave 0 = .ok (.aload_n 0, 1) := by decide +kernel
theorem dX7_noSave_1 : decode cX7_noSave 1 = .ok (.iload_n 1, 1) := by decide +kernel
theorem dX7_noSave_2 : decode cX7_noSave 2 = .ok (.invokevirtual 146, 3) := by decide +kernel
theorem dX7_noSave_5 : decode cX7_noSave 5 = .ok (.ifCond .ne 15, 3) := by decide +kernel
theorem dX7_noSave_8 : decode cX7_noSave 8 = .ok (.aload_n 0, 1) := by decide +kernel
theorem dX7_noSave_9 : decode cX7_noSave 9 = .ok (.aload_n 0, 1) := by decide +kernel
theorem dX7_noSave_10 : decode cX7_noSave 10 = .ok (.getfield 174, 3) := by decide +kernel
theorem dX7_noSave_13 : decode cX7_noSave 13 = .ok (.iconst 2, 1) := by decide +kernel
theorem dX7_noSave_14 : decode cX7_noSave 14 = .ok (.invokevirtual 61, 3) := by decide +kernel
theorem dX7_noSave_17 : decode cX7_noSave 17 = .ok (.ifCond .eq 7, 3) := by decide +kernel
theorem dX7_noSave_20 : decode cX7_noSave 20 = .ok (.iconst 1, 1) := by decide +kernel
theorem dX7_noSave_21 : decode cX7_noSave 21 = .ok (.goto 4, 3) := by decide +kernel
theorem dX7_noSave_24 : decode cX7_noSave 24 = .ok (.iconst 0, 1) := by decide +kernel
theorem dX7_noSave_25 : decode cX7_noSave 25 = .ok (.ireturn, 1) := by decide +kernel
theorem dX7_blocks_0 : decode cX7_blocks 0 = .ok (.aload_n 0, 1) := by decide +kernel
theorem dX7_blocks_1 : decode cX7_blocks 1 = .ok (.iload_n 1, 1) := by decide +kernel
theorem dX7_blocks_2 : decode cX7_blocks 2 = .ok (.invokevirtual 178, 3) := by decide +kernel
theorem dX7_blocks_5 : decode cX7_blocks 5 = .ok (.ifCond .eq 7, 3) := by decide +kernel
theorem dX7_blocks_8 : decode cX7_blocks 8 = .ok (.iconst 0, 1) := by decide +kernel
theorem dX7_blocks_9 : decode cX7_blocks 9 = .ok (.goto 8, 3) := by decide +kernel
theorem dX7_blocks_12 : decode cX7_blocks 12 = .ok (.aload_n 0, 1) := by decide +kernel
theorem dX7_blocks_13 : decode cX7_blocks 13 = .ok (.iload_n 1, 1) := by decide +kernel
theorem dX7_blocks_14 : decode cX7_blocks 14 = .ok (.invokevirtual 181, 3) := by decide +kernel
theorem dX7_blocks_17 : decode cX7_blocks 17 = .ok (.ireturn, 1) := by decide +kernel
theorem dX7_breakBlock_0 : decode cX7_breakBlock 0 = .ok (.aload_n 0, 1) := by decide +kernel
theorem dX7_breakBlock_1 : decode cX7_breakBlock 1 = .ok (.iload_n 1, 1) := by decide +kernel
theorem dX7_breakBlock_2 : decode cX7_breakBlock 2 = .ok (.invokevirtual 178, 3) := by decide +kernel
theorem dX7_breakBlock_5 : decode cX7_breakBlock 5 = .ok (.ifCond .ne 29, 3) := by decide +kernel
theorem dX7_breakBlock_8 : decode cX7_breakBlock 8 = .ok (.aload_n 0, 1) := by decide +kernel
theorem dX7_breakBlock_9 : decode cX7_breakBlock 9 = .ok (.iload_n 2, 1) := by decide +kernel
theorem dX7_breakBlock_10 : decode cX7_breakBlock 10 = .ok (.ifCond .lt 16, 3) := by decide +kernel
theorem dX7_breakBlock_13 : decode cX7_breakBlock 13 = .ok (.iload_n 2, 1) := by decide +kernel
theorem dX7_breakBlock_14 : decode cX7_breakBlock 14 = .ok (.aload_n 0, 1) := by decide +kernel
theorem dX7_breakBlock_15 : decode cX7_breakBlock 15 = .ok (.iload_n 1, 1) := by decide +kernel
theorem dX7_breakBlock_16 : decode cX7_breakBlock 16 = .ok (.invokevirtual 181, 3) := by decide +kernel
theorem dX7_breakBlock_19 : decode cX7_breakBlock 19 = .ok (.if_icmp .ge 7, 3) := by decide +kernel
theorem dX7_breakBlock_22 : decode cX7_breakBlock 22 = .ok (.iconst 1, 1) := by decide +kernel
theorem dX7_breakBlock_23 : decode cX7_breakBlock 23 = .ok (.goto 4, 3) := by decide +kernel
theorem dX7_breakBlock_26 : decode cX7_breakBlock 26 = .ok (.iconst 0, 1) := by decide +kernel
theorem dX7_breakBlock_27 : decode cX7_breakBlock 27 = .ok (.iconst 2, 1) := by decide +kernel
theorem dX7_breakBlock_28 : decode cX7_breakBlock 28 = .ok (.invokevirtual 61, 3) := by decide +kernel
theorem dX7_breakBlock_31 : decode cX7_breakBlock 31 = .ok (.ifCond .eq 5, 3) := by decide +kernel
theorem dX7_breakBlock_34 : decode cX7_breakBlock 34 = .ok (.iconst 0, 1) := by decide +kernel
theorem dX7_breakBlock_35 : decode cX7_breakBlock 35 = .ok (.ireturn, 1) := by decide +kernel
theorem dX7_breakBlock_36 : decode cX7_breakBlock 36 = .ok (.aload_n 0, 1) := by decide +kernel
theorem dX7_breakBlock_37 : decode cX7_breakBlock 37 = .ok (.getfield 48, 3) := by decide +kernel
theorem dX7_breakBlock_40 : decode cX7_breakBlock 40 = .ok (.bipush 16, 2) := by decide +kernel
theorem dX7_breakBlock_42 : decode cX7_breakBlock 42 = .ok (.iload_n 1, 1) := by decide +kernel
theorem dX7_breakBlock_43 : decode cX7_breakBlock 43 = .ok (.imul, 1) := by decide +kernel
theorem dX7_breakBlock_44 : decode cX7_breakBlock 44 = .ok (.iload_n 2, 1) := by decide +kernel
theorem dX7_breakBlock_45 : decode cX7_breakBlock 45 = .ok (.iadd, 1) := by decide +kernel
theorem dX7_breakBlock_46 : decode cX7_breakBlock 46 = .ok (.baload, 1) := by decide +kernel
theorem dX7_breakBlock_47 : decode cX7_breakBlock 47 = .ok (.ifCond .ne 7, 3) := by decide +kernel
theorem dX7_breakBlock_50 : decode cX7_breakBlock 50 = .ok (.iconst 1, 1) := by decide +kernel
theorem dX7_breakBlock_51 : decode cX7_breakBlock 51 = .ok (.goto 4, 3) := by decide +kernel
theorem dX7_breakBlock_54 : decode cX7_breakBlock 54 = .ok (.iconst 0, 1) := by decide +kernel
theorem dX7_breakBlock_55 : decode cX7_breakBlock 55 = .ok (.istore_n 3, 1) := by decide +kernel
theorem dX7_breakBlock_56 : decode cX7_breakBlock 56 = .ok (.aload_n 0, 1) := by decide +kernel
theorem dX7_breakBlock_57 : decode cX7_breakBlock 57 = .ok (.getfield 48, 3) := by decide +kernel
theorem dX7_breakBlock_60 : decode cX7_breakBlock 60 = .ok (.bipush 16, 2) := by decide +kernel
theorem dX7_breakBlock_62 : decode cX7_breakBlock 62 = .ok (.iload_n 1, 1) := by decide +kernel
theorem dX7_breakBlock_63 : decode cX7_breakBlock 63 = .ok (.imul, 1) := by decide +kernel
theorem dX7_breakBlock_64 : decode cX7_breakBlock 64 = .ok (.iload_n 2, 1) := by decide +kernel
theorem dX7_breakBlock_65 : decode cX7_breakBlock 65 = .ok (.iadd, 1) := by decide +kernel
theorem dX7_breakBlock_66 : decode cX7_breakBlock 66 = .ok (.iconst 1, 1) := by decide +kernel
theorem dX7_breakBlock_67 : decode cX7_breakBlock 67 = .ok (.bastore, 1) := by decide +kernel
theorem dX7_breakBlock_68 : decode cX7_breakBlock 68 = .ok (.iload_n 3, 1) := by decide +kernel
theorem dX7_breakBlock_69 : decode cX7_breakBlock 69 = .ok (.ireturn, 1) := by decide +kernel
theorem dX7_savedAt_0 : decode cX7_savedAt 0 = .ok (.aload_n 0, 1) := by decide +kernel
theorem dX7_savedAt_1 : decode cX7_savedAt 1 = .ok (.iload_n 1, 1) := by decide +kernel
theorem dX7_savedAt_2 : decode cX7_savedAt 2 = .ok (.invokevirtual 178, 3) := by decide +kernel
theorem dX7_savedAt_5 : decode cX7_savedAt 5 = .ok (.ifCond .ne 59, 3) := by decide +kernel
theorem dX7_savedAt_8 : decode cX7_savedAt 8 = .ok (.aload_n 0, 1) := by decide +kernel
theorem dX7_savedAt_9 : decode cX7_savedAt 9 = .ok (.iload_n 2, 1) := by decide +kernel
theorem dX7_savedAt_10 : decode cX7_savedAt 10 = .ok (.ifCond .lt 17, 3) := by decide +kernel
theorem dX7_savedAt_13 : decode cX7_savedAt 13 = .ok (.iload_n 2, 1) := by decide +kernel
theorem dX7_savedAt_14 : decode cX7_savedAt 14 = .ok (.aload_n 0, 1) := by decide +kernel
theorem dX7_savedAt_15 : decode cX7_savedAt 15 = .ok (.getfield 45, 3) := by decide +kernel
theorem dX7_savedAt_18 : decode cX7_savedAt 18 = .ok (.iload_n 1, 1) := by decide +kernel
theorem dX7_savedAt_19 : decode cX7_savedAt 19 = .ok (.iaload, 1) := by decide +kernel
theorem dX7_savedAt_20 : decode cX7_savedAt 20 = .ok (.if_icmp .ge 7, 3) := by decide +kernel
theorem dX7_savedAt_23 : decode cX7_savedAt 23 = .ok (.iconst 1, 1) := by decide +kernel
theorem dX7_savedAt_24 : decode cX7_savedAt 24 = .ok (.goto 4, 3) := by decide +kernel
theorem dX7_savedAt_27 : decode cX7_savedAt 27 = .ok (.iconst 0, 1) := by decide +kernel
theorem dX7_savedAt_28 : decode cX7_savedAt 28 = .ok (.iconst 2, 1) := by decide +kernel
theorem dX7_savedAt_29 : decode cX7_savedAt 29 = .ok (.invokevirtual 61, 3) := by decide +kernel
theorem dX7_savedAt_32 : decode cX7_savedAt 32 = .ok (.ifCond .ne 32, 3) := by decide +kernel
theorem dX7_savedAt_35 : decode cX7_savedAt 35 = .ok (.aload_n 0, 1) := by decide +kernel
theorem dX7_savedAt_36 : decode cX7_savedAt 36 = .ok (.aload_n 0, 1) := by decide +kernel
theorem dX7_savedAt_37 : decode cX7_savedAt 37 = .ok (.getfield 48, 3) := by decide +kernel
theorem dX7_savedAt_40 : decode cX7_savedAt 40 = .ok (.bipush 16, 2) := by decide +kernel
theorem dX7_savedAt_42 : decode cX7_savedAt 42 = .ok (.iload_n 1, 1) := by decide +kernel
theorem dX7_savedAt_43 : decode cX7_savedAt 43 = .ok (.imul, 1) := by decide +kernel
theorem dX7_savedAt_44 : decode cX7_savedAt 44 = .ok (.iload_n 2, 1) := by decide +kernel
theorem dX7_savedAt_45 : decode cX7_savedAt 45 = .ok (.iconst 4, 1) := by decide +kernel
theorem dX7_savedAt_46 : decode cX7_savedAt 46 = .ok (.idiv, 1) := by decide +kernel
theorem dX7_savedAt_47 : decode cX7_savedAt 47 = .ok (.iadd, 1) := by decide +kernel
theorem dX7_savedAt_48 : decode cX7_savedAt 48 = .ok (.baload, 1) := by decide +kernel
theorem dX7_savedAt_49 : decode cX7_savedAt 49 = .ok (.ifCond .ne 7, 3) := by decide +kernel
theorem dX7_savedAt_52 : decode cX7_savedAt 52 = .ok (.iconst 1, 1) := by decide +kernel
theorem dX7_savedAt_53 : decode cX7_savedAt 53 = .ok (.goto 4, 3) := by decide +kernel
theorem dX7_savedAt_56 : decode cX7_savedAt 56 = .ok (.iconst 0, 1) := by decide +kernel
theorem dX7_savedAt_57 : decode cX7_savedAt 57 = .ok (.iconst 3, 1) := by decide +kernel
theorem dX7_savedAt_58 : decode cX7_savedAt 58 = .ok (.invokevirtual 61, 3) := by decide +kernel
theorem dX7_savedAt_61 : decode cX7_savedAt 61 = .ok (.ifCond .eq 5, 3) := by decide +kernel
theorem dX7_savedAt_64 : decode cX7_savedAt 64 = .ok (.iconst 0, 1) := by decide +kernel
theorem dX7_savedAt_65 : decode cX7_savedAt 65 = .ok (.ireturn, 1) := by decide +kernel
theorem dX7_savedAt_66 : decode cX7_savedAt 66 = .ok (.aload_n 0, 1) := by decide +kernel
theorem dX7_savedAt_67 : decode cX7_savedAt 67 = .ok (.getfield 42, 3) := by decide +kernel
theorem dX7_savedAt_70 : decode cX7_savedAt 70 = .ok (.bipush 61, 2) := by decide +kernel
theorem dX7_savedAt_72 : decode cX7_savedAt 72 = .ok (.iload_n 1, 1) := by decide +kernel
theorem dX7_savedAt_73 : decode cX7_savedAt 73 = .ok (.imul, 1) := by decide +kernel
theorem dX7_savedAt_74 : decode cX7_savedAt 74 = .ok (.iload_n 2, 1) := by decide +kernel
theorem dX7_savedAt_75 : decode cX7_savedAt 75 = .ok (.iadd, 1) := by decide +kernel
theorem dX7_savedAt_76 : decode cX7_savedAt 76 = .ok (.iaload, 1) := by decide +kernel
theorem dX7_savedAt_77 : decode cX7_savedAt 77 = .ok (.ireturn, 1) := by decide +kernel
theorem dX7_canRebuild_0 : decode cX7_canRebuild 0 = .ok (.iconst 0, 1) := by decide +kernel
theorem dX7_canRebuild_1 : decode cX7_canRebuild 1 = .ok (.istore_n 3, 1) := by decide +kernel
theorem dX7_canRebuild_2 : decode cX7_canRebuild 2 = .ok (.iconst 1, 1) := by decide +kernel
theorem dX7_canRebuild_3 : decode cX7_canRebuild 3 = .ok (.istore 4, 2) := by decide +kernel
theorem dX7_canRebuild_5 : decode cX7_canRebuild 5 = .ok (.iconst 0, 1) := by decide +kernel
theorem dX7_canRebuild_6 : decode cX7_canRebuild 6 = .ok (.istore 5, 2) := by decide +kernel
theorem dX7_canRebuild_8 : decode cX7_canRebuild 8 = .ok (.iload 5, 2) := by decide +kernel
theorem dX7_canRebuild_10 : decode cX7_canRebuild 10 = .ok (.iconst 4, 1) := by decide +kernel
theorem dX7_canRebuild_11 : decode cX7_canRebuild 11 = .ok (.if_icmp .ge 67, 3) := by decide +kernel
theorem dX7_canRebuild_14 : decode cX7_canRebuild 14 = .ok (.aload_n 0, 1) := by decide +kernel
theorem dX7_canRebuild_15 : decode cX7_canRebuild 15 = .ok (.getfield 51, 3) := by decide +kernel
theorem dX7_canRebuild_18 : decode cX7_canRebuild 18 = .ok (.iconst 4, 1) := by decide +kernel
theorem dX7_canRebuild_19 : decode cX7_canRebuild 19 = .ok (.iload_n 1, 1) := by decide +kernel
theorem dX7_canRebuild_20 : decode cX7_canRebuild 20 = .ok (.imul, 1) := by decide +kernel
theorem dX7_canRebuild_21 : decode cX7_canRebuild 21 = .ok (.iload 5, 2) := by decide +kernel
theorem dX7_canRebuild_23 : decode cX7_canRebuild 23 = .ok (.iadd, 1) := by decide +kernel
theorem dX7_canRebuild_24 : decode cX7_canRebuild 24 = .ok (.baload, 1) := by decide +kernel
theorem dX7_canRebuild_25 : decode cX7_canRebuild 25 = .ok (.ifCond .ne 6, 3) := by decide +kernel
theorem dX7_canRebuild_28 : decode cX7_canRebuild 28 = .ok (.goto 44, 3) := by decide +kernel
theorem dX7_canRebuild_31 : decode cX7_canRebuild 31 = .ok (.iconst 1, 1) := by decide +kernel
theorem dX7_canRebuild_32 : decode cX7_canRebuild 32 = .ok (.istore_n 3, 1) := by decide +kernel
theorem dX7_canRebuild_33 : decode cX7_canRebuild 33 = .ok (.iload 4, 2) := by decide +kernel
theorem dX7_canRebuild_35 : decode cX7_canRebuild 35 = .ok (.aload_n 0, 1) := by decide +kernel
theorem dX7_canRebuild_36 : decode cX7_canRebuild 36 = .ok (.getfield 54, 3) := by decide +kernel
theorem dX7_canRebuild_39 : decode cX7_canRebuild 39 = .ok (.iconst 4, 1) := by decide +kernel
theorem dX7_canRebuild_40 : decode cX7_canRebuild 40 = .ok (.iload_n 1, 1) := by decide +kernel
theorem dX7_canRebuild_41 : decode cX7_canRebuild 41 = .ok (.imul, 1) := by decide +kernel
theorem dX7_canRebuild_42 : decode cX7_canRebuild 42 = .ok (.iload 5, 2) := by decide +kernel
theorem dX7_canRebuild_44 : decode cX7_canRebuild 44 = .ok (.iadd, 1) := by decide +kernel
theorem dX7_canRebuild_45 : decode cX7_canRebuild 45 = .ok (.baload, 1) := by decide +kernel
theorem dX7_canRebuild_46 : decode cX7_canRebuild 46 = .ok (.ifCond .ne 22, 3) := by decide +kernel
theorem dX7_canRebuild_49 : decode cX7_canRebuild 49 = .ok (.aload_n 0, 1) := by decide +kernel
theorem dX7_canRebuild_50 : decode cX7_canRebuild 50 = .ok (.getfield 48, 3) := by decide +kernel
theorem dX7_canRebuild_53 : decode cX7_canRebuild 53 = .ok (.bipush 16, 2) := by decide +kernel
theorem dX7_canRebuild_55 : decode cX7_canRebuild 55 = .ok (.iload 5, 2) := by decide +kernel
theorem dX7_canRebuild_57 : decode cX7_canRebuild 57 = .ok (.imul, 1) := by decide +kernel
theorem dX7_canRebuild_58 : decode cX7_canRebuild 58 = .ok (.iload_n 2, 1) := by decide +kernel
theorem dX7_canRebuild_59 : decode cX7_canRebuild 59 = .ok (.iadd, 1) := by decide +kernel
theorem dX7_canRebuild_60 : decode cX7_canRebuild 60 = .ok (.baload, 1) := by decide +kernel
theorem dX7_canRebuild_61 : decode cX7_canRebuild 61 = .ok (.ifCond .ne 7, 3) := by decide +kernel
theorem dX7_canRebuild_64 : decode cX7_canRebuild 64 = .ok (.iconst 1, 1) := by decide +kernel
theorem dX7_canRebuild_65 : decode cX7_canRebuild 65 = .ok (.goto 4, 3) := by decide +kernel
theorem dX7_canRebuild_68 : decode cX7_canRebuild 68 = .ok (.iconst 0, 1) := by decide +kernel
theorem dX7_canRebuild_69 : decode cX7_canRebuild 69 = .ok (.iand, 1) := by decide +kernel
theorem dX7_canRebuild_70 : decode cX7_canRebuild 70 = .ok (.istore 4, 2) := by decide +kernel
theorem dX7_canRebuild_72 : decode cX7_canRebuild 72 = .ok (.iinc 5 1, 3) := by decide +kernel
theorem dX7_canRebuild_75 : decode cX7_canRebuild 75 = .ok (.goto (-67), 3) := by decide +kernel
theorem dX7_canRebuild_78 : decode cX7_canRebuild 78 = .ok (.iload_n 3, 1) := by decide +kernel
theorem dX7_canRebuild_79 : decode cX7_canRebuild 79 = .ok (.ifCond .eq 12, 3) := by decide +kernel
theorem dX7_canRebuild_82 : decode cX7_canRebuild 82 = .ok (.iload 4, 2) := by decide +kernel
theorem dX7_canRebuild_84 : decode cX7_canRebuild 84 = .ok (.ifCond .eq 7, 3) := by decide +kernel
theorem dX7_canRebuild_87 : decode cX7_canRebuild 87 = .ok (.iconst 1, 1) := by decide +kernel
theorem dX7_canRebuild_88 : decode cX7_canRebuild 88 = .ok (.goto 4, 3) := by decide +kernel
theorem dX7_canRebuild_91 : decode cX7_canRebuild 91 = .ok (.iconst 0, 1) := by decide +kernel
theorem dX7_canRebuild_92 : decode cX7_canRebuild 92 = .ok (.ireturn, 1) := by decide +kernel
theorem dX7_repair_0 : decode cX7_repair 0 = .ok (.aload_n 0, 1) := by decide +kernel
theorem dX7_repair_1 : decode cX7_repair 1 = .ok (.iload_n 1, 1) := by decide +kernel
theorem dX7_repair_2 : decode cX7_repair 2 = .ok (.invokevirtual 178, 3) := by decide +kernel
theorem dX7_repair_5 : decode cX7_repair 5 = .ok (.ifCond .eq 5, 3) := by decide +kernel
theorem dX7_repair_8 : decode cX7_repair 8 = .ok (.iconst 0, 1) := by decide +kernel
theorem dX7_repair_9 : decode cX7_repair 9 = .ok (.ireturn, 1) := by decide +kernel
theorem dX7_repair_10 : decode cX7_repair 10 = .ok (.iconst 0, 1) := by decide +kernel
theorem dX7_repair_11 : decode cX7_repair 11 = .ok (.istore_n 2, 1) := by decide +kernel
theorem dX7_repair_12 : decode cX7_repair 12 = .ok (.iconst 0, 1) := by decide +kernel
theorem dX7_repair_13 : decode cX7_repair 13 = .ok (.istore_n 3, 1) := by decide +kernel
theorem dX7_repair_14 : decode cX7_repair 14 = .ok (.iload_n 3, 1) := by decide +kernel
theorem dX7_repair_15 : decode cX7_repair 15 = .ok (.aload_n 0, 1) := by decide +kernel
theorem dX7_repair_16 : decode cX7_repair 16 = .ok (.iload_n 1, 1) := by decide +kernel
theorem dX7_repair_17 : decode cX7_repair 17 = .ok (.invokevirtual 181, 3) := by decide +kernel
theorem dX7_repair_20 : decode cX7_repair 20 = .ok (.if_icmp .ge 50, 3) := by decide +kernel
theorem dX7_repair_23 : decode cX7_repair 23 = .ok (.aload_n 0, 1) := by decide +kernel
theorem dX7_repair_24 : decode cX7_repair 24 = .ok (.getfield 48, 3) := by decide +kernel
theorem dX7_repair_27 : decode cX7_repair 27 = .ok (.bipush 16, 2) := by decide +kernel
theorem dX7_repair_29 : decode cX7_repair 29 = .ok (.iload_n 1, 1) := by decide +kernel
theorem dX7_repair_30 : decode cX7_repair 30 = .ok (.imul, 1) := by decide +kernel
theorem dX7_repair_31 : decode cX7_repair 31 = .ok (.iload_n 3, 1) := by decide +kernel
theorem dX7_repair_32 : decode cX7_repair 32 = .ok (.iadd, 1) := by decide +kernel
theorem dX7_repair_33 : decode cX7_repair 33 = .ok (.baload, 1) := by decide +kernel
theorem dX7_repair_34 : decode cX7_repair 34 = .ok (.ifCond .eq 30, 3) := by decide +kernel
theorem dX7_repair_37 : decode cX7_repair 37 = .ok (.aload_n 0, 1) := by decide +kernel
theorem dX7_repair_38 : decode cX7_repair 38 = .ok (.iload_n 1, 1) := by decide +kernel
theorem dX7_repair_39 : decode cX7_repair 39 = .ok (.iload_n 3, 1) := by decide +kernel
theorem dX7_repair_40 : decode cX7_repair 40 = .ok (.invokevirtual 184, 3) := by decide +kernel
theorem dX7_repair_43 : decode cX7_repair 43 = .ok (.ifCond .ne 6, 3) := by decide +kernel
theorem dX7_repair_46 : decode cX7_repair 46 = .ok (.goto 18, 3) := by decide +kernel
theorem dX7_repair_49 : decode cX7_repair 49 = .ok (.aload_n 0, 1) := by decide +kernel
theorem dX7_repair_50 : decode cX7_repair 50 = .ok (.getfield 48, 3) := by decide +kernel
theorem dX7_repair_53 : decode cX7_repair 53 = .ok (.bipush 16, 2) := by decide +kernel
theorem dX7_repair_55 : decode cX7_repair 55 = .ok (.iload_n 1, 1) := by decide +kernel
theorem dX7_repair_56 : decode cX7_repair 56 = .ok (.imul, 1) := by decide +kernel
theorem dX7_repair_57 : decode cX7_repair 57 = .ok (.iload_n 3, 1) := by decide +kernel
theorem dX7_repair_58 : decode cX7_repair 58 = .ok (.iadd, 1) := by decide +kernel
theorem dX7_repair_59 : decode cX7_repair 59 = .ok (.iconst 0, 1) := by decide +kernel
theorem dX7_repair_60 : decode cX7_repair 60 = .ok (.bastore, 1) := by decide +kernel
theorem dX7_repair_61 : decode cX7_repair 61 = .ok (.iinc 2 1, 3) := by decide +kernel
theorem dX7_repair_64 : decode cX7_repair 64 = .ok (.iinc 3 1, 3) := by decide +kernel
theorem dX7_repair_67 : decode cX7_repair 67 = .ok (.goto (-53), 3) := by decide +kernel
theorem dX7_repair_70 : decode cX7_repair 70 = .ok (.iload_n 2, 1) := by decide +kernel
theorem dX7_repair_71 : decode cX7_repair 71 = .ok (.ireturn, 1) := by decide +kernel
theorem dX7_load_0 : decode cX7_load 0 = .ok (.aload_n 0, 1) := by decide +kernel
theorem dX7_load_1 : decode cX7_load 1 = .ok (.iload_n 1, 1) := by decide +kernel
theorem dX7_load_2 : decode cX7_load 2 = .ok (.invokevirtual 178, 3) := by decide +kernel
theorem dX7_load_5 : decode cX7_load 5 = .ok (.ifCond .eq 5, 3) := by decide +kernel
theorem dX7_load_8 : decode cX7_load 8 = .ok (.iconst 0, 1) := by decide +kernel
theorem dX7_load_9 : decode cX7_load 9 = .ok (.ireturn, 1) := by decide +kernel
theorem dX7_load_10 : decode cX7_load 10 = .ok (.iconst 1, 1) := by decide +kernel
theorem dX7_load_11 : decode cX7_load 11 = .ok (.istore_n 2, 1) := by decide +kernel
theorem dX7_load_12 : decode cX7_load 12 = .ok (.iconst 0, 1) := by decide +kernel
theorem dX7_load_13 : decode cX7_load 13 = .ok (.istore_n 3, 1) := by decide +kernel
theorem dX7_load_14 : decode cX7_load 14 = .ok (.iload_n 3, 1) := by decide +kernel
theorem dX7_load_15 : decode cX7_load 15 = .ok (.aload_n 0, 1) := by decide +kernel
theorem dX7_load_16 : decode cX7_load 16 = .ok (.iload_n 1, 1) := by decide +kernel
theorem dX7_load_17 : decode cX7_load 17 = .ok (.invokevirtual 181, 3) := by decide +kernel
theorem dX7_load_20 : decode cX7_load 20 = .ok (.if_icmp .ge 31, 3) := by decide +kernel
theorem dX7_load_23 : decode cX7_load 23 = .ok (.iload_n 2, 1) := by decide +kernel
theorem dX7_load_24 : decode cX7_load 24 = .ok (.aload_n 0, 1) := by decide +kernel
theorem dX7_load_25 : decode cX7_load 25 = .ok (.getfield 48, 3) := by decide +kernel
theorem dX7_load_28 : decode cX7_load 28 = .ok (.bipush 16, 2) := by decide +kernel
theorem dX7_load_30 : decode cX7_load 30 = .ok (.iload_n 1, 1) := by decide +kernel
theorem dX7_load_31 : decode cX7_load 31 = .ok (.imul, 1) := by decide +kernel
theorem dX7_load_32 : decode cX7_load 32 = .ok (.iload_n 3, 1) := by decide +kernel
theorem dX7_load_33 : decode cX7_load 33 = .ok (.iadd, 1) := by decide +kernel
theorem dX7_load_34 : decode cX7_load 34 = .ok (.baload, 1) := by decide +kernel
theorem dX7_load_35 : decode cX7_load 35 = .ok (.ifCond .ne 7, 3) := by decide +kernel
theorem dX7_load_38 : decode cX7_load 38 = .ok (.iconst 1, 1) := by decide +kernel
theorem dX7_load_39 : decode cX7_load 39 = .ok (.goto 4, 3) := by decide +kernel
theorem dX7_load_42 : decode cX7_load 42 = .ok (.iconst 0, 1) := by decide +kernel
theorem dX7_load_43 : decode cX7_load 43 = .ok (.iand, 1) := by decide +kernel
theorem dX7_load_44 : decode cX7_load 44 = .ok (.istore_n 2, 1) := by decide +kernel
theorem dX7_load_45 : decode cX7_load 45 = .ok (.iinc 3 1, 3) := by decide +kernel
theorem dX7_load_48 : decode cX7_load 48 = .ok (.goto (-34), 3) := by decide +kernel
theorem dX7_load_51 : decode cX7_load 51 = .ok (.aload_n 0, 1) := by decide +kernel
theorem dX7_load_52 : decode cX7_load 52 = .ok (.iload_n 2, 1) := by decide +kernel
theorem dX7_load_53 : decode cX7_load 53 = .ok (.iconst 3, 1) := by decide +kernel
theorem dX7_load_54 : decode cX7_load 54 = .ok (.invokevirtual 61, 3) := by decide +kernel
theorem dX7_load_57 : decode cX7_load 57 = .ok (.ifCond .eq 5, 3) := by decide +kernel
theorem dX7_load_60 : decode cX7_load 60 = .ok (.iconst 0, 1) := by decide +kernel
theorem dX7_load_61 : decode cX7_load 61 = .ok (.ireturn, 1) := by decide +kernel
theorem dX7_load_62 : decode cX7_load 62 = .ok (.iconst 0, 1) := by decide +kernel
theorem dX7_load_63 : decode cX7_load 63 = .ok (.istore_n 3, 1) := by decide +kernel
theorem dX7_load_64 : decode cX7_load 64 = .ok (.iload_n 3, 1) := by decide +kernel
theorem dX7_load_65 : decode cX7_load 65 = .ok (.bipush 61, 2) := by decide +kernel
theorem dX7_load_67 : decode cX7_load 67 = .ok (.if_icmp .ge 31, 3) := by decide +kernel
theorem dX7_load_70 : decode cX7_load 70 = .ok (.aload_n 0, 1) := by decide +kernel
theorem dX7_load_71 : decode cX7_load 71 = .ok (.getfield 36, 3) := by decide +kernel
theorem dX7_load_74 : decode cX7_load 74 = .ok (.bipush 61, 2) := by decide +kernel
theorem dX7_load_76 : decode cX7_load 76 = .ok (.iload_n 1, 1) := by decide +kernel
theorem dX7_load_77 : decode cX7_load 77 = .ok (.imul, 1) := by decide +kernel
theorem dX7_load_78 : decode cX7_load 78 = .ok (.iload_n 3, 1) := by decide +kernel
theorem dX7_load_79 : decode cX7_load 79 = .ok (.iadd, 1) := by decide +kernel
theorem dX7_load_80 : decode cX7_load 80 = .ok (.aload_n 0, 1) := by decide +kernel
theorem dX7_load_81 : decode cX7_load 81 = .ok (.getfield 42, 3) := by decide +kernel
theorem dX7_load_84 : decode cX7_load 84 = .ok (.bipush 61, 2) := by decide +kernel
theorem dX7_load_86 : decode cX7_load 86 = .ok (.iload_n 1, 1) := by decide +kernel
theorem dX7_load_87 : decode cX7_load 87 = .ok (.imul, 1) := by decide +kernel
theorem dX7_load_88 : decode cX7_load 88 = .ok (.iload_n 3, 1) := by decide +kernel
theorem dX7_load_89 : decode cX7_load 89 = .ok (.iadd, 1) := by decide +kernel
theorem dX7_load_90 : decode cX7_load 90 = .ok (.iaload, 1) := by decide +kernel
theorem dX7_load_91 : decode cX7_load 91 = .ok (.iastore, 1) := by decide +kernel
theorem dX7_load_92 : decode cX7_load 92 = .ok (.iinc 3 1, 3) := by decide +kernel
theorem dX7_load_95 : decode cX7_load 95 = .ok (.goto (-31), 3) := by decide +kernel
theorem dX7_load_98 : decode cX7_load 98 = .ok (.aload_n 0, 1) := by decide +kernel
theorem dX7_load_99 : decode cX7_load 99 = .ok (.getfield 39, 3) := by decide +kernel
theorem dX7_load_102 : decode cX7_load 102 = .ok (.iload_n 1, 1) := by decide +kernel
theorem dX7_load_103 : decode cX7_load 103 = .ok (.aload_n 0, 1) := by decide +kernel
theorem dX7_load_104 : decode cX7_load 104 = .ok (.getfield 45, 3) := by decide +kernel
theorem dX7_load_107 : decode cX7_load 107 = .ok (.iload_n 1, 1) := by decide +kernel
theorem dX7_load_108 : decode cX7_load 108 = .ok (.iaload, 1) := by decide +kernel
theorem dX7_load_109 : decode cX7_load 109 = .ok (.iastore, 1) := by decide +kernel
theorem dX7_load_110 : decode cX7_load 110 = .ok (.aload_n 0, 1) := by decide +kernel
theorem dX7_load_111 : decode cX7_load 111 = .ok (.getfield 39, 3) := by decide +kernel
theorem dX7_load_114 : decode cX7_load 114 = .ok (.iload_n 1, 1) := by decide +kernel
theorem dX7_load_115 : decode cX7_load 115 = .ok (.iaload, 1) := by decide +kernel
theorem dX7_load_116 : decode cX7_load 116 = .ok (.ireturn, 1) := by decide +kernel
theorem dX7_allies_0 : decode cX7_allies 0 = .ok (.aload_n 0, 1) := by decide +kernel
theorem dX7_allies_1 : decode cX7_allies 1 = .ok (.iload_n 1, 1) := by decide +kernel
theorem dX7_allies_2 : decode cX7_allies 2 = .ok (.invokevirtual 178, 3) := by decide +kernel
theorem dX7_allies_5 : decode cX7_allies 5 = .ok (.ifCond .eq 5, 3) := by decide +kernel
theorem dX7_allies_8 : decode cX7_allies 8 = .ok (.iconst 0, 1) := by decide +kernel
theorem dX7_allies_9 : decode cX7_allies 9 = .ok (.ireturn, 1) := by decide +kernel
theorem dX7_allies_10 : decode cX7_allies 10 = .ok (.iconst 0, 1) := by decide +kernel
theorem dX7_allies_11 : decode cX7_allies 11 = .ok (.istore_n 2, 1) := by decide +kernel
theorem dX7_allies_12 : decode cX7_allies 12 = .ok (.iconst 0, 1) := by decide +kernel
theorem dX7_allies_13 : decode cX7_allies 13 = .ok (.istore_n 3, 1) := by decide +kernel
theorem dX7_allies_14 : decode cX7_allies 14 = .ok (.iload_n 3, 1) := by decide +kernel
theorem dX7_allies_15 : decode cX7_allies 15 = .ok (.iconst 4, 1) := by decide +kernel
theorem dX7_allies_16 : decode cX7_allies 16 = .ok (.if_icmp .ge 30, 3) := by decide +kernel
theorem dX7_allies_19 : decode cX7_allies 19 = .ok (.iload_n 2, 1) := by decide +kernel
theorem dX7_allies_20 : decode cX7_allies 20 = .ok (.aload_n 0, 1) := by decide +kernel
theorem dX7_allies_21 : decode cX7_allies 21 = .ok (.getfield 51, 3) := by decide +kernel
theorem dX7_allies_24 : decode cX7_allies 24 = .ok (.iconst 4, 1) := by decide +kernel
theorem dX7_allies_25 : decode cX7_allies 25 = .ok (.iload_n 1, 1) := by decide +kernel
theorem dX7_allies_26 : decode cX7_allies 26 = .ok (.imul, 1) := by decide +kernel
theorem dX7_allies_27 : decode cX7_allies 27 = .ok (.iload_n 3, 1) := by decide +kernel
theorem dX7_allies_28 : decode cX7_allies 28 = .ok (.iadd, 1) := by decide +kernel
theorem dX7_allies_29 : decode cX7_allies 29 = .ok (.baload, 1) := by decide +kernel
theorem dX7_allies_30 : decode cX7_allies 30 = .ok (.ifCond .eq 7, 3) := by decide +kernel
theorem dX7_allies_33 : decode cX7_allies 33 = .ok (.iconst 1, 1) := by decide +kernel
theorem dX7_allies_34 : decode cX7_allies 34 = .ok (.goto 4, 3) := by decide +kernel
theorem dX7_allies_37 : decode cX7_allies 37 = .ok (.iconst 0, 1) := by decide +kernel
theorem dX7_allies_38 : decode cX7_allies 38 = .ok (.iadd, 1) := by decide +kernel
theorem dX7_allies_39 : decode cX7_allies 39 = .ok (.istore_n 2, 1) := by decide +kernel
theorem dX7_allies_40 : decode cX7_allies 40 = .ok (.iinc 3 1, 3) := by decide +kernel
theorem dX7_allies_43 : decode cX7_allies 43 = .ok (.goto (-29), 3) := by decide +kernel
theorem dX7_allies_46 : decode cX7_allies 46 = .ok (.iload_n 2, 1) := by decide +kernel
theorem dX7_allies_47 : decode cX7_allies 47 = .ok (.ireturn, 1) := by decide +kernel
theorem dX7_checksum_0 : decode cX7_checksum 0 = .ok (.lconst 0, 1) := by decide +kernel
theorem dX7_checksum_1 : decode cX7_checksum 1 = .ok (.lstore_n 1, 1) := by decide +kernel
theorem dX7_checksum_2 : decode cX7_checksum 2 = .ok (.iconst 0, 1) := by decide +kernel
theorem dX7_checksum_3 : decode cX7_checksum 3 = .ok (.istore_n 3, 1) := by decide +kernel
theorem dX7_checksum_4 : decode cX7_checksum 4 = .ok (.iload_n 3, 1) := by decide +kernel
theorem dX7_checksum_5 : decode cX7_checksum 5 = .ok (.aload_n 0, 1) := by decide +kernel
theorem dX7_checksum_6 : decode cX7_checksum 6 = .ok (.getfield 65, 3) := by decide +kernel
theorem dX7_checksum_9 : decode cX7_checksum 9 = .ok (.if_icmp .ge 23, 3) := by decide +kernel
theorem dX7_checksum_12 : decode cX7_checksum 12 = .ok (.ldc2_w 187, 3) := by decide +kernel
theorem dX7_checksum_15 : decode cX7_checksum 15 = .ok (.lload_n 1, 1) := by decide +kernel
theorem dX7_checksum_16 : decode cX7_checksum 16 = .ok (.lmul, 1) := by decide +kernel
theorem dX7_checksum_17 : decode cX7_checksum 17 = .ok (.aload_n 0, 1) := by decide +kernel
theorem dX7_checksum_18 : decode cX7_checksum 18 = .ok (.getfield 13, 3) := by decide +kernel
theorem dX7_checksum_21 : decode cX7_checksum 21 = .ok (.iload_n 3, 1) := by decide +kernel
theorem dX7_checksum_22 : decode cX7_checksum 22 = .ok (.iaload, 1) := by decide +kernel
theorem dX7_checksum_23 : decode cX7_checksum 23 = .ok (.i2l, 1) := by decide +kernel
theorem dX7_checksum_24 : decode cX7_checksum 24 = .ok (.ladd, 1) := by decide +kernel
theorem dX7_checksum_25 : decode cX7_checksum 25 = .ok (.lstore_n 1, 1) := by decide +kernel
theorem dX7_checksum_26 : decode cX7_checksum 26 = .ok (.iinc 3 1, 3) := by decide +kernel
theorem dX7_checksum_29 : decode cX7_checksum 29 = .ok (.goto (-25), 3) := by decide +kernel
theorem dX7_checksum_32 : decode cX7_checksum 32 = .ok (.lload_n 1, 1) := by decide +kernel
theorem dX7_checksum_33 : decode cX7_checksum 33 = .ok (.lreturn, 1) := by decide +kernel
theorem dX7_livingShare_0 : decode cX7_livingShare 0 = .ok (.aload_n 0, 1) := by decide +kernel
theorem dX7_livingShare_1 : decode cX7_livingShare 1 = .ok (.aload_n 0, 1) := by decide +kernel
theorem dX7_livingShare_2 : decode cX7_livingShare 2 = .ok (.getfield 65, 3) := by decide +kernel
theorem dX7_livingShare_5 : decode cX7_livingShare 5 = .ok (.ifCond .le 7, 3) := by decide +kernel
theorem dX7_livingShare_8 : decode cX7_livingShare 8 = .ok (.iconst 1, 1) := by decide +kernel
theorem dX7_livingShare_9 : decode cX7_livingShare 9 = .ok (.goto 4, 3) := by decide +kernel
theorem dX7_livingShare_12 : decode cX7_livingShare 12 = .ok (.iconst 0, 1) := by decide +kernel
theorem dX7_livingShare_13 : decode cX7_livingShare 13 = .ok (.iconst 1, 1) := by decide +kernel
theorem dX7_livingShare_14 : decode cX7_livingShare 14 = .ok (.invokevirtual 61, 3) := by decide +kernel
theorem dX7_livingShare_17 : decode cX7_livingShare 17 = .ok (.ifCond .eq 7, 3) := by decide +kernel
theorem dX7_livingShare_20 : decode cX7_livingShare 20 = .ok (.fconst 0, 1) := by decide +kernel
theorem dX7_livingShare_21 : decode cX7_livingShare 21 = .ok (.goto 14, 3) := by decide +kernel
theorem dX7_livingShare_24 : decode cX7_livingShare 24 = .ok (.aload_n 0, 1) := by decide +kernel
theorem dX7_livingShare_25 : decode cX7_livingShare 25 = .ok (.invokevirtual 121, 3) := by decide +kernel
theorem dX7_livingShare_28 : decode cX7_livingShare 28 = .ok (.i2f, 1) := by decide +kernel
theorem dX7_livingShare_29 : decode cX7_livingShare 29 = .ok (.aload_n 0, 1) := by decide +kernel
theorem dX7_livingShare_30 : decode cX7_livingShare 30 = .ok (.getfield 65, 3) := by decide +kernel
theorem dX7_livingShare_33 : decode cX7_livingShare 33 = .ok (.i2f, 1) := by decide +kernel
theorem dX7_livingShare_34 : decode cX7_livingShare 34 = .ok (.fdiv, 1) := by decide +kernel
theorem dX7_livingShare_35 : decode cX7_livingShare 35 = .ok (.freturn, 1) := by decide +kernel
theorem dX7_meanAge_0 : decode cX7_meanAge 0 = .ok (.iconst 0, 1) := by decide +kernel
theorem dX7_meanAge_1 : decode cX7_meanAge 1 = .ok (.istore_n 1, 1) := by decide +kernel
theorem dX7_meanAge_2 : decode cX7_meanAge 2 = .ok (.iconst 0, 1) := by decide +kernel
theorem dX7_meanAge_3 : decode cX7_meanAge 3 = .ok (.istore_n 2, 1) := by decide +kernel
theorem dX7_meanAge_4 : decode cX7_meanAge 4 = .ok (.iconst 0, 1) := by decide +kernel
theorem dX7_meanAge_5 : decode cX7_meanAge 5 = .ok (.istore_n 3, 1) := by decide +kernel
theorem dX7_meanAge_6 : decode cX7_meanAge 6 = .ok (.iload_n 3, 1) := by decide +kernel
theorem dX7_meanAge_7 : decode cX7_meanAge 7 = .ok (.iconst 4, 1) := by decide +kernel
theorem dX7_meanAge_8 : decode cX7_meanAge 8 = .ok (.if_icmp .ge 55, 3) := by decide +kernel
theorem dX7_meanAge_11 : decode cX7_meanAge 11 = .ok (.iconst 0, 1) := by decide +kernel
theorem dX7_meanAge_12 : decode cX7_meanAge 12 = .ok (.istore 4, 2) := by decide +kernel
theorem dX7_meanAge_14 : decode cX7_meanAge 14 = .ok (.iload 4, 2) := by decide +kernel
theorem dX7_meanAge_16 : decode cX7_meanAge 16 = .ok (.aload_n 0, 1) := by decide +kernel
theorem dX7_meanAge_17 : decode cX7_meanAge 17 = .ok (.getfield 39, 3) := by decide +kernel
theorem dX7_meanAge_20 : decode cX7_meanAge 20 = .ok (.iload_n 3, 1) := by decide +kernel
theorem dX7_meanAge_21 : decode cX7_meanAge 21 = .ok (.iaload, 1) := by decide +kernel
theorem dX7_meanAge_22 : decode cX7_meanAge 22 = .ok (.if_icmp .ge 35, 3) := by decide +kernel
theorem dX7_meanAge_25 : decode cX7_meanAge 25 = .ok (.iload_n 1, 1) := by decide +kernel
theorem dX7_meanAge_26 : decode cX7_meanAge 26 = .ok (.aload_n 0, 1) := by decide +kernel
theorem dX7_meanAge_27 : decode cX7_meanAge 27 = .ok (.getfield 84, 3) := by decide +kernel
theorem dX7_meanAge_30 : decode cX7_meanAge 30 = .ok (.aload_n 0, 1) := by decide +kernel
theorem dX7_meanAge_31 : decode cX7_meanAge 31 = .ok (.getfield 36, 3) := by decide +kernel
theorem dX7_meanAge_34 : decode cX7_meanAge 34 = .ok (.bipush 61, 2) := by decide +kernel
theorem dX7_meanAge_36 : decode cX7_meanAge 36 = .ok (.iload_n 3, 1) := by decide +kernel
theorem dX7_meanAge_37 : decode cX7_meanAge 37 = .ok (.imul, 1) := by decide +kernel
theorem dX7_meanAge_38 : decode cX7_meanAge 38 = .ok (.iload 4, 2) := by decide +kernel
theorem dX7_meanAge_40 : decode cX7_meanAge 40 = .ok (.iadd, 1) := by decide +kernel
theorem dX7_meanAge_41 : decode cX7_meanAge 41 = .ok (.iaload, 1) := by decide +kernel
theorem dX7_meanAge_42 : decode cX7_meanAge 42 = .ok (.invokestatic 153, 3) := by decide +kernel
theorem dX7_meanAge_45 : decode cX7_meanAge 45 = .ok (.isub, 1) := by decide +kernel
theorem dX7_meanAge_46 : decode cX7_meanAge 46 = .ok (.iadd, 1) := by decide +kernel
theorem dX7_meanAge_47 : decode cX7_meanAge 47 = .ok (.istore_n 1, 1) := by decide +kernel
theorem dX7_meanAge_48 : decode cX7_meanAge 48 = .ok (.iinc 2 1, 3) := by decide +kernel
theorem dX7_meanAge_51 : decode cX7_meanAge 51 = .ok (.iinc 4 1, 3) := by decide +kernel
theorem dX7_meanAge_54 : decode cX7_meanAge 54 = .ok (.goto (-40), 3) := by decide +kernel
theorem dX7_meanAge_57 : decode cX7_meanAge 57 = .ok (.iinc 3 1, 3) := by decide +kernel
theorem dX7_meanAge_60 : decode cX7_meanAge 60 = .ok (.goto (-54), 3) := by decide +kernel
theorem dX7_meanAge_63 : decode cX7_meanAge 63 = .ok (.aload_n 0, 1) := by decide +kernel
theorem dX7_meanAge_64 : decode cX7_meanAge 64 = .ok (.iload_n 2, 1) := by decide +kernel
theorem dX7_meanAge_65 : decode cX7_meanAge 65 = .ok (.ifCond .le 7, 3) := by decide +kernel
theorem dX7_meanAge_68 : decode cX7_meanAge 68 = .ok (.iconst 1, 1) := by decide +kernel
theorem dX7_meanAge_69 : decode cX7_meanAge 69 = .ok (.goto 4, 3) := by decide +kernel
theorem dX7_meanAge_72 : decode cX7_meanAge 72 = .ok (.iconst 0, 1) := by decide +kernel
theorem dX7_meanAge_73 : decode cX7_meanAge 73 = .ok (.iconst 1, 1) := by decide +kernel
theorem dX7_meanAge_74 : decode cX7_meanAge 74 = .ok (.invokevirtual 61, 3) := by decide +kernel
theorem dX7_meanAge_77 : decode cX7_meanAge 77 = .ok (.ifCond .eq 7, 3) := by decide +kernel
theorem dX7_meanAge_80 : decode cX7_meanAge 80 = .ok (.dconst 0, 1) := by decide +kernel
theorem dX7_meanAge_81 : decode cX7_meanAge 81 = .ok (.goto 8, 3) := by decide +kernel
theorem dX7_meanAge_84 : decode cX7_meanAge 84 = .ok (.iload_n 1, 1) := by decide +kernel
theorem dX7_meanAge_85 : decode cX7_meanAge 85 = .ok (.i2d, 1) := by decide +kernel
theorem dX7_meanAge_86 : decode cX7_meanAge 86 = .ok (.iload_n 2, 1) := by decide +kernel
theorem dX7_meanAge_87 : decode cX7_meanAge 87 = .ok (.i2d, 1) := by decide +kernel
theorem dX7_meanAge_88 : decode cX7_meanAge 88 = .ok (.ddiv, 1) := by decide +kernel
theorem dX7_meanAge_89 : decode cX7_meanAge 89 = .ok (.dreturn, 1) := by decide +kernel
theorem dX7_isSound_0 : decode cX7_isSound 0 = .ok (.iconst 1, 1) := by decide +kernel
theorem dX7_isSound_1 : decode cX7_isSound 1 = .ok (.ireturn, 1) := by decide +kernel

theorem dX6_init_0 : decode cX6_init 0 = .ok (.aload_n 0, 1) := by decide +kernel
theorem dX6_init_1 : decode cX6_init 1 = .ok (.invokespecial 1, 3) := by decide +kernel
theorem dX6_init_4 : decode cX6_init 4 = .ok (.aload_n 0, 1) := by decide +kernel
theorem dX6_init_5 : decode cX6_init 5 = .ok (.new 7, 3) := by decide +kernel
theorem dX6_init_8 : decode cX6_init 8 = .ok (.dup, 1) := by decide +kernel
theorem dX6_init_9 : decode cX6_init 9 = .ok (.invokespecial 9, 3) := by decide +kernel
theorem dX6_init_12 : decode cX6_init 12 = .ok (.putfield 10, 3) := by decide +kernel
theorem dX6_init_15 : decode cX6_init 15 = .ok (.aload_n 0, 1) := by decide +kernel
theorem dX6_init_16 : decode cX6_init 16 = .ok (.new 7, 3) := by decide +kernel
theorem dX6_init_19 : decode cX6_init 19 = .ok (.dup, 1) := by decide +kernel
theorem dX6_init_20 : decode cX6_init 20 = .ok (.invokespecial 9, 3) := by decide +kernel
theorem dX6_init_23 : decode cX6_init 23 = .ok (.putfield 16, 3) := by decide +kernel
theorem dX6_init_26 : decode cX6_init 26 = .ok (.aload_n 0, 1) := by decide +kernel
theorem dX6_init_27 : decode cX6_init 27 = .ok (.new 19, 3) := by decide +kernel
theorem dX6_init_30 : decode cX6_init 30 = .ok (.dup, 1) := by decide +kernel
theorem dX6_init_31 : decode cX6_init 31 = .ok (.invokespecial 21, 3) := by decide +kernel
theorem dX6_init_34 : decode cX6_init 34 = .ok (.putfield 22, 3) := by decide +kernel
theorem dX6_init_37 : decode cX6_init 37 = .ok (.aload_n 0, 1) := by decide +kernel
theorem dX6_init_38 : decode cX6_init 38 = .ok (.iconst 4, 1) := by decide +kernel
theorem dX6_init_39 : decode cX6_init 39 = .ok (.anewarray 26, 3) := by decide +kernel
theorem dX6_init_42 : decode cX6_init 42 = .ok (.putfield 28, 3) := by decide +kernel
theorem dX6_init_45 : decode cX6_init 45 = .ok (.aload_n 0, 1) := by decide +kernel
theorem dX6_init_46 : decode cX6_init 46 = .ok (.iconst 4, 1) := by decide +kernel
theorem dX6_init_47 : decode cX6_init 47 = .ok (.anewarray 32, 3) := by decide +kernel
theorem dX6_init_50 : decode cX6_init 50 = .ok (.putfield 34, 3) := by decide +kernel
theorem dX6_init_53 : decode cX6_init 53 = .ok (.aload_n 0, 1) := by decide +kernel
theorem dX6_init_54 : decode cX6_init 54 = .ok (.iconst 4, 1) := by decide +kernel
theorem dX6_init_55 : decode cX6_init 55 = .ok (.newarray .int, 2) := by decide +kernel
theorem dX6_init_57 : decode cX6_init 57 = .ok (.putfield 38, 3) := by decide +kernel
theorem dX6_init_60 : decode cX6_init 60 = .ok (.aload_n 0, 1) := by decide +kernel
theorem dX6_init_61 : decode cX6_init 61 = .ok (.iconst 4, 1) := by decide +kernel
theorem dX6_init_62 : decode cX6_init 62 = .ok (.newarray .int, 2) := by decide +kernel
theorem dX6_init_64 : decode cX6_init 64 = .ok (.putfield 42, 3) := by decide +kernel
theorem dX6_init_67 : decode cX6_init 67 = .ok (.iconst 0, 1) := by decide +kernel
theorem dX6_init_68 : decode cX6_init 68 = .ok (.istore_n 1, 1) := by decide +kernel
theorem dX6_init_69 : decode cX6_init 69 = .ok (.iload_n 1, 1) := by decide +kernel
theorem dX6_init_70 : decode cX6_init 70 = .ok (.iconst 4, 1) := by decide +kernel
theorem dX6_init_71 : decode cX6_init 71 = .ok (.if_icmp .ge 35, 3) := by decide +kernel
theorem dX6_init_74 : decode cX6_init 74 = .ok (.aload_n 0, 1) := by decide +kernel
theorem dX6_init_75 : decode cX6_init 75 = .ok (.getfield 28, 3) := by decide +kernel
theorem dX6_init_78 : decode cX6_init 78 = .ok (.iload_n 1, 1) := by decide +kernel
theorem dX6_init_79 : decode cX6_init 79 = .ok (.new 26, 3) := by decide +kernel
theorem dX6_init_82 : decode cX6_init 82 = .ok (.dup, 1) := by decide +kernel
theorem dX6_init_83 : decode cX6_init 83 = .ok (.invokespecial 45, 3) := by decide +kernel
theorem dX6_init_86 : decode cX6_init 86 = .ok (.aastore, 1) := by decide +kernel
theorem dX6_init_87 : decode cX6_init 87 = .ok (.aload_n 0, 1) := by decide +kernel
theorem dX6_init_88 : decode cX6_init 88 = .ok (.getfield 34, 3) := by decide +kernel
theorem dX6_init_91 : decode cX6_init 91 = .ok (.iload_n 1, 1) := by decide +kernel
theorem dX6_init_92 : decode cX6_init 92 = .ok (.new 32, 3) := by decide +kernel
theorem dX6_init_95 : decode cX6_init 95 = .ok (.dup, 1) := by decide +kernel
theorem dX6_init_96 : decode cX6_init 96 = .ok (.invokespecial 46, 3) := by decide +kernel
theorem dX6_init_99 : decode cX6_init 99 = .ok (.aastore, 1) := by decide +kernel
theorem dX6_init_100 : decode cX6_init 100 = .ok (.iinc 1 1, 3) := by decide +kernel
theorem dX6_init_103 : decode cX6_init 103 = .ok (.goto (-34), 3) := by decide +kernel
theorem dX6_init_106 : decode cX6_init 106 = .ok (.aload_n 0, 1) := by decide +kernel
theorem dX6_init_107 : decode cX6_init 107 = .ok (.getfield 10, 3) := by decide +kernel
theorem dX6_init_110 : decode cX6_init 110 = .ok (.getfield 47, 3) := by decide +kernel
theorem dX6_init_113 : decode cX6_init 113 = .ok (.iconst 0, 1) := by decide +kernel
theorem dX6_init_114 : decode cX6_init 114 = .ok (.invokevirtual 51, 3) := by decide +kernel
theorem dX6_init_117 : decode cX6_init 117 = .ok (.return_, 1) := by decide +kernel
theorem dX6_setSeed_0 : decode cX6_setSeed 0 = .ok (.aload_n 0, 1) := by decide +kernel
theorem dX6_setSeed_1 : decode cX6_setSeed 1 = .ok (.getfield 10, 3) := by decide +kernel
theorem dX6_setSeed_4 : decode cX6_setSeed 4 = .ok (.getfield 57, 3) := by decide +kernel
theorem dX6_setSeed_7 : decode cX6_setSeed 7 = .ok (.getfield 61, 3) := by decide +kernel
theorem dX6_setSeed_10 : decode cX6_setSeed 10 = .ok (.ifCond .le 13, 3) := by decide +kernel
theorem dX6_setSeed_13 : decode cX6_setSeed 13 = .ok (.new 67, 3) := by decide +kernel
theorem dX6_setSeed_16 : decode cX6_setSeed 16 = .ok (.dup, 1) := by decide +kernel
theorem dX6_setSeed_17 : decode cX6_setSeed 17 = .ok (.ldc 69, 2) := by decide +kernel
theorem dX6_setSeed_19 : decode cX6_setSeed 19 = .ok (.invokespecial 71, 3) := by decide +kernel
theorem dX6_setSeed_22 : decode cX6_setSeed 22 = .ok (.athrow, 1) := by decide +kernel
theorem dX6_setSeed_23 : decode cX6_setSeed 23 = .ok (.aload_n 0, 1) := by decide +kernel
theorem dX6_setSeed_24 : decode cX6_setSeed 24 = .ok (.getfield 74, 3) := by decide +kernel
theorem dX6_setSeed_27 : decode cX6_setSeed 27 = .ok (.istore_n 2, 1) := by decide +kernel
theorem dX6_setSeed_28 : decode cX6_setSeed 28 = .ok (.aload_n 0, 1) := by decide +kernel
theorem dX6_setSeed_29 : decode cX6_setSeed 29 = .ok (.iload_n 1, 1) := by decide +kernel
theorem dX6_setSeed_30 : decode cX6_setSeed 30 = .ok (.putfield 74, 3) := by decide +kernel
theorem dX6_setSeed_33 : decode cX6_setSeed 33 = .ok (.aload_n 0, 1) := by decide +kernel
theorem dX6_setSeed_34 : decode cX6_setSeed 34 = .ok (.getfield 10, 3) := by decide +kernel
theorem dX6_setSeed_37 : decode cX6_setSeed 37 = .ok (.getfield 47, 3) := by decide +kernel
theorem dX6_setSeed_40 : decode cX6_setSeed 40 = .ok (.iload_n 1, 1) := by decide +kernel
theorem dX6_setSeed_41 : decode cX6_setSeed 41 = .ok (.invokevirtual 51, 3) := by decide +kernel
theorem dX6_setSeed_44 : decode cX6_setSeed 44 = .ok (.iload_n 2, 1) := by decide +kernel
theorem dX6_setSeed_45 : decode cX6_setSeed 45 = .ok (.ireturn, 1) := by decide +kernel
theorem dX6_ground_0 : decode cX6_ground 0 = .ok (.iload_n 1, 1) := by decide +kernel
theorem dX6_ground_1 : decode cX6_ground 1 = .ok (.invokestatic 77, 3) := by decide +kernel
theorem dX6_ground_4 : decode cX6_ground 4 = .ok (.aload_n 0, 1) := by decide +kernel
theorem dX6_ground_5 : decode cX6_ground 5 = .ok (.getfield 10, 3) := by decide +kernel
theorem dX6_ground_8 : decode cX6_ground 8 = .ok (.getfield 47, 3) := by decide +kernel
theorem dX6_ground_11 : decode cX6_ground 11 = .ok (.iload_n 1, 1) := by decide +kernel
theorem dX6_ground_12 : decode cX6_ground 12 = .ok (.invokevirtual 80, 3) := by decide +kernel
theorem dX6_ground_15 : decode cX6_ground 15 = .ok (.ireturn, 1) := by decide +kernel
theorem dX6_addUnit_0 : decode cX6_addUnit 0 = .ok (.iload_n 1, 1) := by decide +kernel
theorem dX6_addUnit_1 : decode cX6_addUnit 1 = .ok (.invokestatic 84, 3) := by decide +kernel
theorem dX6_addUnit_4 : decode cX6_addUnit 4 = .ok (.iload_n 3, 1) := by decide +kernel
theorem dX6_addUnit_5 : decode cX6_addUnit 5 = .ok (.invokestatic 77, 3) := by decide +kernel
theorem dX6_addUnit_8 : decode cX6_addUnit 8 = .ok (.ldc 87, 2) := by decide +kernel
theorem dX6_addUnit_10 : decode cX6_addUnit 10 = .ok (.iload_n 2, 1) := by decide +kernel
theorem dX6_addUnit_11 : decode cX6_addUnit 11 = .ok (.invokevirtual 89, 3) := by decide +kernel
theorem dX6_addUnit_14 : decode cX6_addUnit 14 = .ok (.istore 4, 2) := by decide +kernel
theorem dX6_addUnit_16 : decode cX6_addUnit 16 = .ok (.iload 4, 2) := by decide +kernel
theorem dX6_addUnit_18 : decode cX6_addUnit 18 = .ok (.ifCond .ge 13, 3) := by decide +kernel
theorem dX6_addUnit_21 : decode cX6_addUnit 21 = .ok (.new 95, 3) := by decide +kernel
theorem dX6_addUnit_24 : decode cX6_addUnit 24 = .ok (.dup, 1) := by decide +kernel
theorem dX6_addUnit_25 : decode cX6_addUnit 25 = .ok (.ldc 97, 2) := by decide +kernel
theorem dX6_addUnit_27 : decode cX6_addUnit 27 = .ok (.invokespecial 99, 3) := by decide +kernel
theorem dX6_addUnit_30 : decode cX6_addUnit 30 = .ok (.athrow, 1) := by decide +kernel
theorem dX6_addUnit_31 : decode cX6_addUnit 31 = .ok (.aload_n 0, 1) := by decide +kernel
theorem dX6_addUnit_32 : decode cX6_addUnit 32 = .ok (.getfield 10, 3) := by decide +kernel
theorem dX6_addUnit_35 : decode cX6_addUnit 35 = .ok (.getfield 47, 3) := by decide +kernel
theorem dX6_addUnit_38 : decode cX6_addUnit 38 = .ok (.iload_n 3, 1) := by decide +kernel
theorem dX6_addUnit_39 : decode cX6_addUnit 39 = .ok (.invokevirtual 80, 3) := by decide +kernel
theorem dX6_addUnit_42 : decode cX6_addUnit 42 = .ok (.bipush 120, 2) := by decide +kernel
theorem dX6_addUnit_44 : decode cX6_addUnit 44 = .ok (.if_icmp .eq 18, 3) := by decide +kernel
theorem dX6_addUnit_47 : decode cX6_addUnit 47 = .ok (.aload_n 0, 1) := by decide +kernel
theorem dX6_addUnit_48 : decode cX6_addUnit 48 = .ok (.getfield 10, 3) := by decide +kernel
theorem dX6_addUnit_51 : decode cX6_addUnit 51 = .ok (.getfield 57, 3) := by decide +kernel
theorem dX6_addUnit_54 : decode cX6_addUnit 54 = .ok (.iload_n 3, 1) := by decide +kernel
theorem dX6_addUnit_55 : decode cX6_addUnit 55 = .ok (.invokevirtual 100, 3) := by decide +kernel
theorem dX6_addUnit_58 : decode cX6_addUnit 58 = .ok (.iconst (-1), 1) := by decide +kernel
theorem dX6_addUnit_59 : decode cX6_addUnit 59 = .ok (.if_icmp .eq 13, 3) := by decide +kernel
theorem dX6_addUnit_62 : decode cX6_addUnit 62 = .ok (.new 103, 3) := by decide +kernel
theorem dX6_addUnit_65 : decode cX6_addUnit 65 = .ok (.dup, 1) := by decide +kernel
theorem dX6_addUnit_66 : decode cX6_addUnit 66 = .ok (.ldc 105, 2) := by decide +kernel
theorem dX6_addUnit_68 : decode cX6_addUnit 68 = .ok (.invokespecial 107, 3) := by decide +kernel
theorem dX6_addUnit_71 : decode cX6_addUnit 71 = .ok (.athrow, 1) := by decide +kernel
theorem dX6_addUnit_72 : decode cX6_addUnit 72 = .ok (.aload_n 0, 1) := by decide +kernel
theorem dX6_addUnit_73 : decode cX6_addUnit 73 = .ok (.getfield 10, 3) := by decide +kernel
theorem dX6_addUnit_76 : decode cX6_addUnit 76 = .ok (.getfield 57, 3) := by decide +kernel
theorem dX6_addUnit_79 : decode cX6_addUnit 79 = .ok (.getfield 61, 3) := by decide +kernel
theorem dX6_addUnit_82 : decode cX6_addUnit 82 = .ok (.bipush 24, 2) := by decide +kernel
theorem dX6_addUnit_84 : decode cX6_addUnit 84 = .ok (.if_icmp .ge 10, 3) := by decide +kernel
theorem dX6_addUnit_87 : decode cX6_addUnit 87 = .ok (.aload_n 0, 1) := by decide +kernel
theorem dX6_addUnit_88 : decode cX6_addUnit 88 = .ok (.getfield 108, 3) := by decide +kernel
theorem dX6_addUnit_91 : decode cX6_addUnit 91 = .ok (.ifCond .le 13, 3) := by decide +kernel
theorem dX6_addUnit_94 : decode cX6_addUnit 94 = .ok (.new 67, 3) := by decide +kernel
theorem dX6_addUnit_97 : decode cX6_addUnit 97 = .ok (.dup, 1) := by decide +kernel
theorem dX6_addUnit_98 : decode cX6_addUnit 98 = .ok (.ldc 111, 2) := by decide +kernel
theorem dX6_addUnit_100 : decode cX6_addUnit 100 = .ok (.invokespecial 71, 3) := by decide +kernel
theorem dX6_addUnit_103 : decode cX6_addUnit 103 = .ok (.athrow, 1) := by decide +kernel
theorem dX6_addUnit_104 : decode cX6_addUnit 104 = .ok (.aload_n 0, 1) := by decide +kernel
theorem dX6_addUnit_105 : decode cX6_addUnit 105 = .ok (.getfield 10, 3) := by decide +kernel
theorem dX6_addUnit_108 : decode cX6_addUnit 108 = .ok (.getfield 57, 3) := by decide +kernel
theorem dX6_addUnit_111 : decode cX6_addUnit 111 = .ok (.iload_n 1, 1) := by decide +kernel
theorem dX6_addUnit_112 : decode cX6_addUnit 112 = .ok (.iload 4, 2) := by decide +kernel
theorem dX6_addUnit_114 : decode cX6_addUnit 114 = .ok (.iload_n 3, 1) := by decide +kernel
theorem dX6_addUnit_115 : decode cX6_addUnit 115 = .ok (.invokevirtual 113, 3) := by decide +kernel
theorem dX6_addUnit_118 : decode cX6_addUnit 118 = .ok (.ireturn, 1) := by decide +kernel
theorem dX6_order_0 : decode cX6_order 0 = .ok (.aload_n 0, 1) := by decide +kernel
theorem dX6_order_1 : decode cX6_order 1 = .ok (.iload_n 1, 1) := by decide +kernel
theorem dX6_order_2 : decode cX6_order 2 = .ok (.invokevirtual 117, 3) := by decide +kernel
theorem dX6_order_5 : decode cX6_order 5 = .ok (.iload_n 2, 1) := by decide +kernel
theorem dX6_order_6 : decode cX6_order 6 = .ok (.ifCond .lt 9, 3) := by decide +kernel
theorem dX6_order_9 : decode cX6_order 9 = .ok (.iload_n 2, 1) := by decide +kernel
theorem dX6_order_10 : decode cX6_order 10 = .ok (.bipush 8, 2) := by decide +kernel
theorem dX6_order_12 : decode cX6_order 12 = .ok (.if_icmp .lt 13, 3) := by decide +kernel
theorem dX6_order_15 : decode cX6_order 15 = .ok (.new 95, 3) := by decide +kernel
theorem dX6_order_18 : decode cX6_order 18 = .ok (.dup, 1) := by decide +kernel
theorem dX6_order_19 : decode cX6_order 19 = .ok (.ldc 120, 2) := by decide +kernel
theorem dX6_order_21 : decode cX6_order 21 = .ok (.invokespecial 99, 3) := by decide +kernel
theorem dX6_order_24 : decode cX6_order 24 = .ok (.athrow, 1) := by decide +kernel
theorem dX6_order_25 : decode cX6_order 25 = .ok (.aload_n 0, 1) := by decide +kernel
theorem dX6_order_26 : decode cX6_order 26 = .ok (.getfield 10, 3) := by decide +kernel
theorem dX6_order_29 : decode cX6_order 29 = .ok (.getfield 57, 3) := by decide +kernel
theorem dX6_order_32 : decode cX6_order 32 = .ok (.iload_n 1, 1) := by decide +kernel
theorem dX6_order_33 : decode cX6_order 33 = .ok (.invokevirtual 122, 3) := by decide +kernel
theorem dX6_order_36 : decode cX6_order 36 = .ok (.ifCond .eq 25, 3) := by decide +kernel
theorem dX6_order_39 : decode cX6_order 39 = .ok (.aload_n 0, 1) := by decide +kernel
theorem dX6_order_40 : decode cX6_order 40 = .ok (.getfield 22, 3) := by decide +kernel
theorem dX6_order_43 : decode cX6_order 43 = .ok (.iload_n 1, 1) := by decide +kernel
theorem dX6_order_44 : decode cX6_order 44 = .ok (.invokevirtual 126, 3) := by decide +kernel
theorem dX6_order_47 : decode cX6_order 47 = .ok (.aload_n 0, 1) := by decide +kernel
theorem dX6_order_48 : decode cX6_order 48 = .ok (.getfield 10, 3) := by decide +kernel
theorem dX6_order_51 : decode cX6_order 51 = .ok (.getfield 57, 3) := by decide +kernel
theorem dX6_order_54 : decode cX6_order 54 = .ok (.iload_n 1, 1) := by decide +kernel
theorem dX6_order_55 : decode cX6_order 55 = .ok (.invokevirtual 129, 3) := by decide +kernel
theorem dX6_order_58 : decode cX6_order 58 = .ok (.if_icmp .lt 13, 3) := by decide +kernel
theorem dX6_order_61 : decode cX6_order 61 = .ok (.new 103, 3) := by decide +kernel
theorem dX6_order_64 : decode cX6_order 64 = .ok (.dup, 1) := by decide +kernel
theorem dX6_order_65 : decode cX6_order 65 = .ok (.ldc 132, 2) := by decide +kernel
theorem dX6_order_67 : decode cX6_order 67 = .ok (.invokespecial 107, 3) := by decide +kernel
theorem dX6_order_70 : decode cX6_order 70 = .ok (.athrow, 1) := by decide +kernel
theorem dX6_order_71 : decode cX6_order 71 = .ok (.aload_n 0, 1) := by decide +kernel
theorem dX6_order_72 : decode cX6_order 72 = .ok (.getfield 22, 3) := by decide +kernel
theorem dX6_order_75 : decode cX6_order 75 = .ok (.aload_n 0, 1) := by decide +kernel
theorem dX6_order_76 : decode cX6_order 76 = .ok (.getfield 108, 3) := by decide +kernel
theorem dX6_order_79 : decode cX6_order 79 = .ok (.iload_n 1, 1) := by decide +kernel
theorem dX6_order_80 : decode cX6_order 80 = .ok (.iload_n 2, 1) := by decide +kernel
theorem dX6_order_81 : decode cX6_order 81 = .ok (.invokevirtual 134, 3) := by decide +kernel
theorem dX6_order_84 : decode cX6_order 84 = .ok (.ireturn, 1) := by decide +kernel
theorem dX6_turn_0 : decode cX6_turn 0 = .ok (.aload_n 0, 1) := by decide +kernel
theorem dX6_turn_1 : decode cX6_turn 1 = .ok (.getfield 108, 3) := by decide +kernel
theorem dX6_turn_4 : decode cX6_turn 4 = .ok (.bipush 99, 2) := by decide +kernel
theorem dX6_turn_6 : decode cX6_turn 6 = .ok (.if_icmp .lt 13, 3) := by decide +kernel
theorem dX6_turn_9 : decode cX6_turn 9 = .ok (.new 67, 3) := by decide +kernel
theorem dX6_turn_12 : decode cX6_turn 12 = .ok (.dup, 1) := by decide +kernel
theorem dX6_turn_13 : decode cX6_turn 13 = .ok (.ldc 137, 2) := by decide +kernel
theorem dX6_turn_15 : decode cX6_turn 15 = .ok (.invokespecial 71, 3) := by decide +kernel
theorem dX6_turn_18 : decode cX6_turn 18 = .ok (.athrow, 1) := by decide +kernel
theorem dX6_turn_19 : decode cX6_turn 19 = .ok (.aload_n 0, 1) := by decide +kernel
theorem dX6_turn_20 : decode cX6_turn 20 = .ok (.getfield 10, 3) := by decide +kernel
theorem dX6_turn_23 : decode cX6_turn 23 = .ok (.aload_n 0, 1) := by decide +kernel
theorem dX6_turn_24 : decode cX6_turn 24 = .ok (.getfield 22, 3) := by decide +kernel
theorem dX6_turn_27 : decode cX6_turn 27 = .ok (.aload_n 0, 1) := by decide +kernel
theorem dX6_turn_28 : decode cX6_turn 28 = .ok (.getfield 108, 3) := by decide +kernel
theorem dX6_turn_31 : decode cX6_turn 31 = .ok (.invokevirtual 139, 3) := by decide +kernel
theorem dX6_turn_34 : decode cX6_turn 34 = .ok (.istore_n 1, 1) := by decide +kernel
theorem dX6_turn_35 : decode cX6_turn 35 = .ok (.aload_n 0, 1) := by decide +kernel
theorem dX6_turn_36 : decode cX6_turn 36 = .ok (.dup, 1) := by decide +kernel
theorem dX6_turn_37 : decode cX6_turn 37 = .ok (.getfield 108, 3) := by decide +kernel
theorem dX6_turn_40 : decode cX6_turn 40 = .ok (.iconst 1, 1) := by decide +kernel
theorem dX6_turn_41 : decode cX6_turn 41 = .ok (.iadd, 1) := by decide +kernel
theorem dX6_turn_42 : decode cX6_turn 42 = .ok (.putfield 108, 3) := by decide +kernel
theorem dX6_turn_45 : decode cX6_turn 45 = .ok (.aload_n 0, 1) := by decide +kernel
theorem dX6_turn_46 : decode cX6_turn 46 = .ok (.getfield 22, 3) := by decide +kernel
theorem dX6_turn_49 : decode cX6_turn 49 = .ok (.invokevirtual 143, 3) := by decide +kernel
theorem dX6_turn_52 : decode cX6_turn 52 = .ok (.iconst 0, 1) := by decide +kernel
theorem dX6_turn_53 : decode cX6_turn 53 = .ok (.istore_n 2, 1) := by decide +kernel
theorem dX6_turn_54 : decode cX6_turn 54 = .ok (.iload_n 2, 1) := by decide +kernel
theorem dX6_turn_55 : decode cX6_turn 55 = .ok (.iconst 4, 1) := by decide +kernel
theorem dX6_turn_56 : decode cX6_turn 56 = .ok (.if_icmp .ge 14, 3) := by decide +kernel
theorem dX6_turn_59 : decode cX6_turn 59 = .ok (.aload_n 0, 1) := by decide +kernel
theorem dX6_turn_60 : decode cX6_turn 60 = .ok (.iload_n 2, 1) := by decide +kernel
theorem dX6_turn_61 : decode cX6_turn 61 = .ok (.invokevirtual 146, 3) := by decide +kernel
theorem dX6_turn_64 : decode cX6_turn 64 = .ok (.iinc 2 1, 3) := by decide +kernel
theorem dX6_turn_67 : decode cX6_turn 67 = .ok (.goto (-13), 3) := by decide +kernel
theorem dX6_turn_70 : decode cX6_turn 70 = .ok (.iconst 0, 1) := by decide +kernel
theorem dX6_turn_71 : decode cX6_turn 71 = .ok (.istore_n 2, 1) := by decide +kernel
theorem dX6_turn_72 : decode cX6_turn 72 = .ok (.iload_n 2, 1) := by decide +kernel
theorem dX6_turn_73 : decode cX6_turn 73 = .ok (.iconst 4, 1) := by decide +kernel
theorem dX6_turn_74 : decode cX6_turn 74 = .ok (.if_icmp .ge 14, 3) := by decide +kernel
theorem dX6_turn_77 : decode cX6_turn 77 = .ok (.aload_n 0, 1) := by decide +kernel
theorem dX6_turn_78 : decode cX6_turn 78 = .ok (.iload_n 2, 1) := by decide +kernel
theorem dX6_turn_79 : decode cX6_turn 79 = .ok (.invokevirtual 149, 3) := by decide +kernel
theorem dX6_turn_82 : decode cX6_turn 82 = .ok (.iinc 2 1, 3) := by decide +kernel
theorem dX6_turn_85 : decode cX6_turn 85 = .ok (.goto (-13), 3) := by decide +kernel
theorem dX6_turn_88 : decode cX6_turn 88 = .ok (.iload_n 1, 1) := by decide +kernel
theorem dX6_turn_89 : decode cX6_turn 89 = .ok (.ireturn, 1) := by decide +kernel
theorem dX6_done_0 : decode cX6_done 0 = .ok (.aload_n 0, 1) := by decide +kernel
theorem dX6_done_1 : decode cX6_done 1 = .ok (.getfield 108, 3) := by decide +kernel
theorem dX6_done_4 : decode cX6_done 4 = .ok (.ireturn, 1) := by decide +kernel
theorem dX6_cellOf_0 : decode cX6_cellOf 0 = .ok (.aload_n 0, 1) := by decide +kernel
theorem dX6_cellOf_1 : decode cX6_cellOf 1 = .ok (.iload_n 1, 1) := by decide +kernel
theorem dX6_cellOf_2 : decode cX6_cellOf 2 = .ok (.invokevirtual 117, 3) := by decide +kernel
theorem dX6_cellOf_5 : decode cX6_cellOf 5 = .ok (.aload_n 0, 1) := by decide +kernel
theorem dX6_cellOf_6 : decode cX6_cellOf 6 = .ok (.getfield 10, 3) := by decide +kernel
theorem dX6_cellOf_9 : decode cX6_cellOf 9 = .ok (.getfield 57, 3) := by decide +kernel
theorem dX6_cellOf_12 : decode cX6_cellOf 12 = .ok (.iload_n 1, 1) := by decide +kernel
theorem dX6_cellOf_13 : decode cX6_cellOf 13 = .ok (.invokevirtual 152, 3) := by decide +kernel
theorem dX6_cellOf_16 : decode cX6_cellOf 16 = .ok (.ireturn, 1) := by decide +kernel
theorem dX6_unitOn_0 : decode cX6_unitOn 0 = .ok (.iload_n 1, 1) := by decide +kernel
theorem dX6_unitOn_1 : decode cX6_unitOn 1 = .ok (.invokestatic 77, 3) := by decide +kernel
theorem dX6_unitOn_4 : decode cX6_unitOn 4 = .ok (.aload_n 0, 1) := by decide +kernel
theorem dX6_unitOn_5 : decode cX6_unitOn 5 = .ok (.getfield 10, 3) := by decide +kernel
theorem dX6_unitOn_8 : decode cX6_unitOn 8 = .ok (.getfield 57, 3) := by decide +kernel
theorem dX6_unitOn_11 : decode cX6_unitOn 11 = .ok (.iload_n 1, 1) := by decide +kernel
theorem dX6_unitOn_12 : decode cX6_unitOn 12 = .ok (.invokevirtual 100, 3) := by decide +kernel
theorem dX6_unitOn_15 : decode cX6_unitOn 15 = .ok (.ireturn, 1) := by decide +kernel
theorem dX6_sees_0 : decode cX6_sees 0 = .ok (.aload_n 0, 1) := by decide +kernel
theorem dX6_sees_1 : decode cX6_sees 1 = .ok (.iload_n 1, 1) := by decide +kernel
theorem dX6_sees_2 : decode cX6_sees 2 = .ok (.invokevirtual 117, 3) := by decide +kernel
theorem dX6_sees_5 : decode cX6_sees 5 = .ok (.iload_n 2, 1) := by decide +kernel
theorem dX6_sees_6 : decode cX6_sees 6 = .ok (.invokestatic 77, 3) := by decide +kernel
theorem dX6_sees_9 : decode cX6_sees 9 = .ok (.aload_n 0, 1) := by decide +kernel
theorem dX6_sees_10 : decode cX6_sees 10 = .ok (.getfield 10, 3) := by decide +kernel
theorem dX6_sees_13 : decode cX6_sees 13 = .ok (.iload_n 1, 1) := by decide +kernel
theorem dX6_sees_14 : decode cX6_sees 14 = .ok (.iload_n 2, 1) := by decide +kernel
theorem dX6_sees_15 : decode cX6_sees 15 = .ok (.invokevirtual 155, 3) := by decide +kernel
theorem dX6_sees_18 : decode cX6_sees 18 = .ok (.ireturn, 1) := by decide +kernel
theorem dX6_seen_0 : decode cX6_seen 0 = .ok (.iload_n 1, 1) := by decide +kernel
theorem dX6_seen_1 : decode cX6_seen 1 = .ok (.invokestatic 84, 3) := by decide +kernel
theorem dX6_seen_4 : decode cX6_seen 4 = .ok (.iconst 0, 1) := by decide +kernel
theorem dX6_seen_5 : decode cX6_seen 5 = .ok (.istore_n 2, 1) := by decide +kernel
theorem dX6_seen_6 : decode cX6_seen 6 = .ok (.iconst 0, 1) := by decide +kernel
theorem dX6_seen_7 : decode cX6_seen 7 = .ok (.istore_n 3, 1) := by decide +kernel
theorem dX6_seen_8 : decode cX6_seen 8 = .ok (.iload_n 3, 1) := by decide +kernel
theorem dX6_seen_9 : decode cX6_seen 9 = .ok (.bipush 64, 2) := by decide +kernel
theorem dX6_seen_11 : decode cX6_seen 11 = .ok (.if_icmp .ge 24, 3) := by decide +kernel
theorem dX6_seen_14 : decode cX6_seen 14 = .ok (.aload_n 0, 1) := by decide +kernel
theorem dX6_seen_15 : decode cX6_seen 15 = .ok (.getfield 10, 3) := by decide +kernel
theorem dX6_seen_18 : decode cX6_seen 18 = .ok (.iload_n 1, 1) := by decide +kernel
theorem dX6_seen_19 : decode cX6_seen 19 = .ok (.iload_n 3, 1) := by decide +kernel
theorem dX6_seen_20 : decode cX6_seen 20 = .ok (.invokevirtual 159, 3) := by decide +kernel
theorem dX6_seen_23 : decode cX6_seen 23 = .ok (.ifCond .eq 6, 3) := by decide +kernel
theorem dX6_seen_26 : decode cX6_seen 26 = .ok (.iinc 2 1, 3) := by decide +kernel
theorem dX6_seen_29 : decode cX6_seen 29 = .ok (.iinc 3 1, 3) := by decide +kernel
theorem dX6_seen_32 : decode cX6_seen 32 = .ok (.goto (-24), 3) := by decide +kernel
theorem dX6_seen_35 : decode cX6_seen 35 = .ok (.iload_n 2, 1) := by decide +kernel
theorem dX6_seen_36 : decode cX6_seen 36 = .ok (.ireturn, 1) := by decide +kernel
theorem dX6_setTreaty_0 : decode cX6_setTreaty 0 = .ok (.iload_n 1, 1) := by decide +kernel
theorem dX6_setTreaty_1 : decode cX6_setTreaty 1 = .ok (.invokestatic 84, 3) := by decide +kernel
theorem dX6_setTreaty_4 : decode cX6_setTreaty 4 = .ok (.iload_n 2, 1) := by decide +kernel
theorem dX6_setTreaty_5 : decode cX6_setTreaty 5 = .ok (.invokestatic 84, 3) := by decide +kernel
theorem dX6_setTreaty_8 : decode cX6_setTreaty 8 = .ok (.iload_n 1, 1) := by decide +kernel
theorem dX6_setTreaty_9 : decode cX6_setTreaty 9 = .ok (.iload_n 2, 1) := by decide +kernel
theorem dX6_setTreaty_10 : decode cX6_setTreaty 10 = .ok (.if_icmp .ne 13, 3) := by decide +kernel
theorem dX6_setTreaty_13 : decode cX6_setTreaty 13 = .ok (.new 95, 3) := by decide +kernel
theorem dX6_setTreaty_16 : decode cX6_setTreaty 16 = .ok (.dup, 1) := by decide +kernel
theorem dX6_setTreaty_17 : decode cX6_setTreaty 17 = .ok (.ldc 162, 2) := by decide +kernel
theorem dX6_setTreaty_19 : decode cX6_setTreaty 19 = .ok (.invokespecial 99, 3) := by decide +kernel
theorem dX6_setTreaty_22 : decode cX6_setTreaty 22 = .ok (.athrow, 1) := by decide +kernel
theorem dX6_setTreaty_23 : decode cX6_setTreaty 23 = .ok (.aload_n 0, 1) := by decide +kernel
theorem dX6_setTreaty_24 : decode cX6_setTreaty 24 = .ok (.iload_n 1, 1) := by decide +kernel
theorem dX6_setTreaty_25 : decode cX6_setTreaty 25 = .ok (.iload_n 2, 1) := by decide +kernel
theorem dX6_setTreaty_26 : decode cX6_setTreaty 26 = .ok (.invokevirtual 164, 3) := by decide +kernel
theorem dX6_setTreaty_29 : decode cX6_setTreaty 29 = .ok (.istore 4, 2) := by decide +kernel
theorem dX6_setTreaty_31 : decode cX6_setTreaty 31 = .ok (.iload_n 3, 1) := by decide +kernel
theorem dX6_setTreaty_32 : decode cX6_setTreaty 32 = .ok (.ifCond .eq 30, 3) := by decide +kernel
theorem dX6_setTreaty_35 : decode cX6_setTreaty 35 = .ok (.aload_n 0, 1) := by decide +kernel
theorem dX6_setTreaty_36 : decode cX6_setTreaty 36 = .ok (.getfield 38, 3) := by decide +kernel
theorem dX6_setTreaty_39 : decode cX6_setTreaty 39 = .ok (.iload_n 1, 1) := by decide +kernel
theorem dX6_setTreaty_40 : decode cX6_setTreaty 40 = .ok (.dup2, 1) := by decide +kernel
theorem dX6_setTreaty_41 : decode cX6_setTreaty 41 = .ok (.iaload, 1) := by decide +kernel
theorem dX6_setTreaty_42 : decode cX6_setTreaty 42 = .ok (.iconst 1, 1) := by decide +kernel
theorem dX6_setTreaty_43 : decode cX6_setTreaty 43 = .ok (.iload_n 2, 1) := by decide +kernel
theorem dX6_setTreaty_44 : decode cX6_setTreaty 44 = .ok (.ishl, 1) := by decide +kernel
theorem dX6_setTreaty_45 : decode cX6_setTreaty 45 = .ok (.ior, 1) := by decide +kernel
theorem dX6_setTreaty_46 : decode cX6_setTreaty 46 = .ok (.iastore, 1) := by decide +kernel
theorem dX6_setTreaty_47 : decode cX6_setTreaty 47 = .ok (.aload_n 0, 1) := by decide +kernel
theorem dX6_setTreaty_48 : decode cX6_setTreaty 48 = .ok (.getfield 38, 3) := by decide +kernel
theorem dX6_setTreaty_51 : decode cX6_setTreaty 51 = .ok (.iload_n 2, 1) := by decide +kernel
theorem dX6_setTreaty_52 : decode cX6_setTreaty 52 = .ok (.dup2, 1) := by decide +kernel
theorem dX6_setTreaty_53 : decode cX6_setTreaty 53 = .ok (.iaload, 1) := by decide +kernel
theorem dX6_setTreaty_54 : decode cX6_setTreaty 54 = .ok (.iconst 1, 1) := by decide +kernel
theorem dX6_setTreaty_55 : decode cX6_setTreaty 55 = .ok (.iload_n 1, 1) := by decide +kernel
theorem dX6_setTreaty_56 : decode cX6_setTreaty 56 = .ok (.ishl, 1) := by decide +kernel
theorem dX6_setTreaty_57 : decode cX6_setTreaty 57 = .ok (.ior, 1) := by decide +kernel
theorem dX6_setTreaty_58 : decode cX6_setTreaty 58 = .ok (.iastore, 1) := by decide +kernel
theorem dX6_setTreaty_59 : decode cX6_setTreaty 59 = .ok (.goto 56, 3) := by decide +kernel
theorem dX6_setTreaty_62 : decode cX6_setTreaty 62 = .ok (.iload 4, 2) := by decide +kernel
theorem dX6_setTreaty_64 : decode cX6_setTreaty 64 = .ok (.ifCond .eq 51, 3) := by decide +kernel
theorem dX6_setTreaty_67 : decode cX6_setTreaty 67 = .ok (.aload_n 0, 1) := by decide +kernel
theorem dX6_setTreaty_68 : decode cX6_setTreaty 68 = .ok (.getfield 38, 3) := by decide +kernel
theorem dX6_setTreaty_71 : decode cX6_setTreaty 71 = .ok (.iload_n 1, 1) := by decide +kernel
theorem dX6_setTreaty_72 : decode cX6_setTreaty 72 = .ok (.dup2, 1) := by decide +kernel
theorem dX6_setTreaty_73 : decode cX6_setTreaty 73 = .ok (.iaload, 1) := by decide +kernel
theorem dX6_setTreaty_74 : decode cX6_setTreaty 74 = .ok (.iconst 1, 1) := by decide +kernel
theorem dX6_setTreaty_75 : decode cX6_setTreaty 75 = .ok (.iload_n 2, 1) := by decide +kernel
theorem dX6_setTreaty_76 : decode cX6_setTreaty 76 = .ok (.ishl, 1) := by decide +kernel
theorem dX6_setTreaty_77 : decode cX6_setTreaty 77 = .ok (.iconst (-1), 1) := by decide +kernel
theorem dX6_setTreaty_78 : decode cX6_setTreaty 78 = .ok (.ixor, 1) := by decide +kernel
theorem dX6_setTreaty_79 : decode cX6_setTreaty 79 = .ok (.iand, 1) := by decide +kernel
theorem dX6_setTreaty_80 : decode cX6_setTreaty 80 = .ok (.iastore, 1) := by decide +kernel
theorem dX6_setTreaty_81 : decode cX6_setTreaty 81 = .ok (.aload_n 0, 1) := by decide +kernel
theorem dX6_setTreaty_82 : decode cX6_setTreaty 82 = .ok (.getfield 38, 3) := by decide +kernel
theorem dX6_setTreaty_85 : decode cX6_setTreaty 85 = .ok (.iload_n 2, 1) := by decide +kernel
theorem dX6_setTreaty_86 : decode cX6_setTreaty 86 = .ok (.dup2, 1) := by decide +kernel
theorem dX6_setTreaty_87 : decode cX6_setTreaty 87 = .ok (.iaload, 1) := by decide +kernel
theorem dX6_setTreaty_88 : decode cX6_setTreaty 88 = .ok (.iconst 1, 1) := by decide +kernel
theorem dX6_setTreaty_89 : decode cX6_setTreaty 89 = .ok (.iload_n 1, 1) := by decide +kernel
theorem dX6_setTreaty_90 : decode cX6_setTreaty 90 = .ok (.ishl, 1) := by decide +kernel
theorem dX6_setTreaty_91 : decode cX6_setTreaty 91 = .ok (.iconst (-1), 1) := by decide +kernel
theorem dX6_setTreaty_92 : decode cX6_setTreaty 92 = .ok (.ixor, 1) := by decide +kernel
theorem dX6_setTreaty_93 : decode cX6_setTreaty 93 = .ok (.iand, 1) := by decide +kernel
theorem dX6_setTreaty_94 : decode cX6_setTreaty 94 = .ok (.iastore, 1) := by decide +kernel
theorem dX6_setTreaty_95 : decode cX6_setTreaty 95 = .ok (.aload_n 0, 1) := by decide +kernel
theorem dX6_setTreaty_96 : decode cX6_setTreaty 96 = .ok (.getfield 34, 3) := by decide +kernel
theorem dX6_setTreaty_99 : decode cX6_setTreaty 99 = .ok (.iload_n 1, 1) := by decide +kernel
theorem dX6_setTreaty_100 : decode cX6_setTreaty 100 = .ok (.aaload, 1) := by decide +kernel
theorem dX6_setTreaty_101 : decode cX6_setTreaty 101 = .ok (.iload_n 2, 1) := by decide +kernel
theorem dX6_setTreaty_102 : decode cX6_setTreaty 102 = .ok (.invokevirtual 167, 3) := by decide +kernel
theorem dX6_setTreaty_105 : decode cX6_setTreaty 105 = .ok (.aload_n 0, 1) := by decide +kernel
theorem dX6_setTreaty_106 : decode cX6_setTreaty 106 = .ok (.getfield 34, 3) := by decide +kernel
theorem dX6_setTreaty_109 : decode cX6_setTreaty 109 = .ok (.iload_n 2, 1) := by decide +kernel
theorem dX6_setTreaty_110 : decode cX6_setTreaty 110 = .ok (.aaload, 1) := by decide +kernel
theorem dX6_setTreaty_111 : decode cX6_setTreaty 111 = .ok (.iload_n 1, 1) := by decide +kernel
theorem dX6_setTreaty_112 : decode cX6_setTreaty 112 = .ok (.invokevirtual 167, 3) := by decide +kernel
theorem dX6_setTreaty_115 : decode cX6_setTreaty 115 = .ok (.iload 4, 2) := by decide +kernel
theorem dX6_setTreaty_117 : decode cX6_setTreaty 117 = .ok (.ireturn, 1) := by decide +kernel
theorem dX6_sightings_0 : decode cX6_sightings 0 = .ok (.iload_n 1, 1) := by decide +kernel
theorem dX6_sightings_1 : decode cX6_sightings 1 = .ok (.invokestatic 84, 3) := by decide +kernel
theorem dX6_sightings_4 : decode cX6_sightings 4 = .ok (.aload_n 0, 1) := by decide +kernel
theorem dX6_sightings_5 : decode cX6_sightings 5 = .ok (.getfield 28, 3) := by decide +kernel
theorem dX6_sightings_8 : decode cX6_sightings 8 = .ok (.iload_n 1, 1) := by decide +kernel
theorem dX6_sightings_9 : decode cX6_sightings 9 = .ok (.aaload, 1) := by decide +kernel
theorem dX6_sightings_10 : decode cX6_sightings 10 = .ok (.getfield 170, 3) := by decide +kernel
theorem dX6_sightings_13 : decode cX6_sightings 13 = .ok (.ireturn, 1) := by decide +kernel
theorem dX6_sighting_0 : decode cX6_sighting 0 = .ok (.iload_n 1, 1) := by decide +kernel
theorem dX6_sighting_1 : decode cX6_sighting 1 = .ok (.invokestatic 84, 3) := by decide +kernel
theorem dX6_sighting_4 : decode cX6_sighting 4 = .ok (.iload_n 2, 1) := by decide +kernel
theorem dX6_sighting_5 : decode cX6_sighting 5 = .ok (.ifCond .lt 16, 3) := by decide +kernel
theorem dX6_sighting_8 : decode cX6_sighting 8 = .ok (.iload_n 2, 1) := by decide +kernel
theorem dX6_sighting_9 : decode cX6_sighting 9 = .ok (.aload_n 0, 1) := by decide +kernel
theorem dX6_sighting_10 : decode cX6_sighting 10 = .ok (.getfield 28, 3) := by decide +kernel
theorem dX6_sighting_13 : decode cX6_sighting 13 = .ok (.iload_n 1, 1) := by decide +kernel
theorem dX6_sighting_14 : decode cX6_sighting 14 = .ok (.aaload, 1) := by decide +kernel
theorem dX6_sighting_15 : decode cX6_sighting 15 = .ok (.getfield 170, 3) := by decide +kernel
theorem dX6_sighting_18 : decode cX6_sighting 18 = .ok (.if_icmp .lt 13, 3) := by decide +kernel
theorem dX6_sighting_21 : decode cX6_sighting 21 = .ok (.new 171, 3) := by decide +kernel
theorem dX6_sighting_24 : decode cX6_sighting 24 = .ok (.dup, 1) := by decide +kernel
theorem dX6_sighting_25 : decode cX6_sighting 25 = .ok (.ldc 173, 2) := by decide +kernel
theorem dX6_sighting_27 : decode cX6_sighting 27 = .ok (.invokespecial 175, 3) := by decide +kernel
theorem dX6_sighting_30 : decode cX6_sighting 30 = .ok (.athrow, 1) := by decide +kernel
theorem dX6_sighting_31 : decode cX6_sighting 31 = .ok (.aload_n 0, 1) := by decide +kernel
theorem dX6_sighting_32 : decode cX6_sighting 32 = .ok (.getfield 28, 3) := by decide +kernel
theorem dX6_sighting_35 : decode cX6_sighting 35 = .ok (.iload_n 1, 1) := by decide +kernel
theorem dX6_sighting_36 : decode cX6_sighting 36 = .ok (.aaload, 1) := by decide +kernel
theorem dX6_sighting_37 : decode cX6_sighting 37 = .ok (.iload_n 2, 1) := by decide +kernel
theorem dX6_sighting_38 : decode cX6_sighting 38 = .ok (.invokevirtual 176, 3) := by decide +kernel
theorem dX6_sighting_41 : decode cX6_sighting 41 = .ok (.istore 4, 2) := by decide +kernel
theorem dX6_sighting_43 : decode cX6_sighting 43 = .ok (.iload_n 3, 1) := by decide +kernel
theorem dX6_sighting_44 : decode cX6_sighting 44 = .ok (.lookupswitch 54 #[(99, 42), (116, 36), (117, 48)], 36) := by decide +kernel
theorem dX6_sighting_80 : decode cX6_sighting 80 = .ok (.iload 4, 2) := by decide +kernel
theorem dX6_sighting_82 : decode cX6_sighting 82 = .ok (.invokestatic 178, 3) := by decide +kernel
theorem dX6_sighting_85 : decode cX6_sighting 85 = .ok (.ireturn, 1) := by decide +kernel
theorem dX6_sighting_86 : decode cX6_sighting 86 = .ok (.iload 4, 2) := by decide +kernel
theorem dX6_sighting_88 : decode cX6_sighting 88 = .ok (.invokestatic 181, 3) := by decide +kernel
theorem dX6_sighting_91 : decode cX6_sighting 91 = .ok (.ireturn, 1) := by decide +kernel
theorem dX6_sighting_92 : decode cX6_sighting 92 = .ok (.iload 4, 2) := by decide +kernel
theorem dX6_sighting_94 : decode cX6_sighting 94 = .ok (.invokestatic 184, 3) := by decide +kernel
theorem dX6_sighting_97 : decode cX6_sighting 97 = .ok (.ireturn, 1) := by decide +kernel
theorem dX6_sighting_98 : decode cX6_sighting 98 = .ok (.new 95, 3) := by decide +kernel
theorem dX6_sighting_101 : decode cX6_sighting 101 = .ok (.dup, 1) := by decide +kernel
theorem dX6_sighting_102 : decode cX6_sighting 102 = .ok (.ldc 187, 2) := by decide +kernel
theorem dX6_sighting_104 : decode cX6_sighting 104 = .ok (.invokespecial 99, 3) := by decide +kernel
theorem dX6_sighting_107 : decode cX6_sighting 107 = .ok (.athrow, 1) := by decide +kernel
theorem dX6_age_0 : decode cX6_age 0 = .ok (.iload_n 1, 1) := by decide +kernel
theorem dX6_age_1 : decode cX6_age 1 = .ok (.invokestatic 84, 3) := by decide +kernel
theorem dX6_age_4 : decode cX6_age 4 = .ok (.iload_n 2, 1) := by decide +kernel
theorem dX6_age_5 : decode cX6_age 5 = .ok (.invokestatic 77, 3) := by decide +kernel
theorem dX6_age_8 : decode cX6_age 8 = .ok (.aload_n 0, 1) := by decide +kernel
theorem dX6_age_9 : decode cX6_age 9 = .ok (.getfield 28, 3) := by decide +kernel
theorem dX6_age_12 : decode cX6_age 12 = .ok (.iload_n 1, 1) := by decide +kernel
theorem dX6_age_13 : decode cX6_age 13 = .ok (.aaload, 1) := by decide +kernel
theorem dX6_age_14 : decode cX6_age 14 = .ok (.iload_n 2, 1) := by decide +kernel
theorem dX6_age_15 : decode cX6_age 15 = .ok (.invokevirtual 189, 3) := by decide +kernel
theorem dX6_age_18 : decode cX6_age 18 = .ok (.istore_n 3, 1) := by decide +kernel
theorem dX6_age_19 : decode cX6_age 19 = .ok (.iload_n 3, 1) := by decide +kernel
theorem dX6_age_20 : decode cX6_age 20 = .ok (.iconst (-1), 1) := by decide +kernel
theorem dX6_age_21 : decode cX6_age 21 = .ok (.if_icmp .ne 13, 3) := by decide +kernel
theorem dX6_age_24 : decode cX6_age 24 = .ok (.new 192, 3) := by decide +kernel
theorem dX6_age_27 : decode cX6_age 27 = .ok (.dup, 1) := by decide +kernel
theorem dX6_age_28 : decode cX6_age 28 = .ok (.ldc 194, 2) := by decide +kernel
theorem dX6_age_30 : decode cX6_age 30 = .ok (.invokespecial 196, 3) := by decide +kernel
theorem dX6_age_33 : decode cX6_age 33 = .ok (.athrow, 1) := by decide +kernel
theorem dX6_age_34 : decode cX6_age 34 = .ok (.aload_n 0, 1) := by decide +kernel
theorem dX6_age_35 : decode cX6_age 35 = .ok (.getfield 108, 3) := by decide +kernel
theorem dX6_age_38 : decode cX6_age 38 = .ok (.iload_n 3, 1) := by decide +kernel
theorem dX6_age_39 : decode cX6_age 39 = .ok (.invokestatic 178, 3) := by decide +kernel
theorem dX6_age_42 : decode cX6_age 42 = .ok (.isub, 1) := by decide +kernel
theorem dX6_age_43 : decode cX6_age 43 = .ok (.ireturn, 1) := by decide +kernel
theorem dX6_lastSeen_0 : decode cX6_lastSeen 0 = .ok (.iload_n 1, 1) := by decide +kernel
theorem dX6_lastSeen_1 : decode cX6_lastSeen 1 = .ok (.invokestatic 84, 3) := by decide +kernel
theorem dX6_lastSeen_4 : decode cX6_lastSeen 4 = .ok (.aload_n 0, 1) := by decide +kernel
theorem dX6_lastSeen_5 : decode cX6_lastSeen 5 = .ok (.iload_n 2, 1) := by decide +kernel
theorem dX6_lastSeen_6 : decode cX6_lastSeen 6 = .ok (.invokevirtual 117, 3) := by decide +kernel
theorem dX6_lastSeen_9 : decode cX6_lastSeen 9 = .ok (.aload_n 0, 1) := by decide +kernel
theorem dX6_lastSeen_10 : decode cX6_lastSeen 10 = .ok (.getfield 28, 3) := by decide +kernel
theorem dX6_lastSeen_13 : decode cX6_lastSeen 13 = .ok (.iload_n 1, 1) := by decide +kernel
theorem dX6_lastSeen_14 : decode cX6_lastSeen 14 = .ok (.aaload, 1) := by decide +kernel
theorem dX6_lastSeen_15 : decode cX6_lastSeen 15 = .ok (.iload_n 2, 1) := by decide +kernel
theorem dX6_lastSeen_16 : decode cX6_lastSeen 16 = .ok (.invokevirtual 197, 3) := by decide +kernel
theorem dX6_lastSeen_19 : decode cX6_lastSeen 19 = .ok (.istore_n 3, 1) := by decide +kernel
theorem dX6_lastSeen_20 : decode cX6_lastSeen 20 = .ok (.iload_n 3, 1) := by decide +kernel
theorem dX6_lastSeen_21 : decode cX6_lastSeen 21 = .ok (.iconst (-1), 1) := by decide +kernel
theorem dX6_lastSeen_22 : decode cX6_lastSeen 22 = .ok (.if_icmp .ne 13, 3) := by decide +kernel
theorem dX6_lastSeen_25 : decode cX6_lastSeen 25 = .ok (.new 192, 3) := by decide +kernel
theorem dX6_lastSeen_28 : decode cX6_lastSeen 28 = .ok (.dup, 1) := by decide +kernel
theorem dX6_lastSeen_29 : decode cX6_lastSeen 29 = .ok (.ldc 200, 2) := by decide +kernel
theorem dX6_lastSeen_31 : decode cX6_lastSeen 31 = .ok (.invokespecial 196, 3) := by decide +kernel
theorem dX6_lastSeen_34 : decode cX6_lastSeen 34 = .ok (.athrow, 1) := by decide +kernel
theorem dX6_lastSeen_35 : decode cX6_lastSeen 35 = .ok (.iload_n 3, 1) := by decide +kernel
theorem dX6_lastSeen_36 : decode cX6_lastSeen 36 = .ok (.invokestatic 181, 3) := by decide +kernel
theorem dX6_lastSeen_39 : decode cX6_lastSeen 39 = .ok (.ireturn, 1) := by decide +kernel
theorem dX6_save_0 : decode cX6_save 0 = .ok (.iconst 0, 1) := by decide +kernel
theorem dX6_save_1 : decode cX6_save 1 = .ok (.istore_n 1, 1) := by decide +kernel
theorem dX6_save_2 : decode cX6_save 2 = .ok (.iconst 0, 1) := by decide +kernel
theorem dX6_save_3 : decode cX6_save 3 = .ok (.istore_n 2, 1) := by decide +kernel
theorem dX6_save_4 : decode cX6_save 4 = .ok (.iload_n 2, 1) := by decide +kernel
theorem dX6_save_5 : decode cX6_save 5 = .ok (.iconst 4, 1) := by decide +kernel
theorem dX6_save_6 : decode cX6_save 6 = .ok (.if_icmp .ge 42, 3) := by decide +kernel
theorem dX6_save_9 : decode cX6_save 9 = .ok (.aload_n 0, 1) := by decide +kernel
theorem dX6_save_10 : decode cX6_save 10 = .ok (.getfield 34, 3) := by decide +kernel
theorem dX6_save_13 : decode cX6_save 13 = .ok (.iload_n 2, 1) := by decide +kernel
theorem dX6_save_14 : decode cX6_save 14 = .ok (.aaload, 1) := by decide +kernel
theorem dX6_save_15 : decode cX6_save 15 = .ok (.aload_n 0, 1) := by decide +kernel
theorem dX6_save_16 : decode cX6_save 16 = .ok (.getfield 28, 3) := by decide +kernel
theorem dX6_save_19 : decode cX6_save 19 = .ok (.iload_n 2, 1) := by decide +kernel
theorem dX6_save_20 : decode cX6_save 20 = .ok (.aaload, 1) := by decide +kernel
theorem dX6_save_21 : decode cX6_save 21 = .ok (.aload_n 0, 1) := by decide +kernel
theorem dX6_save_22 : decode cX6_save 22 = .ok (.getfield 38, 3) := by decide +kernel
theorem dX6_save_25 : decode cX6_save 25 = .ok (.iload_n 2, 1) := by decide +kernel
theorem dX6_save_26 : decode cX6_save 26 = .ok (.iaload, 1) := by decide +kernel
theorem dX6_save_27 : decode cX6_save 27 = .ok (.invokevirtual 202, 3) := by decide +kernel
theorem dX6_save_30 : decode cX6_save 30 = .ok (.iload_n 1, 1) := by decide +kernel
theorem dX6_save_31 : decode cX6_save 31 = .ok (.aload_n 0, 1) := by decide +kernel
theorem dX6_save_32 : decode cX6_save 32 = .ok (.getfield 34, 3) := by decide +kernel
theorem dX6_save_35 : decode cX6_save 35 = .ok (.iload_n 2, 1) := by decide +kernel
theorem dX6_save_36 : decode cX6_save 36 = .ok (.aaload, 1) := by decide +kernel
theorem dX6_save_37 : decode cX6_save 37 = .ok (.getfield 206, 3) := by decide +kernel
theorem dX6_save_40 : decode cX6_save 40 = .ok (.iadd, 1) := by decide +kernel
theorem dX6_save_41 : decode cX6_save 41 = .ok (.istore_n 1, 1) := by decide +kernel
theorem dX6_save_42 : decode cX6_save 42 = .ok (.iinc 2 1, 3) := by decide +kernel
theorem dX6_save_45 : decode cX6_save 45 = .ok (.goto (-41), 3) := by decide +kernel
theorem dX6_save_48 : decode cX6_save 48 = .ok (.iconst 0, 1) := by decide +kernel
theorem dX6_save_49 : decode cX6_save 49 = .ok (.istore_n 2, 1) := by decide +kernel
theorem dX6_save_50 : decode cX6_save 50 = .ok (.iload_n 2, 1) := by decide +kernel
theorem dX6_save_51 : decode cX6_save 51 = .ok (.iconst 4, 1) := by decide +kernel
theorem dX6_save_52 : decode cX6_save 52 = .ok (.if_icmp .ge 22, 3) := by decide +kernel
theorem dX6_save_55 : decode cX6_save 55 = .ok (.aload_n 0, 1) := by decide +kernel
theorem dX6_save_56 : decode cX6_save 56 = .ok (.getfield 34, 3) := by decide +kernel
theorem dX6_save_59 : decode cX6_save 59 = .ok (.iload_n 2, 1) := by decide +kernel
theorem dX6_save_60 : decode cX6_save 60 = .ok (.aaload, 1) := by decide +kernel
theorem dX6_save_61 : decode cX6_save 61 = .ok (.aload_n 0, 1) := by decide +kernel
theorem dX6_save_62 : decode cX6_save 62 = .ok (.getfield 34, 3) := by decide +kernel
theorem dX6_save_65 : decode cX6_save 65 = .ok (.invokevirtual 209, 3) := by decide +kernel
theorem dX6_save_68 : decode cX6_save 68 = .ok (.iinc 2 1, 3) := by decide +kernel
theorem dX6_save_71 : decode cX6_save 71 = .ok (.goto (-21), 3) := by decide +kernel
theorem dX6_save_74 : decode cX6_save 74 = .ok (.aload_n 0, 1) := by decide +kernel
theorem dX6_save_75 : decode cX6_save 75 = .ok (.iconst 1, 1) := by decide +kernel
theorem dX6_save_76 : decode cX6_save 76 = .ok (.putfield 213, 3) := by decide +kernel
theorem dX6_save_79 : decode cX6_save 79 = .ok (.iload_n 1, 1) := by decide +kernel
theorem dX6_save_80 : decode cX6_save 80 = .ok (.ireturn, 1) := by decide +kernel
theorem dX6_blocks_0 : decode cX6_blocks 0 = .ok (.iload_n 1, 1) := by decide +kernel
theorem dX6_blocks_1 : decode cX6_blocks 1 = .ok (.invokestatic 84, 3) := by decide +kernel
theorem dX6_blocks_4 : decode cX6_blocks 4 = .ok (.aload_n 0, 1) := by decide +kernel
theorem dX6_blocks_5 : decode cX6_blocks 5 = .ok (.invokevirtual 217, 3) := by decide +kernel
theorem dX6_blocks_8 : decode cX6_blocks 8 = .ok (.aload_n 0, 1) := by decide +kernel
theorem dX6_blocks_9 : decode cX6_blocks 9 = .ok (.getfield 34, 3) := by decide +kernel
theorem dX6_blocks_12 : decode cX6_blocks 12 = .ok (.iload_n 1, 1) := by decide +kernel
theorem dX6_blocks_13 : decode cX6_blocks 13 = .ok (.aaload, 1) := by decide +kernel
theorem dX6_blocks_14 : decode cX6_blocks 14 = .ok (.invokevirtual 220, 3) := by decide +kernel
theorem dX6_blocks_17 : decode cX6_blocks 17 = .ok (.ireturn, 1) := by decide +kernel
theorem dX6_breakBlock_0 : decode cX6_breakBlock 0 = .ok (.iload_n 1, 1) := by decide +kernel
theorem dX6_breakBlock_1 : decode cX6_breakBlock 1 = .ok (.invokestatic 84, 3) := by decide +kernel
theorem dX6_breakBlock_4 : decode cX6_breakBlock 4 = .ok (.aload_n 0, 1) := by decide +kernel
theorem dX6_breakBlock_5 : decode cX6_breakBlock 5 = .ok (.invokevirtual 217, 3) := by decide +kernel
theorem dX6_breakBlock_8 : decode cX6_breakBlock 8 = .ok (.iload_n 2, 1) := by decide +kernel
theorem dX6_breakBlock_9 : decode cX6_breakBlock 9 = .ok (.ifCond .lt 16, 3) := by decide +kernel
theorem dX6_breakBlock_12 : decode cX6_breakBlock 12 = .ok (.iload_n 2, 1) := by decide +kernel
theorem dX6_breakBlock_13 : decode cX6_breakBlock 13 = .ok (.aload_n 0, 1) := by decide +kernel
theorem dX6_breakBlock_14 : decode cX6_breakBlock 14 = .ok (.getfield 34, 3) := by decide +kernel
theorem dX6_breakBlock_17 : decode cX6_breakBlock 17 = .ok (.iload_n 1, 1) := by decide +kernel
theorem dX6_breakBlock_18 : decode cX6_breakBlock 18 = .ok (.aaload, 1) := by decide +kernel
theorem dX6_breakBlock_19 : decode cX6_breakBlock 19 = .ok (.invokevirtual 220, 3) := by decide +kernel
theorem dX6_breakBlock_22 : decode cX6_breakBlock 22 = .ok (.if_icmp .lt 13, 3) := by decide +kernel
theorem dX6_breakBlock_25 : decode cX6_breakBlock 25 = .ok (.new 192, 3) := by decide +kernel
theorem dX6_breakBlock_28 : decode cX6_breakBlock 28 = .ok (.dup, 1) := by decide +kernel
theorem dX6_breakBlock_29 : decode cX6_breakBlock 29 = .ok (.ldc 224, 2) := by decide +kernel
theorem dX6_breakBlock_31 : decode cX6_breakBlock 31 = .ok (.invokespecial 196, 3) := by decide +kernel
theorem dX6_breakBlock_34 : decode cX6_breakBlock 34 = .ok (.athrow, 1) := by decide +kernel
theorem dX6_breakBlock_35 : decode cX6_breakBlock 35 = .ok (.aload_n 0, 1) := by decide +kernel
theorem dX6_breakBlock_36 : decode cX6_breakBlock 36 = .ok (.getfield 34, 3) := by decide +kernel
theorem dX6_breakBlock_39 : decode cX6_breakBlock 39 = .ok (.iload_n 1, 1) := by decide +kernel
theorem dX6_breakBlock_40 : decode cX6_breakBlock 40 = .ok (.aaload, 1) := by decide +kernel
theorem dX6_breakBlock_41 : decode cX6_breakBlock 41 = .ok (.iload_n 2, 1) := by decide +kernel
theorem dX6_breakBlock_42 : decode cX6_breakBlock 42 = .ok (.invokevirtual 226, 3) := by decide +kernel
theorem dX6_breakBlock_45 : decode cX6_breakBlock 45 = .ok (.ifCond .ne 7, 3) := by decide +kernel
theorem dX6_breakBlock_48 : decode cX6_breakBlock 48 = .ok (.iconst 1, 1) := by decide +kernel
theorem dX6_breakBlock_49 : decode cX6_breakBlock 49 = .ok (.goto 4, 3) := by decide +kernel
theorem dX6_breakBlock_52 : decode cX6_breakBlock 52 = .ok (.iconst 0, 1) := by decide +kernel
theorem dX6_breakBlock_53 : decode cX6_breakBlock 53 = .ok (.istore_n 3, 1) := by decide +kernel
theorem dX6_breakBlock_54 : decode cX6_breakBlock 54 = .ok (.aload_n 0, 1) := by decide +kernel
theorem dX6_breakBlock_55 : decode cX6_breakBlock 55 = .ok (.getfield 34, 3) := by decide +kernel
theorem dX6_breakBlock_58 : decode cX6_breakBlock 58 = .ok (.iload_n 1, 1) := by decide +kernel
theorem dX6_breakBlock_59 : decode cX6_breakBlock 59 = .ok (.aaload, 1) := by decide +kernel
theorem dX6_breakBlock_60 : decode cX6_breakBlock 60 = .ok (.iload_n 2, 1) := by decide +kernel
theorem dX6_breakBlock_61 : decode cX6_breakBlock 61 = .ok (.invokevirtual 229, 3) := by decide +kernel
theorem dX6_breakBlock_64 : decode cX6_breakBlock 64 = .ok (.iload_n 3, 1) := by decide +kernel
theorem dX6_breakBlock_65 : decode cX6_breakBlock 65 = .ok (.ireturn, 1) := by decide +kernel
theorem dX6_savedAt_0 : decode cX6_savedAt 0 = .ok (.iload_n 1, 1) := by decide +kernel
theorem dX6_savedAt_1 : decode cX6_savedAt 1 = .ok (.invokestatic 84, 3) := by decide +kernel
theorem dX6_savedAt_4 : decode cX6_savedAt 4 = .ok (.aload_n 0, 1) := by decide +kernel
theorem dX6_savedAt_5 : decode cX6_savedAt 5 = .ok (.invokevirtual 217, 3) := by decide +kernel
theorem dX6_savedAt_8 : decode cX6_savedAt 8 = .ok (.iload_n 2, 1) := by decide +kernel
theorem dX6_savedAt_9 : decode cX6_savedAt 9 = .ok (.ifCond .lt 16, 3) := by decide +kernel
theorem dX6_savedAt_12 : decode cX6_savedAt 12 = .ok (.iload_n 2, 1) := by decide +kernel
theorem dX6_savedAt_13 : decode cX6_savedAt 13 = .ok (.aload_n 0, 1) := by decide +kernel
theorem dX6_savedAt_14 : decode cX6_savedAt 14 = .ok (.getfield 34, 3) := by decide +kernel
theorem dX6_savedAt_17 : decode cX6_savedAt 17 = .ok (.iload_n 1, 1) := by decide +kernel
theorem dX6_savedAt_18 : decode cX6_savedAt 18 = .ok (.aaload, 1) := by decide +kernel
theorem dX6_savedAt_19 : decode cX6_savedAt 19 = .ok (.getfield 206, 3) := by decide +kernel
theorem dX6_savedAt_22 : decode cX6_savedAt 22 = .ok (.if_icmp .lt 13, 3) := by decide +kernel
theorem dX6_savedAt_25 : decode cX6_savedAt 25 = .ok (.new 192, 3) := by decide +kernel
theorem dX6_savedAt_28 : decode cX6_savedAt 28 = .ok (.dup, 1) := by decide +kernel
theorem dX6_savedAt_29 : decode cX6_savedAt 29 = .ok (.ldc 232, 2) := by decide +kernel
theorem dX6_savedAt_31 : decode cX6_savedAt 31 = .ok (.invokespecial 196, 3) := by decide +kernel
theorem dX6_savedAt_34 : decode cX6_savedAt 34 = .ok (.athrow, 1) := by decide +kernel
theorem dX6_savedAt_35 : decode cX6_savedAt 35 = .ok (.aload_n 0, 1) := by decide +kernel
theorem dX6_savedAt_36 : decode cX6_savedAt 36 = .ok (.getfield 34, 3) := by decide +kernel
theorem dX6_savedAt_39 : decode cX6_savedAt 39 = .ok (.iload_n 1, 1) := by decide +kernel
theorem dX6_savedAt_40 : decode cX6_savedAt 40 = .ok (.aaload, 1) := by decide +kernel
theorem dX6_savedAt_41 : decode cX6_savedAt 41 = .ok (.iload_n 2, 1) := by decide +kernel
theorem dX6_savedAt_42 : decode cX6_savedAt 42 = .ok (.iconst 4, 1) := by decide +kernel
theorem dX6_savedAt_43 : decode cX6_savedAt 43 = .ok (.idiv, 1) := by decide +kernel
theorem dX6_savedAt_44 : decode cX6_savedAt 44 = .ok (.invokevirtual 226, 3) := by decide +kernel
theorem dX6_savedAt_47 : decode cX6_savedAt 47 = .ok (.ifCond .eq 13, 3) := by decide +kernel
theorem dX6_savedAt_50 : decode cX6_savedAt 50 = .ok (.new 103, 3) := by decide +kernel
theorem dX6_savedAt_53 : decode cX6_savedAt 53 = .ok (.dup, 1) := by decide +kernel
theorem dX6_savedAt_54 : decode cX6_savedAt 54 = .ok (.ldc 234, 2) := by decide +kernel
theorem dX6_savedAt_56 : decode cX6_savedAt 56 = .ok (.invokespecial 107, 3) := by decide +kernel
theorem dX6_savedAt_59 : decode cX6_savedAt 59 = .ok (.athrow, 1) := by decide +kernel
theorem dX6_savedAt_60 : decode cX6_savedAt 60 = .ok (.aload_n 0, 1) := by decide +kernel
theorem dX6_savedAt_61 : decode cX6_savedAt 61 = .ok (.getfield 34, 3) := by decide +kernel
theorem dX6_savedAt_64 : decode cX6_savedAt 64 = .ok (.iload_n 1, 1) := by decide +kernel
theorem dX6_savedAt_65 : decode cX6_savedAt 65 = .ok (.aaload, 1) := by decide +kernel
theorem dX6_savedAt_66 : decode cX6_savedAt 66 = .ok (.iload_n 2, 1) := by decide +kernel
theorem dX6_savedAt_67 : decode cX6_savedAt 67 = .ok (.invokevirtual 236, 3) := by decide +kernel
theorem dX6_savedAt_70 : decode cX6_savedAt 70 = .ok (.ireturn, 1) := by decide +kernel
theorem dX6_repair_0 : decode cX6_repair 0 = .ok (.iload_n 1, 1) := by decide +kernel
theorem dX6_repair_1 : decode cX6_repair 1 = .ok (.invokestatic 84, 3) := by decide +kernel
theorem dX6_repair_4 : decode cX6_repair 4 = .ok (.aload_n 0, 1) := by decide +kernel
theorem dX6_repair_5 : decode cX6_repair 5 = .ok (.invokevirtual 217, 3) := by decide +kernel
theorem dX6_repair_8 : decode cX6_repair 8 = .ok (.iconst 0, 1) := by decide +kernel
theorem dX6_repair_9 : decode cX6_repair 9 = .ok (.istore_n 2, 1) := by decide +kernel
theorem dX6_repair_10 : decode cX6_repair 10 = .ok (.iconst 0, 1) := by decide +kernel
theorem dX6_repair_11 : decode cX6_repair 11 = .ok (.istore_n 3, 1) := by decide +kernel
theorem dX6_repair_12 : decode cX6_repair 12 = .ok (.iload_n 3, 1) := by decide +kernel
theorem dX6_repair_13 : decode cX6_repair 13 = .ok (.aload_n 0, 1) := by decide +kernel
theorem dX6_repair_14 : decode cX6_repair 14 = .ok (.getfield 34, 3) := by decide +kernel
theorem dX6_repair_17 : decode cX6_repair 17 = .ok (.iload_n 1, 1) := by decide +kernel
theorem dX6_repair_18 : decode cX6_repair 18 = .ok (.aaload, 1) := by decide +kernel
theorem dX6_repair_19 : decode cX6_repair 19 = .ok (.invokevirtual 220, 3) := by decide +kernel
theorem dX6_repair_22 : decode cX6_repair 22 = .ok (.if_icmp .ge 56, 3) := by decide +kernel
theorem dX6_repair_25 : decode cX6_repair 25 = .ok (.aload_n 0, 1) := by decide +kernel
theorem dX6_repair_26 : decode cX6_repair 26 = .ok (.getfield 34, 3) := by decide +kernel
theorem dX6_repair_29 : decode cX6_repair 29 = .ok (.iload_n 1, 1) := by decide +kernel
theorem dX6_repair_30 : decode cX6_repair 30 = .ok (.aaload, 1) := by decide +kernel
theorem dX6_repair_31 : decode cX6_repair 31 = .ok (.iload_n 3, 1) := by decide +kernel
theorem dX6_repair_32 : decode cX6_repair 32 = .ok (.invokevirtual 226, 3) := by decide +kernel
theorem dX6_repair_35 : decode cX6_repair 35 = .ok (.ifCond .eq 37, 3) := by decide +kernel
theorem dX6_repair_38 : decode cX6_repair 38 = .ok (.aload_n 0, 1) := by decide +kernel
theorem dX6_repair_39 : decode cX6_repair 39 = .ok (.getfield 34, 3) := by decide +kernel
theorem dX6_repair_42 : decode cX6_repair 42 = .ok (.iload_n 1, 1) := by decide +kernel
theorem dX6_repair_43 : decode cX6_repair 43 = .ok (.aaload, 1) := by decide +kernel
theorem dX6_repair_44 : decode cX6_repair 44 = .ok (.iload_n 3, 1) := by decide +kernel
theorem dX6_repair_45 : decode cX6_repair 45 = .ok (.aload_n 0, 1) := by decide +kernel
theorem dX6_repair_46 : decode cX6_repair 46 = .ok (.getfield 34, 3) := by decide +kernel
theorem dX6_repair_49 : decode cX6_repair 49 = .ok (.invokevirtual 239, 3) := by decide +kernel
theorem dX6_repair_52 : decode cX6_repair 52 = .ok (.ifCond .eq 20, 3) := by decide +kernel
theorem dX6_repair_55 : decode cX6_repair 55 = .ok (.aload_n 0, 1) := by decide +kernel
theorem dX6_repair_56 : decode cX6_repair 56 = .ok (.getfield 34, 3) := by decide +kernel
theorem dX6_repair_59 : decode cX6_repair 59 = .ok (.iload_n 1, 1) := by decide +kernel
theorem dX6_repair_60 : decode cX6_repair 60 = .ok (.aaload, 1) := by decide +kernel
theorem dX6_repair_61 : decode cX6_repair 61 = .ok (.iload_n 3, 1) := by decide +kernel
theorem dX6_repair_62 : decode cX6_repair 62 = .ok (.aload_n 0, 1) := by decide +kernel
theorem dX6_repair_63 : decode cX6_repair 63 = .ok (.getfield 34, 3) := by decide +kernel
theorem dX6_repair_66 : decode cX6_repair 66 = .ok (.invokevirtual 243, 3) := by decide +kernel
theorem dX6_repair_69 : decode cX6_repair 69 = .ok (.iinc 2 1, 3) := by decide +kernel
theorem dX6_repair_72 : decode cX6_repair 72 = .ok (.iinc 3 1, 3) := by decide +kernel
theorem dX6_repair_75 : decode cX6_repair 75 = .ok (.goto (-63), 3) := by decide +kernel
theorem dX6_repair_78 : decode cX6_repair 78 = .ok (.iload_n 2, 1) := by decide +kernel
theorem dX6_repair_79 : decode cX6_repair 79 = .ok (.ireturn, 1) := by decide +kernel
theorem dX6_load_0 : decode cX6_load 0 = .ok (.iload_n 1, 1) := by decide +kernel
theorem dX6_load_1 : decode cX6_load 1 = .ok (.invokestatic 84, 3) := by decide +kernel
theorem dX6_load_4 : decode cX6_load 4 = .ok (.aload_n 0, 1) := by decide +kernel
theorem dX6_load_5 : decode cX6_load 5 = .ok (.invokevirtual 217, 3) := by decide +kernel
theorem dX6_load_8 : decode cX6_load 8 = .ok (.aload_n 0, 1) := by decide +kernel
theorem dX6_load_9 : decode cX6_load 9 = .ok (.getfield 34, 3) := by decide +kernel
theorem dX6_load_12 : decode cX6_load 12 = .ok (.iload_n 1, 1) := by decide +kernel
theorem dX6_load_13 : decode cX6_load 13 = .ok (.aaload, 1) := by decide +kernel
theorem dX6_load_14 : decode cX6_load 14 = .ok (.invokevirtual 247, 3) := by decide +kernel
theorem dX6_load_17 : decode cX6_load 17 = .ok (.ifCond .eq 13, 3) := by decide +kernel
theorem dX6_load_20 : decode cX6_load 20 = .ok (.new 103, 3) := by decide +kernel
theorem dX6_load_23 : decode cX6_load 23 = .ok (.dup, 1) := by decide +kernel
theorem dX6_load_24 : decode cX6_load 24 = .ok (.ldc 251, 2) := by decide +kernel
theorem dX6_load_26 : decode cX6_load 26 = .ok (.invokespecial 107, 3) := by decide +kernel
theorem dX6_load_29 : decode cX6_load 29 = .ok (.athrow, 1) := by decide +kernel
theorem dX6_load_30 : decode cX6_load 30 = .ok (.aload_n 0, 1) := by decide +kernel
theorem dX6_load_31 : decode cX6_load 31 = .ok (.getfield 34, 3) := by decide +kernel
theorem dX6_load_34 : decode cX6_load 34 = .ok (.iload_n 1, 1) := by decide +kernel
theorem dX6_load_35 : decode cX6_load 35 = .ok (.aaload, 1) := by decide +kernel
theorem dX6_load_36 : decode cX6_load 36 = .ok (.aload_n 0, 1) := by decide +kernel
theorem dX6_load_37 : decode cX6_load 37 = .ok (.getfield 28, 3) := by decide +kernel
theorem dX6_load_40 : decode cX6_load 40 = .ok (.iload_n 1, 1) := by decide +kernel
theorem dX6_load_41 : decode cX6_load 41 = .ok (.aaload, 1) := by decide +kernel
theorem dX6_load_42 : decode cX6_load 42 = .ok (.invokevirtual 253, 3) := by decide +kernel
theorem dX6_load_45 : decode cX6_load 45 = .ok (.aload_n 0, 1) := by decide +kernel
theorem dX6_load_46 : decode cX6_load 46 = .ok (.getfield 28, 3) := by decide +kernel
theorem dX6_load_49 : decode cX6_load 49 = .ok (.iload_n 1, 1) := by decide +kernel
theorem dX6_load_50 : decode cX6_load 50 = .ok (.aaload, 1) := by decide +kernel
theorem dX6_load_51 : decode cX6_load 51 = .ok (.getfield 170, 3) := by decide +kernel
theorem dX6_load_54 : decode cX6_load 54 = .ok (.ireturn, 1) := by decide +kernel
theorem dX6_allies_0 : decode cX6_allies 0 = .ok (.iload_n 1, 1) := by decide +kernel
theorem dX6_allies_1 : decode cX6_allies 1 = .ok (.invokestatic 84, 3) := by decide +kernel
theorem dX6_allies_4 : decode cX6_allies 4 = .ok (.aload_n 0, 1) := by decide +kernel
theorem dX6_allies_5 : decode cX6_allies 5 = .ok (.invokevirtual 217, 3) := by decide +kernel
theorem dX6_allies_8 : decode cX6_allies 8 = .ok (.aload_n 0, 1) := by decide +kernel
theorem dX6_allies_9 : decode cX6_allies 9 = .ok (.getfield 34, 3) := by decide +kernel
theorem dX6_allies_12 : decode cX6_allies 12 = .ok (.iload_n 1, 1) := by decide +kernel
theorem dX6_allies_13 : decode cX6_allies 13 = .ok (.aaload, 1) := by decide +kernel
theorem dX6_allies_14 : decode cX6_allies 14 = .ok (.getfield 257, 3) := by decide +kernel
theorem dX6_allies_17 : decode cX6_allies 17 = .ok (.invokestatic 260, 3) := by decide +kernel
theorem dX6_allies_20 : decode cX6_allies 20 = .ok (.ireturn, 1) := by decide +kernel
theorem dX6_checksum_0 : decode cX6_checksum 0 = .ok (.lconst 0, 1) := by decide +kernel
theorem dX6_checksum_1 : decode cX6_checksum 1 = .ok (.lstore_n 1, 1) := by decide +kernel
theorem dX6_checksum_2 : decode cX6_checksum 2 = .ok (.iconst 0, 1) := by decide +kernel
theorem dX6_checksum_3 : decode cX6_checksum 3 = .ok (.istore_n 3, 1) := by decide +kernel
theorem dX6_checksum_4 : decode cX6_checksum 4 = .ok (.iload_n 3, 1) := by decide +kernel
theorem dX6_checksum_5 : decode cX6_checksum 5 = .ok (.aload_n 0, 1) := by decide +kernel
theorem dX6_checksum_6 : decode cX6_checksum 6 = .ok (.getfield 10, 3) := by decide +kernel
theorem dX6_checksum_9 : decode cX6_checksum 9 = .ok (.getfield 57, 3) := by decide +kernel
theorem dX6_checksum_12 : decode cX6_checksum 12 = .ok (.getfield 61, 3) := by decide +kernel
theorem dX6_checksum_15 : decode cX6_checksum 15 = .ok (.if_icmp .ge 28, 3) := by decide +kernel
theorem dX6_checksum_18 : decode cX6_checksum 18 = .ok (.ldc2_w 265, 3) := by decide +kernel
theorem dX6_checksum_21 : decode cX6_checksum 21 = .ok (.lload_n 1, 1) := by decide +kernel
theorem dX6_checksum_22 : decode cX6_checksum 22 = .ok (.lmul, 1) := by decide +kernel
theorem dX6_checksum_23 : decode cX6_checksum 23 = .ok (.aload_n 0, 1) := by decide +kernel
theorem dX6_checksum_24 : decode cX6_checksum 24 = .ok (.getfield 10, 3) := by decide +kernel
theorem dX6_checksum_27 : decode cX6_checksum 27 = .ok (.getfield 57, 3) := by decide +kernel
theorem dX6_checksum_30 : decode cX6_checksum 30 = .ok (.iload_n 3, 1) := by decide +kernel
theorem dX6_checksum_31 : decode cX6_checksum 31 = .ok (.invokevirtual 152, 3) := by decide +kernel
theorem dX6_checksum_34 : decode cX6_checksum 34 = .ok (.i2l, 1) := by decide +kernel
theorem dX6_checksum_35 : decode cX6_checksum 35 = .ok (.ladd, 1) := by decide +kernel
theorem dX6_checksum_36 : decode cX6_checksum 36 = .ok (.lstore_n 1, 1) := by decide +kernel
theorem dX6_checksum_37 : decode cX6_checksum 37 = .ok (.iinc 3 1, 3) := by decide +kernel
theorem dX6_checksum_40 : decode cX6_checksum 40 = .ok (.goto (-36), 3) := by decide +kernel
theorem dX6_checksum_43 : decode cX6_checksum 43 = .ok (.lload_n 1, 1) := by decide +kernel
theorem dX6_checksum_44 : decode cX6_checksum 44 = .ok (.lreturn, 1) := by decide +kernel
theorem dX6_livingShare_0 : decode cX6_livingShare 0 = .ok (.aload_n 0, 1) := by decide +kernel
theorem dX6_livingShare_1 : decode cX6_livingShare 1 = .ok (.getfield 10, 3) := by decide +kernel
theorem dX6_livingShare_4 : decode cX6_livingShare 4 = .ok (.getfield 57, 3) := by decide +kernel
theorem dX6_livingShare_7 : decode cX6_livingShare 7 = .ok (.getfield 61, 3) := by decide +kernel
theorem dX6_livingShare_10 : decode cX6_livingShare 10 = .ok (.istore_n 1, 1) := by decide +kernel
theorem dX6_livingShare_11 : decode cX6_livingShare 11 = .ok (.iload_n 1, 1) := by decide +kernel
theorem dX6_livingShare_12 : decode cX6_livingShare 12 = .ok (.ifCond .ne 14, 3) := by decide +kernel
theorem dX6_livingShare_15 : decode cX6_livingShare 15 = .ok (.new 267, 3) := by decide +kernel
theorem dX6_livingShare_18 : decode cX6_livingShare 18 = .ok (.dup, 1) := by decide +kernel
theorem dX6_livingShare_19 : decode cX6_livingShare 19 = .ok (.ldc_w 269, 3) := by decide +kernel
theorem dX6_livingShare_22 : decode cX6_livingShare 22 = .ok (.invokespecial 271, 3) := by decide +kernel
theorem dX6_livingShare_25 : decode cX6_livingShare 25 = .ok (.athrow, 1) := by decide +kernel
theorem dX6_livingShare_26 : decode cX6_livingShare 26 = .ok (.iconst 0, 1) := by decide +kernel
theorem dX6_livingShare_27 : decode cX6_livingShare 27 = .ok (.istore_n 2, 1) := by decide +kernel
theorem dX6_livingShare_28 : decode cX6_livingShare 28 = .ok (.iconst 0, 1) := by decide +kernel
theorem dX6_livingShare_29 : decode cX6_livingShare 29 = .ok (.istore_n 3, 1) := by decide +kernel
theorem dX6_livingShare_30 : decode cX6_livingShare 30 = .ok (.iload_n 3, 1) := by decide +kernel
theorem dX6_livingShare_31 : decode cX6_livingShare 31 = .ok (.iload_n 1, 1) := by decide +kernel
theorem dX6_livingShare_32 : decode cX6_livingShare 32 = .ok (.if_icmp .ge 26, 3) := by decide +kernel
theorem dX6_livingShare_35 : decode cX6_livingShare 35 = .ok (.aload_n 0, 1) := by decide +kernel
theorem dX6_livingShare_36 : decode cX6_livingShare 36 = .ok (.getfield 10, 3) := by decide +kernel
theorem dX6_livingShare_39 : decode cX6_livingShare 39 = .ok (.getfield 57, 3) := by decide +kernel
theorem dX6_livingShare_42 : decode cX6_livingShare 42 = .ok (.iload_n 3, 1) := by decide +kernel
theorem dX6_livingShare_43 : decode cX6_livingShare 43 = .ok (.invokevirtual 122, 3) := by decide +kernel
theorem dX6_livingShare_46 : decode cX6_livingShare 46 = .ok (.ifCond .eq 6, 3) := by decide +kernel
theorem dX6_livingShare_49 : decode cX6_livingShare 49 = .ok (.iinc 2 1, 3) := by decide +kernel
theorem dX6_livingShare_52 : decode cX6_livingShare 52 = .ok (.iinc 3 1, 3) := by decide +kernel
theorem dX6_livingShare_55 : decode cX6_livingShare 55 = .ok (.goto (-25), 3) := by decide +kernel
theorem dX6_livingShare_58 : decode cX6_livingShare 58 = .ok (.iload_n 2, 1) := by decide +kernel
theorem dX6_livingShare_59 : decode cX6_livingShare 59 = .ok (.i2f, 1) := by decide +kernel
theorem dX6_livingShare_60 : decode cX6_livingShare 60 = .ok (.iload_n 1, 1) := by decide +kernel
theorem dX6_livingShare_61 : decode cX6_livingShare 61 = .ok (.i2f, 1) := by decide +kernel
theorem dX6_livingShare_62 : decode cX6_livingShare 62 = .ok (.fdiv, 1) := by decide +kernel
theorem dX6_livingShare_63 : decode cX6_livingShare 63 = .ok (.freturn, 1) := by decide +kernel
theorem dX6_meanAge_0 : decode cX6_meanAge 0 = .ok (.lconst 0, 1) := by decide +kernel
theorem dX6_meanAge_1 : decode cX6_meanAge 1 = .ok (.lstore_n 1, 1) := by decide +kernel
theorem dX6_meanAge_2 : decode cX6_meanAge 2 = .ok (.iconst 0, 1) := by decide +kernel
theorem dX6_meanAge_3 : decode cX6_meanAge 3 = .ok (.istore_n 3, 1) := by decide +kernel
theorem dX6_meanAge_4 : decode cX6_meanAge 4 = .ok (.iconst 0, 1) := by decide +kernel
theorem dX6_meanAge_5 : decode cX6_meanAge 5 = .ok (.istore 4, 2) := by decide +kernel
theorem dX6_meanAge_7 : decode cX6_meanAge 7 = .ok (.iload 4, 2) := by decide +kernel
theorem dX6_meanAge_9 : decode cX6_meanAge 9 = .ok (.iconst 4, 1) := by decide +kernel
theorem dX6_meanAge_10 : decode cX6_meanAge 10 = .ok (.if_icmp .ge 64, 3) := by decide +kernel
theorem dX6_meanAge_13 : decode cX6_meanAge 13 = .ok (.aload_n 0, 1) := by decide +kernel
theorem dX6_meanAge_14 : decode cX6_meanAge 14 = .ok (.getfield 28, 3) := by decide +kernel
theorem dX6_meanAge_17 : decode cX6_meanAge 17 = .ok (.iload 4, 2) := by decide +kernel
theorem dX6_meanAge_19 : decode cX6_meanAge 19 = .ok (.aaload, 1) := by decide +kernel
theorem dX6_meanAge_20 : decode cX6_meanAge 20 = .ok (.astore 5, 2) := by decide +kernel
theorem dX6_meanAge_22 : decode cX6_meanAge 22 = .ok (.iconst 0, 1) := by decide +kernel
theorem dX6_meanAge_23 : decode cX6_meanAge 23 = .ok (.istore 6, 2) := by decide +kernel
theorem dX6_meanAge_25 : decode cX6_meanAge 25 = .ok (.iload 6, 2) := by decide +kernel
theorem dX6_meanAge_27 : decode cX6_meanAge 27 = .ok (.aload 5, 2) := by decide +kernel
theorem dX6_meanAge_29 : decode cX6_meanAge 29 = .ok (.getfield 170, 3) := by decide +kernel
theorem dX6_meanAge_32 : decode cX6_meanAge 32 = .ok (.if_icmp .ge 28, 3) := by decide +kernel
theorem dX6_meanAge_35 : decode cX6_meanAge 35 = .ok (.lload_n 1, 1) := by decide +kernel
theorem dX6_meanAge_36 : decode cX6_meanAge 36 = .ok (.aload_n 0, 1) := by decide +kernel
theorem dX6_meanAge_37 : decode cX6_meanAge 37 = .ok (.getfield 108, 3) := by decide +kernel
theorem dX6_meanAge_40 : decode cX6_meanAge 40 = .ok (.aload 5, 2) := by decide +kernel
theorem dX6_meanAge_42 : decode cX6_meanAge 42 = .ok (.iload 6, 2) := by decide +kernel
theorem dX6_meanAge_44 : decode cX6_meanAge 44 = .ok (.invokevirtual 176, 3) := by decide +kernel
theorem dX6_meanAge_47 : decode cX6_meanAge 47 = .ok (.invokestatic 178, 3) := by decide +kernel
theorem dX6_meanAge_50 : decode cX6_meanAge 50 = .ok (.isub, 1) := by decide +kernel
theorem dX6_meanAge_51 : decode cX6_meanAge 51 = .ok (.i2l, 1) := by decide +kernel
theorem dX6_meanAge_52 : decode cX6_meanAge 52 = .ok (.ladd, 1) := by decide +kernel
theorem dX6_meanAge_53 : decode cX6_meanAge 53 = .ok (.lstore_n 1, 1) := by decide +kernel
theorem dX6_meanAge_54 : decode cX6_meanAge 54 = .ok (.iinc 6 1, 3) := by decide +kernel
theorem dX6_meanAge_57 : decode cX6_meanAge 57 = .ok (.goto (-32), 3) := by decide +kernel
theorem dX6_meanAge_60 : decode cX6_meanAge 60 = .ok (.iload_n 3, 1) := by decide +kernel
theorem dX6_meanAge_61 : decode cX6_meanAge 61 = .ok (.aload 5, 2) := by decide +kernel
theorem dX6_meanAge_63 : decode cX6_meanAge 63 = .ok (.getfield 170, 3) := by decide +kernel
theorem dX6_meanAge_66 : decode cX6_meanAge 66 = .ok (.iadd, 1) := by decide +kernel
theorem dX6_meanAge_67 : decode cX6_meanAge 67 = .ok (.istore_n 3, 1) := by decide +kernel
theorem dX6_meanAge_68 : decode cX6_meanAge 68 = .ok (.iinc 4 1, 3) := by decide +kernel
theorem dX6_meanAge_71 : decode cX6_meanAge 71 = .ok (.goto (-64), 3) := by decide +kernel
theorem dX6_meanAge_74 : decode cX6_meanAge 74 = .ok (.iload_n 3, 1) := by decide +kernel
theorem dX6_meanAge_75 : decode cX6_meanAge 75 = .ok (.ifCond .ne 14, 3) := by decide +kernel
theorem dX6_meanAge_78 : decode cX6_meanAge 78 = .ok (.new 267, 3) := by decide +kernel
theorem dX6_meanAge_81 : decode cX6_meanAge 81 = .ok (.dup, 1) := by decide +kernel
theorem dX6_meanAge_82 : decode cX6_meanAge 82 = .ok (.ldc_w 272, 3) := by decide +kernel
theorem dX6_meanAge_85 : decode cX6_meanAge 85 = .ok (.invokespecial 271, 3) := by decide +kernel
theorem dX6_meanAge_88 : decode cX6_meanAge 88 = .ok (.athrow, 1) := by decide +kernel
theorem dX6_meanAge_89 : decode cX6_meanAge 89 = .ok (.lload_n 1, 1) := by decide +kernel
theorem dX6_meanAge_90 : decode cX6_meanAge 90 = .ok (.l2d, 1) := by decide +kernel
theorem dX6_meanAge_91 : decode cX6_meanAge 91 = .ok (.iload_n 3, 1) := by decide +kernel
theorem dX6_meanAge_92 : decode cX6_meanAge 92 = .ok (.i2d, 1) := by decide +kernel
theorem dX6_meanAge_93 : decode cX6_meanAge 93 = .ok (.ddiv, 1) := by decide +kernel
theorem dX6_meanAge_94 : decode cX6_meanAge 94 = .ok (.dreturn, 1) := by decide +kernel
theorem dX6_isSound_0 : decode cX6_isSound 0 = .ok (.aload_n 0, 1) := by decide +kernel
theorem dX6_isSound_1 : decode cX6_isSound 1 = .ok (.invokevirtual 274, 3) := by decide +kernel
theorem dX6_isSound_4 : decode cX6_isSound 4 = .ok (.ifCond .eq 21, 3) := by decide +kernel
theorem dX6_isSound_7 : decode cX6_isSound 7 = .ok (.aload_n 0, 1) := by decide +kernel
theorem dX6_isSound_8 : decode cX6_isSound 8 = .ok (.invokevirtual 277, 3) := by decide +kernel
theorem dX6_isSound_11 : decode cX6_isSound 11 = .ok (.ifCond .eq 14, 3) := by decide +kernel
theorem dX6_isSound_14 : decode cX6_isSound 14 = .ok (.aload_n 0, 1) := by decide +kernel
theorem dX6_isSound_15 : decode cX6_isSound 15 = .ok (.invokevirtual 280, 3) := by decide +kernel
theorem dX6_isSound_18 : decode cX6_isSound 18 = .ok (.ifCond .eq 7, 3) := by decide +kernel
theorem dX6_isSound_21 : decode cX6_isSound 21 = .ok (.iconst 1, 1) := by decide +kernel
theorem dX6_isSound_22 : decode cX6_isSound 22 = .ok (.goto 4, 3) := by decide +kernel
theorem dX6_isSound_25 : decode cX6_isSound 25 = .ok (.iconst 0, 1) := by decide +kernel
theorem dX6_isSound_26 : decode cX6_isSound 26 = .ok (.ireturn, 1) := by decide +kernel
theorem dX6_requirePlayer_0 : decode cX6_requirePlayer 0 = .ok (.iload_n 0, 1) := by decide +kernel
theorem dX6_requirePlayer_1 : decode cX6_requirePlayer 1 = .ok (.ifCond .lt 8, 3) := by decide +kernel
theorem dX6_requirePlayer_4 : decode cX6_requirePlayer 4 = .ok (.iload_n 0, 1) := by decide +kernel
theorem dX6_requirePlayer_5 : decode cX6_requirePlayer 5 = .ok (.iconst 4, 1) := by decide +kernel
theorem dX6_requirePlayer_6 : decode cX6_requirePlayer 6 = .ok (.if_icmp .lt 14, 3) := by decide +kernel
theorem dX6_requirePlayer_9 : decode cX6_requirePlayer 9 = .ok (.new 171, 3) := by decide +kernel
theorem dX6_requirePlayer_12 : decode cX6_requirePlayer 12 = .ok (.dup, 1) := by decide +kernel
theorem dX6_requirePlayer_13 : decode cX6_requirePlayer 13 = .ok (.ldc_w 283, 3) := by decide +kernel
theorem dX6_requirePlayer_16 : decode cX6_requirePlayer 16 = .ok (.invokespecial 175, 3) := by decide +kernel
theorem dX6_requirePlayer_19 : decode cX6_requirePlayer 19 = .ok (.athrow, 1) := by decide +kernel
theorem dX6_requirePlayer_20 : decode cX6_requirePlayer 20 = .ok (.return_, 1) := by decide +kernel
theorem dX6_requireCell_0 : decode cX6_requireCell 0 = .ok (.iload_n 0, 1) := by decide +kernel
theorem dX6_requireCell_1 : decode cX6_requireCell 1 = .ok (.invokestatic 285, 3) := by decide +kernel
theorem dX6_requireCell_4 : decode cX6_requireCell 4 = .ok (.ifCond .ne 14, 3) := by decide +kernel
theorem dX6_requireCell_7 : decode cX6_requireCell 7 = .ok (.new 171, 3) := by decide +kernel
theorem dX6_requireCell_10 : decode cX6_requireCell 10 = .ok (.dup, 1) := by decide +kernel
theorem dX6_requireCell_11 : decode cX6_requireCell 11 = .ok (.ldc_w 288, 3) := by decide +kernel
theorem dX6_requireCell_14 : decode cX6_requireCell 14 = .ok (.invokespecial 175, 3) := by decide +kernel
theorem dX6_requireCell_17 : decode cX6_requireCell 17 = .ok (.athrow, 1) := by decide +kernel
theorem dX6_requireCell_18 : decode cX6_requireCell 18 = .ok (.return_, 1) := by decide +kernel
theorem dX6_requireUnit_0 : decode cX6_requireUnit 0 = .ok (.aload_n 0, 1) := by decide +kernel
theorem dX6_requireUnit_1 : decode cX6_requireUnit 1 = .ok (.getfield 10, 3) := by decide +kernel
theorem dX6_requireUnit_4 : decode cX6_requireUnit 4 = .ok (.getfield 57, 3) := by decide +kernel
theorem dX6_requireUnit_7 : decode cX6_requireUnit 7 = .ok (.iload_n 1, 1) := by decide +kernel
theorem dX6_requireUnit_8 : decode cX6_requireUnit 8 = .ok (.invokevirtual 290, 3) := by decide +kernel
theorem dX6_requireUnit_11 : decode cX6_requireUnit 11 = .ok (.ifCond .ne 14, 3) := by decide +kernel
theorem dX6_requireUnit_14 : decode cX6_requireUnit 14 = .ok (.new 171, 3) := by decide +kernel
theorem dX6_requireUnit_17 : decode cX6_requireUnit 17 = .ok (.dup, 1) := by decide +kernel
theorem dX6_requireUnit_18 : decode cX6_requireUnit 18 = .ok (.ldc_w 293, 3) := by decide +kernel
theorem dX6_requireUnit_21 : decode cX6_requireUnit 21 = .ok (.invokespecial 175, 3) := by decide +kernel
theorem dX6_requireUnit_24 : decode cX6_requireUnit 24 = .ok (.athrow, 1) := by decide +kernel
theorem dX6_requireUnit_25 : decode cX6_requireUnit 25 = .ok (.return_, 1) := by decide +kernel
theorem dX6_requireSave_0 : decode cX6_requireSave 0 = .ok (.aload_n 0, 1) := by decide +kernel
theorem dX6_requireSave_1 : decode cX6_requireSave 1 = .ok (.getfield 213, 3) := by decide +kernel
theorem dX6_requireSave_4 : decode cX6_requireSave 4 = .ok (.ifCond .ne 14, 3) := by decide +kernel
theorem dX6_requireSave_7 : decode cX6_requireSave 7 = .ok (.new 192, 3) := by decide +kernel
theorem dX6_requireSave_10 : decode cX6_requireSave 10 = .ok (.dup, 1) := by decide +kernel
theorem dX6_requireSave_11 : decode cX6_requireSave 11 = .ok (.ldc_w 295, 3) := by decide +kernel
theorem dX6_requireSave_14 : decode cX6_requireSave 14 = .ok (.invokespecial 196, 3) := by decide +kernel
theorem dX6_requireSave_17 : decode cX6_requireSave 17 = .ok (.athrow, 1) := by decide +kernel
theorem dX6_requireSave_18 : decode cX6_requireSave 18 = .ok (.return_, 1) := by decide +kernel
theorem dX6_hasTreaty_0 : decode cX6_hasTreaty 0 = .ok (.aload_n 0, 1) := by decide +kernel
theorem dX6_hasTreaty_1 : decode cX6_hasTreaty 1 = .ok (.getfield 38, 3) := by decide +kernel
theorem dX6_hasTreaty_4 : decode cX6_hasTreaty 4 = .ok (.iload_n 1, 1) := by decide +kernel
theorem dX6_hasTreaty_5 : decode cX6_hasTreaty 5 = .ok (.iaload, 1) := by decide +kernel
theorem dX6_hasTreaty_6 : decode cX6_hasTreaty 6 = .ok (.iload_n 2, 1) := by decide +kernel
theorem dX6_hasTreaty_7 : decode cX6_hasTreaty 7 = .ok (.ishr, 1) := by decide +kernel
theorem dX6_hasTreaty_8 : decode cX6_hasTreaty 8 = .ok (.iconst 1, 1) := by decide +kernel
theorem dX6_hasTreaty_9 : decode cX6_hasTreaty 9 = .ok (.iand, 1) := by decide +kernel
theorem dX6_hasTreaty_10 : decode cX6_hasTreaty 10 = .ok (.ifCond .eq 7, 3) := by decide +kernel
theorem dX6_hasTreaty_13 : decode cX6_hasTreaty 13 = .ok (.iconst 1, 1) := by decide +kernel
theorem dX6_hasTreaty_14 : decode cX6_hasTreaty 14 = .ok (.goto 4, 3) := by decide +kernel
theorem dX6_hasTreaty_17 : decode cX6_hasTreaty 17 = .ok (.iconst 0, 1) := by decide +kernel
theorem dX6_hasTreaty_18 : decode cX6_hasTreaty 18 = .ok (.ireturn, 1) := by decide +kernel
theorem dX6_watch_0 : decode cX6_watch 0 = .ok (.aload_n 0, 1) := by decide +kernel
theorem dX6_watch_1 : decode cX6_watch 1 = .ok (.getfield 10, 3) := by decide +kernel
theorem dX6_watch_4 : decode cX6_watch 4 = .ok (.getfield 57, 3) := by decide +kernel
theorem dX6_watch_7 : decode cX6_watch 7 = .ok (.astore_n 2, 1) := by decide +kernel
theorem dX6_watch_8 : decode cX6_watch 8 = .ok (.iconst 0, 1) := by decide +kernel
theorem dX6_watch_9 : decode cX6_watch 9 = .ok (.istore_n 3, 1) := by decide +kernel
theorem dX6_watch_10 : decode cX6_watch 10 = .ok (.iconst 0, 1) := by decide +kernel
theorem dX6_watch_11 : decode cX6_watch 11 = .ok (.istore 4, 2) := by decide +kernel
theorem dX6_watch_13 : decode cX6_watch 13 = .ok (.iload 4, 2) := by decide +kernel
theorem dX6_watch_15 : decode cX6_watch 15 = .ok (.aload_n 2, 1) := by decide +kernel
theorem dX6_watch_16 : decode cX6_watch 16 = .ok (.getfield 61, 3) := by decide +kernel
theorem dX6_watch_19 : decode cX6_watch 19 = .ok (.if_icmp .ge 70, 3) := by decide +kernel
theorem dX6_watch_22 : decode cX6_watch 22 = .ok (.aload_n 2, 1) := by decide +kernel
theorem dX6_watch_23 : decode cX6_watch 23 = .ok (.iload 4, 2) := by decide +kernel
theorem dX6_watch_25 : decode cX6_watch 25 = .ok (.invokevirtual 152, 3) := by decide +kernel
theorem dX6_watch_28 : decode cX6_watch 28 = .ok (.istore 5, 2) := by decide +kernel
theorem dX6_watch_30 : decode cX6_watch 30 = .ok (.iload 5, 2) := by decide +kernel
theorem dX6_watch_32 : decode cX6_watch 32 = .ok (.iconst (-1), 1) := by decide +kernel
theorem dX6_watch_33 : decode cX6_watch 33 = .ok (.if_icmp .eq 50, 3) := by decide +kernel
theorem dX6_watch_36 : decode cX6_watch 36 = .ok (.aload_n 2, 1) := by decide +kernel
theorem dX6_watch_37 : decode cX6_watch 37 = .ok (.iload 4, 2) := by decide +kernel
theorem dX6_watch_39 : decode cX6_watch 39 = .ok (.invokevirtual 298, 3) := by decide +kernel
theorem dX6_watch_42 : decode cX6_watch 42 = .ok (.iload_n 1, 1) := by decide +kernel
theorem dX6_watch_43 : decode cX6_watch 43 = .ok (.if_icmp .eq 40, 3) := by decide +kernel
theorem dX6_watch_46 : decode cX6_watch 46 = .ok (.aload_n 0, 1) := by decide +kernel
theorem dX6_watch_47 : decode cX6_watch 47 = .ok (.getfield 10, 3) := by decide +kernel
theorem dX6_watch_50 : decode cX6_watch 50 = .ok (.iload_n 1, 1) := by decide +kernel
theorem dX6_watch_51 : decode cX6_watch 51 = .ok (.iload 5, 2) := by decide +kernel
theorem dX6_watch_53 : decode cX6_watch 53 = .ok (.invokevirtual 159, 3) := by decide +kernel
theorem dX6_watch_56 : decode cX6_watch 56 = .ok (.ifCond .eq 27, 3) := by decide +kernel
theorem dX6_watch_59 : decode cX6_watch 59 = .ok (.iload_n 3, 1) := by decide +kernel
theorem dX6_watch_60 : decode cX6_watch 60 = .ok (.iconst 1, 1) := by decide +kernel
theorem dX6_watch_61 : decode cX6_watch 61 = .ok (.iload 4, 2) := by decide +kernel
theorem dX6_watch_63 : decode cX6_watch 63 = .ok (.ishl, 1) := by decide +kernel
theorem dX6_watch_64 : decode cX6_watch 64 = .ok (.ior, 1) := by decide +kernel
theorem dX6_watch_65 : decode cX6_watch 65 = .ok (.istore_n 3, 1) := by decide +kernel
theorem dX6_watch_66 : decode cX6_watch 66 = .ok (.aload_n 0, 1) := by decide +kernel
theorem dX6_watch_67 : decode cX6_watch 67 = .ok (.getfield 28, 3) := by decide +kernel
theorem dX6_watch_70 : decode cX6_watch 70 = .ok (.iload_n 1, 1) := by decide +kernel
theorem dX6_watch_71 : decode cX6_watch 71 = .ok (.aaload, 1) := by decide +kernel
theorem dX6_watch_72 : decode cX6_watch 72 = .ok (.aload_n 0, 1) := by decide +kernel
theorem dX6_watch_73 : decode cX6_watch 73 = .ok (.getfield 108, 3) := by decide +kernel
theorem dX6_watch_76 : decode cX6_watch 76 = .ok (.iload 5, 2) := by decide +kernel
theorem dX6_watch_78 : decode cX6_watch 78 = .ok (.iload 4, 2) := by decide +kernel
theorem dX6_watch_80 : decode cX6_watch 80 = .ok (.invokevirtual 301, 3) := by decide +kernel
theorem dX6_watch_83 : decode cX6_watch 83 = .ok (.iinc 4 1, 3) := by decide +kernel
theorem dX6_watch_86 : decode cX6_watch 86 = .ok (.goto (-73), 3) := by decide +kernel
theorem dX6_watch_89 : decode cX6_watch 89 = .ok (.aload_n 0, 1) := by decide +kernel
theorem dX6_watch_90 : decode cX6_watch 90 = .ok (.getfield 42, 3) := by decide +kernel
theorem dX6_watch_93 : decode cX6_watch 93 = .ok (.iload_n 1, 1) := by decide +kernel
theorem dX6_watch_94 : decode cX6_watch 94 = .ok (.iload_n 3, 1) := by decide +kernel
theorem dX6_watch_95 : decode cX6_watch 95 = .ok (.iastore, 1) := by decide +kernel
theorem dX6_watch_96 : decode cX6_watch 96 = .ok (.return_, 1) := by decide +kernel
theorem dX6_hearAll_0 : decode cX6_hearAll 0 = .ok (.iconst 0, 1) := by decide +kernel
theorem dX6_hearAll_1 : decode cX6_hearAll 1 = .ok (.istore_n 2, 1) := by decide +kernel
theorem dX6_hearAll_2 : decode cX6_hearAll 2 = .ok (.iload_n 2, 1) := by decide +kernel
theorem dX6_hearAll_3 : decode cX6_hearAll 3 = .ok (.iconst 4, 1) := by decide +kernel
theorem dX6_hearAll_4 : decode cX6_hearAll 4 = .ok (.if_icmp .ge 24, 3) := by decide +kernel
theorem dX6_hearAll_7 : decode cX6_hearAll 7 = .ok (.aload_n 0, 1) := by decide +kernel
theorem dX6_hearAll_8 : decode cX6_hearAll 8 = .ok (.iload_n 1, 1) := by decide +kernel
theorem dX6_hearAll_9 : decode cX6_hearAll 9 = .ok (.iload_n 2, 1) := by decide +kernel
theorem dX6_hearAll_10 : decode cX6_hearAll 10 = .ok (.invokevirtual 164, 3) := by decide +kernel
theorem dX6_hearAll_13 : decode cX6_hearAll 13 = .ok (.ifCond .eq 9, 3) := by decide +kernel
theorem dX6_hearAll_16 : decode cX6_hearAll 16 = .ok (.aload_n 0, 1) := by decide +kernel
theorem dX6_hearAll_17 : decode cX6_hearAll 17 = .ok (.iload_n 1, 1) := by decide +kernel
theorem dX6_hearAll_18 : decode cX6_hearAll 18 = .ok (.iload_n 2, 1) := by decide +kernel
theorem dX6_hearAll_19 : decode cX6_hearAll 19 = .ok (.invokevirtual 305, 3) := by decide +kernel
theorem dX6_hearAll_22 : decode cX6_hearAll 22 = .ok (.iinc 2 1, 3) := by decide +kernel
theorem dX6_hearAll_25 : decode cX6_hearAll 25 = .ok (.goto (-23), 3) := by decide +kernel
theorem dX6_hearAll_28 : decode cX6_hearAll 28 = .ok (.return_, 1) := by decide +kernel
theorem dX6_hear_0 : decode cX6_hear 0 = .ok (.aload_n 0, 1) := by decide +kernel
theorem dX6_hear_1 : decode cX6_hear 1 = .ok (.getfield 10, 3) := by decide +kernel
theorem dX6_hear_4 : decode cX6_hear 4 = .ok (.getfield 57, 3) := by decide +kernel
theorem dX6_hear_7 : decode cX6_hear 7 = .ok (.astore_n 3, 1) := by decide +kernel
theorem dX6_hear_8 : decode cX6_hear 8 = .ok (.iconst 0, 1) := by decide +kernel
theorem dX6_hear_9 : decode cX6_hear 9 = .ok (.istore 4, 2) := by decide +kernel
theorem dX6_hear_11 : decode cX6_hear 11 = .ok (.iload 4, 2) := by decide +kernel
theorem dX6_hear_13 : decode cX6_hear 13 = .ok (.aload_n 3, 1) := by decide +kernel
theorem dX6_hear_14 : decode cX6_hear 14 = .ok (.getfield 61, 3) := by decide +kernel
theorem dX6_hear_17 : decode cX6_hear 17 = .ok (.if_icmp .ge 84, 3) := by decide +kernel
theorem dX6_hear_20 : decode cX6_hear 20 = .ok (.aload_n 0, 1) := by decide +kernel
theorem dX6_hear_21 : decode cX6_hear 21 = .ok (.getfield 42, 3) := by decide +kernel
theorem dX6_hear_24 : decode cX6_hear 24 = .ok (.iload_n 2, 1) := by decide +kernel
theorem dX6_hear_25 : decode cX6_hear 25 = .ok (.iaload, 1) := by decide +kernel
theorem dX6_hear_26 : decode cX6_hear 26 = .ok (.iload 4, 2) := by decide +kernel
theorem dX6_hear_28 : decode cX6_hear 28 = .ok (.ishr, 1) := by decide +kernel
theorem dX6_hear_29 : decode cX6_hear 29 = .ok (.iconst 1, 1) := by decide +kernel
theorem dX6_hear_30 : decode cX6_hear 30 = .ok (.iand, 1) := by decide +kernel
theorem dX6_hear_31 : decode cX6_hear 31 = .ok (.ifCond .eq 7, 3) := by decide +kernel
theorem dX6_hear_34 : decode cX6_hear 34 = .ok (.iconst 1, 1) := by decide +kernel
theorem dX6_hear_35 : decode cX6_hear 35 = .ok (.goto 4, 3) := by decide +kernel
theorem dX6_hear_38 : decode cX6_hear 38 = .ok (.iconst 0, 1) := by decide +kernel
theorem dX6_hear_39 : decode cX6_hear 39 = .ok (.istore 5, 2) := by decide +kernel
theorem dX6_hear_41 : decode cX6_hear 41 = .ok (.iload 5, 2) := by decide +kernel
theorem dX6_hear_43 : decode cX6_hear 43 = .ok (.ifCond .eq 52, 3) := by decide +kernel
theorem dX6_hear_46 : decode cX6_hear 46 = .ok (.aload_n 3, 1) := by decide +kernel
theorem dX6_hear_47 : decode cX6_hear 47 = .ok (.iload 4, 2) := by decide +kernel
theorem dX6_hear_49 : decode cX6_hear 49 = .ok (.invokevirtual 298, 3) := by decide +kernel
theorem dX6_hear_52 : decode cX6_hear 52 = .ok (.iload_n 1, 1) := by decide +kernel
theorem dX6_hear_53 : decode cX6_hear 53 = .ok (.if_icmp .eq 42, 3) := by decide +kernel
theorem dX6_hear_56 : decode cX6_hear 56 = .ok (.aload_n 0, 1) := by decide +kernel
theorem dX6_hear_57 : decode cX6_hear 57 = .ok (.getfield 28, 3) := by decide +kernel
theorem dX6_hear_60 : decode cX6_hear 60 = .ok (.iload_n 1, 1) := by decide +kernel
theorem dX6_hear_61 : decode cX6_hear 61 = .ok (.aaload, 1) := by decide +kernel
theorem dX6_hear_62 : decode cX6_hear 62 = .ok (.aload_n 0, 1) := by decide +kernel
theorem dX6_hear_63 : decode cX6_hear 63 = .ok (.getfield 108, 3) := by decide +kernel
theorem dX6_hear_66 : decode cX6_hear 66 = .ok (.iload 4, 2) := by decide +kernel
theorem dX6_hear_68 : decode cX6_hear 68 = .ok (.invokevirtual 309, 3) := by decide +kernel
theorem dX6_hear_71 : decode cX6_hear 71 = .ok (.ifCond .ne 24, 3) := by decide +kernel
theorem dX6_hear_74 : decode cX6_hear 74 = .ok (.aload_n 0, 1) := by decide +kernel
theorem dX6_hear_75 : decode cX6_hear 75 = .ok (.getfield 28, 3) := by decide +kernel
theorem dX6_hear_78 : decode cX6_hear 78 = .ok (.iload_n 1, 1) := by decide +kernel
theorem dX6_hear_79 : decode cX6_hear 79 = .ok (.aaload, 1) := by decide +kernel
theorem dX6_hear_80 : decode cX6_hear 80 = .ok (.aload_n 0, 1) := by decide +kernel
theorem dX6_hear_81 : decode cX6_hear 81 = .ok (.getfield 108, 3) := by decide +kernel
theorem dX6_hear_84 : decode cX6_hear 84 = .ok (.aload_n 3, 1) := by decide +kernel
theorem dX6_hear_85 : decode cX6_hear 85 = .ok (.iload 4, 2) := by decide +kernel
theorem dX6_hear_87 : decode cX6_hear 87 = .ok (.invokevirtual 152, 3) := by decide +kernel
theorem dX6_hear_90 : decode cX6_hear 90 = .ok (.iload 4, 2) := by decide +kernel
theorem dX6_hear_92 : decode cX6_hear 92 = .ok (.invokevirtual 301, 3) := by decide +kernel
theorem dX6_hear_95 : decode cX6_hear 95 = .ok (.iinc 4 1, 3) := by decide +kernel
theorem dX6_hear_98 : decode cX6_hear 98 = .ok (.goto (-87), 3) := by decide +kernel
theorem dX6_hear_101 : decode cX6_hear 101 = .ok (.return_, 1) := by decide +kernel
theorem dX6_unitsAreWhereReplayed_0 : decode cX6_unitsAreWhereReplayed 0 = .ok (.aload_n 0, 1) := by decide +kernel
theorem dX6_unitsAreWhereReplayed_1 : decode cX6_unitsAreWhereReplayed 1 = .ok (.getfield 16, 3) := by decide +kernel
theorem dX6_unitsAreWhereReplayed_4 : decode cX6_unitsAreWhereReplayed 4 = .ok (.getfield 47, 3) := by decide +kernel
theorem dX6_unitsAreWhereReplayed_7 : decode cX6_unitsAreWhereReplayed 7 = .ok (.aload_n 0, 1) := by decide +kernel
theorem dX6_unitsAreWhereReplayed_8 : decode cX6_unitsAreWhereReplayed 8 = .ok (.getfield 74, 3) := by decide +kernel
theorem dX6_unitsAreWhereReplayed_11 : decode cX6_unitsAreWhereReplayed 11 = .ok (.invokevirtual 51, 3) := by decide +kernel
theorem dX6_unitsAreWhereReplayed_14 : decode cX6_unitsAreWhereReplayed 14 = .ok (.aload_n 0, 1) := by decide +kernel
theorem dX6_unitsAreWhereReplayed_15 : decode cX6_unitsAreWhereReplayed 15 = .ok (.getfield 16, 3) := by decide +kernel
theorem dX6_unitsAreWhereReplayed_18 : decode cX6_unitsAreWhereReplayed 18 = .ok (.getfield 57, 3) := by decide +kernel
theorem dX6_unitsAreWhereReplayed_21 : decode cX6_unitsAreWhereReplayed 21 = .ok (.aload_n 0, 1) := by decide +kernel
theorem dX6_unitsAreWhereReplayed_22 : decode cX6_unitsAreWhereReplayed 22 = .ok (.getfield 10, 3) := by decide +kernel
theorem dX6_unitsAreWhereReplayed_25 : decode cX6_unitsAreWhereReplayed 25 = .ok (.getfield 57, 3) := by decide +kernel
theorem dX6_unitsAreWhereReplayed_28 : decode cX6_unitsAreWhereReplayed 28 = .ok (.invokevirtual 311, 3) := by decide +kernel
theorem dX6_unitsAreWhereReplayed_31 : decode cX6_unitsAreWhereReplayed 31 = .ok (.iconst 0, 1) := by decide +kernel
theorem dX6_unitsAreWhereReplayed_32 : decode cX6_unitsAreWhereReplayed 32 = .ok (.istore_n 1, 1) := by decide +kernel
theorem dX6_unitsAreWhereReplayed_33 : decode cX6_unitsAreWhereReplayed 33 = .ok (.iload_n 1, 1) := by decide +kernel
theorem dX6_unitsAreWhereReplayed_34 : decode cX6_unitsAreWhereReplayed 34 = .ok (.aload_n 0, 1) := by decide +kernel
theorem dX6_unitsAreWhereReplayed_35 : decode cX6_unitsAreWhereReplayed 35 = .ok (.getfield 108, 3) := by decide +kernel
theorem dX6_unitsAreWhereReplayed_38 : decode cX6_unitsAreWhereReplayed 38 = .ok (.if_icmp .ge 22, 3) := by decide +kernel
theorem dX6_unitsAreWhereReplayed_41 : decode cX6_unitsAreWhereReplayed 41 = .ok (.aload_n 0, 1) := by decide +kernel
theorem dX6_unitsAreWhereReplayed_42 : decode cX6_unitsAreWhereReplayed 42 = .ok (.getfield 16, 3) := by decide +kernel
theorem dX6_unitsAreWhereReplayed_45 : decode cX6_unitsAreWhereReplayed 45 = .ok (.aload_n 0, 1) := by decide +kernel
theorem dX6_unitsAreWhereReplayed_46 : decode cX6_unitsAreWhereReplayed 46 = .ok (.getfield 22, 3) := by decide +kernel
theorem dX6_unitsAreWhereReplayed_49 : decode cX6_unitsAreWhereReplayed 49 = .ok (.iload_n 1, 1) := by decide +kernel
theorem dX6_unitsAreWhereReplayed_50 : decode cX6_unitsAreWhereReplayed 50 = .ok (.invokevirtual 139, 3) := by decide +kernel
theorem dX6_unitsAreWhereReplayed_53 : decode cX6_unitsAreWhereReplayed 53 = .ok (.pop, 1) := by decide +kernel
theorem dX6_unitsAreWhereReplayed_54 : decode cX6_unitsAreWhereReplayed 54 = .ok (.iinc 1 1, 3) := by decide +kernel
theorem dX6_unitsAreWhereReplayed_57 : decode cX6_unitsAreWhereReplayed 57 = .ok (.goto (-24), 3) := by decide +kernel
theorem dX6_unitsAreWhereReplayed_60 : decode cX6_unitsAreWhereReplayed 60 = .ok (.iconst 0, 1) := by decide +kernel
theorem dX6_unitsAreWhereReplayed_61 : decode cX6_unitsAreWhereReplayed 61 = .ok (.istore_n 1, 1) := by decide +kernel
theorem dX6_unitsAreWhereReplayed_62 : decode cX6_unitsAreWhereReplayed 62 = .ok (.iload_n 1, 1) := by decide +kernel
theorem dX6_unitsAreWhereReplayed_63 : decode cX6_unitsAreWhereReplayed 63 = .ok (.aload_n 0, 1) := by decide +kernel
theorem dX6_unitsAreWhereReplayed_64 : decode cX6_unitsAreWhereReplayed 64 = .ok (.getfield 10, 3) := by decide +kernel
theorem dX6_unitsAreWhereReplayed_67 : decode cX6_unitsAreWhereReplayed 67 = .ok (.getfield 57, 3) := by decide +kernel
theorem dX6_unitsAreWhereReplayed_70 : decode cX6_unitsAreWhereReplayed 70 = .ok (.getfield 61, 3) := by decide +kernel
theorem dX6_unitsAreWhereReplayed_73 : decode cX6_unitsAreWhereReplayed 73 = .ok (.if_icmp .ge 36, 3) := by decide +kernel
theorem dX6_unitsAreWhereReplayed_76 : decode cX6_unitsAreWhereReplayed 76 = .ok (.aload_n 0, 1) := by decide +kernel
theorem dX6_unitsAreWhereReplayed_77 : decode cX6_unitsAreWhereReplayed 77 = .ok (.getfield 16, 3) := by decide +kernel
theorem dX6_unitsAreWhereReplayed_80 : decode cX6_unitsAreWhereReplayed 80 = .ok (.getfield 57, 3) := by decide +kernel
theorem dX6_unitsAreWhereReplayed_83 : decode cX6_unitsAreWhereReplayed 83 = .ok (.iload_n 1, 1) := by decide +kernel
theorem dX6_unitsAreWhereReplayed_84 : decode cX6_unitsAreWhereReplayed 84 = .ok (.invokevirtual 152, 3) := by decide +kernel
theorem dX6_unitsAreWhereReplayed_87 : decode cX6_unitsAreWhereReplayed 87 = .ok (.aload_n 0, 1) := by decide +kernel
theorem dX6_unitsAreWhereReplayed_88 : decode cX6_unitsAreWhereReplayed 88 = .ok (.getfield 10, 3) := by decide +kernel
theorem dX6_unitsAreWhereReplayed_91 : decode cX6_unitsAreWhereReplayed 91 = .ok (.getfield 57, 3) := by decide +kernel
theorem dX6_unitsAreWhereReplayed_94 : decode cX6_unitsAreWhereReplayed 94 = .ok (.iload_n 1, 1) := by decide +kernel
theorem dX6_unitsAreWhereReplayed_95 : decode cX6_unitsAreWhereReplayed 95 = .ok (.invokevirtual 152, 3) := by decide +kernel
theorem dX6_unitsAreWhereReplayed_98 : decode cX6_unitsAreWhereReplayed 98 = .ok (.if_icmp .eq 5, 3) := by decide +kernel
theorem dX6_unitsAreWhereReplayed_101 : decode cX6_unitsAreWhereReplayed 101 = .ok (.iconst 0, 1) := by decide +kernel
theorem dX6_unitsAreWhereReplayed_102 : decode cX6_unitsAreWhereReplayed 102 = .ok (.ireturn, 1) := by decide +kernel
theorem dX6_unitsAreWhereReplayed_103 : decode cX6_unitsAreWhereReplayed 103 = .ok (.iinc 1 1, 3) := by decide +kernel
theorem dX6_unitsAreWhereReplayed_106 : decode cX6_unitsAreWhereReplayed 106 = .ok (.goto (-44), 3) := by decide +kernel
theorem dX6_unitsAreWhereReplayed_109 : decode cX6_unitsAreWhereReplayed 109 = .ok (.iconst 1, 1) := by decide +kernel
theorem dX6_unitsAreWhereReplayed_110 : decode cX6_unitsAreWhereReplayed 110 = .ok (.ireturn, 1) := by decide +kernel
theorem dX6_savesAreAsTaken_0 : decode cX6_savesAreAsTaken 0 = .ok (.iconst 0, 1) := by decide +kernel
theorem dX6_savesAreAsTaken_1 : decode cX6_savesAreAsTaken 1 = .ok (.istore_n 1, 1) := by decide +kernel
theorem dX6_savesAreAsTaken_2 : decode cX6_savesAreAsTaken 2 = .ok (.iload_n 1, 1) := by decide +kernel
theorem dX6_savesAreAsTaken_3 : decode cX6_savesAreAsTaken 3 = .ok (.iconst 4, 1) := by decide +kernel
theorem dX6_savesAreAsTaken_4 : decode cX6_savesAreAsTaken 4 = .ok (.if_icmp .ge 23, 3) := by decide +kernel
theorem dX6_savesAreAsTaken_7 : decode cX6_savesAreAsTaken 7 = .ok (.aload_n 0, 1) := by decide +kernel
theorem dX6_savesAreAsTaken_8 : decode cX6_savesAreAsTaken 8 = .ok (.getfield 34, 3) := by decide +kernel
theorem dX6_savesAreAsTaken_11 : decode cX6_savesAreAsTaken 11 = .ok (.iload_n 1, 1) := by decide +kernel
theorem dX6_savesAreAsTaken_12 : decode cX6_savesAreAsTaken 12 = .ok (.aaload, 1) := by decide +kernel
theorem dX6_savesAreAsTaken_13 : decode cX6_savesAreAsTaken 13 = .ok (.invokevirtual 315, 3) := by decide +kernel
theorem dX6_savesAreAsTaken_16 : decode cX6_savesAreAsTaken 16 = .ok (.ifCond .ne 5, 3) := by decide +kernel
theorem dX6_savesAreAsTaken_19 : decode cX6_savesAreAsTaken 19 = .ok (.iconst 0, 1) := by decide +kernel
theorem dX6_savesAreAsTaken_20 : decode cX6_savesAreAsTaken 20 = .ok (.ireturn, 1) := by decide +kernel
theorem dX6_savesAreAsTaken_21 : decode cX6_savesAreAsTaken 21 = .ok (.iinc 1 1, 3) := by decide +kernel
theorem dX6_savesAreAsTaken_24 : decode cX6_savesAreAsTaken 24 = .ok (.goto (-22), 3) := by decide +kernel
theorem dX6_savesAreAsTaken_27 : decode cX6_savesAreAsTaken 27 = .ok (.iconst 1, 1) := by decide +kernel
theorem dX6_savesAreAsTaken_28 : decode cX6_savesAreAsTaken 28 = .ok (.ireturn, 1) := by decide +kernel
theorem dX6_noIndexHasOwnUnits_0 : decode cX6_noIndexHasOwnUnits 0 = .ok (.iconst 0, 1) := by decide +kernel
theorem dX6_noIndexHasOwnUnits_1 : decode cX6_noIndexHasOwnUnits 1 = .ok (.istore_n 1, 1) := by decide +kernel
theorem dX6_noIndexHasOwnUnits_2 : decode cX6_noIndexHasOwnUnits 2 = .ok (.iload_n 1, 1) := by decide +kernel
theorem dX6_noIndexHasOwnUnits_3 : decode cX6_noIndexHasOwnUnits 3 = .ok (.iconst 4, 1) := by decide +kernel
theorem dX6_noIndexHasOwnUnits_4 : decode cX6_noIndexHasOwnUnits 4 = .ok (.if_icmp .ge 56, 3) := by decide +kernel
theorem dX6_noIndexHasOwnUnits_7 : decode cX6_noIndexHasOwnUnits 7 = .ok (.aload_n 0, 1) := by decide +kernel
theorem dX6_noIndexHasOwnUnits_8 : decode cX6_noIndexHasOwnUnits 8 = .ok (.getfield 28, 3) := by decide +kernel
theorem dX6_noIndexHasOwnUnits_11 : decode cX6_noIndexHasOwnUnits 11 = .ok (.iload_n 1, 1) := by decide +kernel
theorem dX6_noIndexHasOwnUnits_12 : decode cX6_noIndexHasOwnUnits 12 = .ok (.aaload, 1) := by decide +kernel
theorem dX6_noIndexHasOwnUnits_13 : decode cX6_noIndexHasOwnUnits 13 = .ok (.astore_n 2, 1) := by decide +kernel
theorem dX6_noIndexHasOwnUnits_14 : decode cX6_noIndexHasOwnUnits 14 = .ok (.iconst 0, 1) := by decide +kernel
theorem dX6_noIndexHasOwnUnits_15 : decode cX6_noIndexHasOwnUnits 15 = .ok (.istore_n 3, 1) := by decide +kernel
theorem dX6_noIndexHasOwnUnits_16 : decode cX6_noIndexHasOwnUnits 16 = .ok (.iload_n 3, 1) := by decide +kernel
theorem dX6_noIndexHasOwnUnits_17 : decode cX6_noIndexHasOwnUnits 17 = .ok (.aload_n 2, 1) := by decide +kernel
theorem dX6_noIndexHasOwnUnits_18 : decode cX6_noIndexHasOwnUnits 18 = .ok (.getfield 170, 3) := by decide +kernel
theorem dX6_noIndexHasOwnUnits_21 : decode cX6_noIndexHasOwnUnits 21 = .ok (.if_icmp .ge 33, 3) := by decide +kernel
theorem dX6_noIndexHasOwnUnits_24 : decode cX6_noIndexHasOwnUnits 24 = .ok (.aload_n 0, 1) := by decide +kernel
theorem dX6_noIndexHasOwnUnits_25 : decode cX6_noIndexHasOwnUnits 25 = .ok (.getfield 10, 3) := by decide +kernel
theorem dX6_noIndexHasOwnUnits_28 : decode cX6_noIndexHasOwnUnits 28 = .ok (.getfield 57, 3) := by decide +kernel
theorem dX6_noIndexHasOwnUnits_31 : decode cX6_noIndexHasOwnUnits 31 = .ok (.aload_n 2, 1) := by decide +kernel
theorem dX6_noIndexHasOwnUnits_32 : decode cX6_noIndexHasOwnUnits 32 = .ok (.iload_n 3, 1) := by decide +kernel
theorem dX6_noIndexHasOwnUnits_33 : decode cX6_noIndexHasOwnUnits 33 = .ok (.invokevirtual 176, 3) := by decide +kernel
theorem dX6_noIndexHasOwnUnits_36 : decode cX6_noIndexHasOwnUnits 36 = .ok (.invokestatic 184, 3) := by decide +kernel
theorem dX6_noIndexHasOwnUnits_39 : decode cX6_noIndexHasOwnUnits 39 = .ok (.invokevirtual 298, 3) := by decide +kernel
theorem dX6_noIndexHasOwnUnits_42 : decode cX6_noIndexHasOwnUnits 42 = .ok (.iload_n 1, 1) := by decide +kernel
theorem dX6_noIndexHasOwnUnits_43 : decode cX6_noIndexHasOwnUnits 43 = .ok (.if_icmp .ne 5, 3) := by decide +kernel
theorem dX6_noIndexHasOwnUnits_46 : decode cX6_noIndexHasOwnUnits 46 = .ok (.iconst 0, 1) := by decide +kernel
theorem dX6_noIndexHasOwnUnits_47 : decode cX6_noIndexHasOwnUnits 47 = .ok (.ireturn, 1) := by decide +kernel
theorem dX6_noIndexHasOwnUnits_48 : decode cX6_noIndexHasOwnUnits 48 = .ok (.iinc 3 1, 3) := by decide +kernel
theorem dX6_noIndexHasOwnUnits_51 : decode cX6_noIndexHasOwnUnits 51 = .ok (.goto (-35), 3) := by decide +kernel
theorem dX6_noIndexHasOwnUnits_54 : decode cX6_noIndexHasOwnUnits 54 = .ok (.iinc 1 1, 3) := by decide +kernel
theorem dX6_noIndexHasOwnUnits_57 : decode cX6_noIndexHasOwnUnits 57 = .ok (.goto (-55), 3) := by decide +kernel
theorem dX6_noIndexHasOwnUnits_60 : decode cX6_noIndexHasOwnUnits 60 = .ok (.iconst 1, 1) := by decide +kernel
theorem dX6_noIndexHasOwnUnits_61 : decode cX6_noIndexHasOwnUnits 61 = .ok (.ireturn, 1) := by decide +kernel
theorem dX7_init_0 : decode cX7_init 0 = .ok (.aload_n 0, 1) := by decide +kernel
theorem dX7_init_1 : decode cX7_init 1 = .ok (.invokespecial 1, 3) := by decide +kernel
theorem dX7_init_4 : decode cX7_init 4 = .ok (.aload_n 0, 1) := by decide +kernel
theorem dX7_init_5 : decode cX7_init 5 = .ok (.iload_n 1, 1) := by decide +kernel
theorem dX7_init_6 : decode cX7_init 6 = .ok (.ldc 7, 2) := by decide +kernel
theorem dX7_init_8 : decode cX7_init 8 = .ok (.imul, 1) := by decide +kernel
theorem dX7_init_9 : decode cX7_init 9 = .ok (.sipush 12345, 3) := by decide +kernel
theorem dX7_init_12 : decode cX7_init 12 = .ok (.iadd, 1) := by decide +kernel
theorem dX7_init_13 : decode cX7_init 13 = .ok (.putfield 8, 3) := by decide +kernel
theorem dX7_init_16 : decode cX7_init 16 = .ok (.return_, 1) := by decide +kernel
theorem dX7_next_0 : decode cX7_next 0 = .ok (.aload_n 0, 1) := by decide +kernel
theorem dX7_next_1 : decode cX7_next 1 = .ok (.aload_n 0, 1) := by decide +kernel
theorem dX7_next_2 : decode cX7_next 2 = .ok (.getfield 8, 3) := by decide +kernel
theorem dX7_next_5 : decode cX7_next 5 = .ok (.ldc 14, 2) := by decide +kernel
theorem dX7_next_7 : decode cX7_next 7 = .ok (.imul, 1) := by decide +kernel
theorem dX7_next_8 : decode cX7_next 8 = .ok (.sipush 12345, 3) := by decide +kernel
theorem dX7_next_11 : decode cX7_next 11 = .ok (.iadd, 1) := by decide +kernel
theorem dX7_next_12 : decode cX7_next 12 = .ok (.putfield 8, 3) := by decide +kernel
theorem dX7_next_15 : decode cX7_next 15 = .ok (.aload_n 0, 1) := by decide +kernel
theorem dX7_next_16 : decode cX7_next 16 = .ok (.getfield 8, 3) := by decide +kernel
theorem dX7_next_19 : decode cX7_next 19 = .ok (.bipush 16, 2) := by decide +kernel
theorem dX7_next_21 : decode cX7_next 21 = .ok (.iushr, 1) := by decide +kernel
theorem dX7_next_22 : decode cX7_next 22 = .ok (.sipush 32767, 3) := by decide +kernel
theorem dX7_next_25 : decode cX7_next 25 = .ok (.iand, 1) := by decide +kernel
theorem dX7_next_26 : decode cX7_next 26 = .ok (.iconst 1, 1) := by decide +kernel
theorem dX7_next_27 : decode cX7_next 27 = .ok (.iload_n 1, 1) := by decide +kernel
theorem dX7_next_28 : decode cX7_next 28 = .ok (.invokestatic 15, 3) := by decide +kernel
theorem dX7_next_31 : decode cX7_next 31 = .ok (.irem, 1) := by decide +kernel
theorem dX7_next_32 : decode cX7_next 32 = .ok (.ireturn, 1) := by decide +kernel

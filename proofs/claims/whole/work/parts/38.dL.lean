theorem dL_setSeed_0 : decode cL_setSeed 0 = .ok (.aload_n 2, 1) := by decide +kernel
theorem dL_setSeed_1 : decode cL_setSeed 1 = .ok (.iconst 0, 1) := by decide +kernel
theorem dL_setSeed_2 : decode cL_setSeed 2 = .ok (.aload_n 0, 1) := by decide +kernel
theorem dL_setSeed_3 : decode cL_setSeed 3 = .ok (.iload_n 1, 1) := by decide +kernel
theorem dL_setSeed_4 : decode cL_setSeed 4 = .ok (.invokevirtual 7, 3) := by decide +kernel
theorem dL_setSeed_7 : decode cL_setSeed 7 = .ok (.i2l, 1) := by decide +kernel
theorem dL_setSeed_8 : decode cL_setSeed 8 = .ok (.lastore, 1) := by decide +kernel
theorem dL_setSeed_9 : decode cL_setSeed 9 = .ok (.goto 6, 3) := by decide +kernel
theorem dL_setSeed_12 : decode cL_setSeed 12 = .ok (.astore_n 3, 1) := by decide +kernel
theorem dL_setSeed_13 : decode cL_setSeed 13 = .ok (.iconst 1, 1) := by decide +kernel
theorem dL_setSeed_14 : decode cL_setSeed 14 = .ok (.ireturn, 1) := by decide +kernel
theorem dL_setSeed_15 : decode cL_setSeed 15 = .ok (.iconst 0, 1) := by decide +kernel
theorem dL_setSeed_16 : decode cL_setSeed 16 = .ok (.ireturn, 1) := by decide +kernel
theorem dL_ground_0 : decode cL_ground 0 = .ok (.aload_n 2, 1) := by decide +kernel
theorem dL_ground_1 : decode cL_ground 1 = .ok (.iconst 0, 1) := by decide +kernel
theorem dL_ground_2 : decode cL_ground 2 = .ok (.aload_n 0, 1) := by decide +kernel
theorem dL_ground_3 : decode cL_ground 3 = .ok (.iload_n 1, 1) := by decide +kernel
theorem dL_ground_4 : decode cL_ground 4 = .ok (.invokevirtual 15, 3) := by decide +kernel
theorem dL_ground_7 : decode cL_ground 7 = .ok (.i2l, 1) := by decide +kernel
theorem dL_ground_8 : decode cL_ground 8 = .ok (.lastore, 1) := by decide +kernel
theorem dL_ground_9 : decode cL_ground 9 = .ok (.goto 6, 3) := by decide +kernel
theorem dL_ground_12 : decode cL_ground 12 = .ok (.astore_n 3, 1) := by decide +kernel
theorem dL_ground_13 : decode cL_ground 13 = .ok (.iconst 1, 1) := by decide +kernel
theorem dL_ground_14 : decode cL_ground 14 = .ok (.ireturn, 1) := by decide +kernel
theorem dL_ground_15 : decode cL_ground 15 = .ok (.iconst 0, 1) := by decide +kernel
theorem dL_ground_16 : decode cL_ground 16 = .ok (.ireturn, 1) := by decide +kernel
theorem dL_addUnit_0 : decode cL_addUnit 0 = .ok (.aload 4, 2) := by decide +kernel
theorem dL_addUnit_2 : decode cL_addUnit 2 = .ok (.iconst 0, 1) := by decide +kernel
theorem dL_addUnit_3 : decode cL_addUnit 3 = .ok (.aload_n 0, 1) := by decide +kernel
theorem dL_addUnit_4 : decode cL_addUnit 4 = .ok (.iload_n 1, 1) := by decide +kernel
theorem dL_addUnit_5 : decode cL_addUnit 5 = .ok (.iload_n 2, 1) := by decide +kernel
theorem dL_addUnit_6 : decode cL_addUnit 6 = .ok (.iload_n 3, 1) := by decide +kernel
theorem dL_addUnit_7 : decode cL_addUnit 7 = .ok (.invokevirtual 21, 3) := by decide +kernel
theorem dL_addUnit_10 : decode cL_addUnit 10 = .ok (.i2l, 1) := by decide +kernel
theorem dL_addUnit_11 : decode cL_addUnit 11 = .ok (.lastore, 1) := by decide +kernel
theorem dL_addUnit_12 : decode cL_addUnit 12 = .ok (.goto 19, 3) := by decide +kernel
theorem dL_addUnit_15 : decode cL_addUnit 15 = .ok (.astore 5, 2) := by decide +kernel
theorem dL_addUnit_17 : decode cL_addUnit 17 = .ok (.iconst 1, 1) := by decide +kernel
theorem dL_addUnit_18 : decode cL_addUnit 18 = .ok (.ireturn, 1) := by decide +kernel
theorem dL_addUnit_19 : decode cL_addUnit 19 = .ok (.astore 5, 2) := by decide +kernel
theorem dL_addUnit_21 : decode cL_addUnit 21 = .ok (.iconst 2, 1) := by decide +kernel
theorem dL_addUnit_22 : decode cL_addUnit 22 = .ok (.ireturn, 1) := by decide +kernel
theorem dL_addUnit_23 : decode cL_addUnit 23 = .ok (.astore 5, 2) := by decide +kernel
theorem dL_addUnit_25 : decode cL_addUnit 25 = .ok (.iconst 3, 1) := by decide +kernel
theorem dL_addUnit_26 : decode cL_addUnit 26 = .ok (.ireturn, 1) := by decide +kernel
theorem dL_addUnit_27 : decode cL_addUnit 27 = .ok (.astore 5, 2) := by decide +kernel
theorem dL_addUnit_29 : decode cL_addUnit 29 = .ok (.iconst 4, 1) := by decide +kernel
theorem dL_addUnit_30 : decode cL_addUnit 30 = .ok (.ireturn, 1) := by decide +kernel
theorem dL_addUnit_31 : decode cL_addUnit 31 = .ok (.iconst 0, 1) := by decide +kernel
theorem dL_addUnit_32 : decode cL_addUnit 32 = .ok (.ireturn, 1) := by decide +kernel
theorem dL_order_0 : decode cL_order 0 = .ok (.aload_n 3, 1) := by decide +kernel
theorem dL_order_1 : decode cL_order 1 = .ok (.iconst 0, 1) := by decide +kernel
theorem dL_order_2 : decode cL_order 2 = .ok (.aload_n 0, 1) := by decide +kernel
theorem dL_order_3 : decode cL_order 3 = .ok (.iload_n 1, 1) := by decide +kernel
theorem dL_order_4 : decode cL_order 4 = .ok (.iload_n 2, 1) := by decide +kernel
theorem dL_order_5 : decode cL_order 5 = .ok (.invokevirtual 29, 3) := by decide +kernel
theorem dL_order_8 : decode cL_order 8 = .ok (.i2l, 1) := by decide +kernel
theorem dL_order_9 : decode cL_order 9 = .ok (.lastore, 1) := by decide +kernel
theorem dL_order_10 : decode cL_order 10 = .ok (.goto 15, 3) := by decide +kernel
theorem dL_order_13 : decode cL_order 13 = .ok (.astore 4, 2) := by decide +kernel
theorem dL_order_15 : decode cL_order 15 = .ok (.iconst 1, 1) := by decide +kernel
theorem dL_order_16 : decode cL_order 16 = .ok (.ireturn, 1) := by decide +kernel
theorem dL_order_17 : decode cL_order 17 = .ok (.astore 4, 2) := by decide +kernel
theorem dL_order_19 : decode cL_order 19 = .ok (.iconst 2, 1) := by decide +kernel
theorem dL_order_20 : decode cL_order 20 = .ok (.ireturn, 1) := by decide +kernel
theorem dL_order_21 : decode cL_order 21 = .ok (.astore 4, 2) := by decide +kernel
theorem dL_order_23 : decode cL_order 23 = .ok (.iconst 3, 1) := by decide +kernel
theorem dL_order_24 : decode cL_order 24 = .ok (.ireturn, 1) := by decide +kernel
theorem dL_order_25 : decode cL_order 25 = .ok (.iconst 0, 1) := by decide +kernel
theorem dL_order_26 : decode cL_order 26 = .ok (.ireturn, 1) := by decide +kernel
theorem dL_turn_0 : decode cL_turn 0 = .ok (.aload_n 1, 1) := by decide +kernel
theorem dL_turn_1 : decode cL_turn 1 = .ok (.iconst 0, 1) := by decide +kernel
theorem dL_turn_2 : decode cL_turn 2 = .ok (.aload_n 0, 1) := by decide +kernel
theorem dL_turn_3 : decode cL_turn 3 = .ok (.invokevirtual 33, 3) := by decide +kernel
theorem dL_turn_6 : decode cL_turn 6 = .ok (.i2l, 1) := by decide +kernel
theorem dL_turn_7 : decode cL_turn 7 = .ok (.lastore, 1) := by decide +kernel
theorem dL_turn_8 : decode cL_turn 8 = .ok (.goto 6, 3) := by decide +kernel
theorem dL_turn_11 : decode cL_turn 11 = .ok (.astore_n 2, 1) := by decide +kernel
theorem dL_turn_12 : decode cL_turn 12 = .ok (.iconst 1, 1) := by decide +kernel
theorem dL_turn_13 : decode cL_turn 13 = .ok (.ireturn, 1) := by decide +kernel
theorem dL_turn_14 : decode cL_turn 14 = .ok (.iconst 0, 1) := by decide +kernel
theorem dL_turn_15 : decode cL_turn 15 = .ok (.ireturn, 1) := by decide +kernel
theorem dL_cellOf_0 : decode cL_cellOf 0 = .ok (.aload_n 2, 1) := by decide +kernel
theorem dL_cellOf_1 : decode cL_cellOf 1 = .ok (.iconst 0, 1) := by decide +kernel
theorem dL_cellOf_2 : decode cL_cellOf 2 = .ok (.aload_n 0, 1) := by decide +kernel
theorem dL_cellOf_3 : decode cL_cellOf 3 = .ok (.iload_n 1, 1) := by decide +kernel
theorem dL_cellOf_4 : decode cL_cellOf 4 = .ok (.invokevirtual 37, 3) := by decide +kernel
theorem dL_cellOf_7 : decode cL_cellOf 7 = .ok (.i2l, 1) := by decide +kernel
theorem dL_cellOf_8 : decode cL_cellOf 8 = .ok (.lastore, 1) := by decide +kernel
theorem dL_cellOf_9 : decode cL_cellOf 9 = .ok (.goto 6, 3) := by decide +kernel
theorem dL_cellOf_12 : decode cL_cellOf 12 = .ok (.astore_n 3, 1) := by decide +kernel
theorem dL_cellOf_13 : decode cL_cellOf 13 = .ok (.iconst 1, 1) := by decide +kernel
theorem dL_cellOf_14 : decode cL_cellOf 14 = .ok (.ireturn, 1) := by decide +kernel
theorem dL_cellOf_15 : decode cL_cellOf 15 = .ok (.iconst 0, 1) := by decide +kernel
theorem dL_cellOf_16 : decode cL_cellOf 16 = .ok (.ireturn, 1) := by decide +kernel
theorem dL_unitOn_0 : decode cL_unitOn 0 = .ok (.aload_n 2, 1) := by decide +kernel
theorem dL_unitOn_1 : decode cL_unitOn 1 = .ok (.iconst 0, 1) := by decide +kernel
theorem dL_unitOn_2 : decode cL_unitOn 2 = .ok (.aload_n 0, 1) := by decide +kernel
theorem dL_unitOn_3 : decode cL_unitOn 3 = .ok (.iload_n 1, 1) := by decide +kernel
theorem dL_unitOn_4 : decode cL_unitOn 4 = .ok (.invokevirtual 40, 3) := by decide +kernel
theorem dL_unitOn_7 : decode cL_unitOn 7 = .ok (.i2l, 1) := by decide +kernel
theorem dL_unitOn_8 : decode cL_unitOn 8 = .ok (.lastore, 1) := by decide +kernel
theorem dL_unitOn_9 : decode cL_unitOn 9 = .ok (.goto 6, 3) := by decide +kernel
theorem dL_unitOn_12 : decode cL_unitOn 12 = .ok (.astore_n 3, 1) := by decide +kernel
theorem dL_unitOn_13 : decode cL_unitOn 13 = .ok (.iconst 1, 1) := by decide +kernel
theorem dL_unitOn_14 : decode cL_unitOn 14 = .ok (.ireturn, 1) := by decide +kernel
theorem dL_unitOn_15 : decode cL_unitOn 15 = .ok (.iconst 0, 1) := by decide +kernel
theorem dL_unitOn_16 : decode cL_unitOn 16 = .ok (.ireturn, 1) := by decide +kernel
theorem dL_sees_0 : decode cL_sees 0 = .ok (.aload_n 3, 1) := by decide +kernel
theorem dL_sees_1 : decode cL_sees 1 = .ok (.iconst 0, 1) := by decide +kernel
theorem dL_sees_2 : decode cL_sees 2 = .ok (.aload_n 0, 1) := by decide +kernel
theorem dL_sees_3 : decode cL_sees 3 = .ok (.iload_n 1, 1) := by decide +kernel
theorem dL_sees_4 : decode cL_sees 4 = .ok (.iload_n 2, 1) := by decide +kernel
theorem dL_sees_5 : decode cL_sees 5 = .ok (.invokevirtual 43, 3) := by decide +kernel
theorem dL_sees_8 : decode cL_sees 8 = .ok (.ifCond .eq 7, 3) := by decide +kernel
theorem dL_sees_11 : decode cL_sees 11 = .ok (.lconst 1, 1) := by decide +kernel
theorem dL_sees_12 : decode cL_sees 12 = .ok (.goto 4, 3) := by decide +kernel
theorem dL_sees_15 : decode cL_sees 15 = .ok (.lconst 0, 1) := by decide +kernel
theorem dL_sees_16 : decode cL_sees 16 = .ok (.lastore, 1) := by decide +kernel
theorem dL_sees_17 : decode cL_sees 17 = .ok (.goto 7, 3) := by decide +kernel
theorem dL_sees_20 : decode cL_sees 20 = .ok (.astore 4, 2) := by decide +kernel
theorem dL_sees_22 : decode cL_sees 22 = .ok (.iconst 1, 1) := by decide +kernel
theorem dL_sees_23 : decode cL_sees 23 = .ok (.ireturn, 1) := by decide +kernel
theorem dL_sees_24 : decode cL_sees 24 = .ok (.iconst 0, 1) := by decide +kernel
theorem dL_sees_25 : decode cL_sees 25 = .ok (.ireturn, 1) := by decide +kernel
theorem dL_seen_0 : decode cL_seen 0 = .ok (.aload_n 2, 1) := by decide +kernel
theorem dL_seen_1 : decode cL_seen 1 = .ok (.iconst 0, 1) := by decide +kernel
theorem dL_seen_2 : decode cL_seen 2 = .ok (.aload_n 0, 1) := by decide +kernel
theorem dL_seen_3 : decode cL_seen 3 = .ok (.iload_n 1, 1) := by decide +kernel
theorem dL_seen_4 : decode cL_seen 4 = .ok (.invokevirtual 47, 3) := by decide +kernel
theorem dL_seen_7 : decode cL_seen 7 = .ok (.i2l, 1) := by decide +kernel
theorem dL_seen_8 : decode cL_seen 8 = .ok (.lastore, 1) := by decide +kernel
theorem dL_seen_9 : decode cL_seen 9 = .ok (.goto 6, 3) := by decide +kernel
theorem dL_seen_12 : decode cL_seen 12 = .ok (.astore_n 3, 1) := by decide +kernel
theorem dL_seen_13 : decode cL_seen 13 = .ok (.iconst 1, 1) := by decide +kernel
theorem dL_seen_14 : decode cL_seen 14 = .ok (.ireturn, 1) := by decide +kernel
theorem dL_seen_15 : decode cL_seen 15 = .ok (.iconst 0, 1) := by decide +kernel
theorem dL_seen_16 : decode cL_seen 16 = .ok (.ireturn, 1) := by decide +kernel
theorem dL_setTreaty_0 : decode cL_setTreaty 0 = .ok (.aload 4, 2) := by decide +kernel
theorem dL_setTreaty_2 : decode cL_setTreaty 2 = .ok (.iconst 0, 1) := by decide +kernel
theorem dL_setTreaty_3 : decode cL_setTreaty 3 = .ok (.aload_n 0, 1) := by decide +kernel
theorem dL_setTreaty_4 : decode cL_setTreaty 4 = .ok (.iload_n 1, 1) := by decide +kernel
theorem dL_setTreaty_5 : decode cL_setTreaty 5 = .ok (.iload_n 2, 1) := by decide +kernel
theorem dL_setTreaty_6 : decode cL_setTreaty 6 = .ok (.iload_n 3, 1) := by decide +kernel
theorem dL_setTreaty_7 : decode cL_setTreaty 7 = .ok (.invokevirtual 50, 3) := by decide +kernel
theorem dL_setTreaty_10 : decode cL_setTreaty 10 = .ok (.ifCond .eq 7, 3) := by decide +kernel
theorem dL_setTreaty_13 : decode cL_setTreaty 13 = .ok (.lconst 1, 1) := by decide +kernel
theorem dL_setTreaty_14 : decode cL_setTreaty 14 = .ok (.goto 4, 3) := by decide +kernel
theorem dL_setTreaty_17 : decode cL_setTreaty 17 = .ok (.lconst 0, 1) := by decide +kernel
theorem dL_setTreaty_18 : decode cL_setTreaty 18 = .ok (.lastore, 1) := by decide +kernel
theorem dL_setTreaty_19 : decode cL_setTreaty 19 = .ok (.goto 11, 3) := by decide +kernel
theorem dL_setTreaty_22 : decode cL_setTreaty 22 = .ok (.astore 5, 2) := by decide +kernel
theorem dL_setTreaty_24 : decode cL_setTreaty 24 = .ok (.iconst 1, 1) := by decide +kernel
theorem dL_setTreaty_25 : decode cL_setTreaty 25 = .ok (.ireturn, 1) := by decide +kernel
theorem dL_setTreaty_26 : decode cL_setTreaty 26 = .ok (.astore 5, 2) := by decide +kernel
theorem dL_setTreaty_28 : decode cL_setTreaty 28 = .ok (.iconst 2, 1) := by decide +kernel
theorem dL_setTreaty_29 : decode cL_setTreaty 29 = .ok (.ireturn, 1) := by decide +kernel
theorem dL_setTreaty_30 : decode cL_setTreaty 30 = .ok (.iconst 0, 1) := by decide +kernel
theorem dL_setTreaty_31 : decode cL_setTreaty 31 = .ok (.ireturn, 1) := by decide +kernel
theorem dL_sightings_0 : decode cL_sightings 0 = .ok (.aload_n 2, 1) := by decide +kernel
theorem dL_sightings_1 : decode cL_sightings 1 = .ok (.iconst 0, 1) := by decide +kernel
theorem dL_sightings_2 : decode cL_sightings 2 = .ok (.aload_n 0, 1) := by decide +kernel
theorem dL_sightings_3 : decode cL_sightings 3 = .ok (.iload_n 1, 1) := by decide +kernel
theorem dL_sightings_4 : decode cL_sightings 4 = .ok (.invokevirtual 54, 3) := by decide +kernel
theorem dL_sightings_7 : decode cL_sightings 7 = .ok (.i2l, 1) := by decide +kernel
theorem dL_sightings_8 : decode cL_sightings 8 = .ok (.lastore, 1) := by decide +kernel
theorem dL_sightings_9 : decode cL_sightings 9 = .ok (.goto 6, 3) := by decide +kernel
theorem dL_sightings_12 : decode cL_sightings 12 = .ok (.astore_n 3, 1) := by decide +kernel
theorem dL_sightings_13 : decode cL_sightings 13 = .ok (.iconst 1, 1) := by decide +kernel
theorem dL_sightings_14 : decode cL_sightings 14 = .ok (.ireturn, 1) := by decide +kernel
theorem dL_sightings_15 : decode cL_sightings 15 = .ok (.iconst 0, 1) := by decide +kernel
theorem dL_sightings_16 : decode cL_sightings 16 = .ok (.ireturn, 1) := by decide +kernel
theorem dL_sighting_0 : decode cL_sighting 0 = .ok (.aload 4, 2) := by decide +kernel
theorem dL_sighting_2 : decode cL_sighting 2 = .ok (.iconst 0, 1) := by decide +kernel
theorem dL_sighting_3 : decode cL_sighting 3 = .ok (.aload_n 0, 1) := by decide +kernel
theorem dL_sighting_4 : decode cL_sighting 4 = .ok (.iload_n 1, 1) := by decide +kernel
theorem dL_sighting_5 : decode cL_sighting 5 = .ok (.iload_n 2, 1) := by decide +kernel
theorem dL_sighting_6 : decode cL_sighting 6 = .ok (.iload_n 3, 1) := by decide +kernel
theorem dL_sighting_7 : decode cL_sighting 7 = .ok (.invokevirtual 57, 3) := by decide +kernel
theorem dL_sighting_10 : decode cL_sighting 10 = .ok (.i2l, 1) := by decide +kernel
theorem dL_sighting_11 : decode cL_sighting 11 = .ok (.lastore, 1) := by decide +kernel
theorem dL_sighting_12 : decode cL_sighting 12 = .ok (.goto 11, 3) := by decide +kernel
theorem dL_sighting_15 : decode cL_sighting 15 = .ok (.astore 5, 2) := by decide +kernel
theorem dL_sighting_17 : decode cL_sighting 17 = .ok (.iconst 1, 1) := by decide +kernel
theorem dL_sighting_18 : decode cL_sighting 18 = .ok (.ireturn, 1) := by decide +kernel
theorem dL_sighting_19 : decode cL_sighting 19 = .ok (.astore 5, 2) := by decide +kernel
theorem dL_sighting_21 : decode cL_sighting 21 = .ok (.iconst 2, 1) := by decide +kernel
theorem dL_sighting_22 : decode cL_sighting 22 = .ok (.ireturn, 1) := by decide +kernel
theorem dL_sighting_23 : decode cL_sighting 23 = .ok (.iconst 0, 1) := by decide +kernel
theorem dL_sighting_24 : decode cL_sighting 24 = .ok (.ireturn, 1) := by decide +kernel
theorem dL_age_0 : decode cL_age 0 = .ok (.aload_n 3, 1) := by decide +kernel
theorem dL_age_1 : decode cL_age 1 = .ok (.iconst 0, 1) := by decide +kernel
theorem dL_age_2 : decode cL_age 2 = .ok (.aload_n 0, 1) := by decide +kernel
theorem dL_age_3 : decode cL_age 3 = .ok (.iload_n 1, 1) := by decide +kernel
theorem dL_age_4 : decode cL_age 4 = .ok (.iload_n 2, 1) := by decide +kernel
theorem dL_age_5 : decode cL_age 5 = .ok (.invokevirtual 61, 3) := by decide +kernel
theorem dL_age_8 : decode cL_age 8 = .ok (.i2l, 1) := by decide +kernel
theorem dL_age_9 : decode cL_age 9 = .ok (.lastore, 1) := by decide +kernel
theorem dL_age_10 : decode cL_age 10 = .ok (.goto 11, 3) := by decide +kernel
theorem dL_age_13 : decode cL_age 13 = .ok (.astore 4, 2) := by decide +kernel
theorem dL_age_15 : decode cL_age 15 = .ok (.iconst 1, 1) := by decide +kernel
theorem dL_age_16 : decode cL_age 16 = .ok (.ireturn, 1) := by decide +kernel
theorem dL_age_17 : decode cL_age 17 = .ok (.astore 4, 2) := by decide +kernel
theorem dL_age_19 : decode cL_age 19 = .ok (.iconst 2, 1) := by decide +kernel
theorem dL_age_20 : decode cL_age 20 = .ok (.ireturn, 1) := by decide +kernel
theorem dL_age_21 : decode cL_age 21 = .ok (.iconst 0, 1) := by decide +kernel
theorem dL_age_22 : decode cL_age 22 = .ok (.ireturn, 1) := by decide +kernel
theorem dL_lastSeen_0 : decode cL_lastSeen 0 = .ok (.aload_n 3, 1) := by decide +kernel
theorem dL_lastSeen_1 : decode cL_lastSeen 1 = .ok (.iconst 0, 1) := by decide +kernel
theorem dL_lastSeen_2 : decode cL_lastSeen 2 = .ok (.aload_n 0, 1) := by decide +kernel
theorem dL_lastSeen_3 : decode cL_lastSeen 3 = .ok (.iload_n 1, 1) := by decide +kernel
theorem dL_lastSeen_4 : decode cL_lastSeen 4 = .ok (.iload_n 2, 1) := by decide +kernel
theorem dL_lastSeen_5 : decode cL_lastSeen 5 = .ok (.invokevirtual 66, 3) := by decide +kernel
theorem dL_lastSeen_8 : decode cL_lastSeen 8 = .ok (.i2l, 1) := by decide +kernel
theorem dL_lastSeen_9 : decode cL_lastSeen 9 = .ok (.lastore, 1) := by decide +kernel
theorem dL_lastSeen_10 : decode cL_lastSeen 10 = .ok (.goto 11, 3) := by decide +kernel
theorem dL_lastSeen_13 : decode cL_lastSeen 13 = .ok (.astore 4, 2) := by decide +kernel
theorem dL_lastSeen_15 : decode cL_lastSeen 15 = .ok (.iconst 1, 1) := by decide +kernel
theorem dL_lastSeen_16 : decode cL_lastSeen 16 = .ok (.ireturn, 1) := by decide +kernel
theorem dL_lastSeen_17 : decode cL_lastSeen 17 = .ok (.astore 4, 2) := by decide +kernel
theorem dL_lastSeen_19 : decode cL_lastSeen 19 = .ok (.iconst 2, 1) := by decide +kernel
theorem dL_lastSeen_20 : decode cL_lastSeen 20 = .ok (.ireturn, 1) := by decide +kernel
theorem dL_lastSeen_21 : decode cL_lastSeen 21 = .ok (.iconst 0, 1) := by decide +kernel
theorem dL_lastSeen_22 : decode cL_lastSeen 22 = .ok (.ireturn, 1) := by decide +kernel
theorem dL_blocks_0 : decode cL_blocks 0 = .ok (.aload_n 2, 1) := by decide +kernel
theorem dL_blocks_1 : decode cL_blocks 1 = .ok (.iconst 0, 1) := by decide +kernel
theorem dL_blocks_2 : decode cL_blocks 2 = .ok (.aload_n 0, 1) := by decide +kernel
theorem dL_blocks_3 : decode cL_blocks 3 = .ok (.iload_n 1, 1) := by decide +kernel
theorem dL_blocks_4 : decode cL_blocks 4 = .ok (.invokevirtual 69, 3) := by decide +kernel
theorem dL_blocks_7 : decode cL_blocks 7 = .ok (.i2l, 1) := by decide +kernel
theorem dL_blocks_8 : decode cL_blocks 8 = .ok (.lastore, 1) := by decide +kernel
theorem dL_blocks_9 : decode cL_blocks 9 = .ok (.goto 9, 3) := by decide +kernel
theorem dL_blocks_12 : decode cL_blocks 12 = .ok (.astore_n 3, 1) := by decide +kernel
theorem dL_blocks_13 : decode cL_blocks 13 = .ok (.iconst 1, 1) := by decide +kernel
theorem dL_blocks_14 : decode cL_blocks 14 = .ok (.ireturn, 1) := by decide +kernel
theorem dL_blocks_15 : decode cL_blocks 15 = .ok (.astore_n 3, 1) := by decide +kernel
theorem dL_blocks_16 : decode cL_blocks 16 = .ok (.iconst 2, 1) := by decide +kernel
theorem dL_blocks_17 : decode cL_blocks 17 = .ok (.ireturn, 1) := by decide +kernel
theorem dL_blocks_18 : decode cL_blocks 18 = .ok (.iconst 0, 1) := by decide +kernel
theorem dL_blocks_19 : decode cL_blocks 19 = .ok (.ireturn, 1) := by decide +kernel
theorem dL_breakBlock_0 : decode cL_breakBlock 0 = .ok (.aload_n 3, 1) := by decide +kernel
theorem dL_breakBlock_1 : decode cL_breakBlock 1 = .ok (.iconst 0, 1) := by decide +kernel
theorem dL_breakBlock_2 : decode cL_breakBlock 2 = .ok (.aload_n 0, 1) := by decide +kernel
theorem dL_breakBlock_3 : decode cL_breakBlock 3 = .ok (.iload_n 1, 1) := by decide +kernel
theorem dL_breakBlock_4 : decode cL_breakBlock 4 = .ok (.iload_n 2, 1) := by decide +kernel
theorem dL_breakBlock_5 : decode cL_breakBlock 5 = .ok (.invokevirtual 72, 3) := by decide +kernel
theorem dL_breakBlock_8 : decode cL_breakBlock 8 = .ok (.ifCond .eq 7, 3) := by decide +kernel
theorem dL_breakBlock_11 : decode cL_breakBlock 11 = .ok (.lconst 1, 1) := by decide +kernel
theorem dL_breakBlock_12 : decode cL_breakBlock 12 = .ok (.goto 4, 3) := by decide +kernel
theorem dL_breakBlock_15 : decode cL_breakBlock 15 = .ok (.lconst 0, 1) := by decide +kernel
theorem dL_breakBlock_16 : decode cL_breakBlock 16 = .ok (.lastore, 1) := by decide +kernel
theorem dL_breakBlock_17 : decode cL_breakBlock 17 = .ok (.goto 11, 3) := by decide +kernel
theorem dL_breakBlock_20 : decode cL_breakBlock 20 = .ok (.astore 4, 2) := by decide +kernel
theorem dL_breakBlock_22 : decode cL_breakBlock 22 = .ok (.iconst 1, 1) := by decide +kernel
theorem dL_breakBlock_23 : decode cL_breakBlock 23 = .ok (.ireturn, 1) := by decide +kernel
theorem dL_breakBlock_24 : decode cL_breakBlock 24 = .ok (.astore 4, 2) := by decide +kernel
theorem dL_breakBlock_26 : decode cL_breakBlock 26 = .ok (.iconst 2, 1) := by decide +kernel
theorem dL_breakBlock_27 : decode cL_breakBlock 27 = .ok (.ireturn, 1) := by decide +kernel
theorem dL_breakBlock_28 : decode cL_breakBlock 28 = .ok (.iconst 0, 1) := by decide +kernel
theorem dL_breakBlock_29 : decode cL_breakBlock 29 = .ok (.ireturn, 1) := by decide +kernel
theorem dL_savedAt_0 : decode cL_savedAt 0 = .ok (.aload_n 3, 1) := by decide +kernel
theorem dL_savedAt_1 : decode cL_savedAt 1 = .ok (.iconst 0, 1) := by decide +kernel
theorem dL_savedAt_2 : decode cL_savedAt 2 = .ok (.aload_n 0, 1) := by decide +kernel
theorem dL_savedAt_3 : decode cL_savedAt 3 = .ok (.iload_n 1, 1) := by decide +kernel
theorem dL_savedAt_4 : decode cL_savedAt 4 = .ok (.iload_n 2, 1) := by decide +kernel
theorem dL_savedAt_5 : decode cL_savedAt 5 = .ok (.invokevirtual 75, 3) := by decide +kernel
theorem dL_savedAt_8 : decode cL_savedAt 8 = .ok (.i2l, 1) := by decide +kernel
theorem dL_savedAt_9 : decode cL_savedAt 9 = .ok (.lastore, 1) := by decide +kernel
theorem dL_savedAt_10 : decode cL_savedAt 10 = .ok (.goto 15, 3) := by decide +kernel
theorem dL_savedAt_13 : decode cL_savedAt 13 = .ok (.astore 4, 2) := by decide +kernel
theorem dL_savedAt_15 : decode cL_savedAt 15 = .ok (.iconst 1, 1) := by decide +kernel
theorem dL_savedAt_16 : decode cL_savedAt 16 = .ok (.ireturn, 1) := by decide +kernel
theorem dL_savedAt_17 : decode cL_savedAt 17 = .ok (.astore 4, 2) := by decide +kernel
theorem dL_savedAt_19 : decode cL_savedAt 19 = .ok (.iconst 2, 1) := by decide +kernel
theorem dL_savedAt_20 : decode cL_savedAt 20 = .ok (.ireturn, 1) := by decide +kernel
theorem dL_savedAt_21 : decode cL_savedAt 21 = .ok (.astore 4, 2) := by decide +kernel
theorem dL_savedAt_23 : decode cL_savedAt 23 = .ok (.iconst 3, 1) := by decide +kernel
theorem dL_savedAt_24 : decode cL_savedAt 24 = .ok (.ireturn, 1) := by decide +kernel
theorem dL_savedAt_25 : decode cL_savedAt 25 = .ok (.iconst 0, 1) := by decide +kernel
theorem dL_savedAt_26 : decode cL_savedAt 26 = .ok (.ireturn, 1) := by decide +kernel
theorem dL_repair_0 : decode cL_repair 0 = .ok (.aload_n 2, 1) := by decide +kernel
theorem dL_repair_1 : decode cL_repair 1 = .ok (.iconst 0, 1) := by decide +kernel
theorem dL_repair_2 : decode cL_repair 2 = .ok (.aload_n 0, 1) := by decide +kernel
theorem dL_repair_3 : decode cL_repair 3 = .ok (.iload_n 1, 1) := by decide +kernel
theorem dL_repair_4 : decode cL_repair 4 = .ok (.invokevirtual 78, 3) := by decide +kernel
theorem dL_repair_7 : decode cL_repair 7 = .ok (.i2l, 1) := by decide +kernel
theorem dL_repair_8 : decode cL_repair 8 = .ok (.lastore, 1) := by decide +kernel
theorem dL_repair_9 : decode cL_repair 9 = .ok (.goto 9, 3) := by decide +kernel
theorem dL_repair_12 : decode cL_repair 12 = .ok (.astore_n 3, 1) := by decide +kernel
theorem dL_repair_13 : decode cL_repair 13 = .ok (.iconst 1, 1) := by decide +kernel
theorem dL_repair_14 : decode cL_repair 14 = .ok (.ireturn, 1) := by decide +kernel
theorem dL_repair_15 : decode cL_repair 15 = .ok (.astore_n 3, 1) := by decide +kernel
theorem dL_repair_16 : decode cL_repair 16 = .ok (.iconst 2, 1) := by decide +kernel
theorem dL_repair_17 : decode cL_repair 17 = .ok (.ireturn, 1) := by decide +kernel
theorem dL_repair_18 : decode cL_repair 18 = .ok (.iconst 0, 1) := by decide +kernel
theorem dL_repair_19 : decode cL_repair 19 = .ok (.ireturn, 1) := by decide +kernel
theorem dL_load_0 : decode cL_load 0 = .ok (.aload_n 2, 1) := by decide +kernel
theorem dL_load_1 : decode cL_load 1 = .ok (.iconst 0, 1) := by decide +kernel
theorem dL_load_2 : decode cL_load 2 = .ok (.aload_n 0, 1) := by decide +kernel
theorem dL_load_3 : decode cL_load 3 = .ok (.iload_n 1, 1) := by decide +kernel
theorem dL_load_4 : decode cL_load 4 = .ok (.invokevirtual 81, 3) := by decide +kernel
theorem dL_load_7 : decode cL_load 7 = .ok (.i2l, 1) := by decide +kernel
theorem dL_load_8 : decode cL_load 8 = .ok (.lastore, 1) := by decide +kernel
theorem dL_load_9 : decode cL_load 9 = .ok (.goto 12, 3) := by decide +kernel
theorem dL_load_12 : decode cL_load 12 = .ok (.astore_n 3, 1) := by decide +kernel
theorem dL_load_13 : decode cL_load 13 = .ok (.iconst 1, 1) := by decide +kernel
theorem dL_load_14 : decode cL_load 14 = .ok (.ireturn, 1) := by decide +kernel
theorem dL_load_15 : decode cL_load 15 = .ok (.astore_n 3, 1) := by decide +kernel
theorem dL_load_16 : decode cL_load 16 = .ok (.iconst 2, 1) := by decide +kernel
theorem dL_load_17 : decode cL_load 17 = .ok (.ireturn, 1) := by decide +kernel
theorem dL_load_18 : decode cL_load 18 = .ok (.astore_n 3, 1) := by decide +kernel
theorem dL_load_19 : decode cL_load 19 = .ok (.iconst 3, 1) := by decide +kernel
theorem dL_load_20 : decode cL_load 20 = .ok (.ireturn, 1) := by decide +kernel
theorem dL_load_21 : decode cL_load 21 = .ok (.iconst 0, 1) := by decide +kernel
theorem dL_load_22 : decode cL_load 22 = .ok (.ireturn, 1) := by decide +kernel
theorem dL_allies_0 : decode cL_allies 0 = .ok (.aload_n 2, 1) := by decide +kernel
theorem dL_allies_1 : decode cL_allies 1 = .ok (.iconst 0, 1) := by decide +kernel
theorem dL_allies_2 : decode cL_allies 2 = .ok (.aload_n 0, 1) := by decide +kernel
theorem dL_allies_3 : decode cL_allies 3 = .ok (.iload_n 1, 1) := by decide +kernel
theorem dL_allies_4 : decode cL_allies 4 = .ok (.invokevirtual 84, 3) := by decide +kernel
theorem dL_allies_7 : decode cL_allies 7 = .ok (.i2l, 1) := by decide +kernel
theorem dL_allies_8 : decode cL_allies 8 = .ok (.lastore, 1) := by decide +kernel
theorem dL_allies_9 : decode cL_allies 9 = .ok (.goto 9, 3) := by decide +kernel
theorem dL_allies_12 : decode cL_allies 12 = .ok (.astore_n 3, 1) := by decide +kernel
theorem dL_allies_13 : decode cL_allies 13 = .ok (.iconst 1, 1) := by decide +kernel
theorem dL_allies_14 : decode cL_allies 14 = .ok (.ireturn, 1) := by decide +kernel
theorem dL_allies_15 : decode cL_allies 15 = .ok (.astore_n 3, 1) := by decide +kernel
theorem dL_allies_16 : decode cL_allies 16 = .ok (.iconst 2, 1) := by decide +kernel
theorem dL_allies_17 : decode cL_allies 17 = .ok (.ireturn, 1) := by decide +kernel
theorem dL_allies_18 : decode cL_allies 18 = .ok (.iconst 0, 1) := by decide +kernel
theorem dL_allies_19 : decode cL_allies 19 = .ok (.ireturn, 1) := by decide +kernel
theorem dL_livingShare_0 : decode cL_livingShare 0 = .ok (.aload_n 1, 1) := by decide +kernel
theorem dL_livingShare_1 : decode cL_livingShare 1 = .ok (.iconst 0, 1) := by decide +kernel
theorem dL_livingShare_2 : decode cL_livingShare 2 = .ok (.aload_n 0, 1) := by decide +kernel
theorem dL_livingShare_3 : decode cL_livingShare 3 = .ok (.invokevirtual 87, 3) := by decide +kernel
theorem dL_livingShare_6 : decode cL_livingShare 6 = .ok (.f2d, 1) := by decide +kernel
theorem dL_livingShare_7 : decode cL_livingShare 7 = .ok (.dastore, 1) := by decide +kernel
theorem dL_livingShare_8 : decode cL_livingShare 8 = .ok (.goto 6, 3) := by decide +kernel
theorem dL_livingShare_11 : decode cL_livingShare 11 = .ok (.astore_n 2, 1) := by decide +kernel
theorem dL_livingShare_12 : decode cL_livingShare 12 = .ok (.iconst 1, 1) := by decide +kernel
theorem dL_livingShare_13 : decode cL_livingShare 13 = .ok (.ireturn, 1) := by decide +kernel
theorem dL_livingShare_14 : decode cL_livingShare 14 = .ok (.iconst 0, 1) := by decide +kernel
theorem dL_livingShare_15 : decode cL_livingShare 15 = .ok (.ireturn, 1) := by decide +kernel
theorem dL_meanAge_0 : decode cL_meanAge 0 = .ok (.aload_n 1, 1) := by decide +kernel
theorem dL_meanAge_1 : decode cL_meanAge 1 = .ok (.iconst 0, 1) := by decide +kernel
theorem dL_meanAge_2 : decode cL_meanAge 2 = .ok (.aload_n 0, 1) := by decide +kernel
theorem dL_meanAge_3 : decode cL_meanAge 3 = .ok (.invokevirtual 93, 3) := by decide +kernel
theorem dL_meanAge_6 : decode cL_meanAge 6 = .ok (.dastore, 1) := by decide +kernel
theorem dL_meanAge_7 : decode cL_meanAge 7 = .ok (.goto 6, 3) := by decide +kernel
theorem dL_meanAge_10 : decode cL_meanAge 10 = .ok (.astore_n 2, 1) := by decide +kernel
theorem dL_meanAge_11 : decode cL_meanAge 11 = .ok (.iconst 1, 1) := by decide +kernel
theorem dL_meanAge_12 : decode cL_meanAge 12 = .ok (.ireturn, 1) := by decide +kernel
theorem dL_meanAge_13 : decode cL_meanAge 13 = .ok (.iconst 0, 1) := by decide +kernel
theorem dL_meanAge_14 : decode cL_meanAge 14 = .ok (.ireturn, 1) := by decide +kernel

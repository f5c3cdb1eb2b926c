theorem d_LW_place_0 : decode method_3_code 0 = .ok (.aload_n 3, 1) := by decide +kernel
theorem d_LW_place_1 : decode method_3_code 1 = .ok (.iconst 0, 1) := by decide +kernel
theorem d_LW_place_2 : decode method_3_code 2 = .ok (.aload_n 0, 1) := by decide +kernel
theorem d_LW_place_3 : decode method_3_code 3 = .ok (.iload_n 1, 1) := by decide +kernel
theorem d_LW_place_4 : decode method_3_code 4 = .ok (.iload_n 2, 1) := by decide +kernel
theorem d_LW_place_5 : decode method_3_code 5 = .ok (.invokevirtual 7, 3) := by decide +kernel
theorem d_LW_place_8 : decode method_3_code 8 = .ok (.i2l, 1) := by decide +kernel
theorem d_LW_place_9 : decode method_3_code 9 = .ok (.lastore, 1) := by decide +kernel
theorem d_LW_place_10 : decode method_3_code 10 = .ok (.goto 15, 3) := by decide +kernel
theorem d_LW_place_13 : decode method_3_code 13 = .ok (.astore 4, 2) := by decide +kernel
theorem d_LW_place_15 : decode method_3_code 15 = .ok (.iconst 1, 1) := by decide +kernel
theorem d_LW_place_16 : decode method_3_code 16 = .ok (.ireturn, 1) := by decide +kernel
theorem d_LW_place_17 : decode method_3_code 17 = .ok (.astore 4, 2) := by decide +kernel
theorem d_LW_place_19 : decode method_3_code 19 = .ok (.iconst 2, 1) := by decide +kernel
theorem d_LW_place_20 : decode method_3_code 20 = .ok (.ireturn, 1) := by decide +kernel
theorem d_LW_place_21 : decode method_3_code 21 = .ok (.astore 4, 2) := by decide +kernel
theorem d_LW_place_23 : decode method_3_code 23 = .ok (.iconst 3, 1) := by decide +kernel
theorem d_LW_place_24 : decode method_3_code 24 = .ok (.ireturn, 1) := by decide +kernel
theorem d_LW_place_25 : decode method_3_code 25 = .ok (.iconst 0, 1) := by decide +kernel
theorem d_LW_place_26 : decode method_3_code 26 = .ok (.ireturn, 1) := by decide +kernel
theorem d_LW_object_0 : decode method_4_code 0 = .ok (.aload 5, 2) := by decide +kernel
theorem d_LW_object_2 : decode method_4_code 2 = .ok (.iconst 0, 1) := by decide +kernel
theorem d_LW_object_3 : decode method_4_code 3 = .ok (.aload_n 0, 1) := by decide +kernel
theorem d_LW_object_4 : decode method_4_code 4 = .ok (.iload_n 1, 1) := by decide +kernel
theorem d_LW_object_5 : decode method_4_code 5 = .ok (.iload_n 2, 1) := by decide +kernel
theorem d_LW_object_6 : decode method_4_code 6 = .ok (.iload_n 3, 1) := by decide +kernel
theorem d_LW_object_7 : decode method_4_code 7 = .ok (.iload 4, 2) := by decide +kernel
theorem d_LW_object_9 : decode method_4_code 9 = .ok (.invokevirtual 19, 3) := by decide +kernel
theorem d_LW_object_12 : decode method_4_code 12 = .ok (.i2l, 1) := by decide +kernel
theorem d_LW_object_13 : decode method_4_code 13 = .ok (.lastore, 1) := by decide +kernel
theorem d_LW_object_14 : decode method_4_code 14 = .ok (.goto 11, 3) := by decide +kernel
theorem d_LW_object_17 : decode method_4_code 17 = .ok (.astore 6, 2) := by decide +kernel
theorem d_LW_object_19 : decode method_4_code 19 = .ok (.iconst 1, 1) := by decide +kernel
theorem d_LW_object_20 : decode method_4_code 20 = .ok (.ireturn, 1) := by decide +kernel
theorem d_LW_object_21 : decode method_4_code 21 = .ok (.astore 6, 2) := by decide +kernel
theorem d_LW_object_23 : decode method_4_code 23 = .ok (.iconst 2, 1) := by decide +kernel
theorem d_LW_object_24 : decode method_4_code 24 = .ok (.ireturn, 1) := by decide +kernel
theorem d_LW_object_25 : decode method_4_code 25 = .ok (.iconst 0, 1) := by decide +kernel
theorem d_LW_object_26 : decode method_4_code 26 = .ok (.ireturn, 1) := by decide +kernel
theorem d_LW_keys_0 : decode method_5_code 0 = .ok (.aload_n 3, 1) := by decide +kernel
theorem d_LW_keys_1 : decode method_5_code 1 = .ok (.iconst 0, 1) := by decide +kernel
theorem d_LW_keys_2 : decode method_5_code 2 = .ok (.aload_n 0, 1) := by decide +kernel
theorem d_LW_keys_3 : decode method_5_code 3 = .ok (.iload_n 1, 1) := by decide +kernel
theorem d_LW_keys_4 : decode method_5_code 4 = .ok (.iload_n 2, 1) := by decide +kernel
theorem d_LW_keys_5 : decode method_5_code 5 = .ok (.invokevirtual 23, 3) := by decide +kernel
theorem d_LW_keys_8 : decode method_5_code 8 = .ok (.i2l, 1) := by decide +kernel
theorem d_LW_keys_9 : decode method_5_code 9 = .ok (.lastore, 1) := by decide +kernel
theorem d_LW_keys_10 : decode method_5_code 10 = .ok (.goto 11, 3) := by decide +kernel
theorem d_LW_keys_13 : decode method_5_code 13 = .ok (.astore 4, 2) := by decide +kernel
theorem d_LW_keys_15 : decode method_5_code 15 = .ok (.iconst 1, 1) := by decide +kernel
theorem d_LW_keys_16 : decode method_5_code 16 = .ok (.ireturn, 1) := by decide +kernel
theorem d_LW_keys_17 : decode method_5_code 17 = .ok (.astore 4, 2) := by decide +kernel
theorem d_LW_keys_19 : decode method_5_code 19 = .ok (.iconst 2, 1) := by decide +kernel
theorem d_LW_keys_20 : decode method_5_code 20 = .ok (.ireturn, 1) := by decide +kernel
theorem d_LW_keys_21 : decode method_5_code 21 = .ok (.iconst 0, 1) := by decide +kernel
theorem d_LW_keys_22 : decode method_5_code 22 = .ok (.ireturn, 1) := by decide +kernel
theorem d_LW_key_0 : decode method_6_code 0 = .ok (.aload_n 3, 1) := by decide +kernel
theorem d_LW_key_1 : decode method_6_code 1 = .ok (.iconst 0, 1) := by decide +kernel
theorem d_LW_key_2 : decode method_6_code 2 = .ok (.aload_n 0, 1) := by decide +kernel
theorem d_LW_key_3 : decode method_6_code 3 = .ok (.iload_n 1, 1) := by decide +kernel
theorem d_LW_key_4 : decode method_6_code 4 = .ok (.iload_n 2, 1) := by decide +kernel
theorem d_LW_key_5 : decode method_6_code 5 = .ok (.invokevirtual 26, 3) := by decide +kernel
theorem d_LW_key_8 : decode method_6_code 8 = .ok (.ifCond .eq 7, 3) := by decide +kernel
theorem d_LW_key_11 : decode method_6_code 11 = .ok (.lconst 1, 1) := by decide +kernel
theorem d_LW_key_12 : decode method_6_code 12 = .ok (.goto 4, 3) := by decide +kernel
theorem d_LW_key_15 : decode method_6_code 15 = .ok (.lconst 0, 1) := by decide +kernel
theorem d_LW_key_16 : decode method_6_code 16 = .ok (.lastore, 1) := by decide +kernel
theorem d_LW_key_17 : decode method_6_code 17 = .ok (.goto 7, 3) := by decide +kernel
theorem d_LW_key_20 : decode method_6_code 20 = .ok (.astore 4, 2) := by decide +kernel
theorem d_LW_key_22 : decode method_6_code 22 = .ok (.iconst 1, 1) := by decide +kernel
theorem d_LW_key_23 : decode method_6_code 23 = .ok (.ireturn, 1) := by decide +kernel
theorem d_LW_key_24 : decode method_6_code 24 = .ok (.iconst 0, 1) := by decide +kernel
theorem d_LW_key_25 : decode method_6_code 25 = .ok (.ireturn, 1) := by decide +kernel
theorem d_LW_box_0 : decode method_7_code 0 = .ok (.aload_n 2, 1) := by decide +kernel
theorem d_LW_box_1 : decode method_7_code 1 = .ok (.iconst 0, 1) := by decide +kernel
theorem d_LW_box_2 : decode method_7_code 2 = .ok (.aload_n 0, 1) := by decide +kernel
theorem d_LW_box_3 : decode method_7_code 3 = .ok (.iload_n 1, 1) := by decide +kernel
theorem d_LW_box_4 : decode method_7_code 4 = .ok (.invokevirtual 30, 3) := by decide +kernel
theorem d_LW_box_7 : decode method_7_code 7 = .ok (.ifCond .eq 7, 3) := by decide +kernel
theorem d_LW_box_10 : decode method_7_code 10 = .ok (.lconst 1, 1) := by decide +kernel
theorem d_LW_box_11 : decode method_7_code 11 = .ok (.goto 4, 3) := by decide +kernel
theorem d_LW_box_14 : decode method_7_code 14 = .ok (.lconst 0, 1) := by decide +kernel
theorem d_LW_box_15 : decode method_7_code 15 = .ok (.lastore, 1) := by decide +kernel
theorem d_LW_box_16 : decode method_7_code 16 = .ok (.goto 6, 3) := by decide +kernel
theorem d_LW_box_19 : decode method_7_code 19 = .ok (.astore_n 3, 1) := by decide +kernel
theorem d_LW_box_20 : decode method_7_code 20 = .ok (.iconst 1, 1) := by decide +kernel
theorem d_LW_box_21 : decode method_7_code 21 = .ok (.ireturn, 1) := by decide +kernel
theorem d_LW_box_22 : decode method_7_code 22 = .ok (.iconst 0, 1) := by decide +kernel
theorem d_LW_box_23 : decode method_7_code 23 = .ok (.ireturn, 1) := by decide +kernel
theorem d_LW_move_0 : decode method_8_code 0 = .ok (.aload 6, 2) := by decide +kernel
theorem d_LW_move_2 : decode method_8_code 2 = .ok (.iconst 0, 1) := by decide +kernel
theorem d_LW_move_3 : decode method_8_code 3 = .ok (.aload_n 0, 1) := by decide +kernel
theorem d_LW_move_4 : decode method_8_code 4 = .ok (.iload_n 1, 1) := by decide +kernel
theorem d_LW_move_5 : decode method_8_code 5 = .ok (.iload_n 2, 1) := by decide +kernel
theorem d_LW_move_6 : decode method_8_code 6 = .ok (.iload_n 3, 1) := by decide +kernel
theorem d_LW_move_7 : decode method_8_code 7 = .ok (.iload 4, 2) := by decide +kernel
theorem d_LW_move_9 : decode method_8_code 9 = .ok (.iload 5, 2) := by decide +kernel
theorem d_LW_move_11 : decode method_8_code 11 = .ok (.invokevirtual 34, 3) := by decide +kernel
theorem d_LW_move_14 : decode method_8_code 14 = .ok (.i2l, 1) := by decide +kernel
theorem d_LW_move_15 : decode method_8_code 15 = .ok (.lastore, 1) := by decide +kernel
theorem d_LW_move_16 : decode method_8_code 16 = .ok (.goto 15, 3) := by decide +kernel
theorem d_LW_move_19 : decode method_8_code 19 = .ok (.astore 7, 2) := by decide +kernel
theorem d_LW_move_21 : decode method_8_code 21 = .ok (.iconst 1, 1) := by decide +kernel
theorem d_LW_move_22 : decode method_8_code 22 = .ok (.ireturn, 1) := by decide +kernel
theorem d_LW_move_23 : decode method_8_code 23 = .ok (.astore 7, 2) := by decide +kernel
theorem d_LW_move_25 : decode method_8_code 25 = .ok (.iconst 2, 1) := by decide +kernel
theorem d_LW_move_26 : decode method_8_code 26 = .ok (.ireturn, 1) := by decide +kernel
theorem d_LW_move_27 : decode method_8_code 27 = .ok (.astore 7, 2) := by decide +kernel
theorem d_LW_move_29 : decode method_8_code 29 = .ok (.iconst 3, 1) := by decide +kernel
theorem d_LW_move_30 : decode method_8_code 30 = .ok (.ireturn, 1) := by decide +kernel
theorem d_LW_move_31 : decode method_8_code 31 = .ok (.iconst 0, 1) := by decide +kernel
theorem d_LW_move_32 : decode method_8_code 32 = .ok (.ireturn, 1) := by decide +kernel
theorem d_LW_into_0 : decode method_9_code 0 = .ok (.aload 4, 2) := by decide +kernel
theorem d_LW_into_2 : decode method_9_code 2 = .ok (.iconst 0, 1) := by decide +kernel
theorem d_LW_into_3 : decode method_9_code 3 = .ok (.aload_n 0, 1) := by decide +kernel
theorem d_LW_into_4 : decode method_9_code 4 = .ok (.iload_n 1, 1) := by decide +kernel
theorem d_LW_into_5 : decode method_9_code 5 = .ok (.iload_n 2, 1) := by decide +kernel
theorem d_LW_into_6 : decode method_9_code 6 = .ok (.iload_n 3, 1) := by decide +kernel
theorem d_LW_into_7 : decode method_9_code 7 = .ok (.invokevirtual 38, 3) := by decide +kernel
theorem d_LW_into_10 : decode method_9_code 10 = .ok (.i2l, 1) := by decide +kernel
theorem d_LW_into_11 : decode method_9_code 11 = .ok (.lastore, 1) := by decide +kernel
theorem d_LW_into_12 : decode method_9_code 12 = .ok (.goto 15, 3) := by decide +kernel
theorem d_LW_into_15 : decode method_9_code 15 = .ok (.astore 5, 2) := by decide +kernel
theorem d_LW_into_17 : decode method_9_code 17 = .ok (.iconst 1, 1) := by decide +kernel
theorem d_LW_into_18 : decode method_9_code 18 = .ok (.ireturn, 1) := by decide +kernel
theorem d_LW_into_19 : decode method_9_code 19 = .ok (.astore 5, 2) := by decide +kernel
theorem d_LW_into_21 : decode method_9_code 21 = .ok (.iconst 2, 1) := by decide +kernel
theorem d_LW_into_22 : decode method_9_code 22 = .ok (.ireturn, 1) := by decide +kernel
theorem d_LW_into_23 : decode method_9_code 23 = .ok (.astore 5, 2) := by decide +kernel
theorem d_LW_into_25 : decode method_9_code 25 = .ok (.iconst 3, 1) := by decide +kernel
theorem d_LW_into_26 : decode method_9_code 26 = .ok (.ireturn, 1) := by decide +kernel
theorem d_LW_into_27 : decode method_9_code 27 = .ok (.iconst 0, 1) := by decide +kernel
theorem d_LW_into_28 : decode method_9_code 28 = .ok (.ireturn, 1) := by decide +kernel
theorem d_LW_lost_0 : decode method_10_code 0 = .ok (.aload_n 3, 1) := by decide +kernel
theorem d_LW_lost_1 : decode method_10_code 1 = .ok (.iconst 0, 1) := by decide +kernel
theorem d_LW_lost_2 : decode method_10_code 2 = .ok (.aload_n 0, 1) := by decide +kernel
theorem d_LW_lost_3 : decode method_10_code 3 = .ok (.iload_n 1, 1) := by decide +kernel
theorem d_LW_lost_4 : decode method_10_code 4 = .ok (.iload_n 2, 1) := by decide +kernel
theorem d_LW_lost_5 : decode method_10_code 5 = .ok (.invokevirtual 42, 3) := by decide +kernel
theorem d_LW_lost_8 : decode method_10_code 8 = .ok (.ifCond .eq 7, 3) := by decide +kernel
theorem d_LW_lost_11 : decode method_10_code 11 = .ok (.lconst 1, 1) := by decide +kernel
theorem d_LW_lost_12 : decode method_10_code 12 = .ok (.goto 4, 3) := by decide +kernel
theorem d_LW_lost_15 : decode method_10_code 15 = .ok (.lconst 0, 1) := by decide +kernel
theorem d_LW_lost_16 : decode method_10_code 16 = .ok (.lastore, 1) := by decide +kernel
theorem d_LW_lost_17 : decode method_10_code 17 = .ok (.goto 15, 3) := by decide +kernel
theorem d_LW_lost_20 : decode method_10_code 20 = .ok (.astore 4, 2) := by decide +kernel
theorem d_LW_lost_22 : decode method_10_code 22 = .ok (.iconst 1, 1) := by decide +kernel
theorem d_LW_lost_23 : decode method_10_code 23 = .ok (.ireturn, 1) := by decide +kernel
theorem d_LW_lost_24 : decode method_10_code 24 = .ok (.astore 4, 2) := by decide +kernel
theorem d_LW_lost_26 : decode method_10_code 26 = .ok (.iconst 2, 1) := by decide +kernel
theorem d_LW_lost_27 : decode method_10_code 27 = .ok (.ireturn, 1) := by decide +kernel
theorem d_LW_lost_28 : decode method_10_code 28 = .ok (.astore 4, 2) := by decide +kernel
theorem d_LW_lost_30 : decode method_10_code 30 = .ok (.iconst 3, 1) := by decide +kernel
theorem d_LW_lost_31 : decode method_10_code 31 = .ok (.ireturn, 1) := by decide +kernel
theorem d_LW_lost_32 : decode method_10_code 32 = .ok (.iconst 0, 1) := by decide +kernel
theorem d_LW_lost_33 : decode method_10_code 33 = .ok (.ireturn, 1) := by decide +kernel
theorem d_LW_where_0 : decode method_11_code 0 = .ok (.aload_n 3, 1) := by decide +kernel
theorem d_LW_where_1 : decode method_11_code 1 = .ok (.iconst 0, 1) := by decide +kernel
theorem d_LW_where_2 : decode method_11_code 2 = .ok (.aload_n 0, 1) := by decide +kernel
theorem d_LW_where_3 : decode method_11_code 3 = .ok (.iload_n 1, 1) := by decide +kernel
theorem d_LW_where_4 : decode method_11_code 4 = .ok (.iload_n 2, 1) := by decide +kernel
theorem d_LW_where_5 : decode method_11_code 5 = .ok (.invokevirtual 46, 3) := by decide +kernel
theorem d_LW_where_8 : decode method_11_code 8 = .ok (.i2l, 1) := by decide +kernel
theorem d_LW_where_9 : decode method_11_code 9 = .ok (.lastore, 1) := by decide +kernel
theorem d_LW_where_10 : decode method_11_code 10 = .ok (.goto 7, 3) := by decide +kernel
theorem d_LW_where_13 : decode method_11_code 13 = .ok (.astore 4, 2) := by decide +kernel
theorem d_LW_where_15 : decode method_11_code 15 = .ok (.iconst 1, 1) := by decide +kernel
theorem d_LW_where_16 : decode method_11_code 16 = .ok (.ireturn, 1) := by decide +kernel
theorem d_LW_where_17 : decode method_11_code 17 = .ok (.iconst 0, 1) := by decide +kernel
theorem d_LW_where_18 : decode method_11_code 18 = .ok (.ireturn, 1) := by decide +kernel
theorem d_LW_last_0 : decode method_12_code 0 = .ok (.aload_n 2, 1) := by decide +kernel
theorem d_LW_last_1 : decode method_12_code 1 = .ok (.iconst 0, 1) := by decide +kernel
theorem d_LW_last_2 : decode method_12_code 2 = .ok (.aload_n 0, 1) := by decide +kernel
theorem d_LW_last_3 : decode method_12_code 3 = .ok (.iload_n 1, 1) := by decide +kernel
theorem d_LW_last_4 : decode method_12_code 4 = .ok (.invokevirtual 49, 3) := by decide +kernel
theorem d_LW_last_7 : decode method_12_code 7 = .ok (.i2l, 1) := by decide +kernel
theorem d_LW_last_8 : decode method_12_code 8 = .ok (.lastore, 1) := by decide +kernel
theorem d_LW_last_9 : decode method_12_code 9 = .ok (.goto 6, 3) := by decide +kernel
theorem d_LW_last_12 : decode method_12_code 12 = .ok (.astore_n 3, 1) := by decide +kernel
theorem d_LW_last_13 : decode method_12_code 13 = .ok (.iconst 1, 1) := by decide +kernel
theorem d_LW_last_14 : decode method_12_code 14 = .ok (.ireturn, 1) := by decide +kernel
theorem d_LW_last_15 : decode method_12_code 15 = .ok (.iconst 0, 1) := by decide +kernel
theorem d_LW_last_16 : decode method_12_code 16 = .ok (.ireturn, 1) := by decide +kernel
theorem d_LW_history_0 : decode method_13_code 0 = .ok (.aload 4, 2) := by decide +kernel
theorem d_LW_history_2 : decode method_13_code 2 = .ok (.iconst 0, 1) := by decide +kernel
theorem d_LW_history_3 : decode method_13_code 3 = .ok (.aload_n 0, 1) := by decide +kernel
theorem d_LW_history_4 : decode method_13_code 4 = .ok (.iload_n 1, 1) := by decide +kernel
theorem d_LW_history_5 : decode method_13_code 5 = .ok (.iload_n 2, 1) := by decide +kernel
theorem d_LW_history_6 : decode method_13_code 6 = .ok (.iload_n 3, 1) := by decide +kernel
theorem d_LW_history_7 : decode method_13_code 7 = .ok (.invokevirtual 53, 3) := by decide +kernel
theorem d_LW_history_10 : decode method_13_code 10 = .ok (.i2l, 1) := by decide +kernel
theorem d_LW_history_11 : decode method_13_code 11 = .ok (.lastore, 1) := by decide +kernel
theorem d_LW_history_12 : decode method_13_code 12 = .ok (.goto 11, 3) := by decide +kernel
theorem d_LW_history_15 : decode method_13_code 15 = .ok (.astore 5, 2) := by decide +kernel
theorem d_LW_history_17 : decode method_13_code 17 = .ok (.iconst 1, 1) := by decide +kernel
theorem d_LW_history_18 : decode method_13_code 18 = .ok (.ireturn, 1) := by decide +kernel
theorem d_LW_history_19 : decode method_13_code 19 = .ok (.astore 5, 2) := by decide +kernel
theorem d_LW_history_21 : decode method_13_code 21 = .ok (.iconst 2, 1) := by decide +kernel
theorem d_LW_history_22 : decode method_13_code 22 = .ok (.ireturn, 1) := by decide +kernel
theorem d_LW_history_23 : decode method_13_code 23 = .ok (.iconst 0, 1) := by decide +kernel
theorem d_LW_history_24 : decode method_13_code 24 = .ok (.ireturn, 1) := by decide +kernel
theorem d_LW_door_0 : decode method_14_code 0 = .ok (.aload 5, 2) := by decide +kernel
theorem d_LW_door_2 : decode method_14_code 2 = .ok (.iconst 0, 1) := by decide +kernel
theorem d_LW_door_3 : decode method_14_code 3 = .ok (.aload_n 0, 1) := by decide +kernel
theorem d_LW_door_4 : decode method_14_code 4 = .ok (.iload_n 1, 1) := by decide +kernel
theorem d_LW_door_5 : decode method_14_code 5 = .ok (.iload_n 2, 1) := by decide +kernel
theorem d_LW_door_6 : decode method_14_code 6 = .ok (.iload_n 3, 1) := by decide +kernel
theorem d_LW_door_7 : decode method_14_code 7 = .ok (.iload 4, 2) := by decide +kernel
theorem d_LW_door_9 : decode method_14_code 9 = .ok (.invokevirtual 56, 3) := by decide +kernel
theorem d_LW_door_12 : decode method_14_code 12 = .ok (.i2l, 1) := by decide +kernel
theorem d_LW_door_13 : decode method_14_code 13 = .ok (.lastore, 1) := by decide +kernel
theorem d_LW_door_14 : decode method_14_code 14 = .ok (.goto 15, 3) := by decide +kernel
theorem d_LW_door_17 : decode method_14_code 17 = .ok (.astore 6, 2) := by decide +kernel
theorem d_LW_door_19 : decode method_14_code 19 = .ok (.iconst 1, 1) := by decide +kernel
theorem d_LW_door_20 : decode method_14_code 20 = .ok (.ireturn, 1) := by decide +kernel
theorem d_LW_door_21 : decode method_14_code 21 = .ok (.astore 6, 2) := by decide +kernel
theorem d_LW_door_23 : decode method_14_code 23 = .ok (.iconst 2, 1) := by decide +kernel
theorem d_LW_door_24 : decode method_14_code 24 = .ok (.ireturn, 1) := by decide +kernel
theorem d_LW_door_25 : decode method_14_code 25 = .ok (.astore 6, 2) := by decide +kernel
theorem d_LW_door_27 : decode method_14_code 27 = .ok (.iconst 3, 1) := by decide +kernel
theorem d_LW_door_28 : decode method_14_code 28 = .ok (.ireturn, 1) := by decide +kernel
theorem d_LW_door_29 : decode method_14_code 29 = .ok (.iconst 0, 1) := by decide +kernel
theorem d_LW_door_30 : decode method_14_code 30 = .ok (.ireturn, 1) := by decide +kernel
theorem d_LW_passes_0 : decode method_15_code 0 = .ok (.aload_n 3, 1) := by decide +kernel
theorem d_LW_passes_1 : decode method_15_code 1 = .ok (.iconst 0, 1) := by decide +kernel
theorem d_LW_passes_2 : decode method_15_code 2 = .ok (.aload_n 0, 1) := by decide +kernel
theorem d_LW_passes_3 : decode method_15_code 3 = .ok (.iload_n 1, 1) := by decide +kernel
theorem d_LW_passes_4 : decode method_15_code 4 = .ok (.iload_n 2, 1) := by decide +kernel
theorem d_LW_passes_5 : decode method_15_code 5 = .ok (.invokevirtual 59, 3) := by decide +kernel
theorem d_LW_passes_8 : decode method_15_code 8 = .ok (.ifCond .eq 7, 3) := by decide +kernel
theorem d_LW_passes_11 : decode method_15_code 11 = .ok (.lconst 1, 1) := by decide +kernel
theorem d_LW_passes_12 : decode method_15_code 12 = .ok (.goto 4, 3) := by decide +kernel
theorem d_LW_passes_15 : decode method_15_code 15 = .ok (.lconst 0, 1) := by decide +kernel
theorem d_LW_passes_16 : decode method_15_code 16 = .ok (.lastore, 1) := by decide +kernel
theorem d_LW_passes_17 : decode method_15_code 17 = .ok (.goto 7, 3) := by decide +kernel
theorem d_LW_passes_20 : decode method_15_code 20 = .ok (.astore 4, 2) := by decide +kernel
theorem d_LW_passes_22 : decode method_15_code 22 = .ok (.iconst 1, 1) := by decide +kernel
theorem d_LW_passes_23 : decode method_15_code 23 = .ok (.ireturn, 1) := by decide +kernel
theorem d_LW_passes_24 : decode method_15_code 24 = .ok (.iconst 0, 1) := by decide +kernel
theorem d_LW_passes_25 : decode method_15_code 25 = .ok (.ireturn, 1) := by decide +kernel
theorem d_LW_way_0 : decode method_16_code 0 = .ok (.aload_n 3, 1) := by decide +kernel
theorem d_LW_way_1 : decode method_16_code 1 = .ok (.iconst 0, 1) := by decide +kernel
theorem d_LW_way_2 : decode method_16_code 2 = .ok (.aload_n 0, 1) := by decide +kernel
theorem d_LW_way_3 : decode method_16_code 3 = .ok (.iload_n 1, 1) := by decide +kernel
theorem d_LW_way_4 : decode method_16_code 4 = .ok (.iload_n 2, 1) := by decide +kernel
theorem d_LW_way_5 : decode method_16_code 5 = .ok (.invokevirtual 62, 3) := by decide +kernel
theorem d_LW_way_8 : decode method_16_code 8 = .ok (.i2l, 1) := by decide +kernel
theorem d_LW_way_9 : decode method_16_code 9 = .ok (.lastore, 1) := by decide +kernel
theorem d_LW_way_10 : decode method_16_code 10 = .ok (.goto 7, 3) := by decide +kernel
theorem d_LW_way_13 : decode method_16_code 13 = .ok (.astore 4, 2) := by decide +kernel
theorem d_LW_way_15 : decode method_16_code 15 = .ok (.iconst 1, 1) := by decide +kernel
theorem d_LW_way_16 : decode method_16_code 16 = .ok (.ireturn, 1) := by decide +kernel
theorem d_LW_way_17 : decode method_16_code 17 = .ok (.iconst 0, 1) := by decide +kernel
theorem d_LW_way_18 : decode method_16_code 18 = .ok (.ireturn, 1) := by decide +kernel
theorem d_LW_planned_0 : decode method_17_code 0 = .ok (.aload 5, 2) := by decide +kernel
theorem d_LW_planned_2 : decode method_17_code 2 = .ok (.iconst 0, 1) := by decide +kernel
theorem d_LW_planned_3 : decode method_17_code 3 = .ok (.aload_n 0, 1) := by decide +kernel
theorem d_LW_planned_4 : decode method_17_code 4 = .ok (.iload_n 1, 1) := by decide +kernel
theorem d_LW_planned_5 : decode method_17_code 5 = .ok (.iload_n 2, 1) := by decide +kernel
theorem d_LW_planned_6 : decode method_17_code 6 = .ok (.iload_n 3, 1) := by decide +kernel
theorem d_LW_planned_7 : decode method_17_code 7 = .ok (.iload 4, 2) := by decide +kernel
theorem d_LW_planned_9 : decode method_17_code 9 = .ok (.invokevirtual 65, 3) := by decide +kernel
theorem d_LW_planned_12 : decode method_17_code 12 = .ok (.i2l, 1) := by decide +kernel
theorem d_LW_planned_13 : decode method_17_code 13 = .ok (.lastore, 1) := by decide +kernel
theorem d_LW_planned_14 : decode method_17_code 14 = .ok (.goto 15, 3) := by decide +kernel
theorem d_LW_planned_17 : decode method_17_code 17 = .ok (.astore 6, 2) := by decide +kernel
theorem d_LW_planned_19 : decode method_17_code 19 = .ok (.iconst 1, 1) := by decide +kernel
theorem d_LW_planned_20 : decode method_17_code 20 = .ok (.ireturn, 1) := by decide +kernel
theorem d_LW_planned_21 : decode method_17_code 21 = .ok (.astore 6, 2) := by decide +kernel
theorem d_LW_planned_23 : decode method_17_code 23 = .ok (.iconst 2, 1) := by decide +kernel
theorem d_LW_planned_24 : decode method_17_code 24 = .ok (.ireturn, 1) := by decide +kernel
theorem d_LW_planned_25 : decode method_17_code 25 = .ok (.astore 6, 2) := by decide +kernel
theorem d_LW_planned_27 : decode method_17_code 27 = .ok (.iconst 3, 1) := by decide +kernel
theorem d_LW_planned_28 : decode method_17_code 28 = .ok (.ireturn, 1) := by decide +kernel
theorem d_LW_planned_29 : decode method_17_code 29 = .ok (.iconst 0, 1) := by decide +kernel
theorem d_LW_planned_30 : decode method_17_code 30 = .ok (.ireturn, 1) := by decide +kernel
theorem d_LW_used_0 : decode method_18_code 0 = .ok (.aload_n 3, 1) := by decide +kernel
theorem d_LW_used_1 : decode method_18_code 1 = .ok (.iconst 0, 1) := by decide +kernel
theorem d_LW_used_2 : decode method_18_code 2 = .ok (.aload_n 0, 1) := by decide +kernel
theorem d_LW_used_3 : decode method_18_code 3 = .ok (.iload_n 1, 1) := by decide +kernel
theorem d_LW_used_4 : decode method_18_code 4 = .ok (.iload_n 2, 1) := by decide +kernel
theorem d_LW_used_5 : decode method_18_code 5 = .ok (.invokevirtual 68, 3) := by decide +kernel
theorem d_LW_used_8 : decode method_18_code 8 = .ok (.i2l, 1) := by decide +kernel
theorem d_LW_used_9 : decode method_18_code 9 = .ok (.lastore, 1) := by decide +kernel
theorem d_LW_used_10 : decode method_18_code 10 = .ok (.goto 7, 3) := by decide +kernel
theorem d_LW_used_13 : decode method_18_code 13 = .ok (.astore 4, 2) := by decide +kernel
theorem d_LW_used_15 : decode method_18_code 15 = .ok (.iconst 1, 1) := by decide +kernel
theorem d_LW_used_16 : decode method_18_code 16 = .ok (.ireturn, 1) := by decide +kernel
theorem d_LW_used_17 : decode method_18_code 17 = .ok (.iconst 0, 1) := by decide +kernel
theorem d_LW_used_18 : decode method_18_code 18 = .ok (.ireturn, 1) := by decide +kernel
theorem d_LW_quiet_0 : decode method_19_code 0 = .ok (.aload_n 0, 1) := by decide +kernel
theorem d_LW_quiet_1 : decode method_19_code 1 = .ok (.iload_n 1, 1) := by decide +kernel
theorem d_LW_quiet_2 : decode method_19_code 2 = .ok (.iload_n 2, 1) := by decide +kernel
theorem d_LW_quiet_3 : decode method_19_code 3 = .ok (.iload_n 3, 1) := by decide +kernel
theorem d_LW_quiet_4 : decode method_19_code 4 = .ok (.invokevirtual 71, 3) := by decide +kernel
theorem d_LW_quiet_7 : decode method_19_code 7 = .ok (.goto 15, 3) := by decide +kernel
theorem d_LW_quiet_10 : decode method_19_code 10 = .ok (.astore 4, 2) := by decide +kernel
theorem d_LW_quiet_12 : decode method_19_code 12 = .ok (.iconst 1, 1) := by decide +kernel
theorem d_LW_quiet_13 : decode method_19_code 13 = .ok (.ireturn, 1) := by decide +kernel
theorem d_LW_quiet_14 : decode method_19_code 14 = .ok (.astore 4, 2) := by decide +kernel
theorem d_LW_quiet_16 : decode method_19_code 16 = .ok (.iconst 2, 1) := by decide +kernel
theorem d_LW_quiet_17 : decode method_19_code 17 = .ok (.ireturn, 1) := by decide +kernel
theorem d_LW_quiet_18 : decode method_19_code 18 = .ok (.astore 4, 2) := by decide +kernel
theorem d_LW_quiet_20 : decode method_19_code 20 = .ok (.iconst 3, 1) := by decide +kernel
theorem d_LW_quiet_21 : decode method_19_code 21 = .ok (.ireturn, 1) := by decide +kernel
theorem d_LW_quiet_22 : decode method_19_code 22 = .ok (.iconst 0, 1) := by decide +kernel
theorem d_LW_quiet_23 : decode method_19_code 23 = .ok (.ireturn, 1) := by decide +kernel
theorem d_LW_count_0 : decode method_20_code 0 = .ok (.aload_n 2, 1) := by decide +kernel
theorem d_LW_count_1 : decode method_20_code 1 = .ok (.iconst 0, 1) := by decide +kernel
theorem d_LW_count_2 : decode method_20_code 2 = .ok (.aload_n 0, 1) := by decide +kernel
theorem d_LW_count_3 : decode method_20_code 3 = .ok (.iload_n 1, 1) := by decide +kernel
theorem d_LW_count_4 : decode method_20_code 4 = .ok (.invokevirtual 75, 3) := by decide +kernel
theorem d_LW_count_7 : decode method_20_code 7 = .ok (.i2l, 1) := by decide +kernel
theorem d_LW_count_8 : decode method_20_code 8 = .ok (.lastore, 1) := by decide +kernel
theorem d_LW_count_9 : decode method_20_code 9 = .ok (.goto 6, 3) := by decide +kernel
theorem d_LW_count_12 : decode method_20_code 12 = .ok (.astore_n 3, 1) := by decide +kernel
theorem d_LW_count_13 : decode method_20_code 13 = .ok (.iconst 1, 1) := by decide +kernel
theorem d_LW_count_14 : decode method_20_code 14 = .ok (.ireturn, 1) := by decide +kernel
theorem d_LW_count_15 : decode method_20_code 15 = .ok (.iconst 0, 1) := by decide +kernel
theorem d_LW_count_16 : decode method_20_code 16 = .ok (.ireturn, 1) := by decide +kernel

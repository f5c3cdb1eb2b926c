theorem d_PM_init_0 : decode prog_1_method_1_code 0 = .ok (.aload_n 0, 1) := by decide +kernel
theorem d_PM_init_1 : decode prog_1_method_1_code 1 = .ok (.invokespecial 1, 3) := by decide +kernel
theorem d_PM_init_4 : decode prog_1_method_1_code 4 = .ok (.aload_n 0, 1) := by decide +kernel
theorem d_PM_init_5 : decode prog_1_method_1_code 5 = .ok (.new 7, 3) := by decide +kernel
theorem d_PM_init_8 : decode prog_1_method_1_code 8 = .ok (.dup, 1) := by decide +kernel
theorem d_PM_init_9 : decode prog_1_method_1_code 9 = .ok (.invokespecial 9, 3) := by decide +kernel
theorem d_PM_init_12 : decode prog_1_method_1_code 12 = .ok (.putfield 10, 3) := by decide +kernel
theorem d_PM_init_15 : decode prog_1_method_1_code 15 = .ok (.aload_n 0, 1) := by decide +kernel
theorem d_PM_init_16 : decode prog_1_method_1_code 16 = .ok (.new 16, 3) := by decide +kernel
theorem d_PM_init_19 : decode prog_1_method_1_code 19 = .ok (.dup, 1) := by decide +kernel
theorem d_PM_init_20 : decode prog_1_method_1_code 20 = .ok (.invokespecial 18, 3) := by decide +kernel
theorem d_PM_init_23 : decode prog_1_method_1_code 23 = .ok (.putfield 19, 3) := by decide +kernel
theorem d_PM_init_26 : decode prog_1_method_1_code 26 = .ok (.aload_n 0, 1) := by decide +kernel
theorem d_PM_init_27 : decode prog_1_method_1_code 27 = .ok (.new 23, 3) := by decide +kernel
theorem d_PM_init_30 : decode prog_1_method_1_code 30 = .ok (.dup, 1) := by decide +kernel
theorem d_PM_init_31 : decode prog_1_method_1_code 31 = .ok (.invokespecial 25, 3) := by decide +kernel
theorem d_PM_init_34 : decode prog_1_method_1_code 34 = .ok (.putfield 26, 3) := by decide +kernel
theorem d_PM_init_37 : decode prog_1_method_1_code 37 = .ok (.aload_n 0, 1) := by decide +kernel
theorem d_PM_init_38 : decode prog_1_method_1_code 38 = .ok (.new 30, 3) := by decide +kernel
theorem d_PM_init_41 : decode prog_1_method_1_code 41 = .ok (.dup, 1) := by decide +kernel
theorem d_PM_init_42 : decode prog_1_method_1_code 42 = .ok (.invokespecial 32, 3) := by decide +kernel
theorem d_PM_init_45 : decode prog_1_method_1_code 45 = .ok (.putfield 33, 3) := by decide +kernel
theorem d_PM_init_48 : decode prog_1_method_1_code 48 = .ok (.aload_n 0, 1) := by decide +kernel
theorem d_PM_init_49 : decode prog_1_method_1_code 49 = .ok (.new 37, 3) := by decide +kernel
theorem d_PM_init_52 : decode prog_1_method_1_code 52 = .ok (.dup, 1) := by decide +kernel
theorem d_PM_init_53 : decode prog_1_method_1_code 53 = .ok (.invokespecial 39, 3) := by decide +kernel
theorem d_PM_init_56 : decode prog_1_method_1_code 56 = .ok (.putfield 40, 3) := by decide +kernel
theorem d_PM_init_59 : decode prog_1_method_1_code 59 = .ok (.aload_n 0, 1) := by decide +kernel
theorem d_PM_init_60 : decode prog_1_method_1_code 60 = .ok (.new 44, 3) := by decide +kernel
theorem d_PM_init_63 : decode prog_1_method_1_code 63 = .ok (.dup, 1) := by decide +kernel
theorem d_PM_init_64 : decode prog_1_method_1_code 64 = .ok (.invokespecial 46, 3) := by decide +kernel
theorem d_PM_init_67 : decode prog_1_method_1_code 67 = .ok (.putfield 47, 3) := by decide +kernel
theorem d_PM_init_70 : decode prog_1_method_1_code 70 = .ok (.aload_n 0, 1) := by decide +kernel
theorem d_PM_init_71 : decode prog_1_method_1_code 71 = .ok (.bipush 10, 2) := by decide +kernel
theorem d_PM_init_73 : decode prog_1_method_1_code 73 = .ok (.newarray .boolean, 2) := by decide +kernel
theorem d_PM_init_75 : decode prog_1_method_1_code 75 = .ok (.putfield 51, 3) := by decide +kernel
theorem d_PM_init_78 : decode prog_1_method_1_code 78 = .ok (.aload_n 0, 1) := by decide +kernel
theorem d_PM_init_79 : decode prog_1_method_1_code 79 = .ok (.bipush 20, 2) := by decide +kernel
theorem d_PM_init_81 : decode prog_1_method_1_code 81 = .ok (.newarray .int, 2) := by decide +kernel
theorem d_PM_init_83 : decode prog_1_method_1_code 83 = .ok (.putfield 55, 3) := by decide +kernel
theorem d_PM_init_86 : decode prog_1_method_1_code 86 = .ok (.aload_n 0, 1) := by decide +kernel
theorem d_PM_init_87 : decode prog_1_method_1_code 87 = .ok (.iconst 0, 1) := by decide +kernel
theorem d_PM_init_88 : decode prog_1_method_1_code 88 = .ok (.putfield 59, 3) := by decide +kernel
theorem d_PM_init_91 : decode prog_1_method_1_code 91 = .ok (.return_, 1) := by decide +kernel
theorem d_PM_place_0 : decode prog_1_method_2_code 0 = .ok (.iload_n 1, 1) := by decide +kernel
theorem d_PM_place_1 : decode prog_1_method_2_code 1 = .ok (.iconst (-1), 1) := by decide +kernel
theorem d_PM_place_2 : decode prog_1_method_2_code 2 = .ok (.if_icmp .eq 8, 3) := by decide +kernel
theorem d_PM_place_5 : decode prog_1_method_2_code 5 = .ok (.aload_n 0, 1) := by decide +kernel
theorem d_PM_place_6 : decode prog_1_method_2_code 6 = .ok (.iload_n 1, 1) := by decide +kernel
theorem d_PM_place_7 : decode prog_1_method_2_code 7 = .ok (.invokevirtual 63, 3) := by decide +kernel
theorem d_PM_place_10 : decode prog_1_method_2_code 10 = .ok (.iload_n 2, 1) := by decide +kernel
theorem d_PM_place_11 : decode prog_1_method_2_code 11 = .ok (.iconst 1, 1) := by decide +kernel
theorem d_PM_place_12 : decode prog_1_method_2_code 12 = .ok (.ldc 67, 2) := by decide +kernel
theorem d_PM_place_14 : decode prog_1_method_2_code 14 = .ok (.invokestatic 68, 3) := by decide +kernel
theorem d_PM_place_17 : decode prog_1_method_2_code 17 = .ok (.aload_n 0, 1) := by decide +kernel
theorem d_PM_place_18 : decode prog_1_method_2_code 18 = .ok (.getfield 10, 3) := by decide +kernel
theorem d_PM_place_21 : decode prog_1_method_2_code 21 = .ok (.getfield 72, 3) := by decide +kernel
theorem d_PM_place_24 : decode prog_1_method_2_code 24 = .ok (.bipush 24, 2) := by decide +kernel
theorem d_PM_place_26 : decode prog_1_method_2_code 26 = .ok (.invokestatic 75, 3) := by decide +kernel
theorem d_PM_place_29 : decode prog_1_method_2_code 29 = .ok (.aload_n 0, 1) := by decide +kernel
theorem d_PM_place_30 : decode prog_1_method_2_code 30 = .ok (.getfield 10, 3) := by decide +kernel
theorem d_PM_place_33 : decode prog_1_method_2_code 33 = .ok (.iload_n 1, 1) := by decide +kernel
theorem d_PM_place_34 : decode prog_1_method_2_code 34 = .ok (.iload_n 2, 1) := by decide +kernel
theorem d_PM_place_35 : decode prog_1_method_2_code 35 = .ok (.invokevirtual 79, 3) := by decide +kernel
theorem d_PM_place_38 : decode prog_1_method_2_code 38 = .ok (.ireturn, 1) := by decide +kernel
theorem d_PM_object_0 : decode prog_1_method_3_code 0 = .ok (.iload_n 1, 1) := by decide +kernel
theorem d_PM_object_1 : decode prog_1_method_3_code 1 = .ok (.iconst 1, 1) := by decide +kernel
theorem d_PM_object_2 : decode prog_1_method_3_code 2 = .ok (.sipush 10000, 3) := by decide +kernel
theorem d_PM_object_5 : decode prog_1_method_3_code 5 = .ok (.invokestatic 68, 3) := by decide +kernel
theorem d_PM_object_8 : decode prog_1_method_3_code 8 = .ok (.iload_n 2, 1) := by decide +kernel
theorem d_PM_object_9 : decode prog_1_method_3_code 9 = .ok (.iconst 1, 1) := by decide +kernel
theorem d_PM_object_10 : decode prog_1_method_3_code 10 = .ok (.sipush 10000, 3) := by decide +kernel
theorem d_PM_object_13 : decode prog_1_method_3_code 13 = .ok (.invokestatic 68, 3) := by decide +kernel
theorem d_PM_object_16 : decode prog_1_method_3_code 16 = .ok (.iload_n 3, 1) := by decide +kernel
theorem d_PM_object_17 : decode prog_1_method_3_code 17 = .ok (.iconst 1, 1) := by decide +kernel
theorem d_PM_object_18 : decode prog_1_method_3_code 18 = .ok (.sipush 10000, 3) := by decide +kernel
theorem d_PM_object_21 : decode prog_1_method_3_code 21 = .ok (.invokestatic 68, 3) := by decide +kernel
theorem d_PM_object_24 : decode prog_1_method_3_code 24 = .ok (.iload 4, 2) := by decide +kernel
theorem d_PM_object_26 : decode prog_1_method_3_code 26 = .ok (.iconst 1, 1) := by decide +kernel
theorem d_PM_object_27 : decode prog_1_method_3_code 27 = .ok (.ldc 83, 2) := by decide +kernel
theorem d_PM_object_29 : decode prog_1_method_3_code 29 = .ok (.invokestatic 68, 3) := by decide +kernel
theorem d_PM_object_32 : decode prog_1_method_3_code 32 = .ok (.aload_n 0, 1) := by decide +kernel
theorem d_PM_object_33 : decode prog_1_method_3_code 33 = .ok (.getfield 19, 3) := by decide +kernel
theorem d_PM_object_36 : decode prog_1_method_3_code 36 = .ok (.getfield 84, 3) := by decide +kernel
theorem d_PM_object_39 : decode prog_1_method_3_code 39 = .ok (.bipush 20, 2) := by decide +kernel
theorem d_PM_object_41 : decode prog_1_method_3_code 41 = .ok (.invokestatic 75, 3) := by decide +kernel
theorem d_PM_object_44 : decode prog_1_method_3_code 44 = .ok (.aload_n 0, 1) := by decide +kernel
theorem d_PM_object_45 : decode prog_1_method_3_code 45 = .ok (.getfield 19, 3) := by decide +kernel
theorem d_PM_object_48 : decode prog_1_method_3_code 48 = .ok (.iload_n 1, 1) := by decide +kernel
theorem d_PM_object_49 : decode prog_1_method_3_code 49 = .ok (.iload_n 2, 1) := by decide +kernel
theorem d_PM_object_50 : decode prog_1_method_3_code 50 = .ok (.iload_n 3, 1) := by decide +kernel
theorem d_PM_object_51 : decode prog_1_method_3_code 51 = .ok (.iload 4, 2) := by decide +kernel
theorem d_PM_object_53 : decode prog_1_method_3_code 53 = .ok (.invokevirtual 85, 3) := by decide +kernel
theorem d_PM_object_56 : decode prog_1_method_3_code 56 = .ok (.ireturn, 1) := by decide +kernel
theorem d_PM_keys_0 : decode prog_1_method_4_code 0 = .ok (.aload_n 0, 1) := by decide +kernel
theorem d_PM_keys_1 : decode prog_1_method_4_code 1 = .ok (.iload_n 1, 1) := by decide +kernel
theorem d_PM_keys_2 : decode prog_1_method_4_code 2 = .ok (.invokevirtual 88, 3) := by decide +kernel
theorem d_PM_keys_5 : decode prog_1_method_4_code 5 = .ok (.iload_n 2, 1) := by decide +kernel
theorem d_PM_keys_6 : decode prog_1_method_4_code 6 = .ok (.iconst 0, 1) := by decide +kernel
theorem d_PM_keys_7 : decode prog_1_method_4_code 7 = .ok (.iconst 2, 1) := by decide +kernel
theorem d_PM_keys_8 : decode prog_1_method_4_code 8 = .ok (.invokestatic 68, 3) := by decide +kernel
theorem d_PM_keys_11 : decode prog_1_method_4_code 11 = .ok (.aload_n 0, 1) := by decide +kernel
theorem d_PM_keys_12 : decode prog_1_method_4_code 12 = .ok (.getfield 19, 3) := by decide +kernel
theorem d_PM_keys_15 : decode prog_1_method_4_code 15 = .ok (.getfield 91, 3) := by decide +kernel
theorem d_PM_keys_18 : decode prog_1_method_4_code 18 = .ok (.iload_n 1, 1) := by decide +kernel
theorem d_PM_keys_19 : decode prog_1_method_4_code 19 = .ok (.iaload, 1) := by decide +kernel
theorem d_PM_keys_20 : decode prog_1_method_4_code 20 = .ok (.istore_n 3, 1) := by decide +kernel
theorem d_PM_keys_21 : decode prog_1_method_4_code 21 = .ok (.aload_n 0, 1) := by decide +kernel
theorem d_PM_keys_22 : decode prog_1_method_4_code 22 = .ok (.getfield 19, 3) := by decide +kernel
theorem d_PM_keys_25 : decode prog_1_method_4_code 25 = .ok (.getfield 91, 3) := by decide +kernel
theorem d_PM_keys_28 : decode prog_1_method_4_code 28 = .ok (.iload_n 1, 1) := by decide +kernel
theorem d_PM_keys_29 : decode prog_1_method_4_code 29 = .ok (.iload_n 2, 1) := by decide +kernel
theorem d_PM_keys_30 : decode prog_1_method_4_code 30 = .ok (.iastore, 1) := by decide +kernel
theorem d_PM_keys_31 : decode prog_1_method_4_code 31 = .ok (.iload_n 3, 1) := by decide +kernel
theorem d_PM_keys_32 : decode prog_1_method_4_code 32 = .ok (.ireturn, 1) := by decide +kernel
theorem d_PM_key_0 : decode prog_1_method_5_code 0 = .ok (.aload_n 0, 1) := by decide +kernel
theorem d_PM_key_1 : decode prog_1_method_5_code 1 = .ok (.iload_n 1, 1) := by decide +kernel
theorem d_PM_key_2 : decode prog_1_method_5_code 2 = .ok (.invokevirtual 94, 3) := by decide +kernel
theorem d_PM_key_5 : decode prog_1_method_5_code 5 = .ok (.aload_n 0, 1) := by decide +kernel
theorem d_PM_key_6 : decode prog_1_method_5_code 6 = .ok (.getfield 51, 3) := by decide +kernel
theorem d_PM_key_9 : decode prog_1_method_5_code 9 = .ok (.iload_n 1, 1) := by decide +kernel
theorem d_PM_key_10 : decode prog_1_method_5_code 10 = .ok (.baload, 1) := by decide +kernel
theorem d_PM_key_11 : decode prog_1_method_5_code 11 = .ok (.iload_n 2, 1) := by decide +kernel
theorem d_PM_key_12 : decode prog_1_method_5_code 12 = .ok (.if_icmp .eq 7, 3) := by decide +kernel
theorem d_PM_key_15 : decode prog_1_method_5_code 15 = .ok (.iconst 1, 1) := by decide +kernel
theorem d_PM_key_16 : decode prog_1_method_5_code 16 = .ok (.goto 4, 3) := by decide +kernel
theorem d_PM_key_19 : decode prog_1_method_5_code 19 = .ok (.iconst 0, 1) := by decide +kernel
theorem d_PM_key_20 : decode prog_1_method_5_code 20 = .ok (.istore_n 3, 1) := by decide +kernel
theorem d_PM_key_21 : decode prog_1_method_5_code 21 = .ok (.aload_n 0, 1) := by decide +kernel
theorem d_PM_key_22 : decode prog_1_method_5_code 22 = .ok (.getfield 51, 3) := by decide +kernel
theorem d_PM_key_25 : decode prog_1_method_5_code 25 = .ok (.iload_n 1, 1) := by decide +kernel
theorem d_PM_key_26 : decode prog_1_method_5_code 26 = .ok (.iload_n 2, 1) := by decide +kernel
theorem d_PM_key_27 : decode prog_1_method_5_code 27 = .ok (.bastore, 1) := by decide +kernel
theorem d_PM_key_28 : decode prog_1_method_5_code 28 = .ok (.iload_n 3, 1) := by decide +kernel
theorem d_PM_key_29 : decode prog_1_method_5_code 29 = .ok (.ireturn, 1) := by decide +kernel
theorem d_PM_box_0 : decode prog_1_method_6_code 0 = .ok (.aload_n 0, 1) := by decide +kernel
theorem d_PM_box_1 : decode prog_1_method_6_code 1 = .ok (.iload_n 1, 1) := by decide +kernel
theorem d_PM_box_2 : decode prog_1_method_6_code 2 = .ok (.invokevirtual 88, 3) := by decide +kernel
theorem d_PM_box_5 : decode prog_1_method_6_code 5 = .ok (.aload_n 0, 1) := by decide +kernel
theorem d_PM_box_6 : decode prog_1_method_6_code 6 = .ok (.getfield 19, 3) := by decide +kernel
theorem d_PM_box_9 : decode prog_1_method_6_code 9 = .ok (.getfield 97, 3) := by decide +kernel
theorem d_PM_box_12 : decode prog_1_method_6_code 12 = .ok (.iload_n 1, 1) := by decide +kernel
theorem d_PM_box_13 : decode prog_1_method_6_code 13 = .ok (.baload, 1) := by decide +kernel
theorem d_PM_box_14 : decode prog_1_method_6_code 14 = .ok (.ifCond .ne 7, 3) := by decide +kernel
theorem d_PM_box_17 : decode prog_1_method_6_code 17 = .ok (.iconst 1, 1) := by decide +kernel
theorem d_PM_box_18 : decode prog_1_method_6_code 18 = .ok (.goto 4, 3) := by decide +kernel
theorem d_PM_box_21 : decode prog_1_method_6_code 21 = .ok (.iconst 0, 1) := by decide +kernel
theorem d_PM_box_22 : decode prog_1_method_6_code 22 = .ok (.istore_n 2, 1) := by decide +kernel
theorem d_PM_box_23 : decode prog_1_method_6_code 23 = .ok (.aload_n 0, 1) := by decide +kernel
theorem d_PM_box_24 : decode prog_1_method_6_code 24 = .ok (.getfield 19, 3) := by decide +kernel
theorem d_PM_box_27 : decode prog_1_method_6_code 27 = .ok (.getfield 97, 3) := by decide +kernel
theorem d_PM_box_30 : decode prog_1_method_6_code 30 = .ok (.iload_n 1, 1) := by decide +kernel
theorem d_PM_box_31 : decode prog_1_method_6_code 31 = .ok (.iconst 1, 1) := by decide +kernel
theorem d_PM_box_32 : decode prog_1_method_6_code 32 = .ok (.bastore, 1) := by decide +kernel
theorem d_PM_box_33 : decode prog_1_method_6_code 33 = .ok (.iload_n 2, 1) := by decide +kernel
theorem d_PM_box_34 : decode prog_1_method_6_code 34 = .ok (.ireturn, 1) := by decide +kernel
theorem d_PM_move_0 : decode prog_1_method_7_code 0 = .ok (.aload_n 0, 1) := by decide +kernel
theorem d_PM_move_1 : decode prog_1_method_7_code 1 = .ok (.iload_n 1, 1) := by decide +kernel
theorem d_PM_move_2 : decode prog_1_method_7_code 2 = .ok (.invokevirtual 88, 3) := by decide +kernel
theorem d_PM_move_5 : decode prog_1_method_7_code 5 = .ok (.aload_n 0, 1) := by decide +kernel
theorem d_PM_move_6 : decode prog_1_method_7_code 6 = .ok (.iload_n 2, 1) := by decide +kernel
theorem d_PM_move_7 : decode prog_1_method_7_code 7 = .ok (.invokevirtual 63, 3) := by decide +kernel
theorem d_PM_move_10 : decode prog_1_method_7_code 10 = .ok (.aload_n 0, 1) := by decide +kernel
theorem d_PM_move_11 : decode prog_1_method_7_code 11 = .ok (.iload 4, 2) := by decide +kernel
theorem d_PM_move_13 : decode prog_1_method_7_code 13 = .ok (.invokevirtual 94, 3) := by decide +kernel
theorem d_PM_move_16 : decode prog_1_method_7_code 16 = .ok (.aload_n 0, 1) := by decide +kernel
theorem d_PM_move_17 : decode prog_1_method_7_code 17 = .ok (.iload 5, 2) := by decide +kernel
theorem d_PM_move_19 : decode prog_1_method_7_code 19 = .ok (.invokevirtual 94, 3) := by decide +kernel
theorem d_PM_move_22 : decode prog_1_method_7_code 22 = .ok (.iload_n 3, 1) := by decide +kernel
theorem d_PM_move_23 : decode prog_1_method_7_code 23 = .ok (.aload_n 0, 1) := by decide +kernel
theorem d_PM_move_24 : decode prog_1_method_7_code 24 = .ok (.getfield 59, 3) := by decide +kernel
theorem d_PM_move_27 : decode prog_1_method_7_code 27 = .ok (.ldc 83, 2) := by decide +kernel
theorem d_PM_move_29 : decode prog_1_method_7_code 29 = .ok (.invokestatic 68, 3) := by decide +kernel
theorem d_PM_move_32 : decode prog_1_method_7_code 32 = .ok (.aload_n 0, 1) := by decide +kernel
theorem d_PM_move_33 : decode prog_1_method_7_code 33 = .ok (.getfield 26, 3) := by decide +kernel
theorem d_PM_move_36 : decode prog_1_method_7_code 36 = .ok (.getfield 100, 3) := by decide +kernel
theorem d_PM_move_39 : decode prog_1_method_7_code 39 = .ok (.iload_n 1, 1) := by decide +kernel
theorem d_PM_move_40 : decode prog_1_method_7_code 40 = .ok (.iaload, 1) := by decide +kernel
theorem d_PM_move_41 : decode prog_1_method_7_code 41 = .ok (.bipush 40, 2) := by decide +kernel
theorem d_PM_move_43 : decode prog_1_method_7_code 43 = .ok (.invokestatic 75, 3) := by decide +kernel
theorem d_PM_move_46 : decode prog_1_method_7_code 46 = .ok (.aload_n 0, 1) := by decide +kernel
theorem d_PM_move_47 : decode prog_1_method_7_code 47 = .ok (.iload_n 1, 1) := by decide +kernel
theorem d_PM_move_48 : decode prog_1_method_7_code 48 = .ok (.iload 4, 2) := by decide +kernel
theorem d_PM_move_50 : decode prog_1_method_7_code 50 = .ok (.iload 5, 2) := by decide +kernel
theorem d_PM_move_52 : decode prog_1_method_7_code 52 = .ok (.invokevirtual 102, 3) := by decide +kernel
theorem d_PM_move_55 : decode prog_1_method_7_code 55 = .ok (.aload_n 0, 1) := by decide +kernel
theorem d_PM_move_56 : decode prog_1_method_7_code 56 = .ok (.aload_n 0, 1) := by decide +kernel
theorem d_PM_move_57 : decode prog_1_method_7_code 57 = .ok (.iload_n 1, 1) := by decide +kernel
theorem d_PM_move_58 : decode prog_1_method_7_code 58 = .ok (.iload_n 3, 1) := by decide +kernel
theorem d_PM_move_59 : decode prog_1_method_7_code 59 = .ok (.invokevirtual 105, 3) := by decide +kernel
theorem d_PM_move_62 : decode prog_1_method_7_code 62 = .ok (.iload_n 2, 1) := by decide +kernel
theorem d_PM_move_63 : decode prog_1_method_7_code 63 = .ok (.iload_n 3, 1) := by decide +kernel
theorem d_PM_move_64 : decode prog_1_method_7_code 64 = .ok (.invokevirtual 108, 3) := by decide +kernel
theorem d_PM_move_67 : decode prog_1_method_7_code 67 = .ok (.ifCond .eq 5, 3) := by decide +kernel
theorem d_PM_move_70 : decode prog_1_method_7_code 70 = .ok (.iconst 1, 1) := by decide +kernel
theorem d_PM_move_71 : decode prog_1_method_7_code 71 = .ok (.ireturn, 1) := by decide +kernel
theorem d_PM_move_72 : decode prog_1_method_7_code 72 = .ok (.aload_n 0, 1) := by decide +kernel
theorem d_PM_move_73 : decode prog_1_method_7_code 73 = .ok (.iload_n 1, 1) := by decide +kernel
theorem d_PM_move_74 : decode prog_1_method_7_code 74 = .ok (.iload_n 3, 1) := by decide +kernel
theorem d_PM_move_75 : decode prog_1_method_7_code 75 = .ok (.iconst 0, 1) := by decide +kernel
theorem d_PM_move_76 : decode prog_1_method_7_code 76 = .ok (.iload_n 2, 1) := by decide +kernel
theorem d_PM_move_77 : decode prog_1_method_7_code 77 = .ok (.invokevirtual 112, 3) := by decide +kernel
theorem d_PM_move_80 : decode prog_1_method_7_code 80 = .ok (.ifCond .eq 7, 3) := by decide +kernel
theorem d_PM_move_83 : decode prog_1_method_7_code 83 = .ok (.iconst 0, 1) := by decide +kernel
theorem d_PM_move_84 : decode prog_1_method_7_code 84 = .ok (.goto 4, 3) := by decide +kernel
theorem d_PM_move_87 : decode prog_1_method_7_code 87 = .ok (.iconst 2, 1) := by decide +kernel
theorem d_PM_move_88 : decode prog_1_method_7_code 88 = .ok (.ireturn, 1) := by decide +kernel
theorem d_PM_into_0 : decode prog_1_method_8_code 0 = .ok (.aload_n 0, 1) := by decide +kernel
theorem d_PM_into_1 : decode prog_1_method_8_code 1 = .ok (.iload_n 1, 1) := by decide +kernel
theorem d_PM_into_2 : decode prog_1_method_8_code 2 = .ok (.invokevirtual 88, 3) := by decide +kernel
theorem d_PM_into_5 : decode prog_1_method_8_code 5 = .ok (.aload_n 0, 1) := by decide +kernel
theorem d_PM_into_6 : decode prog_1_method_8_code 6 = .ok (.iload_n 2, 1) := by decide +kernel
theorem d_PM_into_7 : decode prog_1_method_8_code 7 = .ok (.invokevirtual 88, 3) := by decide +kernel
theorem d_PM_into_10 : decode prog_1_method_8_code 10 = .ok (.iload_n 3, 1) := by decide +kernel
theorem d_PM_into_11 : decode prog_1_method_8_code 11 = .ok (.aload_n 0, 1) := by decide +kernel
theorem d_PM_into_12 : decode prog_1_method_8_code 12 = .ok (.getfield 59, 3) := by decide +kernel
theorem d_PM_into_15 : decode prog_1_method_8_code 15 = .ok (.ldc 83, 2) := by decide +kernel
theorem d_PM_into_17 : decode prog_1_method_8_code 17 = .ok (.invokestatic 68, 3) := by decide +kernel
theorem d_PM_into_20 : decode prog_1_method_8_code 20 = .ok (.aload_n 0, 1) := by decide +kernel
theorem d_PM_into_21 : decode prog_1_method_8_code 21 = .ok (.getfield 26, 3) := by decide +kernel
theorem d_PM_into_24 : decode prog_1_method_8_code 24 = .ok (.getfield 100, 3) := by decide +kernel
theorem d_PM_into_27 : decode prog_1_method_8_code 27 = .ok (.iload_n 1, 1) := by decide +kernel
theorem d_PM_into_28 : decode prog_1_method_8_code 28 = .ok (.iaload, 1) := by decide +kernel
theorem d_PM_into_29 : decode prog_1_method_8_code 29 = .ok (.bipush 40, 2) := by decide +kernel
theorem d_PM_into_31 : decode prog_1_method_8_code 31 = .ok (.invokestatic 75, 3) := by decide +kernel
theorem d_PM_into_34 : decode prog_1_method_8_code 34 = .ok (.aload_n 0, 1) := by decide +kernel
theorem d_PM_into_35 : decode prog_1_method_8_code 35 = .ok (.getfield 19, 3) := by decide +kernel
theorem d_PM_into_38 : decode prog_1_method_8_code 38 = .ok (.getfield 97, 3) := by decide +kernel
theorem d_PM_into_41 : decode prog_1_method_8_code 41 = .ok (.iload_n 2, 1) := by decide +kernel
theorem d_PM_into_42 : decode prog_1_method_8_code 42 = .ok (.baload, 1) := by decide +kernel
theorem d_PM_into_43 : decode prog_1_method_8_code 43 = .ok (.ifCond .eq 18, 3) := by decide +kernel
theorem d_PM_into_46 : decode prog_1_method_8_code 46 = .ok (.iload_n 2, 1) := by decide +kernel
theorem d_PM_into_47 : decode prog_1_method_8_code 47 = .ok (.iload_n 1, 1) := by decide +kernel
theorem d_PM_into_48 : decode prog_1_method_8_code 48 = .ok (.if_icmp .eq 13, 3) := by decide +kernel
theorem d_PM_into_51 : decode prog_1_method_8_code 51 = .ok (.aload_n 0, 1) := by decide +kernel
theorem d_PM_into_52 : decode prog_1_method_8_code 52 = .ok (.iload_n 2, 1) := by decide +kernel
theorem d_PM_into_53 : decode prog_1_method_8_code 53 = .ok (.iload_n 1, 1) := by decide +kernel
theorem d_PM_into_54 : decode prog_1_method_8_code 54 = .ok (.iload_n 3, 1) := by decide +kernel
theorem d_PM_into_55 : decode prog_1_method_8_code 55 = .ok (.invokevirtual 116, 3) := by decide +kernel
theorem d_PM_into_58 : decode prog_1_method_8_code 58 = .ok (.ifCond .eq 5, 3) := by decide +kernel
theorem d_PM_into_61 : decode prog_1_method_8_code 61 = .ok (.iconst 1, 1) := by decide +kernel
theorem d_PM_into_62 : decode prog_1_method_8_code 62 = .ok (.ireturn, 1) := by decide +kernel
theorem d_PM_into_63 : decode prog_1_method_8_code 63 = .ok (.aload_n 0, 1) := by decide +kernel
theorem d_PM_into_64 : decode prog_1_method_8_code 64 = .ok (.getfield 19, 3) := by decide +kernel
theorem d_PM_into_67 : decode prog_1_method_8_code 67 = .ok (.iload_n 1, 1) := by decide +kernel
theorem d_PM_into_68 : decode prog_1_method_8_code 68 = .ok (.iload_n 2, 1) := by decide +kernel
theorem d_PM_into_69 : decode prog_1_method_8_code 69 = .ok (.invokevirtual 119, 3) := by decide +kernel
theorem d_PM_into_72 : decode prog_1_method_8_code 72 = .ok (.ifCond .ne 5, 3) := by decide +kernel
theorem d_PM_into_75 : decode prog_1_method_8_code 75 = .ok (.iconst 2, 1) := by decide +kernel
theorem d_PM_into_76 : decode prog_1_method_8_code 76 = .ok (.ireturn, 1) := by decide +kernel
theorem d_PM_into_77 : decode prog_1_method_8_code 77 = .ok (.aload_n 0, 1) := by decide +kernel
theorem d_PM_into_78 : decode prog_1_method_8_code 78 = .ok (.getfield 19, 3) := by decide +kernel
theorem d_PM_into_81 : decode prog_1_method_8_code 81 = .ok (.getfield 91, 3) := by decide +kernel
theorem d_PM_into_84 : decode prog_1_method_8_code 84 = .ok (.iload_n 1, 1) := by decide +kernel
theorem d_PM_into_85 : decode prog_1_method_8_code 85 = .ok (.iaload, 1) := by decide +kernel
theorem d_PM_into_86 : decode prog_1_method_8_code 86 = .ok (.ifCond .le 5, 3) := by decide +kernel
theorem d_PM_into_89 : decode prog_1_method_8_code 89 = .ok (.iconst 3, 1) := by decide +kernel
theorem d_PM_into_90 : decode prog_1_method_8_code 90 = .ok (.ireturn, 1) := by decide +kernel
theorem d_PM_into_91 : decode prog_1_method_8_code 91 = .ok (.aload_n 0, 1) := by decide +kernel
theorem d_PM_into_92 : decode prog_1_method_8_code 92 = .ok (.aload_n 0, 1) := by decide +kernel
theorem d_PM_into_93 : decode prog_1_method_8_code 93 = .ok (.iload_n 1, 1) := by decide +kernel
theorem d_PM_into_94 : decode prog_1_method_8_code 94 = .ok (.iload_n 3, 1) := by decide +kernel
theorem d_PM_into_95 : decode prog_1_method_8_code 95 = .ok (.invokevirtual 105, 3) := by decide +kernel
theorem d_PM_into_98 : decode prog_1_method_8_code 98 = .ok (.aload_n 0, 1) := by decide +kernel
theorem d_PM_into_99 : decode prog_1_method_8_code 99 = .ok (.iload_n 2, 1) := by decide +kernel
theorem d_PM_into_100 : decode prog_1_method_8_code 100 = .ok (.iload_n 3, 1) := by decide +kernel
theorem d_PM_into_101 : decode prog_1_method_8_code 101 = .ok (.invokevirtual 105, 3) := by decide +kernel
theorem d_PM_into_104 : decode prog_1_method_8_code 104 = .ok (.iload_n 3, 1) := by decide +kernel
theorem d_PM_into_105 : decode prog_1_method_8_code 105 = .ok (.invokevirtual 108, 3) := by decide +kernel
theorem d_PM_into_108 : decode prog_1_method_8_code 108 = .ok (.ifCond .eq 5, 3) := by decide +kernel
theorem d_PM_into_111 : decode prog_1_method_8_code 111 = .ok (.iconst 4, 1) := by decide +kernel
theorem d_PM_into_112 : decode prog_1_method_8_code 112 = .ok (.ireturn, 1) := by decide +kernel
theorem d_PM_into_113 : decode prog_1_method_8_code 113 = .ok (.aload_n 0, 1) := by decide +kernel
theorem d_PM_into_114 : decode prog_1_method_8_code 114 = .ok (.iload_n 1, 1) := by decide +kernel
theorem d_PM_into_115 : decode prog_1_method_8_code 115 = .ok (.iload_n 3, 1) := by decide +kernel
theorem d_PM_into_116 : decode prog_1_method_8_code 116 = .ok (.iconst 1, 1) := by decide +kernel
theorem d_PM_into_117 : decode prog_1_method_8_code 117 = .ok (.iload_n 2, 1) := by decide +kernel
theorem d_PM_into_118 : decode prog_1_method_8_code 118 = .ok (.invokevirtual 112, 3) := by decide +kernel
theorem d_PM_into_121 : decode prog_1_method_8_code 121 = .ok (.ifCond .eq 7, 3) := by decide +kernel
theorem d_PM_into_124 : decode prog_1_method_8_code 124 = .ok (.iconst 0, 1) := by decide +kernel
theorem d_PM_into_125 : decode prog_1_method_8_code 125 = .ok (.goto 4, 3) := by decide +kernel
theorem d_PM_into_128 : decode prog_1_method_8_code 128 = .ok (.iconst 5, 1) := by decide +kernel
theorem d_PM_into_129 : decode prog_1_method_8_code 129 = .ok (.ireturn, 1) := by decide +kernel
theorem d_PM_lost_0 : decode prog_1_method_9_code 0 = .ok (.aload_n 0, 1) := by decide +kernel
theorem d_PM_lost_1 : decode prog_1_method_9_code 1 = .ok (.iload_n 1, 1) := by decide +kernel
theorem d_PM_lost_2 : decode prog_1_method_9_code 2 = .ok (.invokevirtual 88, 3) := by decide +kernel
theorem d_PM_lost_5 : decode prog_1_method_9_code 5 = .ok (.iload_n 2, 1) := by decide +kernel
theorem d_PM_lost_6 : decode prog_1_method_9_code 6 = .ok (.aload_n 0, 1) := by decide +kernel
theorem d_PM_lost_7 : decode prog_1_method_9_code 7 = .ok (.getfield 59, 3) := by decide +kernel
theorem d_PM_lost_10 : decode prog_1_method_9_code 10 = .ok (.ldc 83, 2) := by decide +kernel
theorem d_PM_lost_12 : decode prog_1_method_9_code 12 = .ok (.invokestatic 68, 3) := by decide +kernel
theorem d_PM_lost_15 : decode prog_1_method_9_code 15 = .ok (.aload_n 0, 1) := by decide +kernel
theorem d_PM_lost_16 : decode prog_1_method_9_code 16 = .ok (.getfield 26, 3) := by decide +kernel
theorem d_PM_lost_19 : decode prog_1_method_9_code 19 = .ok (.getfield 100, 3) := by decide +kernel
theorem d_PM_lost_22 : decode prog_1_method_9_code 22 = .ok (.iload_n 1, 1) := by decide +kernel
theorem d_PM_lost_23 : decode prog_1_method_9_code 23 = .ok (.iaload, 1) := by decide +kernel
theorem d_PM_lost_24 : decode prog_1_method_9_code 24 = .ok (.bipush 40, 2) := by decide +kernel
theorem d_PM_lost_26 : decode prog_1_method_9_code 26 = .ok (.invokestatic 75, 3) := by decide +kernel
theorem d_PM_lost_29 : decode prog_1_method_9_code 29 = .ok (.aload_n 0, 1) := by decide +kernel
theorem d_PM_lost_30 : decode prog_1_method_9_code 30 = .ok (.getfield 26, 3) := by decide +kernel
theorem d_PM_lost_33 : decode prog_1_method_9_code 33 = .ok (.iload_n 1, 1) := by decide +kernel
theorem d_PM_lost_34 : decode prog_1_method_9_code 34 = .ok (.aload_n 0, 1) := by decide +kernel
theorem d_PM_lost_35 : decode prog_1_method_9_code 35 = .ok (.getfield 59, 3) := by decide +kernel
theorem d_PM_lost_38 : decode prog_1_method_9_code 38 = .ok (.invokevirtual 123, 3) := by decide +kernel
theorem d_PM_lost_41 : decode prog_1_method_9_code 41 = .ok (.istore_n 3, 1) := by decide +kernel
theorem d_PM_lost_42 : decode prog_1_method_9_code 42 = .ok (.iload_n 3, 1) := by decide +kernel
theorem d_PM_lost_43 : decode prog_1_method_9_code 43 = .ok (.iconst (-1), 1) := by decide +kernel
theorem d_PM_lost_44 : decode prog_1_method_9_code 44 = .ok (.if_icmp .eq 15, 3) := by decide +kernel
theorem d_PM_lost_47 : decode prog_1_method_9_code 47 = .ok (.aload_n 0, 1) := by decide +kernel
theorem d_PM_lost_48 : decode prog_1_method_9_code 48 = .ok (.getfield 26, 3) := by decide +kernel
theorem d_PM_lost_51 : decode prog_1_method_9_code 51 = .ok (.getfield 126, 3) := by decide +kernel
theorem d_PM_lost_54 : decode prog_1_method_9_code 54 = .ok (.iload_n 3, 1) := by decide +kernel
theorem d_PM_lost_55 : decode prog_1_method_9_code 55 = .ok (.iaload, 1) := by decide +kernel
theorem d_PM_lost_56 : decode prog_1_method_9_code 56 = .ok (.ifCond .eq 5, 3) := by decide +kernel
theorem d_PM_lost_59 : decode prog_1_method_9_code 59 = .ok (.iconst 0, 1) := by decide +kernel
theorem d_PM_lost_60 : decode prog_1_method_9_code 60 = .ok (.ireturn, 1) := by decide +kernel
theorem d_PM_lost_61 : decode prog_1_method_9_code 61 = .ok (.aload_n 0, 1) := by decide +kernel
theorem d_PM_lost_62 : decode prog_1_method_9_code 62 = .ok (.iload_n 1, 1) := by decide +kernel
theorem d_PM_lost_63 : decode prog_1_method_9_code 63 = .ok (.iload_n 2, 1) := by decide +kernel
theorem d_PM_lost_64 : decode prog_1_method_9_code 64 = .ok (.iconst 2, 1) := by decide +kernel
theorem d_PM_lost_65 : decode prog_1_method_9_code 65 = .ok (.iconst (-1), 1) := by decide +kernel
theorem d_PM_lost_66 : decode prog_1_method_9_code 66 = .ok (.invokevirtual 112, 3) := by decide +kernel
theorem d_PM_lost_69 : decode prog_1_method_9_code 69 = .ok (.ireturn, 1) := by decide +kernel
theorem d_PM_where_0 : decode prog_1_method_10_code 0 = .ok (.aload_n 0, 1) := by decide +kernel
theorem d_PM_where_1 : decode prog_1_method_10_code 1 = .ok (.iload_n 1, 1) := by decide +kernel
theorem d_PM_where_2 : decode prog_1_method_10_code 2 = .ok (.invokevirtual 88, 3) := by decide +kernel
theorem d_PM_where_5 : decode prog_1_method_10_code 5 = .ok (.aload_n 0, 1) := by decide +kernel
theorem d_PM_where_6 : decode prog_1_method_10_code 6 = .ok (.iload_n 1, 1) := by decide +kernel
theorem d_PM_where_7 : decode prog_1_method_10_code 7 = .ok (.iload_n 2, 1) := by decide +kernel
theorem d_PM_where_8 : decode prog_1_method_10_code 8 = .ok (.invokevirtual 105, 3) := by decide +kernel
theorem d_PM_where_11 : decode prog_1_method_10_code 11 = .ok (.ireturn, 1) := by decide +kernel
theorem d_PM_last_0 : decode prog_1_method_11_code 0 = .ok (.aload_n 0, 1) := by decide +kernel
theorem d_PM_last_1 : decode prog_1_method_11_code 1 = .ok (.iload_n 1, 1) := by decide +kernel
theorem d_PM_last_2 : decode prog_1_method_11_code 2 = .ok (.invokevirtual 88, 3) := by decide +kernel
theorem d_PM_last_5 : decode prog_1_method_11_code 5 = .ok (.aload_n 0, 1) := by decide +kernel
theorem d_PM_last_6 : decode prog_1_method_11_code 6 = .ok (.getfield 59, 3) := by decide +kernel
theorem d_PM_last_9 : decode prog_1_method_11_code 9 = .ok (.istore_n 2, 1) := by decide +kernel
theorem d_PM_last_10 : decode prog_1_method_11_code 10 = .ok (.iconst 0, 1) := by decide +kernel
theorem d_PM_last_11 : decode prog_1_method_11_code 11 = .ok (.istore_n 3, 1) := by decide +kernel
theorem d_PM_last_12 : decode prog_1_method_11_code 12 = .ok (.iload_n 3, 1) := by decide +kernel
theorem d_PM_last_13 : decode prog_1_method_11_code 13 = .ok (.sipush 800, 3) := by decide +kernel
theorem d_PM_last_16 : decode prog_1_method_11_code 16 = .ok (.if_icmp .gt 39, 3) := by decide +kernel
theorem d_PM_last_19 : decode prog_1_method_11_code 19 = .ok (.iload_n 2, 1) := by decide +kernel
theorem d_PM_last_20 : decode prog_1_method_11_code 20 = .ok (.ifCond .lt 35, 3) := by decide +kernel
theorem d_PM_last_23 : decode prog_1_method_11_code 23 = .ok (.aload_n 0, 1) := by decide +kernel
theorem d_PM_last_24 : decode prog_1_method_11_code 24 = .ok (.iload_n 1, 1) := by decide +kernel
theorem d_PM_last_25 : decode prog_1_method_11_code 25 = .ok (.iload_n 2, 1) := by decide +kernel
theorem d_PM_last_26 : decode prog_1_method_11_code 26 = .ok (.invokevirtual 105, 3) := by decide +kernel
theorem d_PM_last_29 : decode prog_1_method_11_code 29 = .ok (.istore 4, 2) := by decide +kernel
theorem d_PM_last_31 : decode prog_1_method_11_code 31 = .ok (.iload 4, 2) := by decide +kernel
theorem d_PM_last_33 : decode prog_1_method_11_code 33 = .ok (.iconst (-1), 1) := by decide +kernel
theorem d_PM_last_34 : decode prog_1_method_11_code 34 = .ok (.if_icmp .eq 6, 3) := by decide +kernel
theorem d_PM_last_37 : decode prog_1_method_11_code 37 = .ok (.iload 4, 2) := by decide +kernel
theorem d_PM_last_39 : decode prog_1_method_11_code 39 = .ok (.ireturn, 1) := by decide +kernel
theorem d_PM_last_40 : decode prog_1_method_11_code 40 = .ok (.aload_n 0, 1) := by decide +kernel
theorem d_PM_last_41 : decode prog_1_method_11_code 41 = .ok (.iload_n 1, 1) := by decide +kernel
theorem d_PM_last_42 : decode prog_1_method_11_code 42 = .ok (.iload_n 2, 1) := by decide +kernel
theorem d_PM_last_43 : decode prog_1_method_11_code 43 = .ok (.invokevirtual 129, 3) := by decide +kernel
theorem d_PM_last_46 : decode prog_1_method_11_code 46 = .ok (.iconst 1, 1) := by decide +kernel
theorem d_PM_last_47 : decode prog_1_method_11_code 47 = .ok (.isub, 1) := by decide +kernel
theorem d_PM_last_48 : decode prog_1_method_11_code 48 = .ok (.istore_n 2, 1) := by decide +kernel
theorem d_PM_last_49 : decode prog_1_method_11_code 49 = .ok (.iinc 3 1, 3) := by decide +kernel
theorem d_PM_last_52 : decode prog_1_method_11_code 52 = .ok (.goto (-40), 3) := by decide +kernel
theorem d_PM_last_55 : decode prog_1_method_11_code 55 = .ok (.iconst (-1), 1) := by decide +kernel
theorem d_PM_last_56 : decode prog_1_method_11_code 56 = .ok (.ireturn, 1) := by decide +kernel
theorem d_PM_history_0 : decode prog_1_method_12_code 0 = .ok (.aload_n 0, 1) := by decide +kernel
theorem d_PM_history_1 : decode prog_1_method_12_code 1 = .ok (.iload_n 1, 1) := by decide +kernel
theorem d_PM_history_2 : decode prog_1_method_12_code 2 = .ok (.invokevirtual 88, 3) := by decide +kernel
theorem d_PM_history_5 : decode prog_1_method_12_code 5 = .ok (.iload_n 2, 1) := by decide +kernel
theorem d_PM_history_6 : decode prog_1_method_12_code 6 = .ok (.aload_n 0, 1) := by decide +kernel
theorem d_PM_history_7 : decode prog_1_method_12_code 7 = .ok (.getfield 26, 3) := by decide +kernel
theorem d_PM_history_10 : decode prog_1_method_12_code 10 = .ok (.getfield 100, 3) := by decide +kernel
theorem d_PM_history_13 : decode prog_1_method_12_code 13 = .ok (.iload_n 1, 1) := by decide +kernel
theorem d_PM_history_14 : decode prog_1_method_12_code 14 = .ok (.iaload, 1) := by decide +kernel
theorem d_PM_history_15 : decode prog_1_method_12_code 15 = .ok (.invokestatic 132, 3) := by decide +kernel
theorem d_PM_history_18 : decode prog_1_method_12_code 18 = .ok (.iload_n 3, 1) := by decide +kernel
theorem d_PM_history_19 : decode prog_1_method_12_code 19 = .ok (.iconst 0, 1) := by decide +kernel
theorem d_PM_history_20 : decode prog_1_method_12_code 20 = .ok (.iconst 2, 1) := by decide +kernel
theorem d_PM_history_21 : decode prog_1_method_12_code 21 = .ok (.invokestatic 68, 3) := by decide +kernel
theorem d_PM_history_24 : decode prog_1_method_12_code 24 = .ok (.iload_n 1, 1) := by decide +kernel
theorem d_PM_history_25 : decode prog_1_method_12_code 25 = .ok (.iload_n 2, 1) := by decide +kernel
theorem d_PM_history_26 : decode prog_1_method_12_code 26 = .ok (.invokestatic 135, 3) := by decide +kernel
theorem d_PM_history_29 : decode prog_1_method_12_code 29 = .ok (.istore 4, 2) := by decide +kernel
theorem d_PM_history_31 : decode prog_1_method_12_code 31 = .ok (.iload_n 3, 1) := by decide +kernel
theorem d_PM_history_32 : decode prog_1_method_12_code 32 = .ok (.ifCond .ne 14, 3) := by decide +kernel
theorem d_PM_history_35 : decode prog_1_method_12_code 35 = .ok (.aload_n 0, 1) := by decide +kernel
theorem d_PM_history_36 : decode prog_1_method_12_code 36 = .ok (.getfield 26, 3) := by decide +kernel
theorem d_PM_history_39 : decode prog_1_method_12_code 39 = .ok (.getfield 138, 3) := by decide +kernel
theorem d_PM_history_42 : decode prog_1_method_12_code 42 = .ok (.iload 4, 2) := by decide +kernel
theorem d_PM_history_44 : decode prog_1_method_12_code 44 = .ok (.iaload, 1) := by decide +kernel
theorem d_PM_history_45 : decode prog_1_method_12_code 45 = .ok (.ireturn, 1) := by decide +kernel
theorem d_PM_history_46 : decode prog_1_method_12_code 46 = .ok (.iload_n 3, 1) := by decide +kernel
theorem d_PM_history_47 : decode prog_1_method_12_code 47 = .ok (.iconst 1, 1) := by decide +kernel
theorem d_PM_history_48 : decode prog_1_method_12_code 48 = .ok (.if_icmp .ne 16, 3) := by decide +kernel
theorem d_PM_history_51 : decode prog_1_method_12_code 51 = .ok (.aload_n 0, 1) := by decide +kernel
theorem d_PM_history_52 : decode prog_1_method_12_code 52 = .ok (.getfield 26, 3) := by decide +kernel
theorem d_PM_history_55 : decode prog_1_method_12_code 55 = .ok (.getfield 126, 3) := by decide +kernel
theorem d_PM_history_58 : decode prog_1_method_12_code 58 = .ok (.iload 4, 2) := by decide +kernel
theorem d_PM_history_60 : decode prog_1_method_12_code 60 = .ok (.iaload, 1) := by decide +kernel
theorem d_PM_history_61 : decode prog_1_method_12_code 61 = .ok (.goto 13, 3) := by decide +kernel
theorem d_PM_history_64 : decode prog_1_method_12_code 64 = .ok (.aload_n 0, 1) := by decide +kernel
theorem d_PM_history_65 : decode prog_1_method_12_code 65 = .ok (.getfield 26, 3) := by decide +kernel
theorem d_PM_history_68 : decode prog_1_method_12_code 68 = .ok (.getfield 141, 3) := by decide +kernel
theorem d_PM_history_71 : decode prog_1_method_12_code 71 = .ok (.iload 4, 2) := by decide +kernel
theorem d_PM_history_73 : decode prog_1_method_12_code 73 = .ok (.iaload, 1) := by decide +kernel
theorem d_PM_history_74 : decode prog_1_method_12_code 74 = .ok (.ireturn, 1) := by decide +kernel
theorem d_PM_door_0 : decode prog_1_method_13_code 0 = .ok (.aload_n 0, 1) := by decide +kernel
theorem d_PM_door_1 : decode prog_1_method_13_code 1 = .ok (.iload_n 1, 1) := by decide +kernel
theorem d_PM_door_2 : decode prog_1_method_13_code 2 = .ok (.invokevirtual 63, 3) := by decide +kernel
theorem d_PM_door_5 : decode prog_1_method_13_code 5 = .ok (.aload_n 0, 1) := by decide +kernel
theorem d_PM_door_6 : decode prog_1_method_13_code 6 = .ok (.iload_n 2, 1) := by decide +kernel
theorem d_PM_door_7 : decode prog_1_method_13_code 7 = .ok (.invokevirtual 63, 3) := by decide +kernel
theorem d_PM_door_10 : decode prog_1_method_13_code 10 = .ok (.iload_n 1, 1) := by decide +kernel
theorem d_PM_door_11 : decode prog_1_method_13_code 11 = .ok (.iload_n 2, 1) := by decide +kernel
theorem d_PM_door_12 : decode prog_1_method_13_code 12 = .ok (.if_icmp .ne 13, 3) := by decide +kernel
theorem d_PM_door_15 : decode prog_1_method_13_code 15 = .ok (.new 144, 3) := by decide +kernel
theorem d_PM_door_18 : decode prog_1_method_13_code 18 = .ok (.dup, 1) := by decide +kernel
theorem d_PM_door_19 : decode prog_1_method_13_code 19 = .ok (.ldc 146, 2) := by decide +kernel
theorem d_PM_door_21 : decode prog_1_method_13_code 21 = .ok (.invokespecial 148, 3) := by decide +kernel
theorem d_PM_door_24 : decode prog_1_method_13_code 24 = .ok (.athrow, 1) := by decide +kernel
theorem d_PM_door_25 : decode prog_1_method_13_code 25 = .ok (.iload_n 3, 1) := by decide +kernel
theorem d_PM_door_26 : decode prog_1_method_13_code 26 = .ok (.iconst 1, 1) := by decide +kernel
theorem d_PM_door_27 : decode prog_1_method_13_code 27 = .ok (.sipush 10000, 3) := by decide +kernel
theorem d_PM_door_30 : decode prog_1_method_13_code 30 = .ok (.invokestatic 68, 3) := by decide +kernel
theorem d_PM_door_33 : decode prog_1_method_13_code 33 = .ok (.iload 4, 2) := by decide +kernel
theorem d_PM_door_35 : decode prog_1_method_13_code 35 = .ok (.iconst 1, 1) := by decide +kernel
theorem d_PM_door_36 : decode prog_1_method_13_code 36 = .ok (.sipush 10000, 3) := by decide +kernel
theorem d_PM_door_39 : decode prog_1_method_13_code 39 = .ok (.invokestatic 68, 3) := by decide +kernel
theorem d_PM_door_42 : decode prog_1_method_13_code 42 = .ok (.aload_n 0, 1) := by decide +kernel
theorem d_PM_door_43 : decode prog_1_method_13_code 43 = .ok (.getfield 33, 3) := by decide +kernel
theorem d_PM_door_46 : decode prog_1_method_13_code 46 = .ok (.getfield 151, 3) := by decide +kernel
theorem d_PM_door_49 : decode prog_1_method_13_code 49 = .ok (.bipush 40, 2) := by decide +kernel
theorem d_PM_door_51 : decode prog_1_method_13_code 51 = .ok (.invokestatic 75, 3) := by decide +kernel
theorem d_PM_door_54 : decode prog_1_method_13_code 54 = .ok (.aload_n 0, 1) := by decide +kernel
theorem d_PM_door_55 : decode prog_1_method_13_code 55 = .ok (.getfield 33, 3) := by decide +kernel
theorem d_PM_door_58 : decode prog_1_method_13_code 58 = .ok (.iload_n 1, 1) := by decide +kernel
theorem d_PM_door_59 : decode prog_1_method_13_code 59 = .ok (.iload_n 2, 1) := by decide +kernel
theorem d_PM_door_60 : decode prog_1_method_13_code 60 = .ok (.iload_n 3, 1) := by decide +kernel
theorem d_PM_door_61 : decode prog_1_method_13_code 61 = .ok (.iload 4, 2) := by decide +kernel
theorem d_PM_door_63 : decode prog_1_method_13_code 63 = .ok (.invokevirtual 152, 3) := by decide +kernel
theorem d_PM_door_66 : decode prog_1_method_13_code 66 = .ok (.ireturn, 1) := by decide +kernel
theorem d_PM_passes_0 : decode prog_1_method_14_code 0 = .ok (.aload_n 0, 1) := by decide +kernel
theorem d_PM_passes_1 : decode prog_1_method_14_code 1 = .ok (.iload_n 1, 1) := by decide +kernel
theorem d_PM_passes_2 : decode prog_1_method_14_code 2 = .ok (.invokevirtual 88, 3) := by decide +kernel
theorem d_PM_passes_5 : decode prog_1_method_14_code 5 = .ok (.iload_n 2, 1) := by decide +kernel
theorem d_PM_passes_6 : decode prog_1_method_14_code 6 = .ok (.aload_n 0, 1) := by decide +kernel
theorem d_PM_passes_7 : decode prog_1_method_14_code 7 = .ok (.getfield 33, 3) := by decide +kernel
theorem d_PM_passes_10 : decode prog_1_method_14_code 10 = .ok (.getfield 151, 3) := by decide +kernel
theorem d_PM_passes_13 : decode prog_1_method_14_code 13 = .ok (.invokestatic 132, 3) := by decide +kernel
theorem d_PM_passes_16 : decode prog_1_method_14_code 16 = .ok (.aload_n 0, 1) := by decide +kernel
theorem d_PM_passes_17 : decode prog_1_method_14_code 17 = .ok (.iload_n 1, 1) := by decide +kernel
theorem d_PM_passes_18 : decode prog_1_method_14_code 18 = .ok (.iload_n 2, 1) := by decide +kernel
theorem d_PM_passes_19 : decode prog_1_method_14_code 19 = .ok (.invokevirtual 153, 3) := by decide +kernel
theorem d_PM_passes_22 : decode prog_1_method_14_code 22 = .ok (.ireturn, 1) := by decide +kernel
theorem d_PM_way_0 : decode prog_1_method_15_code 0 = .ok (.aload_n 0, 1) := by decide +kernel
theorem d_PM_way_1 : decode prog_1_method_15_code 1 = .ok (.iload_n 1, 1) := by decide +kernel
theorem d_PM_way_2 : decode prog_1_method_15_code 2 = .ok (.invokevirtual 88, 3) := by decide +kernel
theorem d_PM_way_5 : decode prog_1_method_15_code 5 = .ok (.aload_n 0, 1) := by decide +kernel
theorem d_PM_way_6 : decode prog_1_method_15_code 6 = .ok (.iload_n 2, 1) := by decide +kernel
theorem d_PM_way_7 : decode prog_1_method_15_code 7 = .ok (.invokevirtual 63, 3) := by decide +kernel
theorem d_PM_way_10 : decode prog_1_method_15_code 10 = .ok (.aload_n 0, 1) := by decide +kernel
theorem d_PM_way_11 : decode prog_1_method_15_code 11 = .ok (.iload_n 1, 1) := by decide +kernel
theorem d_PM_way_12 : decode prog_1_method_15_code 12 = .ok (.aload_n 0, 1) := by decide +kernel
theorem d_PM_way_13 : decode prog_1_method_15_code 13 = .ok (.getfield 59, 3) := by decide +kernel
theorem d_PM_way_16 : decode prog_1_method_15_code 16 = .ok (.invokevirtual 105, 3) := by decide +kernel
theorem d_PM_way_19 : decode prog_1_method_15_code 19 = .ok (.istore_n 3, 1) := by decide +kernel
theorem d_PM_way_20 : decode prog_1_method_15_code 20 = .ok (.iload_n 3, 1) := by decide +kernel
theorem d_PM_way_21 : decode prog_1_method_15_code 21 = .ok (.iconst (-1), 1) := by decide +kernel
theorem d_PM_way_22 : decode prog_1_method_15_code 22 = .ok (.if_icmp .ne 7, 3) := by decide +kernel
theorem d_PM_way_25 : decode prog_1_method_15_code 25 = .ok (.iconst (-1), 1) := by decide +kernel
theorem d_PM_way_26 : decode prog_1_method_15_code 26 = .ok (.goto 14, 3) := by decide +kernel
theorem d_PM_way_29 : decode prog_1_method_15_code 29 = .ok (.aload_n 0, 1) := by decide +kernel
theorem d_PM_way_30 : decode prog_1_method_15_code 30 = .ok (.iload_n 3, 1) := by decide +kernel
theorem d_PM_way_31 : decode prog_1_method_15_code 31 = .ok (.iload_n 2, 1) := by decide +kernel
theorem d_PM_way_32 : decode prog_1_method_15_code 32 = .ok (.aload_n 0, 1) := by decide +kernel
theorem d_PM_way_33 : decode prog_1_method_15_code 33 = .ok (.iload_n 1, 1) := by decide +kernel
theorem d_PM_way_34 : decode prog_1_method_15_code 34 = .ok (.invokevirtual 156, 3) := by decide +kernel
theorem d_PM_way_37 : decode prog_1_method_15_code 37 = .ok (.invokevirtual 160, 3) := by decide +kernel
theorem d_PM_way_40 : decode prog_1_method_15_code 40 = .ok (.ireturn, 1) := by decide +kernel
theorem d_PM_planned_0 : decode prog_1_method_16_code 0 = .ok (.aload_n 0, 1) := by decide +kernel
theorem d_PM_planned_1 : decode prog_1_method_16_code 1 = .ok (.iload_n 1, 1) := by decide +kernel
theorem d_PM_planned_2 : decode prog_1_method_16_code 2 = .ok (.invokevirtual 88, 3) := by decide +kernel
theorem d_PM_planned_5 : decode prog_1_method_16_code 5 = .ok (.aload_n 0, 1) := by decide +kernel
theorem d_PM_planned_6 : decode prog_1_method_16_code 6 = .ok (.iload_n 2, 1) := by decide +kernel
theorem d_PM_planned_7 : decode prog_1_method_16_code 7 = .ok (.invokevirtual 63, 3) := by decide +kernel
theorem d_PM_planned_10 : decode prog_1_method_16_code 10 = .ok (.iload_n 3, 1) := by decide +kernel
theorem d_PM_planned_11 : decode prog_1_method_16_code 11 = .ok (.aload_n 0, 1) := by decide +kernel
theorem d_PM_planned_12 : decode prog_1_method_16_code 12 = .ok (.getfield 59, 3) := by decide +kernel
theorem d_PM_planned_15 : decode prog_1_method_16_code 15 = .ok (.ldc 83, 2) := by decide +kernel
theorem d_PM_planned_17 : decode prog_1_method_16_code 17 = .ok (.invokestatic 68, 3) := by decide +kernel
theorem d_PM_planned_20 : decode prog_1_method_16_code 20 = .ok (.iload 4, 2) := by decide +kernel
theorem d_PM_planned_22 : decode prog_1_method_16_code 22 = .ok (.iload_n 3, 1) := by decide +kernel
theorem d_PM_planned_23 : decode prog_1_method_16_code 23 = .ok (.ldc 83, 2) := by decide +kernel
theorem d_PM_planned_25 : decode prog_1_method_16_code 25 = .ok (.invokestatic 68, 3) := by decide +kernel
theorem d_PM_planned_28 : decode prog_1_method_16_code 28 = .ok (.aload_n 0, 1) := by decide +kernel
theorem d_PM_planned_29 : decode prog_1_method_16_code 29 = .ok (.getfield 40, 3) := by decide +kernel
theorem d_PM_planned_32 : decode prog_1_method_16_code 32 = .ok (.getfield 164, 3) := by decide +kernel
theorem d_PM_planned_35 : decode prog_1_method_16_code 35 = .ok (.bipush 30, 2) := by decide +kernel
theorem d_PM_planned_37 : decode prog_1_method_16_code 37 = .ok (.invokestatic 75, 3) := by decide +kernel
theorem d_PM_planned_40 : decode prog_1_method_16_code 40 = .ok (.aload_n 0, 1) := by decide +kernel
theorem d_PM_planned_41 : decode prog_1_method_16_code 41 = .ok (.getfield 40, 3) := by decide +kernel
theorem d_PM_planned_44 : decode prog_1_method_16_code 44 = .ok (.iload_n 1, 1) := by decide +kernel
theorem d_PM_planned_45 : decode prog_1_method_16_code 45 = .ok (.iload_n 2, 1) := by decide +kernel
theorem d_PM_planned_46 : decode prog_1_method_16_code 46 = .ok (.iload_n 3, 1) := by decide +kernel
theorem d_PM_planned_47 : decode prog_1_method_16_code 47 = .ok (.iload 4, 2) := by decide +kernel
theorem d_PM_planned_49 : decode prog_1_method_16_code 49 = .ok (.invokevirtual 165, 3) := by decide +kernel
theorem d_PM_planned_52 : decode prog_1_method_16_code 52 = .ok (.aload_n 0, 1) := by decide +kernel
theorem d_PM_planned_53 : decode prog_1_method_16_code 53 = .ok (.iload_n 2, 1) := by decide +kernel
theorem d_PM_planned_54 : decode prog_1_method_16_code 54 = .ok (.iload_n 3, 1) := by decide +kernel
theorem d_PM_planned_55 : decode prog_1_method_16_code 55 = .ok (.iload 4, 2) := by decide +kernel
theorem d_PM_planned_57 : decode prog_1_method_16_code 57 = .ok (.invokevirtual 168, 3) := by decide +kernel
theorem d_PM_planned_60 : decode prog_1_method_16_code 60 = .ok (.ifCond .eq 5, 3) := by decide +kernel
theorem d_PM_planned_63 : decode prog_1_method_16_code 63 = .ok (.iconst 0, 1) := by decide +kernel
theorem d_PM_planned_64 : decode prog_1_method_16_code 64 = .ok (.ireturn, 1) := by decide +kernel
theorem d_PM_planned_65 : decode prog_1_method_16_code 65 = .ok (.aload_n 0, 1) := by decide +kernel
theorem d_PM_planned_66 : decode prog_1_method_16_code 66 = .ok (.getfield 40, 3) := by decide +kernel
theorem d_PM_planned_69 : decode prog_1_method_16_code 69 = .ok (.invokevirtual 171, 3) := by decide +kernel
theorem d_PM_planned_72 : decode prog_1_method_16_code 72 = .ok (.iconst 1, 1) := by decide +kernel
theorem d_PM_planned_73 : decode prog_1_method_16_code 73 = .ok (.ireturn, 1) := by decide +kernel
theorem d_PM_used_0 : decode prog_1_method_17_code 0 = .ok (.aload_n 0, 1) := by decide +kernel
theorem d_PM_used_1 : decode prog_1_method_17_code 1 = .ok (.iload_n 1, 1) := by decide +kernel
theorem d_PM_used_2 : decode prog_1_method_17_code 2 = .ok (.invokevirtual 63, 3) := by decide +kernel
theorem d_PM_used_5 : decode prog_1_method_17_code 5 = .ok (.aload_n 0, 1) := by decide +kernel
theorem d_PM_used_6 : decode prog_1_method_17_code 6 = .ok (.iload_n 2, 1) := by decide +kernel
theorem d_PM_used_7 : decode prog_1_method_17_code 7 = .ok (.invokevirtual 174, 3) := by decide +kernel
theorem d_PM_used_10 : decode prog_1_method_17_code 10 = .ok (.aload_n 0, 1) := by decide +kernel
theorem d_PM_used_11 : decode prog_1_method_17_code 11 = .ok (.iload_n 1, 1) := by decide +kernel
theorem d_PM_used_12 : decode prog_1_method_17_code 12 = .ok (.invokevirtual 177, 3) := by decide +kernel
theorem d_PM_used_15 : decode prog_1_method_17_code 15 = .ok (.ireturn, 1) := by decide +kernel
theorem d_PM_quiet_0 : decode prog_1_method_18_code 0 = .ok (.aload_n 0, 1) := by decide +kernel
theorem d_PM_quiet_1 : decode prog_1_method_18_code 1 = .ok (.iload_n 1, 1) := by decide +kernel
theorem d_PM_quiet_2 : decode prog_1_method_18_code 2 = .ok (.invokevirtual 63, 3) := by decide +kernel
theorem d_PM_quiet_5 : decode prog_1_method_18_code 5 = .ok (.iload_n 2, 1) := by decide +kernel
theorem d_PM_quiet_6 : decode prog_1_method_18_code 6 = .ok (.ifCond .lt 8, 3) := by decide +kernel
theorem d_PM_quiet_9 : decode prog_1_method_18_code 9 = .ok (.iload_n 3, 1) := by decide +kernel
theorem d_PM_quiet_10 : decode prog_1_method_18_code 10 = .ok (.iload_n 2, 1) := by decide +kernel
theorem d_PM_quiet_11 : decode prog_1_method_18_code 11 = .ok (.if_icmp .ge 13, 3) := by decide +kernel
theorem d_PM_quiet_14 : decode prog_1_method_18_code 14 = .ok (.new 144, 3) := by decide +kernel
theorem d_PM_quiet_17 : decode prog_1_method_18_code 17 = .ok (.dup, 1) := by decide +kernel
theorem d_PM_quiet_18 : decode prog_1_method_18_code 18 = .ok (.ldc 181, 2) := by decide +kernel
theorem d_PM_quiet_20 : decode prog_1_method_18_code 20 = .ok (.invokespecial 148, 3) := by decide +kernel
theorem d_PM_quiet_23 : decode prog_1_method_18_code 23 = .ok (.athrow, 1) := by decide +kernel
theorem d_PM_quiet_24 : decode prog_1_method_18_code 24 = .ok (.aload_n 0, 1) := by decide +kernel
theorem d_PM_quiet_25 : decode prog_1_method_18_code 25 = .ok (.getfield 47, 3) := by decide +kernel
theorem d_PM_quiet_28 : decode prog_1_method_18_code 28 = .ok (.getfield 183, 3) := by decide +kernel
theorem d_PM_quiet_31 : decode prog_1_method_18_code 31 = .ok (.bipush 20, 2) := by decide +kernel
theorem d_PM_quiet_33 : decode prog_1_method_18_code 33 = .ok (.invokestatic 75, 3) := by decide +kernel
theorem d_PM_quiet_36 : decode prog_1_method_18_code 36 = .ok (.aload_n 0, 1) := by decide +kernel
theorem d_PM_quiet_37 : decode prog_1_method_18_code 37 = .ok (.getfield 47, 3) := by decide +kernel
theorem d_PM_quiet_40 : decode prog_1_method_18_code 40 = .ok (.iload_n 1, 1) := by decide +kernel
theorem d_PM_quiet_41 : decode prog_1_method_18_code 41 = .ok (.iload_n 2, 1) := by decide +kernel
theorem d_PM_quiet_42 : decode prog_1_method_18_code 42 = .ok (.iload_n 3, 1) := by decide +kernel
theorem d_PM_quiet_43 : decode prog_1_method_18_code 43 = .ok (.invokevirtual 184, 3) := by decide +kernel
theorem d_PM_quiet_46 : decode prog_1_method_18_code 46 = .ok (.return_, 1) := by decide +kernel
theorem d_PM_count_0 : decode prog_1_method_19_code 0 = .ok (.iload_n 1, 1) := by decide +kernel
theorem d_PM_count_1 : decode prog_1_method_19_code 1 = .ok (.tableswitch 84 0 5 #[39, 47, 55, 63, 71, 76], 39) := by decide +kernel
theorem d_PM_count_40 : decode prog_1_method_19_code 40 = .ok (.aload_n 0, 1) := by decide +kernel
theorem d_PM_count_41 : decode prog_1_method_19_code 41 = .ok (.getfield 10, 3) := by decide +kernel
theorem d_PM_count_44 : decode prog_1_method_19_code 44 = .ok (.getfield 72, 3) := by decide +kernel
theorem d_PM_count_47 : decode prog_1_method_19_code 47 = .ok (.ireturn, 1) := by decide +kernel
theorem d_PM_count_48 : decode prog_1_method_19_code 48 = .ok (.aload_n 0, 1) := by decide +kernel
theorem d_PM_count_49 : decode prog_1_method_19_code 49 = .ok (.getfield 19, 3) := by decide +kernel
theorem d_PM_count_52 : decode prog_1_method_19_code 52 = .ok (.getfield 84, 3) := by decide +kernel
theorem d_PM_count_55 : decode prog_1_method_19_code 55 = .ok (.ireturn, 1) := by decide +kernel
theorem d_PM_count_56 : decode prog_1_method_19_code 56 = .ok (.aload_n 0, 1) := by decide +kernel
theorem d_PM_count_57 : decode prog_1_method_19_code 57 = .ok (.getfield 33, 3) := by decide +kernel
theorem d_PM_count_60 : decode prog_1_method_19_code 60 = .ok (.getfield 151, 3) := by decide +kernel
theorem d_PM_count_63 : decode prog_1_method_19_code 63 = .ok (.ireturn, 1) := by decide +kernel
theorem d_PM_count_64 : decode prog_1_method_19_code 64 = .ok (.aload_n 0, 1) := by decide +kernel
theorem d_PM_count_65 : decode prog_1_method_19_code 65 = .ok (.getfield 40, 3) := by decide +kernel
theorem d_PM_count_68 : decode prog_1_method_19_code 68 = .ok (.getfield 164, 3) := by decide +kernel
theorem d_PM_count_71 : decode prog_1_method_19_code 71 = .ok (.ireturn, 1) := by decide +kernel
theorem d_PM_count_72 : decode prog_1_method_19_code 72 = .ok (.aload_n 0, 1) := by decide +kernel
theorem d_PM_count_73 : decode prog_1_method_19_code 73 = .ok (.getfield 59, 3) := by decide +kernel
theorem d_PM_count_76 : decode prog_1_method_19_code 76 = .ok (.ireturn, 1) := by decide +kernel
theorem d_PM_count_77 : decode prog_1_method_19_code 77 = .ok (.aload_n 0, 1) := by decide +kernel
theorem d_PM_count_78 : decode prog_1_method_19_code 78 = .ok (.getfield 26, 3) := by decide +kernel
theorem d_PM_count_81 : decode prog_1_method_19_code 81 = .ok (.getfield 186, 3) := by decide +kernel
theorem d_PM_count_84 : decode prog_1_method_19_code 84 = .ok (.ireturn, 1) := by decide +kernel
theorem d_PM_count_85 : decode prog_1_method_19_code 85 = .ok (.new 144, 3) := by decide +kernel
theorem d_PM_count_88 : decode prog_1_method_19_code 88 = .ok (.dup, 1) := by decide +kernel
theorem d_PM_count_89 : decode prog_1_method_19_code 89 = .ok (.ldc 189, 2) := by decide +kernel
theorem d_PM_count_91 : decode prog_1_method_19_code 91 = .ok (.invokespecial 148, 3) := by decide +kernel
theorem d_PM_count_94 : decode prog_1_method_19_code 94 = .ok (.athrow, 1) := by decide +kernel
theorem d_PM_needPlace_0 : decode prog_1_method_20_code 0 = .ok (.iload_n 1, 1) := by decide +kernel
theorem d_PM_needPlace_1 : decode prog_1_method_20_code 1 = .ok (.aload_n 0, 1) := by decide +kernel
theorem d_PM_needPlace_2 : decode prog_1_method_20_code 2 = .ok (.getfield 10, 3) := by decide +kernel
theorem d_PM_needPlace_5 : decode prog_1_method_20_code 5 = .ok (.getfield 72, 3) := by decide +kernel
theorem d_PM_needPlace_8 : decode prog_1_method_20_code 8 = .ok (.invokestatic 132, 3) := by decide +kernel
theorem d_PM_needPlace_11 : decode prog_1_method_20_code 11 = .ok (.return_, 1) := by decide +kernel
theorem d_PM_needObject_0 : decode prog_1_method_21_code 0 = .ok (.iload_n 1, 1) := by decide +kernel
theorem d_PM_needObject_1 : decode prog_1_method_21_code 1 = .ok (.aload_n 0, 1) := by decide +kernel
theorem d_PM_needObject_2 : decode prog_1_method_21_code 2 = .ok (.getfield 19, 3) := by decide +kernel
theorem d_PM_needObject_5 : decode prog_1_method_21_code 5 = .ok (.getfield 84, 3) := by decide +kernel
theorem d_PM_needObject_8 : decode prog_1_method_21_code 8 = .ok (.invokestatic 132, 3) := by decide +kernel
theorem d_PM_needObject_11 : decode prog_1_method_21_code 11 = .ok (.return_, 1) := by decide +kernel
theorem d_PM_needPerson_0 : decode prog_1_method_22_code 0 = .ok (.iload_n 1, 1) := by decide +kernel
theorem d_PM_needPerson_1 : decode prog_1_method_22_code 1 = .ok (.bipush 10, 2) := by decide +kernel
theorem d_PM_needPerson_3 : decode prog_1_method_22_code 3 = .ok (.invokestatic 132, 3) := by decide +kernel
theorem d_PM_needPerson_6 : decode prog_1_method_22_code 6 = .ok (.return_, 1) := by decide +kernel
theorem d_PM_needKnown_0 : decode prog_1_method_23_code 0 = .ok (.iload_n 0, 1) := by decide +kernel
theorem d_PM_needKnown_1 : decode prog_1_method_23_code 1 = .ok (.ifCond .lt 8, 3) := by decide +kernel
theorem d_PM_needKnown_4 : decode prog_1_method_23_code 4 = .ok (.iload_n 0, 1) := by decide +kernel
theorem d_PM_needKnown_5 : decode prog_1_method_23_code 5 = .ok (.iload_n 1, 1) := by decide +kernel
theorem d_PM_needKnown_6 : decode prog_1_method_23_code 6 = .ok (.if_icmp .lt 13, 3) := by decide +kernel
theorem d_PM_needKnown_9 : decode prog_1_method_23_code 9 = .ok (.new 191, 3) := by decide +kernel
theorem d_PM_needKnown_12 : decode prog_1_method_23_code 12 = .ok (.dup, 1) := by decide +kernel
theorem d_PM_needKnown_13 : decode prog_1_method_23_code 13 = .ok (.ldc 193, 2) := by decide +kernel
theorem d_PM_needKnown_15 : decode prog_1_method_23_code 15 = .ok (.invokespecial 195, 3) := by decide +kernel
theorem d_PM_needKnown_18 : decode prog_1_method_23_code 18 = .ok (.athrow, 1) := by decide +kernel
theorem d_PM_needKnown_19 : decode prog_1_method_23_code 19 = .ok (.return_, 1) := by decide +kernel
theorem d_PM_needRange_0 : decode prog_1_method_24_code 0 = .ok (.iload_n 0, 1) := by decide +kernel
theorem d_PM_needRange_1 : decode prog_1_method_24_code 1 = .ok (.iload_n 1, 1) := by decide +kernel
theorem d_PM_needRange_2 : decode prog_1_method_24_code 2 = .ok (.if_icmp .lt 8, 3) := by decide +kernel
theorem d_PM_needRange_5 : decode prog_1_method_24_code 5 = .ok (.iload_n 0, 1) := by decide +kernel
theorem d_PM_needRange_6 : decode prog_1_method_24_code 6 = .ok (.iload_n 2, 1) := by decide +kernel
theorem d_PM_needRange_7 : decode prog_1_method_24_code 7 = .ok (.if_icmp .le 13, 3) := by decide +kernel
theorem d_PM_needRange_10 : decode prog_1_method_24_code 10 = .ok (.new 144, 3) := by decide +kernel
theorem d_PM_needRange_13 : decode prog_1_method_24_code 13 = .ok (.dup, 1) := by decide +kernel
theorem d_PM_needRange_14 : decode prog_1_method_24_code 14 = .ok (.ldc 196, 2) := by decide +kernel
theorem d_PM_needRange_16 : decode prog_1_method_24_code 16 = .ok (.invokespecial 148, 3) := by decide +kernel
theorem d_PM_needRange_19 : decode prog_1_method_24_code 19 = .ok (.athrow, 1) := by decide +kernel
theorem d_PM_needRange_20 : decode prog_1_method_24_code 20 = .ok (.return_, 1) := by decide +kernel
theorem d_PM_needRoom_0 : decode prog_1_method_25_code 0 = .ok (.iload_n 0, 1) := by decide +kernel
theorem d_PM_needRoom_1 : decode prog_1_method_25_code 1 = .ok (.iload_n 1, 1) := by decide +kernel
theorem d_PM_needRoom_2 : decode prog_1_method_25_code 2 = .ok (.if_icmp .lt 13, 3) := by decide +kernel
theorem d_PM_needRoom_5 : decode prog_1_method_25_code 5 = .ok (.new 198, 3) := by decide +kernel
theorem d_PM_needRoom_8 : decode prog_1_method_25_code 8 = .ok (.dup, 1) := by decide +kernel
theorem d_PM_needRoom_9 : decode prog_1_method_25_code 9 = .ok (.ldc 200, 2) := by decide +kernel
theorem d_PM_needRoom_11 : decode prog_1_method_25_code 11 = .ok (.invokespecial 202, 3) := by decide +kernel
theorem d_PM_needRoom_14 : decode prog_1_method_25_code 14 = .ok (.athrow, 1) := by decide +kernel
theorem d_PM_needRoom_15 : decode prog_1_method_25_code 15 = .ok (.return_, 1) := by decide +kernel
theorem d_PM_needKeysOf_0 : decode prog_1_method_26_code 0 = .ok (.aload_n 0, 1) := by decide +kernel
theorem d_PM_needKeysOf_1 : decode prog_1_method_26_code 1 = .ok (.getfield 19, 3) := by decide +kernel
theorem d_PM_needKeysOf_4 : decode prog_1_method_26_code 4 = .ok (.getfield 91, 3) := by decide +kernel
theorem d_PM_needKeysOf_7 : decode prog_1_method_26_code 7 = .ok (.iload_n 1, 1) := by decide +kernel
theorem d_PM_needKeysOf_8 : decode prog_1_method_26_code 8 = .ok (.iaload, 1) := by decide +kernel
theorem d_PM_needKeysOf_9 : decode prog_1_method_26_code 9 = .ok (.istore 4, 2) := by decide +kernel
theorem d_PM_needKeysOf_11 : decode prog_1_method_26_code 11 = .ok (.iload 4, 2) := by decide +kernel
theorem d_PM_needKeysOf_13 : decode prog_1_method_26_code 13 = .ok (.ifCond .eq 47, 3) := by decide +kernel
theorem d_PM_needKeysOf_16 : decode prog_1_method_26_code 16 = .ok (.iload 4, 2) := by decide +kernel
theorem d_PM_needKeysOf_18 : decode prog_1_method_26_code 18 = .ok (.iconst 1, 1) := by decide +kernel
theorem d_PM_needKeysOf_19 : decode prog_1_method_26_code 19 = .ok (.if_icmp .ne 12, 3) := by decide +kernel
theorem d_PM_needKeysOf_22 : decode prog_1_method_26_code 22 = .ok (.aload_n 0, 1) := by decide +kernel
theorem d_PM_needKeysOf_23 : decode prog_1_method_26_code 23 = .ok (.getfield 51, 3) := by decide +kernel
theorem d_PM_needKeysOf_26 : decode prog_1_method_26_code 26 = .ok (.iload_n 2, 1) := by decide +kernel
theorem d_PM_needKeysOf_27 : decode prog_1_method_26_code 27 = .ok (.baload, 1) := by decide +kernel
theorem d_PM_needKeysOf_28 : decode prog_1_method_26_code 28 = .ok (.ifCond .ne 32, 3) := by decide +kernel
theorem d_PM_needKeysOf_31 : decode prog_1_method_26_code 31 = .ok (.iload 4, 2) := by decide +kernel
theorem d_PM_needKeysOf_33 : decode prog_1_method_26_code 33 = .ok (.iconst 2, 1) := by decide +kernel
theorem d_PM_needKeysOf_34 : decode prog_1_method_26_code 34 = .ok (.if_icmp .ne 30, 3) := by decide +kernel
theorem d_PM_needKeysOf_37 : decode prog_1_method_26_code 37 = .ok (.aload_n 0, 1) := by decide +kernel
theorem d_PM_needKeysOf_38 : decode prog_1_method_26_code 38 = .ok (.getfield 51, 3) := by decide +kernel
theorem d_PM_needKeysOf_41 : decode prog_1_method_26_code 41 = .ok (.iload_n 2, 1) := by decide +kernel
theorem d_PM_needKeysOf_42 : decode prog_1_method_26_code 42 = .ok (.baload, 1) := by decide +kernel
theorem d_PM_needKeysOf_43 : decode prog_1_method_26_code 43 = .ok (.ifCond .eq 21, 3) := by decide +kernel
theorem d_PM_needKeysOf_46 : decode prog_1_method_26_code 46 = .ok (.aload_n 0, 1) := by decide +kernel
theorem d_PM_needKeysOf_47 : decode prog_1_method_26_code 47 = .ok (.getfield 51, 3) := by decide +kernel
theorem d_PM_needKeysOf_50 : decode prog_1_method_26_code 50 = .ok (.iload_n 3, 1) := by decide +kernel
theorem d_PM_needKeysOf_51 : decode prog_1_method_26_code 51 = .ok (.baload, 1) := by decide +kernel
theorem d_PM_needKeysOf_52 : decode prog_1_method_26_code 52 = .ok (.ifCond .eq 12, 3) := by decide +kernel
theorem d_PM_needKeysOf_55 : decode prog_1_method_26_code 55 = .ok (.iload_n 2, 1) := by decide +kernel
theorem d_PM_needKeysOf_56 : decode prog_1_method_26_code 56 = .ok (.iload_n 3, 1) := by decide +kernel
theorem d_PM_needKeysOf_57 : decode prog_1_method_26_code 57 = .ok (.if_icmp .eq 7, 3) := by decide +kernel
theorem d_PM_needKeysOf_60 : decode prog_1_method_26_code 60 = .ok (.iconst 1, 1) := by decide +kernel
theorem d_PM_needKeysOf_61 : decode prog_1_method_26_code 61 = .ok (.goto 4, 3) := by decide +kernel
theorem d_PM_needKeysOf_64 : decode prog_1_method_26_code 64 = .ok (.iconst 0, 1) := by decide +kernel
theorem d_PM_needKeysOf_65 : decode prog_1_method_26_code 65 = .ok (.istore 5, 2) := by decide +kernel
theorem d_PM_needKeysOf_67 : decode prog_1_method_26_code 67 = .ok (.iload 5, 2) := by decide +kernel
theorem d_PM_needKeysOf_69 : decode prog_1_method_26_code 69 = .ok (.ifCond .ne 13, 3) := by decide +kernel
theorem d_PM_needKeysOf_72 : decode prog_1_method_26_code 72 = .ok (.new 198, 3) := by decide +kernel
theorem d_PM_needKeysOf_75 : decode prog_1_method_26_code 75 = .ok (.dup, 1) := by decide +kernel
theorem d_PM_needKeysOf_76 : decode prog_1_method_26_code 76 = .ok (.ldc 203, 2) := by decide +kernel
theorem d_PM_needKeysOf_78 : decode prog_1_method_26_code 78 = .ok (.invokespecial 202, 3) := by decide +kernel
theorem d_PM_needKeysOf_81 : decode prog_1_method_26_code 81 = .ok (.athrow, 1) := by decide +kernel
theorem d_PM_needKeysOf_82 : decode prog_1_method_26_code 82 = .ok (.return_, 1) := by decide +kernel
theorem d_PM_placeAt_0 : decode prog_1_method_27_code 0 = .ok (.iload_n 1, 1) := by decide +kernel
theorem d_PM_placeAt_1 : decode prog_1_method_27_code 1 = .ok (.istore_n 3, 1) := by decide +kernel
theorem d_PM_placeAt_2 : decode prog_1_method_27_code 2 = .ok (.iconst 0, 1) := by decide +kernel
theorem d_PM_placeAt_3 : decode prog_1_method_27_code 3 = .ok (.istore 4, 2) := by decide +kernel
theorem d_PM_placeAt_5 : decode prog_1_method_27_code 5 = .ok (.iload 4, 2) := by decide +kernel
theorem d_PM_placeAt_7 : decode prog_1_method_27_code 7 = .ok (.bipush 20, 2) := by decide +kernel
theorem d_PM_placeAt_9 : decode prog_1_method_27_code 9 = .ok (.if_icmp .ge 77, 3) := by decide +kernel
theorem d_PM_placeAt_12 : decode prog_1_method_27_code 12 = .ok (.aload_n 0, 1) := by decide +kernel
theorem d_PM_placeAt_13 : decode prog_1_method_27_code 13 = .ok (.getfield 26, 3) := by decide +kernel
theorem d_PM_placeAt_16 : decode prog_1_method_27_code 16 = .ok (.iload_n 3, 1) := by decide +kernel
theorem d_PM_placeAt_17 : decode prog_1_method_27_code 17 = .ok (.iload_n 2, 1) := by decide +kernel
theorem d_PM_placeAt_18 : decode prog_1_method_27_code 18 = .ok (.invokevirtual 123, 3) := by decide +kernel
theorem d_PM_placeAt_21 : decode prog_1_method_27_code 21 = .ok (.istore 5, 2) := by decide +kernel
theorem d_PM_placeAt_23 : decode prog_1_method_27_code 23 = .ok (.iload 5, 2) := by decide +kernel
theorem d_PM_placeAt_25 : decode prog_1_method_27_code 25 = .ok (.iconst (-1), 1) := by decide +kernel
theorem d_PM_placeAt_26 : decode prog_1_method_27_code 26 = .ok (.if_icmp .eq 17, 3) := by decide +kernel
theorem d_PM_placeAt_29 : decode prog_1_method_27_code 29 = .ok (.aload_n 0, 1) := by decide +kernel
theorem d_PM_placeAt_30 : decode prog_1_method_27_code 30 = .ok (.getfield 26, 3) := by decide +kernel
theorem d_PM_placeAt_33 : decode prog_1_method_27_code 33 = .ok (.getfield 126, 3) := by decide +kernel
theorem d_PM_placeAt_36 : decode prog_1_method_27_code 36 = .ok (.iload 5, 2) := by decide +kernel
theorem d_PM_placeAt_38 : decode prog_1_method_27_code 38 = .ok (.iaload, 1) := by decide +kernel
theorem d_PM_placeAt_39 : decode prog_1_method_27_code 39 = .ok (.iconst 2, 1) := by decide +kernel
theorem d_PM_placeAt_40 : decode prog_1_method_27_code 40 = .ok (.if_icmp .ne 5, 3) := by decide +kernel
theorem d_PM_placeAt_43 : decode prog_1_method_27_code 43 = .ok (.iconst (-1), 1) := by decide +kernel
theorem d_PM_placeAt_44 : decode prog_1_method_27_code 44 = .ok (.ireturn, 1) := by decide +kernel
theorem d_PM_placeAt_45 : decode prog_1_method_27_code 45 = .ok (.aload_n 0, 1) := by decide +kernel
theorem d_PM_placeAt_46 : decode prog_1_method_27_code 46 = .ok (.getfield 26, 3) := by decide +kernel
theorem d_PM_placeAt_49 : decode prog_1_method_27_code 49 = .ok (.getfield 126, 3) := by decide +kernel
theorem d_PM_placeAt_52 : decode prog_1_method_27_code 52 = .ok (.iload 5, 2) := by decide +kernel
theorem d_PM_placeAt_54 : decode prog_1_method_27_code 54 = .ok (.iaload, 1) := by decide +kernel
theorem d_PM_placeAt_55 : decode prog_1_method_27_code 55 = .ok (.ifCond .ne 14, 3) := by decide +kernel
theorem d_PM_placeAt_58 : decode prog_1_method_27_code 58 = .ok (.aload_n 0, 1) := by decide +kernel
theorem d_PM_placeAt_59 : decode prog_1_method_27_code 59 = .ok (.getfield 26, 3) := by decide +kernel
theorem d_PM_placeAt_62 : decode prog_1_method_27_code 62 = .ok (.getfield 141, 3) := by decide +kernel
theorem d_PM_placeAt_65 : decode prog_1_method_27_code 65 = .ok (.iload 5, 2) := by decide +kernel
theorem d_PM_placeAt_67 : decode prog_1_method_27_code 67 = .ok (.iaload, 1) := by decide +kernel
theorem d_PM_placeAt_68 : decode prog_1_method_27_code 68 = .ok (.ireturn, 1) := by decide +kernel
theorem d_PM_placeAt_69 : decode prog_1_method_27_code 69 = .ok (.aload_n 0, 1) := by decide +kernel
theorem d_PM_placeAt_70 : decode prog_1_method_27_code 70 = .ok (.getfield 26, 3) := by decide +kernel
theorem d_PM_placeAt_73 : decode prog_1_method_27_code 73 = .ok (.getfield 141, 3) := by decide +kernel
theorem d_PM_placeAt_76 : decode prog_1_method_27_code 76 = .ok (.iload 5, 2) := by decide +kernel
theorem d_PM_placeAt_78 : decode prog_1_method_27_code 78 = .ok (.iaload, 1) := by decide +kernel
theorem d_PM_placeAt_79 : decode prog_1_method_27_code 79 = .ok (.istore_n 3, 1) := by decide +kernel
theorem d_PM_placeAt_80 : decode prog_1_method_27_code 80 = .ok (.iinc 4 1, 3) := by decide +kernel
theorem d_PM_placeAt_83 : decode prog_1_method_27_code 83 = .ok (.goto (-78), 3) := by decide +kernel
theorem d_PM_placeAt_86 : decode prog_1_method_27_code 86 = .ok (.iconst (-1), 1) := by decide +kernel
theorem d_PM_placeAt_87 : decode prog_1_method_27_code 87 = .ok (.ireturn, 1) := by decide +kernel
theorem d_PM_standsSince_0 : decode prog_1_method_28_code 0 = .ok (.iconst (-1), 1) := by decide +kernel
theorem d_PM_standsSince_1 : decode prog_1_method_28_code 1 = .ok (.istore_n 3, 1) := by decide +kernel
theorem d_PM_standsSince_2 : decode prog_1_method_28_code 2 = .ok (.iload_n 1, 1) := by decide +kernel
theorem d_PM_standsSince_3 : decode prog_1_method_28_code 3 = .ok (.istore 4, 2) := by decide +kernel
theorem d_PM_standsSince_5 : decode prog_1_method_28_code 5 = .ok (.iconst 0, 1) := by decide +kernel
theorem d_PM_standsSince_6 : decode prog_1_method_28_code 6 = .ok (.istore 5, 2) := by decide +kernel
theorem d_PM_standsSince_8 : decode prog_1_method_28_code 8 = .ok (.iload 5, 2) := by decide +kernel
theorem d_PM_standsSince_10 : decode prog_1_method_28_code 10 = .ok (.bipush 20, 2) := by decide +kernel
theorem d_PM_standsSince_12 : decode prog_1_method_28_code 12 = .ok (.if_icmp .ge 72, 3) := by decide +kernel
theorem d_PM_standsSince_15 : decode prog_1_method_28_code 15 = .ok (.aload_n 0, 1) := by decide +kernel
theorem d_PM_standsSince_16 : decode prog_1_method_28_code 16 = .ok (.getfield 26, 3) := by decide +kernel
theorem d_PM_standsSince_19 : decode prog_1_method_28_code 19 = .ok (.iload 4, 2) := by decide +kernel
theorem d_PM_standsSince_21 : decode prog_1_method_28_code 21 = .ok (.iload_n 2, 1) := by decide +kernel
theorem d_PM_standsSince_22 : decode prog_1_method_28_code 22 = .ok (.invokevirtual 123, 3) := by decide +kernel
theorem d_PM_standsSince_25 : decode prog_1_method_28_code 25 = .ok (.istore 6, 2) := by decide +kernel
theorem d_PM_standsSince_27 : decode prog_1_method_28_code 27 = .ok (.iload 6, 2) := by decide +kernel
theorem d_PM_standsSince_29 : decode prog_1_method_28_code 29 = .ok (.iconst (-1), 1) := by decide +kernel
theorem d_PM_standsSince_30 : decode prog_1_method_28_code 30 = .ok (.if_icmp .ne 5, 3) := by decide +kernel
theorem d_PM_standsSince_33 : decode prog_1_method_28_code 33 = .ok (.iload_n 3, 1) := by decide +kernel
theorem d_PM_standsSince_34 : decode prog_1_method_28_code 34 = .ok (.ireturn, 1) := by decide +kernel
theorem d_PM_standsSince_35 : decode prog_1_method_28_code 35 = .ok (.iload_n 3, 1) := by decide +kernel
theorem d_PM_standsSince_36 : decode prog_1_method_28_code 36 = .ok (.aload_n 0, 1) := by decide +kernel
theorem d_PM_standsSince_37 : decode prog_1_method_28_code 37 = .ok (.getfield 26, 3) := by decide +kernel
theorem d_PM_standsSince_40 : decode prog_1_method_28_code 40 = .ok (.getfield 138, 3) := by decide +kernel
theorem d_PM_standsSince_43 : decode prog_1_method_28_code 43 = .ok (.iload 6, 2) := by decide +kernel
theorem d_PM_standsSince_45 : decode prog_1_method_28_code 45 = .ok (.iaload, 1) := by decide +kernel
theorem d_PM_standsSince_46 : decode prog_1_method_28_code 46 = .ok (.invokestatic 205, 3) := by decide +kernel
theorem d_PM_standsSince_49 : decode prog_1_method_28_code 49 = .ok (.istore_n 3, 1) := by decide +kernel
theorem d_PM_standsSince_50 : decode prog_1_method_28_code 50 = .ok (.aload_n 0, 1) := by decide +kernel
theorem d_PM_standsSince_51 : decode prog_1_method_28_code 51 = .ok (.getfield 26, 3) := by decide +kernel
theorem d_PM_standsSince_54 : decode prog_1_method_28_code 54 = .ok (.getfield 126, 3) := by decide +kernel
theorem d_PM_standsSince_57 : decode prog_1_method_28_code 57 = .ok (.iload 6, 2) := by decide +kernel
theorem d_PM_standsSince_59 : decode prog_1_method_28_code 59 = .ok (.iaload, 1) := by decide +kernel
theorem d_PM_standsSince_60 : decode prog_1_method_28_code 60 = .ok (.iconst 1, 1) := by decide +kernel
theorem d_PM_standsSince_61 : decode prog_1_method_28_code 61 = .ok (.if_icmp .eq 5, 3) := by decide +kernel
theorem d_PM_standsSince_64 : decode prog_1_method_28_code 64 = .ok (.iload_n 3, 1) := by decide +kernel
theorem d_PM_standsSince_65 : decode prog_1_method_28_code 65 = .ok (.ireturn, 1) := by decide +kernel
theorem d_PM_standsSince_66 : decode prog_1_method_28_code 66 = .ok (.aload_n 0, 1) := by decide +kernel
theorem d_PM_standsSince_67 : decode prog_1_method_28_code 67 = .ok (.getfield 26, 3) := by decide +kernel
theorem d_PM_standsSince_70 : decode prog_1_method_28_code 70 = .ok (.getfield 141, 3) := by decide +kernel
theorem d_PM_standsSince_73 : decode prog_1_method_28_code 73 = .ok (.iload 6, 2) := by decide +kernel
theorem d_PM_standsSince_75 : decode prog_1_method_28_code 75 = .ok (.iaload, 1) := by decide +kernel
theorem d_PM_standsSince_76 : decode prog_1_method_28_code 76 = .ok (.istore 4, 2) := by decide +kernel
theorem d_PM_standsSince_78 : decode prog_1_method_28_code 78 = .ok (.iinc 5 1, 3) := by decide +kernel
theorem d_PM_standsSince_81 : decode prog_1_method_28_code 81 = .ok (.goto (-73), 3) := by decide +kernel
theorem d_PM_standsSince_84 : decode prog_1_method_28_code 84 = .ok (.iload_n 3, 1) := by decide +kernel
theorem d_PM_standsSince_85 : decode prog_1_method_28_code 85 = .ok (.ireturn, 1) := by decide +kernel
theorem d_PM_isWithin_0 : decode prog_1_method_29_code 0 = .ok (.iload_n 1, 1) := by decide +kernel
theorem d_PM_isWithin_1 : decode prog_1_method_29_code 1 = .ok (.istore 4, 2) := by decide +kernel
theorem d_PM_isWithin_3 : decode prog_1_method_29_code 3 = .ok (.iconst 0, 1) := by decide +kernel
theorem d_PM_isWithin_4 : decode prog_1_method_29_code 4 = .ok (.istore 5, 2) := by decide +kernel
theorem d_PM_isWithin_6 : decode prog_1_method_29_code 6 = .ok (.iload 5, 2) := by decide +kernel
theorem d_PM_isWithin_8 : decode prog_1_method_29_code 8 = .ok (.bipush 20, 2) := by decide +kernel
theorem d_PM_isWithin_10 : decode prog_1_method_29_code 10 = .ok (.if_icmp .ge 63, 3) := by decide +kernel
theorem d_PM_isWithin_13 : decode prog_1_method_29_code 13 = .ok (.aload_n 0, 1) := by decide +kernel
theorem d_PM_isWithin_14 : decode prog_1_method_29_code 14 = .ok (.getfield 26, 3) := by decide +kernel
theorem d_PM_isWithin_17 : decode prog_1_method_29_code 17 = .ok (.iload 4, 2) := by decide +kernel
theorem d_PM_isWithin_19 : decode prog_1_method_29_code 19 = .ok (.iload_n 3, 1) := by decide +kernel
theorem d_PM_isWithin_20 : decode prog_1_method_29_code 20 = .ok (.invokevirtual 123, 3) := by decide +kernel
theorem d_PM_isWithin_23 : decode prog_1_method_29_code 23 = .ok (.istore 6, 2) := by decide +kernel
theorem d_PM_isWithin_25 : decode prog_1_method_29_code 25 = .ok (.iload 6, 2) := by decide +kernel
theorem d_PM_isWithin_27 : decode prog_1_method_29_code 27 = .ok (.iconst (-1), 1) := by decide +kernel
theorem d_PM_isWithin_28 : decode prog_1_method_29_code 28 = .ok (.if_icmp .eq 17, 3) := by decide +kernel
theorem d_PM_isWithin_31 : decode prog_1_method_29_code 31 = .ok (.aload_n 0, 1) := by decide +kernel
theorem d_PM_isWithin_32 : decode prog_1_method_29_code 32 = .ok (.getfield 26, 3) := by decide +kernel
theorem d_PM_isWithin_35 : decode prog_1_method_29_code 35 = .ok (.getfield 126, 3) := by decide +kernel
theorem d_PM_isWithin_38 : decode prog_1_method_29_code 38 = .ok (.iload 6, 2) := by decide +kernel
theorem d_PM_isWithin_40 : decode prog_1_method_29_code 40 = .ok (.iaload, 1) := by decide +kernel
theorem d_PM_isWithin_41 : decode prog_1_method_29_code 41 = .ok (.iconst 1, 1) := by decide +kernel
theorem d_PM_isWithin_42 : decode prog_1_method_29_code 42 = .ok (.if_icmp .eq 5, 3) := by decide +kernel
theorem d_PM_isWithin_45 : decode prog_1_method_29_code 45 = .ok (.iconst 0, 1) := by decide +kernel
theorem d_PM_isWithin_46 : decode prog_1_method_29_code 46 = .ok (.ireturn, 1) := by decide +kernel
theorem d_PM_isWithin_47 : decode prog_1_method_29_code 47 = .ok (.aload_n 0, 1) := by decide +kernel
theorem d_PM_isWithin_48 : decode prog_1_method_29_code 48 = .ok (.getfield 26, 3) := by decide +kernel
theorem d_PM_isWithin_51 : decode prog_1_method_29_code 51 = .ok (.getfield 141, 3) := by decide +kernel
theorem d_PM_isWithin_54 : decode prog_1_method_29_code 54 = .ok (.iload 6, 2) := by decide +kernel
theorem d_PM_isWithin_56 : decode prog_1_method_29_code 56 = .ok (.iaload, 1) := by decide +kernel
theorem d_PM_isWithin_57 : decode prog_1_method_29_code 57 = .ok (.istore 4, 2) := by decide +kernel
theorem d_PM_isWithin_59 : decode prog_1_method_29_code 59 = .ok (.iload 4, 2) := by decide +kernel
theorem d_PM_isWithin_61 : decode prog_1_method_29_code 61 = .ok (.iload_n 2, 1) := by decide +kernel
theorem d_PM_isWithin_62 : decode prog_1_method_29_code 62 = .ok (.if_icmp .ne 5, 3) := by decide +kernel
theorem d_PM_isWithin_65 : decode prog_1_method_29_code 65 = .ok (.iconst 1, 1) := by decide +kernel
theorem d_PM_isWithin_66 : decode prog_1_method_29_code 66 = .ok (.ireturn, 1) := by decide +kernel
theorem d_PM_isWithin_67 : decode prog_1_method_29_code 67 = .ok (.iinc 5 1, 3) := by decide +kernel
theorem d_PM_isWithin_70 : decode prog_1_method_29_code 70 = .ok (.goto (-64), 3) := by decide +kernel
theorem d_PM_isWithin_73 : decode prog_1_method_29_code 73 = .ok (.iconst 0, 1) := by decide +kernel
theorem d_PM_isWithin_74 : decode prog_1_method_29_code 74 = .ok (.ireturn, 1) := by decide +kernel
theorem d_PM_isBarred_0 : decode prog_1_method_30_code 0 = .ok (.iconst 0, 1) := by decide +kernel
theorem d_PM_isBarred_1 : decode prog_1_method_30_code 1 = .ok (.istore 4, 2) := by decide +kernel
theorem d_PM_isBarred_3 : decode prog_1_method_30_code 3 = .ok (.iload 4, 2) := by decide +kernel
theorem d_PM_isBarred_5 : decode prog_1_method_30_code 5 = .ok (.aload_n 0, 1) := by decide +kernel
theorem d_PM_isBarred_6 : decode prog_1_method_30_code 6 = .ok (.getfield 47, 3) := by decide +kernel
theorem d_PM_isBarred_9 : decode prog_1_method_30_code 9 = .ok (.getfield 183, 3) := by decide +kernel
theorem d_PM_isBarred_12 : decode prog_1_method_30_code 12 = .ok (.if_icmp .ge 59, 3) := by decide +kernel
theorem d_PM_isBarred_15 : decode prog_1_method_30_code 15 = .ok (.aload_n 0, 1) := by decide +kernel
theorem d_PM_isBarred_16 : decode prog_1_method_30_code 16 = .ok (.getfield 47, 3) := by decide +kernel
theorem d_PM_isBarred_19 : decode prog_1_method_30_code 19 = .ok (.getfield 210, 3) := by decide +kernel
theorem d_PM_isBarred_22 : decode prog_1_method_30_code 22 = .ok (.iload 4, 2) := by decide +kernel
theorem d_PM_isBarred_24 : decode prog_1_method_30_code 24 = .ok (.iaload, 1) := by decide +kernel
theorem d_PM_isBarred_25 : decode prog_1_method_30_code 25 = .ok (.istore 5, 2) := by decide +kernel
theorem d_PM_isBarred_27 : decode prog_1_method_30_code 27 = .ok (.aload_n 0, 1) := by decide +kernel
theorem d_PM_isBarred_28 : decode prog_1_method_30_code 28 = .ok (.getfield 47, 3) := by decide +kernel
theorem d_PM_isBarred_31 : decode prog_1_method_30_code 31 = .ok (.iload 4, 2) := by decide +kernel
theorem d_PM_isBarred_33 : decode prog_1_method_30_code 33 = .ok (.iload_n 3, 1) := by decide +kernel
theorem d_PM_isBarred_34 : decode prog_1_method_30_code 34 = .ok (.invokevirtual 213, 3) := by decide +kernel
theorem d_PM_isBarred_37 : decode prog_1_method_30_code 37 = .ok (.ifCond .eq 28, 3) := by decide +kernel
theorem d_PM_isBarred_40 : decode prog_1_method_30_code 40 = .ok (.aload_n 0, 1) := by decide +kernel
theorem d_PM_isBarred_41 : decode prog_1_method_30_code 41 = .ok (.getfield 10, 3) := by decide +kernel
theorem d_PM_isBarred_44 : decode prog_1_method_30_code 44 = .ok (.iload_n 1, 1) := by decide +kernel
theorem d_PM_isBarred_45 : decode prog_1_method_30_code 45 = .ok (.iload 5, 2) := by decide +kernel
theorem d_PM_isBarred_47 : decode prog_1_method_30_code 47 = .ok (.invokevirtual 216, 3) := by decide +kernel
theorem d_PM_isBarred_50 : decode prog_1_method_30_code 50 = .ok (.aload_n 0, 1) := by decide +kernel
theorem d_PM_isBarred_51 : decode prog_1_method_30_code 51 = .ok (.getfield 10, 3) := by decide +kernel
theorem d_PM_isBarred_54 : decode prog_1_method_30_code 54 = .ok (.iload_n 2, 1) := by decide +kernel
theorem d_PM_isBarred_55 : decode prog_1_method_30_code 55 = .ok (.iload 5, 2) := by decide +kernel
theorem d_PM_isBarred_57 : decode prog_1_method_30_code 57 = .ok (.invokevirtual 216, 3) := by decide +kernel
theorem d_PM_isBarred_60 : decode prog_1_method_30_code 60 = .ok (.if_icmp .eq 5, 3) := by decide +kernel
theorem d_PM_isBarred_63 : decode prog_1_method_30_code 63 = .ok (.iconst 1, 1) := by decide +kernel
theorem d_PM_isBarred_64 : decode prog_1_method_30_code 64 = .ok (.ireturn, 1) := by decide +kernel
theorem d_PM_isBarred_65 : decode prog_1_method_30_code 65 = .ok (.iinc 4 1, 3) := by decide +kernel
theorem d_PM_isBarred_68 : decode prog_1_method_30_code 68 = .ok (.goto (-65), 3) := by decide +kernel
theorem d_PM_isBarred_71 : decode prog_1_method_30_code 71 = .ok (.iconst 0, 1) := by decide +kernel
theorem d_PM_isBarred_72 : decode prog_1_method_30_code 72 = .ok (.ireturn, 1) := by decide +kernel
theorem d_PM_comesByRow_0 : decode prog_1_method_31_code 0 = .ok (.aload_n 0, 1) := by decide +kernel
theorem d_PM_comesByRow_1 : decode prog_1_method_31_code 1 = .ok (.getfield 26, 3) := by decide +kernel
theorem d_PM_comesByRow_4 : decode prog_1_method_31_code 4 = .ok (.iload_n 1, 1) := by decide +kernel
theorem d_PM_comesByRow_5 : decode prog_1_method_31_code 5 = .ok (.iload_n 2, 1) := by decide +kernel
theorem d_PM_comesByRow_6 : decode prog_1_method_31_code 6 = .ok (.iload_n 3, 1) := by decide +kernel
theorem d_PM_comesByRow_7 : decode prog_1_method_31_code 7 = .ok (.iload 4, 2) := by decide +kernel
theorem d_PM_comesByRow_9 : decode prog_1_method_31_code 9 = .ok (.invokevirtual 219, 3) := by decide +kernel
theorem d_PM_comesByRow_12 : decode prog_1_method_31_code 12 = .ok (.aload_n 0, 1) := by decide +kernel
theorem d_PM_comesByRow_13 : decode prog_1_method_31_code 13 = .ok (.iload_n 1, 1) := by decide +kernel
theorem d_PM_comesByRow_14 : decode prog_1_method_31_code 14 = .ok (.iload_n 2, 1) := by decide +kernel
theorem d_PM_comesByRow_15 : decode prog_1_method_31_code 15 = .ok (.invokevirtual 105, 3) := by decide +kernel
theorem d_PM_comesByRow_18 : decode prog_1_method_31_code 18 = .ok (.istore 5, 2) := by decide +kernel
theorem d_PM_comesByRow_20 : decode prog_1_method_31_code 20 = .ok (.iload 5, 2) := by decide +kernel
theorem d_PM_comesByRow_22 : decode prog_1_method_31_code 22 = .ok (.iconst (-1), 1) := by decide +kernel
theorem d_PM_comesByRow_23 : decode prog_1_method_31_code 23 = .ok (.if_icmp .eq 25, 3) := by decide +kernel
theorem d_PM_comesByRow_26 : decode prog_1_method_31_code 26 = .ok (.aload_n 0, 1) := by decide +kernel
theorem d_PM_comesByRow_27 : decode prog_1_method_31_code 27 = .ok (.iload 5, 2) := by decide +kernel
theorem d_PM_comesByRow_29 : decode prog_1_method_31_code 29 = .ok (.iload_n 2, 1) := by decide +kernel
theorem d_PM_comesByRow_30 : decode prog_1_method_31_code 30 = .ok (.ldc 83, 2) := by decide +kernel
theorem d_PM_comesByRow_32 : decode prog_1_method_31_code 32 = .ok (.invokevirtual 168, 3) := by decide +kernel
theorem d_PM_comesByRow_35 : decode prog_1_method_31_code 35 = .ok (.ifCond .ne 13, 3) := by decide +kernel
theorem d_PM_comesByRow_38 : decode prog_1_method_31_code 38 = .ok (.aload_n 0, 1) := by decide +kernel
theorem d_PM_comesByRow_39 : decode prog_1_method_31_code 39 = .ok (.getfield 26, 3) := by decide +kernel
theorem d_PM_comesByRow_42 : decode prog_1_method_31_code 42 = .ok (.iload_n 1, 1) := by decide +kernel
theorem d_PM_comesByRow_43 : decode prog_1_method_31_code 43 = .ok (.invokevirtual 220, 3) := by decide +kernel
theorem d_PM_comesByRow_46 : decode prog_1_method_31_code 46 = .ok (.iconst 0, 1) := by decide +kernel
theorem d_PM_comesByRow_47 : decode prog_1_method_31_code 47 = .ok (.ireturn, 1) := by decide +kernel
theorem d_PM_comesByRow_48 : decode prog_1_method_31_code 48 = .ok (.aload_n 0, 1) := by decide +kernel
theorem d_PM_comesByRow_49 : decode prog_1_method_31_code 49 = .ok (.iload_n 2, 1) := by decide +kernel
theorem d_PM_comesByRow_50 : decode prog_1_method_31_code 50 = .ok (.putfield 59, 3) := by decide +kernel
theorem d_PM_comesByRow_53 : decode prog_1_method_31_code 53 = .ok (.iconst 1, 1) := by decide +kernel
theorem d_PM_comesByRow_54 : decode prog_1_method_31_code 54 = .ok (.ireturn, 1) := by decide +kernel
theorem d_PM_loadsHold_0 : decode prog_1_method_32_code 0 = .ok (.aload_n 0, 1) := by decide +kernel
theorem d_PM_loadsHold_1 : decode prog_1_method_32_code 1 = .ok (.iload_n 1, 1) := by decide +kernel
theorem d_PM_loadsHold_2 : decode prog_1_method_32_code 2 = .ok (.iload_n 2, 1) := by decide +kernel
theorem d_PM_loadsHold_3 : decode prog_1_method_32_code 3 = .ok (.invokevirtual 222, 3) := by decide +kernel
theorem d_PM_loadsHold_6 : decode prog_1_method_32_code 6 = .ok (.ifCond .ne 5, 3) := by decide +kernel
theorem d_PM_loadsHold_9 : decode prog_1_method_32_code 9 = .ok (.iconst 0, 1) := by decide +kernel
theorem d_PM_loadsHold_10 : decode prog_1_method_32_code 10 = .ok (.ireturn, 1) := by decide +kernel
theorem d_PM_loadsHold_11 : decode prog_1_method_32_code 11 = .ok (.iconst 0, 1) := by decide +kernel
theorem d_PM_loadsHold_12 : decode prog_1_method_32_code 12 = .ok (.istore 4, 2) := by decide +kernel
theorem d_PM_loadsHold_14 : decode prog_1_method_32_code 14 = .ok (.iload 4, 2) := by decide +kernel
theorem d_PM_loadsHold_16 : decode prog_1_method_32_code 16 = .ok (.aload_n 0, 1) := by decide +kernel
theorem d_PM_loadsHold_17 : decode prog_1_method_32_code 17 = .ok (.getfield 40, 3) := by decide +kernel
theorem d_PM_loadsHold_20 : decode prog_1_method_32_code 20 = .ok (.getfield 164, 3) := by decide +kernel
theorem d_PM_loadsHold_23 : decode prog_1_method_32_code 23 = .ok (.if_icmp .ge 45, 3) := by decide +kernel
theorem d_PM_loadsHold_26 : decode prog_1_method_32_code 26 = .ok (.aload_n 0, 1) := by decide +kernel
theorem d_PM_loadsHold_27 : decode prog_1_method_32_code 27 = .ok (.getfield 40, 3) := by decide +kernel
theorem d_PM_loadsHold_30 : decode prog_1_method_32_code 30 = .ok (.getfield 225, 3) := by decide +kernel
theorem d_PM_loadsHold_33 : decode prog_1_method_32_code 33 = .ok (.iload 4, 2) := by decide +kernel
theorem d_PM_loadsHold_35 : decode prog_1_method_32_code 35 = .ok (.iaload, 1) := by decide +kernel
theorem d_PM_loadsHold_36 : decode prog_1_method_32_code 36 = .ok (.istore 5, 2) := by decide +kernel
theorem d_PM_loadsHold_38 : decode prog_1_method_32_code 38 = .ok (.iload 5, 2) := by decide +kernel
theorem d_PM_loadsHold_40 : decode prog_1_method_32_code 40 = .ok (.iload_n 2, 1) := by decide +kernel
theorem d_PM_loadsHold_41 : decode prog_1_method_32_code 41 = .ok (.if_icmp .le 21, 3) := by decide +kernel
theorem d_PM_loadsHold_44 : decode prog_1_method_32_code 44 = .ok (.iload 5, 2) := by decide +kernel
theorem d_PM_loadsHold_46 : decode prog_1_method_32_code 46 = .ok (.iload_n 3, 1) := by decide +kernel
theorem d_PM_loadsHold_47 : decode prog_1_method_32_code 47 = .ok (.if_icmp .gt 15, 3) := by decide +kernel
theorem d_PM_loadsHold_50 : decode prog_1_method_32_code 50 = .ok (.aload_n 0, 1) := by decide +kernel
theorem d_PM_loadsHold_51 : decode prog_1_method_32_code 51 = .ok (.iload_n 1, 1) := by decide +kernel
theorem d_PM_loadsHold_52 : decode prog_1_method_32_code 52 = .ok (.iload 5, 2) := by decide +kernel
theorem d_PM_loadsHold_54 : decode prog_1_method_32_code 54 = .ok (.invokevirtual 222, 3) := by decide +kernel
theorem d_PM_loadsHold_57 : decode prog_1_method_32_code 57 = .ok (.ifCond .ne 5, 3) := by decide +kernel
theorem d_PM_loadsHold_60 : decode prog_1_method_32_code 60 = .ok (.iconst 0, 1) := by decide +kernel
theorem d_PM_loadsHold_61 : decode prog_1_method_32_code 61 = .ok (.ireturn, 1) := by decide +kernel
theorem d_PM_loadsHold_62 : decode prog_1_method_32_code 62 = .ok (.iinc 4 1, 3) := by decide +kernel
theorem d_PM_loadsHold_65 : decode prog_1_method_32_code 65 = .ok (.goto (-51), 3) := by decide +kernel
theorem d_PM_loadsHold_68 : decode prog_1_method_32_code 68 = .ok (.iconst 1, 1) := by decide +kernel
theorem d_PM_loadsHold_69 : decode prog_1_method_32_code 69 = .ok (.ireturn, 1) := by decide +kernel
theorem d_PM_loadsHoldAt_0 : decode prog_1_method_33_code 0 = .ok (.aload_n 0, 1) := by decide +kernel
theorem d_PM_loadsHoldAt_1 : decode prog_1_method_33_code 1 = .ok (.iload_n 2, 1) := by decide +kernel
theorem d_PM_loadsHoldAt_2 : decode prog_1_method_33_code 2 = .ok (.invokevirtual 174, 3) := by decide +kernel
theorem d_PM_loadsHoldAt_5 : decode prog_1_method_33_code 5 = .ok (.iconst 0, 1) := by decide +kernel
theorem d_PM_loadsHoldAt_6 : decode prog_1_method_33_code 6 = .ok (.istore_n 3, 1) := by decide +kernel
theorem d_PM_loadsHoldAt_7 : decode prog_1_method_33_code 7 = .ok (.iload_n 3, 1) := by decide +kernel
theorem d_PM_loadsHoldAt_8 : decode prog_1_method_33_code 8 = .ok (.aload_n 0, 1) := by decide +kernel
theorem d_PM_loadsHoldAt_9 : decode prog_1_method_33_code 9 = .ok (.getfield 10, 3) := by decide +kernel
theorem d_PM_loadsHoldAt_12 : decode prog_1_method_33_code 12 = .ok (.getfield 72, 3) := by decide +kernel
theorem d_PM_loadsHoldAt_15 : decode prog_1_method_33_code 15 = .ok (.if_icmp .ge 40, 3) := by decide +kernel
theorem d_PM_loadsHoldAt_18 : decode prog_1_method_33_code 18 = .ok (.aload_n 0, 1) := by decide +kernel
theorem d_PM_loadsHoldAt_19 : decode prog_1_method_33_code 19 = .ok (.getfield 10, 3) := by decide +kernel
theorem d_PM_loadsHoldAt_22 : decode prog_1_method_33_code 22 = .ok (.iload_n 1, 1) := by decide +kernel
theorem d_PM_loadsHoldAt_23 : decode prog_1_method_33_code 23 = .ok (.iload_n 3, 1) := by decide +kernel
theorem d_PM_loadsHoldAt_24 : decode prog_1_method_33_code 24 = .ok (.invokevirtual 216, 3) := by decide +kernel
theorem d_PM_loadsHoldAt_27 : decode prog_1_method_33_code 27 = .ok (.ifCond .eq 22, 3) := by decide +kernel
theorem d_PM_loadsHoldAt_30 : decode prog_1_method_33_code 30 = .ok (.aload_n 0, 1) := by decide +kernel
theorem d_PM_loadsHoldAt_31 : decode prog_1_method_33_code 31 = .ok (.iload_n 3, 1) := by decide +kernel
theorem d_PM_loadsHoldAt_32 : decode prog_1_method_33_code 32 = .ok (.invokevirtual 177, 3) := by decide +kernel
theorem d_PM_loadsHoldAt_35 : decode prog_1_method_33_code 35 = .ok (.aload_n 0, 1) := by decide +kernel
theorem d_PM_loadsHoldAt_36 : decode prog_1_method_33_code 36 = .ok (.getfield 10, 3) := by decide +kernel
theorem d_PM_loadsHoldAt_39 : decode prog_1_method_33_code 39 = .ok (.getfield 228, 3) := by decide +kernel
theorem d_PM_loadsHoldAt_42 : decode prog_1_method_33_code 42 = .ok (.iload_n 3, 1) := by decide +kernel
theorem d_PM_loadsHoldAt_43 : decode prog_1_method_33_code 43 = .ok (.iaload, 1) := by decide +kernel
theorem d_PM_loadsHoldAt_44 : decode prog_1_method_33_code 44 = .ok (.if_icmp .le 5, 3) := by decide +kernel
theorem d_PM_loadsHoldAt_47 : decode prog_1_method_33_code 47 = .ok (.iconst 0, 1) := by decide +kernel
theorem d_PM_loadsHoldAt_48 : decode prog_1_method_33_code 48 = .ok (.ireturn, 1) := by decide +kernel
theorem d_PM_loadsHoldAt_49 : decode prog_1_method_33_code 49 = .ok (.iinc 3 1, 3) := by decide +kernel
theorem d_PM_loadsHoldAt_52 : decode prog_1_method_33_code 52 = .ok (.goto (-45), 3) := by decide +kernel
theorem d_PM_loadsHoldAt_55 : decode prog_1_method_33_code 55 = .ok (.iconst 1, 1) := by decide +kernel
theorem d_PM_loadsHoldAt_56 : decode prog_1_method_33_code 56 = .ok (.ireturn, 1) := by decide +kernel
theorem d_PM_weighAt_0 : decode prog_1_method_34_code 0 = .ok (.iconst 0, 1) := by decide +kernel
theorem d_PM_weighAt_1 : decode prog_1_method_34_code 1 = .ok (.istore_n 2, 1) := by decide +kernel
theorem d_PM_weighAt_2 : decode prog_1_method_34_code 2 = .ok (.iload_n 2, 1) := by decide +kernel
theorem d_PM_weighAt_3 : decode prog_1_method_34_code 3 = .ok (.aload_n 0, 1) := by decide +kernel
theorem d_PM_weighAt_4 : decode prog_1_method_34_code 4 = .ok (.getfield 19, 3) := by decide +kernel
theorem d_PM_weighAt_7 : decode prog_1_method_34_code 7 = .ok (.getfield 84, 3) := by decide +kernel
theorem d_PM_weighAt_10 : decode prog_1_method_34_code 10 = .ok (.if_icmp .ge 28, 3) := by decide +kernel
theorem d_PM_weighAt_13 : decode prog_1_method_34_code 13 = .ok (.aload_n 0, 1) := by decide +kernel
theorem d_PM_weighAt_14 : decode prog_1_method_34_code 14 = .ok (.getfield 55, 3) := by decide +kernel
theorem d_PM_weighAt_17 : decode prog_1_method_34_code 17 = .ok (.iload_n 2, 1) := by decide +kernel
theorem d_PM_weighAt_18 : decode prog_1_method_34_code 18 = .ok (.aload_n 0, 1) := by decide +kernel
theorem d_PM_weighAt_19 : decode prog_1_method_34_code 19 = .ok (.getfield 10, 3) := by decide +kernel
theorem d_PM_weighAt_22 : decode prog_1_method_34_code 22 = .ok (.aload_n 0, 1) := by decide +kernel
theorem d_PM_weighAt_23 : decode prog_1_method_34_code 23 = .ok (.iload_n 2, 1) := by decide +kernel
theorem d_PM_weighAt_24 : decode prog_1_method_34_code 24 = .ok (.iload_n 1, 1) := by decide +kernel
theorem d_PM_weighAt_25 : decode prog_1_method_34_code 25 = .ok (.invokevirtual 105, 3) := by decide +kernel
theorem d_PM_weighAt_28 : decode prog_1_method_34_code 28 = .ok (.invokevirtual 231, 3) := by decide +kernel
theorem d_PM_weighAt_31 : decode prog_1_method_34_code 31 = .ok (.iastore, 1) := by decide +kernel
theorem d_PM_weighAt_32 : decode prog_1_method_34_code 32 = .ok (.iinc 2 1, 3) := by decide +kernel
theorem d_PM_weighAt_35 : decode prog_1_method_34_code 35 = .ok (.goto (-33), 3) := by decide +kernel
theorem d_PM_weighAt_38 : decode prog_1_method_34_code 38 = .ok (.iconst 0, 1) := by decide +kernel
theorem d_PM_weighAt_39 : decode prog_1_method_34_code 39 = .ok (.istore_n 2, 1) := by decide +kernel
theorem d_PM_weighAt_40 : decode prog_1_method_34_code 40 = .ok (.iload_n 2, 1) := by decide +kernel
theorem d_PM_weighAt_41 : decode prog_1_method_34_code 41 = .ok (.aload_n 0, 1) := by decide +kernel
theorem d_PM_weighAt_42 : decode prog_1_method_34_code 42 = .ok (.getfield 40, 3) := by decide +kernel
theorem d_PM_weighAt_45 : decode prog_1_method_34_code 45 = .ok (.getfield 164, 3) := by decide +kernel
theorem d_PM_weighAt_48 : decode prog_1_method_34_code 48 = .ok (.if_icmp .ge 54, 3) := by decide +kernel
theorem d_PM_weighAt_51 : decode prog_1_method_34_code 51 = .ok (.aload_n 0, 1) := by decide +kernel
theorem d_PM_weighAt_52 : decode prog_1_method_34_code 52 = .ok (.getfield 40, 3) := by decide +kernel
theorem d_PM_weighAt_55 : decode prog_1_method_34_code 55 = .ok (.iload_n 2, 1) := by decide +kernel
theorem d_PM_weighAt_56 : decode prog_1_method_34_code 56 = .ok (.iload_n 1, 1) := by decide +kernel
theorem d_PM_weighAt_57 : decode prog_1_method_34_code 57 = .ok (.invokevirtual 234, 3) := by decide +kernel
theorem d_PM_weighAt_60 : decode prog_1_method_34_code 60 = .ok (.ifCond .eq 36, 3) := by decide +kernel
theorem d_PM_weighAt_63 : decode prog_1_method_34_code 63 = .ok (.aload_n 0, 1) := by decide +kernel
theorem d_PM_weighAt_64 : decode prog_1_method_34_code 64 = .ok (.getfield 55, 3) := by decide +kernel
theorem d_PM_weighAt_67 : decode prog_1_method_34_code 67 = .ok (.aload_n 0, 1) := by decide +kernel
theorem d_PM_weighAt_68 : decode prog_1_method_34_code 68 = .ok (.getfield 40, 3) := by decide +kernel
theorem d_PM_weighAt_71 : decode prog_1_method_34_code 71 = .ok (.getfield 235, 3) := by decide +kernel
theorem d_PM_weighAt_74 : decode prog_1_method_34_code 74 = .ok (.iload_n 2, 1) := by decide +kernel
theorem d_PM_weighAt_75 : decode prog_1_method_34_code 75 = .ok (.iaload, 1) := by decide +kernel
theorem d_PM_weighAt_76 : decode prog_1_method_34_code 76 = .ok (.dup2, 1) := by decide +kernel
theorem d_PM_weighAt_77 : decode prog_1_method_34_code 77 = .ok (.iaload, 1) := by decide +kernel
theorem d_PM_weighAt_78 : decode prog_1_method_34_code 78 = .ok (.aload_n 0, 1) := by decide +kernel
theorem d_PM_weighAt_79 : decode prog_1_method_34_code 79 = .ok (.getfield 10, 3) := by decide +kernel
theorem d_PM_weighAt_82 : decode prog_1_method_34_code 82 = .ok (.aload_n 0, 1) := by decide +kernel
theorem d_PM_weighAt_83 : decode prog_1_method_34_code 83 = .ok (.getfield 40, 3) := by decide +kernel
theorem d_PM_weighAt_86 : decode prog_1_method_34_code 86 = .ok (.getfield 238, 3) := by decide +kernel
theorem d_PM_weighAt_89 : decode prog_1_method_34_code 89 = .ok (.iload_n 2, 1) := by decide +kernel
theorem d_PM_weighAt_90 : decode prog_1_method_34_code 90 = .ok (.iaload, 1) := by decide +kernel
theorem d_PM_weighAt_91 : decode prog_1_method_34_code 91 = .ok (.invokevirtual 231, 3) := by decide +kernel
theorem d_PM_weighAt_94 : decode prog_1_method_34_code 94 = .ok (.ior, 1) := by decide +kernel
theorem d_PM_weighAt_95 : decode prog_1_method_34_code 95 = .ok (.iastore, 1) := by decide +kernel
theorem d_PM_weighAt_96 : decode prog_1_method_34_code 96 = .ok (.iinc 2 1, 3) := by decide +kernel
theorem d_PM_weighAt_99 : decode prog_1_method_34_code 99 = .ok (.goto (-59), 3) := by decide +kernel
theorem d_PM_weighAt_102 : decode prog_1_method_34_code 102 = .ok (.return_, 1) := by decide +kernel
theorem d_PM_weightOf_0 : decode prog_1_method_35_code 0 = .ok (.iconst 0, 1) := by decide +kernel
theorem d_PM_weightOf_1 : decode prog_1_method_35_code 1 = .ok (.istore_n 2, 1) := by decide +kernel
theorem d_PM_weightOf_2 : decode prog_1_method_35_code 2 = .ok (.iconst 0, 1) := by decide +kernel
theorem d_PM_weightOf_3 : decode prog_1_method_35_code 3 = .ok (.istore_n 3, 1) := by decide +kernel
theorem d_PM_weightOf_4 : decode prog_1_method_35_code 4 = .ok (.iload_n 3, 1) := by decide +kernel
theorem d_PM_weightOf_5 : decode prog_1_method_35_code 5 = .ok (.aload_n 0, 1) := by decide +kernel
theorem d_PM_weightOf_6 : decode prog_1_method_35_code 6 = .ok (.getfield 19, 3) := by decide +kernel
theorem d_PM_weightOf_9 : decode prog_1_method_35_code 9 = .ok (.getfield 84, 3) := by decide +kernel
theorem d_PM_weightOf_12 : decode prog_1_method_35_code 12 = .ok (.if_icmp .ge 35, 3) := by decide +kernel
theorem d_PM_weightOf_15 : decode prog_1_method_35_code 15 = .ok (.aload_n 0, 1) := by decide +kernel
theorem d_PM_weightOf_16 : decode prog_1_method_35_code 16 = .ok (.getfield 55, 3) := by decide +kernel
theorem d_PM_weightOf_19 : decode prog_1_method_35_code 19 = .ok (.iload_n 3, 1) := by decide +kernel
theorem d_PM_weightOf_20 : decode prog_1_method_35_code 20 = .ok (.iaload, 1) := by decide +kernel
theorem d_PM_weightOf_21 : decode prog_1_method_35_code 21 = .ok (.iload_n 1, 1) := by decide +kernel
theorem d_PM_weightOf_22 : decode prog_1_method_35_code 22 = .ok (.iushr, 1) := by decide +kernel
theorem d_PM_weightOf_23 : decode prog_1_method_35_code 23 = .ok (.iconst 1, 1) := by decide +kernel
theorem d_PM_weightOf_24 : decode prog_1_method_35_code 24 = .ok (.iand, 1) := by decide +kernel
theorem d_PM_weightOf_25 : decode prog_1_method_35_code 25 = .ok (.iconst 1, 1) := by decide +kernel
theorem d_PM_weightOf_26 : decode prog_1_method_35_code 26 = .ok (.if_icmp .ne 15, 3) := by decide +kernel
theorem d_PM_weightOf_29 : decode prog_1_method_35_code 29 = .ok (.iload_n 2, 1) := by decide +kernel
theorem d_PM_weightOf_30 : decode prog_1_method_35_code 30 = .ok (.aload_n 0, 1) := by decide +kernel
theorem d_PM_weightOf_31 : decode prog_1_method_35_code 31 = .ok (.getfield 19, 3) := by decide +kernel
theorem d_PM_weightOf_34 : decode prog_1_method_35_code 34 = .ok (.getfield 239, 3) := by decide +kernel
theorem d_PM_weightOf_37 : decode prog_1_method_35_code 37 = .ok (.iload_n 3, 1) := by decide +kernel
theorem d_PM_weightOf_38 : decode prog_1_method_35_code 38 = .ok (.iaload, 1) := by decide +kernel
theorem d_PM_weightOf_39 : decode prog_1_method_35_code 39 = .ok (.iadd, 1) := by decide +kernel
theorem d_PM_weightOf_40 : decode prog_1_method_35_code 40 = .ok (.istore_n 2, 1) := by decide +kernel
theorem d_PM_weightOf_41 : decode prog_1_method_35_code 41 = .ok (.iinc 3 1, 3) := by decide +kernel
theorem d_PM_weightOf_44 : decode prog_1_method_35_code 44 = .ok (.goto (-40), 3) := by decide +kernel
theorem d_PM_weightOf_47 : decode prog_1_method_35_code 47 = .ok (.iload_n 2, 1) := by decide +kernel
theorem d_PM_weightOf_48 : decode prog_1_method_35_code 48 = .ok (.ireturn, 1) := by decide +kernel
theorem d_PM_fits_0 : decode prog_1_method_36_code 0 = .ok (.aload_n 0, 1) := by decide +kernel
theorem d_PM_fits_1 : decode prog_1_method_36_code 1 = .ok (.getfield 19, 3) := by decide +kernel
theorem d_PM_fits_4 : decode prog_1_method_36_code 4 = .ok (.getfield 242, 3) := by decide +kernel
theorem d_PM_fits_7 : decode prog_1_method_36_code 7 = .ok (.iload_n 1, 1) := by decide +kernel
theorem d_PM_fits_8 : decode prog_1_method_36_code 8 = .ok (.iaload, 1) := by decide +kernel
theorem d_PM_fits_9 : decode prog_1_method_36_code 9 = .ok (.istore_n 3, 1) := by decide +kernel
theorem d_PM_fits_10 : decode prog_1_method_36_code 10 = .ok (.aload_n 0, 1) := by decide +kernel
theorem d_PM_fits_11 : decode prog_1_method_36_code 11 = .ok (.getfield 19, 3) := by decide +kernel
theorem d_PM_fits_14 : decode prog_1_method_36_code 14 = .ok (.getfield 245, 3) := by decide +kernel
theorem d_PM_fits_17 : decode prog_1_method_36_code 17 = .ok (.iload_n 1, 1) := by decide +kernel
theorem d_PM_fits_18 : decode prog_1_method_36_code 18 = .ok (.iaload, 1) := by decide +kernel
theorem d_PM_fits_19 : decode prog_1_method_36_code 19 = .ok (.istore 4, 2) := by decide +kernel
theorem d_PM_fits_21 : decode prog_1_method_36_code 21 = .ok (.aload_n 0, 1) := by decide +kernel
theorem d_PM_fits_22 : decode prog_1_method_36_code 22 = .ok (.getfield 19, 3) := by decide +kernel
theorem d_PM_fits_25 : decode prog_1_method_36_code 25 = .ok (.getfield 248, 3) := by decide +kernel
theorem d_PM_fits_28 : decode prog_1_method_36_code 28 = .ok (.iload_n 1, 1) := by decide +kernel
theorem d_PM_fits_29 : decode prog_1_method_36_code 29 = .ok (.iaload, 1) := by decide +kernel
theorem d_PM_fits_30 : decode prog_1_method_36_code 30 = .ok (.istore 5, 2) := by decide +kernel
theorem d_PM_fits_32 : decode prog_1_method_36_code 32 = .ok (.aload_n 0, 1) := by decide +kernel
theorem d_PM_fits_33 : decode prog_1_method_36_code 33 = .ok (.getfield 33, 3) := by decide +kernel
theorem d_PM_fits_36 : decode prog_1_method_36_code 36 = .ok (.iload_n 2, 1) := by decide +kernel
theorem d_PM_fits_37 : decode prog_1_method_36_code 37 = .ok (.iload 4, 2) := by decide +kernel
theorem d_PM_fits_39 : decode prog_1_method_36_code 39 = .ok (.iload_n 3, 1) := by decide +kernel
theorem d_PM_fits_40 : decode prog_1_method_36_code 40 = .ok (.invokevirtual 251, 3) := by decide +kernel
theorem d_PM_fits_43 : decode prog_1_method_36_code 43 = .ok (.ifCond .ne 32, 3) := by decide +kernel
theorem d_PM_fits_46 : decode prog_1_method_36_code 46 = .ok (.aload_n 0, 1) := by decide +kernel
theorem d_PM_fits_47 : decode prog_1_method_36_code 47 = .ok (.getfield 33, 3) := by decide +kernel
theorem d_PM_fits_50 : decode prog_1_method_36_code 50 = .ok (.iload_n 2, 1) := by decide +kernel
theorem d_PM_fits_51 : decode prog_1_method_36_code 51 = .ok (.iload 5, 2) := by decide +kernel
theorem d_PM_fits_53 : decode prog_1_method_36_code 53 = .ok (.iload_n 3, 1) := by decide +kernel
theorem d_PM_fits_54 : decode prog_1_method_36_code 54 = .ok (.invokevirtual 251, 3) := by decide +kernel
theorem d_PM_fits_57 : decode prog_1_method_36_code 57 = .ok (.ifCond .ne 18, 3) := by decide +kernel
theorem d_PM_fits_60 : decode prog_1_method_36_code 60 = .ok (.aload_n 0, 1) := by decide +kernel
theorem d_PM_fits_61 : decode prog_1_method_36_code 61 = .ok (.getfield 33, 3) := by decide +kernel
theorem d_PM_fits_64 : decode prog_1_method_36_code 64 = .ok (.iload_n 2, 1) := by decide +kernel
theorem d_PM_fits_65 : decode prog_1_method_36_code 65 = .ok (.iload 5, 2) := by decide +kernel
theorem d_PM_fits_67 : decode prog_1_method_36_code 67 = .ok (.iload 4, 2) := by decide +kernel
theorem d_PM_fits_69 : decode prog_1_method_36_code 69 = .ok (.invokevirtual 251, 3) := by decide +kernel
theorem d_PM_fits_72 : decode prog_1_method_36_code 72 = .ok (.ifCond .eq 7, 3) := by decide +kernel
theorem d_PM_fits_75 : decode prog_1_method_36_code 75 = .ok (.iconst 1, 1) := by decide +kernel
theorem d_PM_fits_76 : decode prog_1_method_36_code 76 = .ok (.goto 4, 3) := by decide +kernel
theorem d_PM_fits_79 : decode prog_1_method_36_code 79 = .ok (.iconst 0, 1) := by decide +kernel
theorem d_PM_fits_80 : decode prog_1_method_36_code 80 = .ok (.ireturn, 1) := by decide +kernel
theorem d_PM_fittingDoors_0 : decode prog_1_method_37_code 0 = .ok (.lconst 0, 1) := by decide +kernel
theorem d_PM_fittingDoors_1 : decode prog_1_method_37_code 1 = .ok (.lstore_n 2, 1) := by decide +kernel
theorem d_PM_fittingDoors_2 : decode prog_1_method_37_code 2 = .ok (.iconst 0, 1) := by decide +kernel
theorem d_PM_fittingDoors_3 : decode prog_1_method_37_code 3 = .ok (.istore 4, 2) := by decide +kernel
theorem d_PM_fittingDoors_5 : decode prog_1_method_37_code 5 = .ok (.iload 4, 2) := by decide +kernel
theorem d_PM_fittingDoors_7 : decode prog_1_method_37_code 7 = .ok (.aload_n 0, 1) := by decide +kernel
theorem d_PM_fittingDoors_8 : decode prog_1_method_37_code 8 = .ok (.getfield 33, 3) := by decide +kernel
theorem d_PM_fittingDoors_11 : decode prog_1_method_37_code 11 = .ok (.getfield 151, 3) := by decide +kernel
theorem d_PM_fittingDoors_14 : decode prog_1_method_37_code 14 = .ok (.if_icmp .ge 26, 3) := by decide +kernel
theorem d_PM_fittingDoors_17 : decode prog_1_method_37_code 17 = .ok (.aload_n 0, 1) := by decide +kernel
theorem d_PM_fittingDoors_18 : decode prog_1_method_37_code 18 = .ok (.iload_n 1, 1) := by decide +kernel
theorem d_PM_fittingDoors_19 : decode prog_1_method_37_code 19 = .ok (.iload 4, 2) := by decide +kernel
theorem d_PM_fittingDoors_21 : decode prog_1_method_37_code 21 = .ok (.invokevirtual 153, 3) := by decide +kernel
theorem d_PM_fittingDoors_24 : decode prog_1_method_37_code 24 = .ok (.ifCond .eq 10, 3) := by decide +kernel
theorem d_PM_fittingDoors_27 : decode prog_1_method_37_code 27 = .ok (.lload_n 2, 1) := by decide +kernel
theorem d_PM_fittingDoors_28 : decode prog_1_method_37_code 28 = .ok (.lconst 1, 1) := by decide +kernel
theorem d_PM_fittingDoors_29 : decode prog_1_method_37_code 29 = .ok (.iload 4, 2) := by decide +kernel
theorem d_PM_fittingDoors_31 : decode prog_1_method_37_code 31 = .ok (.lshl, 1) := by decide +kernel
theorem d_PM_fittingDoors_32 : decode prog_1_method_37_code 32 = .ok (.lor, 1) := by decide +kernel
theorem d_PM_fittingDoors_33 : decode prog_1_method_37_code 33 = .ok (.lstore_n 2, 1) := by decide +kernel
theorem d_PM_fittingDoors_34 : decode prog_1_method_37_code 34 = .ok (.iinc 4 1, 3) := by decide +kernel
theorem d_PM_fittingDoors_37 : decode prog_1_method_37_code 37 = .ok (.goto (-32), 3) := by decide +kernel
theorem d_PM_fittingDoors_40 : decode prog_1_method_37_code 40 = .ok (.lload_n 2, 1) := by decide +kernel
theorem d_PM_fittingDoors_41 : decode prog_1_method_37_code 41 = .ok (.lreturn, 1) := by decide +kernel
theorem d_PM_doorsBetween_0 : decode prog_1_method_38_code 0 = .ok (.iconst 1, 1) := by decide +kernel
theorem d_PM_doorsBetween_1 : decode prog_1_method_38_code 1 = .ok (.iload_n 1, 1) := by decide +kernel
theorem d_PM_doorsBetween_2 : decode prog_1_method_38_code 2 = .ok (.ishl, 1) := by decide +kernel
theorem d_PM_doorsBetween_3 : decode prog_1_method_38_code 3 = .ok (.istore 5, 2) := by decide +kernel
theorem d_PM_doorsBetween_5 : decode prog_1_method_38_code 5 = .ok (.iconst 0, 1) := by decide +kernel
theorem d_PM_doorsBetween_6 : decode prog_1_method_38_code 6 = .ok (.istore 6, 2) := by decide +kernel
theorem d_PM_doorsBetween_8 : decode prog_1_method_38_code 8 = .ok (.iload 6, 2) := by decide +kernel
theorem d_PM_doorsBetween_10 : decode prog_1_method_38_code 10 = .ok (.bipush 24, 2) := by decide +kernel
theorem d_PM_doorsBetween_12 : decode prog_1_method_38_code 12 = .ok (.if_icmp .ge 47, 3) := by decide +kernel
theorem d_PM_doorsBetween_15 : decode prog_1_method_38_code 15 = .ok (.iload 5, 2) := by decide +kernel
theorem d_PM_doorsBetween_17 : decode prog_1_method_38_code 17 = .ok (.iload_n 2, 1) := by decide +kernel
theorem d_PM_doorsBetween_18 : decode prog_1_method_38_code 18 = .ok (.iushr, 1) := by decide +kernel
theorem d_PM_doorsBetween_19 : decode prog_1_method_38_code 19 = .ok (.iconst 1, 1) := by decide +kernel
theorem d_PM_doorsBetween_20 : decode prog_1_method_38_code 20 = .ok (.iand, 1) := by decide +kernel
theorem d_PM_doorsBetween_21 : decode prog_1_method_38_code 21 = .ok (.iconst 1, 1) := by decide +kernel
theorem d_PM_doorsBetween_22 : decode prog_1_method_38_code 22 = .ok (.if_icmp .ne 6, 3) := by decide +kernel
theorem d_PM_doorsBetween_25 : decode prog_1_method_38_code 25 = .ok (.iload 6, 2) := by decide +kernel
theorem d_PM_doorsBetween_27 : decode prog_1_method_38_code 27 = .ok (.ireturn, 1) := by decide +kernel
theorem d_PM_doorsBetween_28 : decode prog_1_method_38_code 28 = .ok (.aload_n 0, 1) := by decide +kernel
theorem d_PM_doorsBetween_29 : decode prog_1_method_38_code 29 = .ok (.getfield 33, 3) := by decide +kernel
theorem d_PM_doorsBetween_32 : decode prog_1_method_38_code 32 = .ok (.iload 5, 2) := by decide +kernel
theorem d_PM_doorsBetween_34 : decode prog_1_method_38_code 34 = .ok (.lload_n 3, 1) := by decide +kernel
theorem d_PM_doorsBetween_35 : decode prog_1_method_38_code 35 = .ok (.invokevirtual 254, 3) := by decide +kernel
theorem d_PM_doorsBetween_38 : decode prog_1_method_38_code 38 = .ok (.istore 7, 2) := by decide +kernel
theorem d_PM_doorsBetween_40 : decode prog_1_method_38_code 40 = .ok (.iload 7, 2) := by decide +kernel
theorem d_PM_doorsBetween_42 : decode prog_1_method_38_code 42 = .ok (.iload 5, 2) := by decide +kernel
theorem d_PM_doorsBetween_44 : decode prog_1_method_38_code 44 = .ok (.if_icmp .ne 5, 3) := by decide +kernel
theorem d_PM_doorsBetween_47 : decode prog_1_method_38_code 47 = .ok (.iconst (-1), 1) := by decide +kernel
theorem d_PM_doorsBetween_48 : decode prog_1_method_38_code 48 = .ok (.ireturn, 1) := by decide +kernel
theorem d_PM_doorsBetween_49 : decode prog_1_method_38_code 49 = .ok (.iload 7, 2) := by decide +kernel
theorem d_PM_doorsBetween_51 : decode prog_1_method_38_code 51 = .ok (.istore 5, 2) := by decide +kernel
theorem d_PM_doorsBetween_53 : decode prog_1_method_38_code 53 = .ok (.iinc 6 1, 3) := by decide +kernel
theorem d_PM_doorsBetween_56 : decode prog_1_method_38_code 56 = .ok (.goto (-48), 3) := by decide +kernel
theorem d_PM_doorsBetween_59 : decode prog_1_method_38_code 59 = .ok (.iconst (-1), 1) := by decide +kernel
theorem d_PM_doorsBetween_60 : decode prog_1_method_38_code 60 = .ok (.ireturn, 1) := by decide +kernel
theorem d_Places_init_0 : decode prog_3_method_1_code 0 = .ok (.aload_n 0, 1) := by decide +kernel
theorem d_Places_init_1 : decode prog_3_method_1_code 1 = .ok (.invokespecial 3, 3) := by decide +kernel
theorem d_Places_init_4 : decode prog_3_method_1_code 4 = .ok (.aload_n 0, 1) := by decide +kernel
theorem d_Places_init_5 : decode prog_3_method_1_code 5 = .ok (.bipush 24, 2) := by decide +kernel
theorem d_Places_init_7 : decode prog_3_method_1_code 7 = .ok (.newarray .int, 2) := by decide +kernel
theorem d_Places_init_9 : decode prog_3_method_1_code 9 = .ok (.putfield 9, 3) := by decide +kernel
theorem d_Places_init_12 : decode prog_3_method_1_code 12 = .ok (.aload_n 0, 1) := by decide +kernel
theorem d_Places_init_13 : decode prog_3_method_1_code 13 = .ok (.bipush 24, 2) := by decide +kernel
theorem d_Places_init_15 : decode prog_3_method_1_code 15 = .ok (.newarray .int, 2) := by decide +kernel
theorem d_Places_init_17 : decode prog_3_method_1_code 17 = .ok (.putfield 15, 3) := by decide +kernel
theorem d_Places_init_20 : decode prog_3_method_1_code 20 = .ok (.aload_n 0, 1) := by decide +kernel
theorem d_Places_init_21 : decode prog_3_method_1_code 21 = .ok (.iconst 0, 1) := by decide +kernel
theorem d_Places_init_22 : decode prog_3_method_1_code 22 = .ok (.putfield 18, 3) := by decide +kernel
theorem d_Places_init_25 : decode prog_3_method_1_code 25 = .ok (.return_, 1) := by decide +kernel
theorem d_Places_add_0 : decode prog_3_method_2_code 0 = .ok (.aload_n 0, 1) := by decide +kernel
theorem d_Places_add_1 : decode prog_3_method_2_code 1 = .ok (.getfield 18, 3) := by decide +kernel
theorem d_Places_add_4 : decode prog_3_method_2_code 4 = .ok (.istore_n 3, 1) := by decide +kernel
theorem d_Places_add_5 : decode prog_3_method_2_code 5 = .ok (.aload_n 0, 1) := by decide +kernel
theorem d_Places_add_6 : decode prog_3_method_2_code 6 = .ok (.getfield 9, 3) := by decide +kernel
theorem d_Places_add_9 : decode prog_3_method_2_code 9 = .ok (.iload_n 3, 1) := by decide +kernel
theorem d_Places_add_10 : decode prog_3_method_2_code 10 = .ok (.iload_n 2, 1) := by decide +kernel
theorem d_Places_add_11 : decode prog_3_method_2_code 11 = .ok (.iastore, 1) := by decide +kernel
theorem d_Places_add_12 : decode prog_3_method_2_code 12 = .ok (.aload_n 0, 1) := by decide +kernel
theorem d_Places_add_13 : decode prog_3_method_2_code 13 = .ok (.getfield 15, 3) := by decide +kernel
theorem d_Places_add_16 : decode prog_3_method_2_code 16 = .ok (.iload_n 3, 1) := by decide +kernel
theorem d_Places_add_17 : decode prog_3_method_2_code 17 = .ok (.aload_n 0, 1) := by decide +kernel
theorem d_Places_add_18 : decode prog_3_method_2_code 18 = .ok (.iload_n 1, 1) := by decide +kernel
theorem d_Places_add_19 : decode prog_3_method_2_code 19 = .ok (.invokevirtual 22, 3) := by decide +kernel
theorem d_Places_add_22 : decode prog_3_method_2_code 22 = .ok (.iconst 1, 1) := by decide +kernel
theorem d_Places_add_23 : decode prog_3_method_2_code 23 = .ok (.iload_n 3, 1) := by decide +kernel
theorem d_Places_add_24 : decode prog_3_method_2_code 24 = .ok (.ishl, 1) := by decide +kernel
theorem d_Places_add_25 : decode prog_3_method_2_code 25 = .ok (.ior, 1) := by decide +kernel
theorem d_Places_add_26 : decode prog_3_method_2_code 26 = .ok (.iastore, 1) := by decide +kernel
theorem d_Places_add_27 : decode prog_3_method_2_code 27 = .ok (.aload_n 0, 1) := by decide +kernel
theorem d_Places_add_28 : decode prog_3_method_2_code 28 = .ok (.iload_n 3, 1) := by decide +kernel
theorem d_Places_add_29 : decode prog_3_method_2_code 29 = .ok (.iconst 1, 1) := by decide +kernel
theorem d_Places_add_30 : decode prog_3_method_2_code 30 = .ok (.iadd, 1) := by decide +kernel
theorem d_Places_add_31 : decode prog_3_method_2_code 31 = .ok (.putfield 18, 3) := by decide +kernel
theorem d_Places_add_34 : decode prog_3_method_2_code 34 = .ok (.iload_n 3, 1) := by decide +kernel
theorem d_Places_add_35 : decode prog_3_method_2_code 35 = .ok (.ireturn, 1) := by decide +kernel
theorem d_Places_around_0 : decode prog_3_method_3_code 0 = .ok (.iload_n 1, 1) := by decide +kernel
theorem d_Places_around_1 : decode prog_3_method_3_code 1 = .ok (.ifCond .lt 11, 3) := by decide +kernel
theorem d_Places_around_4 : decode prog_3_method_3_code 4 = .ok (.iload_n 1, 1) := by decide +kernel
theorem d_Places_around_5 : decode prog_3_method_3_code 5 = .ok (.aload_n 0, 1) := by decide +kernel
theorem d_Places_around_6 : decode prog_3_method_3_code 6 = .ok (.getfield 18, 3) := by decide +kernel
theorem d_Places_around_9 : decode prog_3_method_3_code 9 = .ok (.if_icmp .lt 7, 3) := by decide +kernel
theorem d_Places_around_12 : decode prog_3_method_3_code 12 = .ok (.iconst 0, 1) := by decide +kernel
theorem d_Places_around_13 : decode prog_3_method_3_code 13 = .ok (.goto 9, 3) := by decide +kernel
theorem d_Places_around_16 : decode prog_3_method_3_code 16 = .ok (.aload_n 0, 1) := by decide +kernel
theorem d_Places_around_17 : decode prog_3_method_3_code 17 = .ok (.getfield 15, 3) := by decide +kernel
theorem d_Places_around_20 : decode prog_3_method_3_code 20 = .ok (.iload_n 1, 1) := by decide +kernel
theorem d_Places_around_21 : decode prog_3_method_3_code 21 = .ok (.iaload, 1) := by decide +kernel
theorem d_Places_around_22 : decode prog_3_method_3_code 22 = .ok (.ireturn, 1) := by decide +kernel
theorem d_Places_liesIn_0 : decode prog_3_method_4_code 0 = .ok (.aload_n 0, 1) := by decide +kernel
theorem d_Places_liesIn_1 : decode prog_3_method_4_code 1 = .ok (.iload_n 1, 1) := by decide +kernel
theorem d_Places_liesIn_2 : decode prog_3_method_4_code 2 = .ok (.invokevirtual 22, 3) := by decide +kernel
theorem d_Places_liesIn_5 : decode prog_3_method_4_code 5 = .ok (.iload_n 2, 1) := by decide +kernel
theorem d_Places_liesIn_6 : decode prog_3_method_4_code 6 = .ok (.iushr, 1) := by decide +kernel
theorem d_Places_liesIn_7 : decode prog_3_method_4_code 7 = .ok (.iconst 1, 1) := by decide +kernel
theorem d_Places_liesIn_8 : decode prog_3_method_4_code 8 = .ok (.iand, 1) := by decide +kernel
theorem d_Places_liesIn_9 : decode prog_3_method_4_code 9 = .ok (.iconst 1, 1) := by decide +kernel
theorem d_Places_liesIn_10 : decode prog_3_method_4_code 10 = .ok (.if_icmp .ne 7, 3) := by decide +kernel
theorem d_Places_liesIn_13 : decode prog_3_method_4_code 13 = .ok (.iconst 1, 1) := by decide +kernel
theorem d_Places_liesIn_14 : decode prog_3_method_4_code 14 = .ok (.goto 4, 3) := by decide +kernel
theorem d_Places_liesIn_17 : decode prog_3_method_4_code 17 = .ok (.iconst 0, 1) := by decide +kernel
theorem d_Places_liesIn_18 : decode prog_3_method_4_code 18 = .ok (.ireturn, 1) := by decide +kernel
theorem d_Things_init_0 : decode prog_7_method_1_code 0 = .ok (.aload_n 0, 1) := by decide +kernel
theorem d_Things_init_1 : decode prog_7_method_1_code 1 = .ok (.invokespecial 3, 3) := by decide +kernel
theorem d_Things_init_4 : decode prog_7_method_1_code 4 = .ok (.aload_n 0, 1) := by decide +kernel
theorem d_Things_init_5 : decode prog_7_method_1_code 5 = .ok (.bipush 20, 2) := by decide +kernel
theorem d_Things_init_7 : decode prog_7_method_1_code 7 = .ok (.newarray .int, 2) := by decide +kernel
theorem d_Things_init_9 : decode prog_7_method_1_code 9 = .ok (.putfield 9, 3) := by decide +kernel
theorem d_Things_init_12 : decode prog_7_method_1_code 12 = .ok (.aload_n 0, 1) := by decide +kernel
theorem d_Things_init_13 : decode prog_7_method_1_code 13 = .ok (.bipush 20, 2) := by decide +kernel
theorem d_Things_init_15 : decode prog_7_method_1_code 15 = .ok (.newarray .int, 2) := by decide +kernel
theorem d_Things_init_17 : decode prog_7_method_1_code 17 = .ok (.putfield 15, 3) := by decide +kernel
theorem d_Things_init_20 : decode prog_7_method_1_code 20 = .ok (.aload_n 0, 1) := by decide +kernel
theorem d_Things_init_21 : decode prog_7_method_1_code 21 = .ok (.bipush 20, 2) := by decide +kernel
theorem d_Things_init_23 : decode prog_7_method_1_code 23 = .ok (.newarray .int, 2) := by decide +kernel
theorem d_Things_init_25 : decode prog_7_method_1_code 25 = .ok (.putfield 18, 3) := by decide +kernel
theorem d_Things_init_28 : decode prog_7_method_1_code 28 = .ok (.aload_n 0, 1) := by decide +kernel
theorem d_Things_init_29 : decode prog_7_method_1_code 29 = .ok (.bipush 20, 2) := by decide +kernel
theorem d_Things_init_31 : decode prog_7_method_1_code 31 = .ok (.newarray .int, 2) := by decide +kernel
theorem d_Things_init_33 : decode prog_7_method_1_code 33 = .ok (.putfield 21, 3) := by decide +kernel
theorem d_Things_init_36 : decode prog_7_method_1_code 36 = .ok (.aload_n 0, 1) := by decide +kernel
theorem d_Things_init_37 : decode prog_7_method_1_code 37 = .ok (.bipush 20, 2) := by decide +kernel
theorem d_Things_init_39 : decode prog_7_method_1_code 39 = .ok (.newarray .int, 2) := by decide +kernel
theorem d_Things_init_41 : decode prog_7_method_1_code 41 = .ok (.putfield 24, 3) := by decide +kernel
theorem d_Things_init_44 : decode prog_7_method_1_code 44 = .ok (.aload_n 0, 1) := by decide +kernel
theorem d_Things_init_45 : decode prog_7_method_1_code 45 = .ok (.bipush 20, 2) := by decide +kernel
theorem d_Things_init_47 : decode prog_7_method_1_code 47 = .ok (.newarray .boolean, 2) := by decide +kernel
theorem d_Things_init_49 : decode prog_7_method_1_code 49 = .ok (.putfield 27, 3) := by decide +kernel
theorem d_Things_init_52 : decode prog_7_method_1_code 52 = .ok (.aload_n 0, 1) := by decide +kernel
theorem d_Things_init_53 : decode prog_7_method_1_code 53 = .ok (.iconst 0, 1) := by decide +kernel
theorem d_Things_init_54 : decode prog_7_method_1_code 54 = .ok (.putfield 31, 3) := by decide +kernel
theorem d_Things_init_57 : decode prog_7_method_1_code 57 = .ok (.return_, 1) := by decide +kernel
theorem d_Things_add_0 : decode prog_7_method_2_code 0 = .ok (.aload_n 0, 1) := by decide +kernel
theorem d_Things_add_1 : decode prog_7_method_2_code 1 = .ok (.getfield 31, 3) := by decide +kernel
theorem d_Things_add_4 : decode prog_7_method_2_code 4 = .ok (.istore 5, 2) := by decide +kernel
theorem d_Things_add_6 : decode prog_7_method_2_code 6 = .ok (.aload_n 0, 1) := by decide +kernel
theorem d_Things_add_7 : decode prog_7_method_2_code 7 = .ok (.getfield 9, 3) := by decide +kernel
theorem d_Things_add_10 : decode prog_7_method_2_code 10 = .ok (.iload 5, 2) := by decide +kernel
theorem d_Things_add_12 : decode prog_7_method_2_code 12 = .ok (.iload_n 1, 1) := by decide +kernel
theorem d_Things_add_13 : decode prog_7_method_2_code 13 = .ok (.iload_n 2, 1) := by decide +kernel
theorem d_Things_add_14 : decode prog_7_method_2_code 14 = .ok (.iload_n 3, 1) := by decide +kernel
theorem d_Things_add_15 : decode prog_7_method_2_code 15 = .ok (.invokestatic 35, 3) := by decide +kernel
theorem d_Things_add_18 : decode prog_7_method_2_code 18 = .ok (.invokestatic 35, 3) := by decide +kernel
theorem d_Things_add_21 : decode prog_7_method_2_code 21 = .ok (.iastore, 1) := by decide +kernel
theorem d_Things_add_22 : decode prog_7_method_2_code 22 = .ok (.aload_n 0, 1) := by decide +kernel
theorem d_Things_add_23 : decode prog_7_method_2_code 23 = .ok (.getfield 18, 3) := by decide +kernel
theorem d_Things_add_26 : decode prog_7_method_2_code 26 = .ok (.iload 5, 2) := by decide +kernel
theorem d_Things_add_28 : decode prog_7_method_2_code 28 = .ok (.iload_n 1, 1) := by decide +kernel
theorem d_Things_add_29 : decode prog_7_method_2_code 29 = .ok (.iload_n 2, 1) := by decide +kernel
theorem d_Things_add_30 : decode prog_7_method_2_code 30 = .ok (.iload_n 3, 1) := by decide +kernel
theorem d_Things_add_31 : decode prog_7_method_2_code 31 = .ok (.invokestatic 41, 3) := by decide +kernel
theorem d_Things_add_34 : decode prog_7_method_2_code 34 = .ok (.invokestatic 41, 3) := by decide +kernel
theorem d_Things_add_37 : decode prog_7_method_2_code 37 = .ok (.iastore, 1) := by decide +kernel
theorem d_Things_add_38 : decode prog_7_method_2_code 38 = .ok (.aload_n 0, 1) := by decide +kernel
theorem d_Things_add_39 : decode prog_7_method_2_code 39 = .ok (.getfield 15, 3) := by decide +kernel
theorem d_Things_add_42 : decode prog_7_method_2_code 42 = .ok (.iload 5, 2) := by decide +kernel
theorem d_Things_add_44 : decode prog_7_method_2_code 44 = .ok (.iload_n 1, 1) := by decide +kernel
theorem d_Things_add_45 : decode prog_7_method_2_code 45 = .ok (.iload_n 2, 1) := by decide +kernel
theorem d_Things_add_46 : decode prog_7_method_2_code 46 = .ok (.iadd, 1) := by decide +kernel
theorem d_Things_add_47 : decode prog_7_method_2_code 47 = .ok (.iload_n 3, 1) := by decide +kernel
theorem d_Things_add_48 : decode prog_7_method_2_code 48 = .ok (.iadd, 1) := by decide +kernel
theorem d_Things_add_49 : decode prog_7_method_2_code 49 = .ok (.aload_n 0, 1) := by decide +kernel
theorem d_Things_add_50 : decode prog_7_method_2_code 50 = .ok (.getfield 9, 3) := by decide +kernel
theorem d_Things_add_53 : decode prog_7_method_2_code 53 = .ok (.iload 5, 2) := by decide +kernel
theorem d_Things_add_55 : decode prog_7_method_2_code 55 = .ok (.iaload, 1) := by decide +kernel
theorem d_Things_add_56 : decode prog_7_method_2_code 56 = .ok (.isub, 1) := by decide +kernel
theorem d_Things_add_57 : decode prog_7_method_2_code 57 = .ok (.aload_n 0, 1) := by decide +kernel
theorem d_Things_add_58 : decode prog_7_method_2_code 58 = .ok (.getfield 18, 3) := by decide +kernel
theorem d_Things_add_61 : decode prog_7_method_2_code 61 = .ok (.iload 5, 2) := by decide +kernel
theorem d_Things_add_63 : decode prog_7_method_2_code 63 = .ok (.iaload, 1) := by decide +kernel
theorem d_Things_add_64 : decode prog_7_method_2_code 64 = .ok (.isub, 1) := by decide +kernel
theorem d_Things_add_65 : decode prog_7_method_2_code 65 = .ok (.iastore, 1) := by decide +kernel
theorem d_Things_add_66 : decode prog_7_method_2_code 66 = .ok (.aload_n 0, 1) := by decide +kernel
theorem d_Things_add_67 : decode prog_7_method_2_code 67 = .ok (.getfield 21, 3) := by decide +kernel
theorem d_Things_add_70 : decode prog_7_method_2_code 70 = .ok (.iload 5, 2) := by decide +kernel
theorem d_Things_add_72 : decode prog_7_method_2_code 72 = .ok (.iload 4, 2) := by decide +kernel
theorem d_Things_add_74 : decode prog_7_method_2_code 74 = .ok (.iastore, 1) := by decide +kernel
theorem d_Things_add_75 : decode prog_7_method_2_code 75 = .ok (.aload_n 0, 1) := by decide +kernel
theorem d_Things_add_76 : decode prog_7_method_2_code 76 = .ok (.iload 5, 2) := by decide +kernel
theorem d_Things_add_78 : decode prog_7_method_2_code 78 = .ok (.iconst 1, 1) := by decide +kernel
theorem d_Things_add_79 : decode prog_7_method_2_code 79 = .ok (.iadd, 1) := by decide +kernel
theorem d_Things_add_80 : decode prog_7_method_2_code 80 = .ok (.putfield 31, 3) := by decide +kernel
theorem d_Things_add_83 : decode prog_7_method_2_code 83 = .ok (.iload 5, 2) := by decide +kernel
theorem d_Things_add_85 : decode prog_7_method_2_code 85 = .ok (.ireturn, 1) := by decide +kernel
theorem d_Things_isSmaller_0 : decode prog_7_method_3_code 0 = .ok (.aload_n 0, 1) := by decide +kernel
theorem d_Things_isSmaller_1 : decode prog_7_method_3_code 1 = .ok (.getfield 9, 3) := by decide +kernel
theorem d_Things_isSmaller_4 : decode prog_7_method_3_code 4 = .ok (.iload_n 1, 1) := by decide +kernel
theorem d_Things_isSmaller_5 : decode prog_7_method_3_code 5 = .ok (.iaload, 1) := by decide +kernel
theorem d_Things_isSmaller_6 : decode prog_7_method_3_code 6 = .ok (.aload_n 0, 1) := by decide +kernel
theorem d_Things_isSmaller_7 : decode prog_7_method_3_code 7 = .ok (.getfield 9, 3) := by decide +kernel
theorem d_Things_isSmaller_10 : decode prog_7_method_3_code 10 = .ok (.iload_n 2, 1) := by decide +kernel
theorem d_Things_isSmaller_11 : decode prog_7_method_3_code 11 = .ok (.iaload, 1) := by decide +kernel
theorem d_Things_isSmaller_12 : decode prog_7_method_3_code 12 = .ok (.if_icmp .ge 37, 3) := by decide +kernel
theorem d_Things_isSmaller_15 : decode prog_7_method_3_code 15 = .ok (.aload_n 0, 1) := by decide +kernel
theorem d_Things_isSmaller_16 : decode prog_7_method_3_code 16 = .ok (.getfield 15, 3) := by decide +kernel
theorem d_Things_isSmaller_19 : decode prog_7_method_3_code 19 = .ok (.iload_n 1, 1) := by decide +kernel
theorem d_Things_isSmaller_20 : decode prog_7_method_3_code 20 = .ok (.iaload, 1) := by decide +kernel
theorem d_Things_isSmaller_21 : decode prog_7_method_3_code 21 = .ok (.aload_n 0, 1) := by decide +kernel
theorem d_Things_isSmaller_22 : decode prog_7_method_3_code 22 = .ok (.getfield 15, 3) := by decide +kernel
theorem d_Things_isSmaller_25 : decode prog_7_method_3_code 25 = .ok (.iload_n 2, 1) := by decide +kernel
theorem d_Things_isSmaller_26 : decode prog_7_method_3_code 26 = .ok (.iaload, 1) := by decide +kernel
theorem d_Things_isSmaller_27 : decode prog_7_method_3_code 27 = .ok (.if_icmp .ge 22, 3) := by decide +kernel
theorem d_Things_isSmaller_30 : decode prog_7_method_3_code 30 = .ok (.aload_n 0, 1) := by decide +kernel
theorem d_Things_isSmaller_31 : decode prog_7_method_3_code 31 = .ok (.getfield 18, 3) := by decide +kernel
theorem d_Things_isSmaller_34 : decode prog_7_method_3_code 34 = .ok (.iload_n 1, 1) := by decide +kernel
theorem d_Things_isSmaller_35 : decode prog_7_method_3_code 35 = .ok (.iaload, 1) := by decide +kernel
theorem d_Things_isSmaller_36 : decode prog_7_method_3_code 36 = .ok (.aload_n 0, 1) := by decide +kernel
theorem d_Things_isSmaller_37 : decode prog_7_method_3_code 37 = .ok (.getfield 18, 3) := by decide +kernel
theorem d_Things_isSmaller_40 : decode prog_7_method_3_code 40 = .ok (.iload_n 2, 1) := by decide +kernel
theorem d_Things_isSmaller_41 : decode prog_7_method_3_code 41 = .ok (.iaload, 1) := by decide +kernel
theorem d_Things_isSmaller_42 : decode prog_7_method_3_code 42 = .ok (.if_icmp .ge 7, 3) := by decide +kernel
theorem d_Things_isSmaller_45 : decode prog_7_method_3_code 45 = .ok (.iconst 1, 1) := by decide +kernel
theorem d_Things_isSmaller_46 : decode prog_7_method_3_code 46 = .ok (.goto 4, 3) := by decide +kernel
theorem d_Things_isSmaller_49 : decode prog_7_method_3_code 49 = .ok (.iconst 0, 1) := by decide +kernel
theorem d_Things_isSmaller_50 : decode prog_7_method_3_code 50 = .ok (.ireturn, 1) := by decide +kernel
theorem d_Rows_init_0 : decode prog_6_method_1_code 0 = .ok (.aload_n 0, 1) := by decide +kernel
theorem d_Rows_init_1 : decode prog_6_method_1_code 1 = .ok (.invokespecial 3, 3) := by decide +kernel
theorem d_Rows_init_4 : decode prog_6_method_1_code 4 = .ok (.aload_n 0, 1) := by decide +kernel
theorem d_Rows_init_5 : decode prog_6_method_1_code 5 = .ok (.bipush 20, 2) := by decide +kernel
theorem d_Rows_init_7 : decode prog_6_method_1_code 7 = .ok (.newarray .int, 2) := by decide +kernel
theorem d_Rows_init_9 : decode prog_6_method_1_code 9 = .ok (.putfield 9, 3) := by decide +kernel
theorem d_Rows_init_12 : decode prog_6_method_1_code 12 = .ok (.aload_n 0, 1) := by decide +kernel
theorem d_Rows_init_13 : decode prog_6_method_1_code 13 = .ok (.sipush 800, 3) := by decide +kernel
theorem d_Rows_init_16 : decode prog_6_method_1_code 16 = .ok (.newarray .int, 2) := by decide +kernel
theorem d_Rows_init_18 : decode prog_6_method_1_code 18 = .ok (.putfield 15, 3) := by decide +kernel
theorem d_Rows_init_21 : decode prog_6_method_1_code 21 = .ok (.aload_n 0, 1) := by decide +kernel
theorem d_Rows_init_22 : decode prog_6_method_1_code 22 = .ok (.sipush 800, 3) := by decide +kernel
theorem d_Rows_init_25 : decode prog_6_method_1_code 25 = .ok (.newarray .int, 2) := by decide +kernel
theorem d_Rows_init_27 : decode prog_6_method_1_code 27 = .ok (.putfield 18, 3) := by decide +kernel
theorem d_Rows_init_30 : decode prog_6_method_1_code 30 = .ok (.aload_n 0, 1) := by decide +kernel
theorem d_Rows_init_31 : decode prog_6_method_1_code 31 = .ok (.sipush 800, 3) := by decide +kernel
theorem d_Rows_init_34 : decode prog_6_method_1_code 34 = .ok (.newarray .int, 2) := by decide +kernel
theorem d_Rows_init_36 : decode prog_6_method_1_code 36 = .ok (.putfield 21, 3) := by decide +kernel
theorem d_Rows_init_39 : decode prog_6_method_1_code 39 = .ok (.aload_n 0, 1) := by decide +kernel
theorem d_Rows_init_40 : decode prog_6_method_1_code 40 = .ok (.iconst 0, 1) := by decide +kernel
theorem d_Rows_init_41 : decode prog_6_method_1_code 41 = .ok (.putfield 24, 3) := by decide +kernel
theorem d_Rows_init_44 : decode prog_6_method_1_code 44 = .ok (.return_, 1) := by decide +kernel
theorem d_Rows_index_0 : decode prog_6_method_2_code 0 = .ok (.iload_n 0, 1) := by decide +kernel
theorem d_Rows_index_1 : decode prog_6_method_2_code 1 = .ok (.bipush 40, 2) := by decide +kernel
theorem d_Rows_index_3 : decode prog_6_method_2_code 3 = .ok (.imul, 1) := by decide +kernel
theorem d_Rows_index_4 : decode prog_6_method_2_code 4 = .ok (.iload_n 1, 1) := by decide +kernel
theorem d_Rows_index_5 : decode prog_6_method_2_code 5 = .ok (.iadd, 1) := by decide +kernel
theorem d_Rows_index_6 : decode prog_6_method_2_code 6 = .ok (.ireturn, 1) := by decide +kernel
theorem d_Rows_add_0 : decode prog_6_method_3_code 0 = .ok (.iload_n 1, 1) := by decide +kernel
theorem d_Rows_add_1 : decode prog_6_method_3_code 1 = .ok (.aload_n 0, 1) := by decide +kernel
theorem d_Rows_add_2 : decode prog_6_method_3_code 2 = .ok (.getfield 9, 3) := by decide +kernel
theorem d_Rows_add_5 : decode prog_6_method_3_code 5 = .ok (.iload_n 1, 1) := by decide +kernel
theorem d_Rows_add_6 : decode prog_6_method_3_code 6 = .ok (.iaload, 1) := by decide +kernel
theorem d_Rows_add_7 : decode prog_6_method_3_code 7 = .ok (.invokestatic 28, 3) := by decide +kernel
theorem d_Rows_add_10 : decode prog_6_method_3_code 10 = .ok (.istore 5, 2) := by decide +kernel
theorem d_Rows_add_12 : decode prog_6_method_3_code 12 = .ok (.aload_n 0, 1) := by decide +kernel
theorem d_Rows_add_13 : decode prog_6_method_3_code 13 = .ok (.getfield 15, 3) := by decide +kernel
theorem d_Rows_add_16 : decode prog_6_method_3_code 16 = .ok (.iload 5, 2) := by decide +kernel
theorem d_Rows_add_18 : decode prog_6_method_3_code 18 = .ok (.iload_n 2, 1) := by decide +kernel
theorem d_Rows_add_19 : decode prog_6_method_3_code 19 = .ok (.iastore, 1) := by decide +kernel
theorem d_Rows_add_20 : decode prog_6_method_3_code 20 = .ok (.aload_n 0, 1) := by decide +kernel
theorem d_Rows_add_21 : decode prog_6_method_3_code 21 = .ok (.getfield 18, 3) := by decide +kernel
theorem d_Rows_add_24 : decode prog_6_method_3_code 24 = .ok (.iload 5, 2) := by decide +kernel
theorem d_Rows_add_26 : decode prog_6_method_3_code 26 = .ok (.iload_n 3, 1) := by decide +kernel
theorem d_Rows_add_27 : decode prog_6_method_3_code 27 = .ok (.iastore, 1) := by decide +kernel
theorem d_Rows_add_28 : decode prog_6_method_3_code 28 = .ok (.aload_n 0, 1) := by decide +kernel
theorem d_Rows_add_29 : decode prog_6_method_3_code 29 = .ok (.getfield 21, 3) := by decide +kernel
theorem d_Rows_add_32 : decode prog_6_method_3_code 32 = .ok (.iload 5, 2) := by decide +kernel
theorem d_Rows_add_34 : decode prog_6_method_3_code 34 = .ok (.iload 4, 2) := by decide +kernel
theorem d_Rows_add_36 : decode prog_6_method_3_code 36 = .ok (.iastore, 1) := by decide +kernel
theorem d_Rows_add_37 : decode prog_6_method_3_code 37 = .ok (.aload_n 0, 1) := by decide +kernel
theorem d_Rows_add_38 : decode prog_6_method_3_code 38 = .ok (.getfield 9, 3) := by decide +kernel
theorem d_Rows_add_41 : decode prog_6_method_3_code 41 = .ok (.iload_n 1, 1) := by decide +kernel
theorem d_Rows_add_42 : decode prog_6_method_3_code 42 = .ok (.dup2, 1) := by decide +kernel
theorem d_Rows_add_43 : decode prog_6_method_3_code 43 = .ok (.iaload, 1) := by decide +kernel
theorem d_Rows_add_44 : decode prog_6_method_3_code 44 = .ok (.iconst 1, 1) := by decide +kernel
theorem d_Rows_add_45 : decode prog_6_method_3_code 45 = .ok (.iadd, 1) := by decide +kernel
theorem d_Rows_add_46 : decode prog_6_method_3_code 46 = .ok (.iastore, 1) := by decide +kernel
theorem d_Rows_add_47 : decode prog_6_method_3_code 47 = .ok (.aload_n 0, 1) := by decide +kernel
theorem d_Rows_add_48 : decode prog_6_method_3_code 48 = .ok (.dup, 1) := by decide +kernel
theorem d_Rows_add_49 : decode prog_6_method_3_code 49 = .ok (.getfield 24, 3) := by decide +kernel
theorem d_Rows_add_52 : decode prog_6_method_3_code 52 = .ok (.iconst 1, 1) := by decide +kernel
theorem d_Rows_add_53 : decode prog_6_method_3_code 53 = .ok (.iadd, 1) := by decide +kernel
theorem d_Rows_add_54 : decode prog_6_method_3_code 54 = .ok (.putfield 24, 3) := by decide +kernel
theorem d_Rows_add_57 : decode prog_6_method_3_code 57 = .ok (.return_, 1) := by decide +kernel
theorem d_Rows_dropNewest_0 : decode prog_6_method_4_code 0 = .ok (.aload_n 0, 1) := by decide +kernel
theorem d_Rows_dropNewest_1 : decode prog_6_method_4_code 1 = .ok (.getfield 9, 3) := by decide +kernel
theorem d_Rows_dropNewest_4 : decode prog_6_method_4_code 4 = .ok (.iload_n 1, 1) := by decide +kernel
theorem d_Rows_dropNewest_5 : decode prog_6_method_4_code 5 = .ok (.dup2, 1) := by decide +kernel
theorem d_Rows_dropNewest_6 : decode prog_6_method_4_code 6 = .ok (.iaload, 1) := by decide +kernel
theorem d_Rows_dropNewest_7 : decode prog_6_method_4_code 7 = .ok (.iconst 1, 1) := by decide +kernel
theorem d_Rows_dropNewest_8 : decode prog_6_method_4_code 8 = .ok (.isub, 1) := by decide +kernel
theorem d_Rows_dropNewest_9 : decode prog_6_method_4_code 9 = .ok (.iastore, 1) := by decide +kernel
theorem d_Rows_dropNewest_10 : decode prog_6_method_4_code 10 = .ok (.aload_n 0, 1) := by decide +kernel
theorem d_Rows_dropNewest_11 : decode prog_6_method_4_code 11 = .ok (.dup, 1) := by decide +kernel
theorem d_Rows_dropNewest_12 : decode prog_6_method_4_code 12 = .ok (.getfield 24, 3) := by decide +kernel
theorem d_Rows_dropNewest_15 : decode prog_6_method_4_code 15 = .ok (.iconst 1, 1) := by decide +kernel
theorem d_Rows_dropNewest_16 : decode prog_6_method_4_code 16 = .ok (.isub, 1) := by decide +kernel
theorem d_Rows_dropNewest_17 : decode prog_6_method_4_code 17 = .ok (.putfield 24, 3) := by decide +kernel
theorem d_Rows_dropNewest_20 : decode prog_6_method_4_code 20 = .ok (.return_, 1) := by decide +kernel
theorem d_Rows_held_0 : decode prog_6_method_5_code 0 = .ok (.aload_n 0, 1) := by decide +kernel
theorem d_Rows_held_1 : decode prog_6_method_5_code 1 = .ok (.getfield 9, 3) := by decide +kernel
theorem d_Rows_held_4 : decode prog_6_method_5_code 4 = .ok (.iload_n 1, 1) := by decide +kernel
theorem d_Rows_held_5 : decode prog_6_method_5_code 5 = .ok (.iaload, 1) := by decide +kernel
theorem d_Rows_held_6 : decode prog_6_method_5_code 6 = .ok (.iconst 1, 1) := by decide +kernel
theorem d_Rows_held_7 : decode prog_6_method_5_code 7 = .ok (.isub, 1) := by decide +kernel
theorem d_Rows_held_8 : decode prog_6_method_5_code 8 = .ok (.istore_n 3, 1) := by decide +kernel
theorem d_Rows_held_9 : decode prog_6_method_5_code 9 = .ok (.iload_n 3, 1) := by decide +kernel
theorem d_Rows_held_10 : decode prog_6_method_5_code 10 = .ok (.ifCond .lt 30, 3) := by decide +kernel
theorem d_Rows_held_13 : decode prog_6_method_5_code 13 = .ok (.iload_n 1, 1) := by decide +kernel
theorem d_Rows_held_14 : decode prog_6_method_5_code 14 = .ok (.iload_n 3, 1) := by decide +kernel
theorem d_Rows_held_15 : decode prog_6_method_5_code 15 = .ok (.invokestatic 28, 3) := by decide +kernel
theorem d_Rows_held_18 : decode prog_6_method_5_code 18 = .ok (.istore 4, 2) := by decide +kernel
theorem d_Rows_held_20 : decode prog_6_method_5_code 20 = .ok (.aload_n 0, 1) := by decide +kernel
theorem d_Rows_held_21 : decode prog_6_method_5_code 21 = .ok (.getfield 15, 3) := by decide +kernel
theorem d_Rows_held_24 : decode prog_6_method_5_code 24 = .ok (.iload 4, 2) := by decide +kernel
theorem d_Rows_held_26 : decode prog_6_method_5_code 26 = .ok (.iaload, 1) := by decide +kernel
theorem d_Rows_held_27 : decode prog_6_method_5_code 27 = .ok (.iload_n 2, 1) := by decide +kernel
theorem d_Rows_held_28 : decode prog_6_method_5_code 28 = .ok (.if_icmp .gt 6, 3) := by decide +kernel
theorem d_Rows_held_31 : decode prog_6_method_5_code 31 = .ok (.iload 4, 2) := by decide +kernel
theorem d_Rows_held_33 : decode prog_6_method_5_code 33 = .ok (.ireturn, 1) := by decide +kernel
theorem d_Rows_held_34 : decode prog_6_method_5_code 34 = .ok (.iinc 3 (-1), 3) := by decide +kernel
theorem d_Rows_held_37 : decode prog_6_method_5_code 37 = .ok (.goto (-28), 3) := by decide +kernel
theorem d_Rows_held_40 : decode prog_6_method_5_code 40 = .ok (.iconst (-1), 1) := by decide +kernel
theorem d_Rows_held_41 : decode prog_6_method_5_code 41 = .ok (.ireturn, 1) := by decide +kernel
theorem d_Doors_init_0 : decode prog_2_method_1_code 0 = .ok (.aload_n 0, 1) := by decide +kernel
theorem d_Doors_init_1 : decode prog_2_method_1_code 1 = .ok (.invokespecial 3, 3) := by decide +kernel
theorem d_Doors_init_4 : decode prog_2_method_1_code 4 = .ok (.aload_n 0, 1) := by decide +kernel
theorem d_Doors_init_5 : decode prog_2_method_1_code 5 = .ok (.bipush 40, 2) := by decide +kernel
theorem d_Doors_init_7 : decode prog_2_method_1_code 7 = .ok (.newarray .int, 2) := by decide +kernel
theorem d_Doors_init_9 : decode prog_2_method_1_code 9 = .ok (.putfield 9, 3) := by decide +kernel
theorem d_Doors_init_12 : decode prog_2_method_1_code 12 = .ok (.aload_n 0, 1) := by decide +kernel
theorem d_Doors_init_13 : decode prog_2_method_1_code 13 = .ok (.bipush 40, 2) := by decide +kernel
theorem d_Doors_init_15 : decode prog_2_method_1_code 15 = .ok (.newarray .int, 2) := by decide +kernel
theorem d_Doors_init_17 : decode prog_2_method_1_code 17 = .ok (.putfield 15, 3) := by decide +kernel
theorem d_Doors_init_20 : decode prog_2_method_1_code 20 = .ok (.aload_n 0, 1) := by decide +kernel
theorem d_Doors_init_21 : decode prog_2_method_1_code 21 = .ok (.bipush 40, 2) := by decide +kernel
theorem d_Doors_init_23 : decode prog_2_method_1_code 23 = .ok (.newarray .int, 2) := by decide +kernel
theorem d_Doors_init_25 : decode prog_2_method_1_code 25 = .ok (.putfield 18, 3) := by decide +kernel
theorem d_Doors_init_28 : decode prog_2_method_1_code 28 = .ok (.aload_n 0, 1) := by decide +kernel
theorem d_Doors_init_29 : decode prog_2_method_1_code 29 = .ok (.bipush 40, 2) := by decide +kernel
theorem d_Doors_init_31 : decode prog_2_method_1_code 31 = .ok (.newarray .int, 2) := by decide +kernel
theorem d_Doors_init_33 : decode prog_2_method_1_code 33 = .ok (.putfield 21, 3) := by decide +kernel
theorem d_Doors_init_36 : decode prog_2_method_1_code 36 = .ok (.aload_n 0, 1) := by decide +kernel
theorem d_Doors_init_37 : decode prog_2_method_1_code 37 = .ok (.iconst 0, 1) := by decide +kernel
theorem d_Doors_init_38 : decode prog_2_method_1_code 38 = .ok (.putfield 24, 3) := by decide +kernel
theorem d_Doors_init_41 : decode prog_2_method_1_code 41 = .ok (.return_, 1) := by decide +kernel
theorem d_Doors_add_0 : decode prog_2_method_2_code 0 = .ok (.aload_n 0, 1) := by decide +kernel
theorem d_Doors_add_1 : decode prog_2_method_2_code 1 = .ok (.getfield 24, 3) := by decide +kernel
theorem d_Doors_add_4 : decode prog_2_method_2_code 4 = .ok (.istore 5, 2) := by decide +kernel
theorem d_Doors_add_6 : decode prog_2_method_2_code 6 = .ok (.aload_n 0, 1) := by decide +kernel
theorem d_Doors_add_7 : decode prog_2_method_2_code 7 = .ok (.getfield 9, 3) := by decide +kernel
theorem d_Doors_add_10 : decode prog_2_method_2_code 10 = .ok (.iload 5, 2) := by decide +kernel
theorem d_Doors_add_12 : decode prog_2_method_2_code 12 = .ok (.iload_n 1, 1) := by decide +kernel
theorem d_Doors_add_13 : decode prog_2_method_2_code 13 = .ok (.iastore, 1) := by decide +kernel
theorem d_Doors_add_14 : decode prog_2_method_2_code 14 = .ok (.aload_n 0, 1) := by decide +kernel
theorem d_Doors_add_15 : decode prog_2_method_2_code 15 = .ok (.getfield 15, 3) := by decide +kernel
theorem d_Doors_add_18 : decode prog_2_method_2_code 18 = .ok (.iload 5, 2) := by decide +kernel
theorem d_Doors_add_20 : decode prog_2_method_2_code 20 = .ok (.iload_n 2, 1) := by decide +kernel
theorem d_Doors_add_21 : decode prog_2_method_2_code 21 = .ok (.iastore, 1) := by decide +kernel
theorem d_Doors_add_22 : decode prog_2_method_2_code 22 = .ok (.aload_n 0, 1) := by decide +kernel
theorem d_Doors_add_23 : decode prog_2_method_2_code 23 = .ok (.getfield 18, 3) := by decide +kernel
theorem d_Doors_add_26 : decode prog_2_method_2_code 26 = .ok (.iload 5, 2) := by decide +kernel
theorem d_Doors_add_28 : decode prog_2_method_2_code 28 = .ok (.iload_n 3, 1) := by decide +kernel
theorem d_Doors_add_29 : decode prog_2_method_2_code 29 = .ok (.iload 4, 2) := by decide +kernel
theorem d_Doors_add_31 : decode prog_2_method_2_code 31 = .ok (.invokestatic 28, 3) := by decide +kernel
theorem d_Doors_add_34 : decode prog_2_method_2_code 34 = .ok (.iastore, 1) := by decide +kernel
theorem d_Doors_add_35 : decode prog_2_method_2_code 35 = .ok (.aload_n 0, 1) := by decide +kernel
theorem d_Doors_add_36 : decode prog_2_method_2_code 36 = .ok (.getfield 21, 3) := by decide +kernel
theorem d_Doors_add_39 : decode prog_2_method_2_code 39 = .ok (.iload 5, 2) := by decide +kernel
theorem d_Doors_add_41 : decode prog_2_method_2_code 41 = .ok (.iload_n 3, 1) := by decide +kernel
theorem d_Doors_add_42 : decode prog_2_method_2_code 42 = .ok (.iload 4, 2) := by decide +kernel
theorem d_Doors_add_44 : decode prog_2_method_2_code 44 = .ok (.invokestatic 34, 3) := by decide +kernel
theorem d_Doors_add_47 : decode prog_2_method_2_code 47 = .ok (.iastore, 1) := by decide +kernel
theorem d_Doors_add_48 : decode prog_2_method_2_code 48 = .ok (.aload_n 0, 1) := by decide +kernel
theorem d_Doors_add_49 : decode prog_2_method_2_code 49 = .ok (.iload 5, 2) := by decide +kernel
theorem d_Doors_add_51 : decode prog_2_method_2_code 51 = .ok (.iconst 1, 1) := by decide +kernel
theorem d_Doors_add_52 : decode prog_2_method_2_code 52 = .ok (.iadd, 1) := by decide +kernel
theorem d_Doors_add_53 : decode prog_2_method_2_code 53 = .ok (.putfield 24, 3) := by decide +kernel
theorem d_Doors_add_56 : decode prog_2_method_2_code 56 = .ok (.iload 5, 2) := by decide +kernel
theorem d_Doors_add_58 : decode prog_2_method_2_code 58 = .ok (.ireturn, 1) := by decide +kernel
theorem d_Doors_letsThrough_0 : decode prog_2_method_3_code 0 = .ok (.iload_n 3, 1) := by decide +kernel
theorem d_Doors_letsThrough_1 : decode prog_2_method_3_code 1 = .ok (.aload_n 0, 1) := by decide +kernel
theorem d_Doors_letsThrough_2 : decode prog_2_method_3_code 2 = .ok (.getfield 21, 3) := by decide +kernel
theorem d_Doors_letsThrough_5 : decode prog_2_method_3_code 5 = .ok (.iload_n 1, 1) := by decide +kernel
theorem d_Doors_letsThrough_6 : decode prog_2_method_3_code 6 = .ok (.iaload, 1) := by decide +kernel
theorem d_Doors_letsThrough_7 : decode prog_2_method_3_code 7 = .ok (.if_icmp .le 5, 3) := by decide +kernel
theorem d_Doors_letsThrough_10 : decode prog_2_method_3_code 10 = .ok (.iconst 0, 1) := by decide +kernel
theorem d_Doors_letsThrough_11 : decode prog_2_method_3_code 11 = .ok (.ireturn, 1) := by decide +kernel
theorem d_Doors_letsThrough_12 : decode prog_2_method_3_code 12 = .ok (.iload_n 2, 1) := by decide +kernel
theorem d_Doors_letsThrough_13 : decode prog_2_method_3_code 13 = .ok (.aload_n 0, 1) := by decide +kernel
theorem d_Doors_letsThrough_14 : decode prog_2_method_3_code 14 = .ok (.getfield 18, 3) := by decide +kernel
theorem d_Doors_letsThrough_17 : decode prog_2_method_3_code 17 = .ok (.iload_n 1, 1) := by decide +kernel
theorem d_Doors_letsThrough_18 : decode prog_2_method_3_code 18 = .ok (.iaload, 1) := by decide +kernel
theorem d_Doors_letsThrough_19 : decode prog_2_method_3_code 19 = .ok (.if_icmp .le 27, 3) := by decide +kernel
theorem d_Doors_letsThrough_22 : decode prog_2_method_3_code 22 = .ok (.aload_n 0, 1) := by decide +kernel
theorem d_Doors_letsThrough_23 : decode prog_2_method_3_code 23 = .ok (.getfield 18, 3) := by decide +kernel
theorem d_Doors_letsThrough_26 : decode prog_2_method_3_code 26 = .ok (.iload_n 1, 1) := by decide +kernel
theorem d_Doors_letsThrough_27 : decode prog_2_method_3_code 27 = .ok (.iaload, 1) := by decide +kernel
theorem d_Doors_letsThrough_28 : decode prog_2_method_3_code 28 = .ok (.i2l, 1) := by decide +kernel
theorem d_Doors_letsThrough_29 : decode prog_2_method_3_code 29 = .ok (.aload_n 0, 1) := by decide +kernel
theorem d_Doors_letsThrough_30 : decode prog_2_method_3_code 30 = .ok (.getfield 21, 3) := by decide +kernel
theorem d_Doors_letsThrough_33 : decode prog_2_method_3_code 33 = .ok (.iload_n 1, 1) := by decide +kernel
theorem d_Doors_letsThrough_34 : decode prog_2_method_3_code 34 = .ok (.iaload, 1) := by decide +kernel
theorem d_Doors_letsThrough_35 : decode prog_2_method_3_code 35 = .ok (.i2l, 1) := by decide +kernel
theorem d_Doors_letsThrough_36 : decode prog_2_method_3_code 36 = .ok (.iload_n 2, 1) := by decide +kernel
theorem d_Doors_letsThrough_37 : decode prog_2_method_3_code 37 = .ok (.i2l, 1) := by decide +kernel
theorem d_Doors_letsThrough_38 : decode prog_2_method_3_code 38 = .ok (.iload_n 3, 1) := by decide +kernel
theorem d_Doors_letsThrough_39 : decode prog_2_method_3_code 39 = .ok (.i2l, 1) := by decide +kernel
theorem d_Doors_letsThrough_40 : decode prog_2_method_3_code 40 = .ok (.invokestatic 37, 3) := by decide +kernel
theorem d_Doors_letsThrough_43 : decode prog_2_method_3_code 43 = .ok (.ifCond .eq 7, 3) := by decide +kernel
theorem d_Doors_letsThrough_46 : decode prog_2_method_3_code 46 = .ok (.iconst 1, 1) := by decide +kernel
theorem d_Doors_letsThrough_47 : decode prog_2_method_3_code 47 = .ok (.goto 4, 3) := by decide +kernel
theorem d_Doors_letsThrough_50 : decode prog_2_method_3_code 50 = .ok (.iconst 0, 1) := by decide +kernel
theorem d_Doors_letsThrough_51 : decode prog_2_method_3_code 51 = .ok (.ireturn, 1) := by decide +kernel
theorem d_Doors_goesTurned_0 : decode prog_2_method_4_code 0 = .ok (.lload_n 0, 1) := by decide +kernel
theorem d_Doors_goesTurned_1 : decode prog_2_method_4_code 1 = .ok (.lload_n 2, 1) := by decide +kernel
theorem d_Doors_goesTurned_2 : decode prog_2_method_4_code 2 = .ok (.ladd, 1) := by decide +kernel
theorem d_Doors_goesTurned_3 : decode prog_2_method_4_code 3 = .ok (.lload 4, 2) := by decide +kernel
theorem d_Doors_goesTurned_5 : decode prog_2_method_4_code 5 = .ok (.lload 6, 2) := by decide +kernel
theorem d_Doors_goesTurned_7 : decode prog_2_method_4_code 7 = .ok (.lsub, 1) := by decide +kernel
theorem d_Doors_goesTurned_8 : decode prog_2_method_4_code 8 = .ok (.lmul, 1) := by decide +kernel
theorem d_Doors_goesTurned_9 : decode prog_2_method_4_code 9 = .ok (.lstore 8, 2) := by decide +kernel
theorem d_Doors_goesTurned_11 : decode prog_2_method_4_code 11 = .ok (.lload_n 0, 1) := by decide +kernel
theorem d_Doors_goesTurned_12 : decode prog_2_method_4_code 12 = .ok (.lload_n 2, 1) := by decide +kernel
theorem d_Doors_goesTurned_13 : decode prog_2_method_4_code 13 = .ok (.lsub, 1) := by decide +kernel
theorem d_Doors_goesTurned_14 : decode prog_2_method_4_code 14 = .ok (.lload 4, 2) := by decide +kernel
theorem d_Doors_goesTurned_16 : decode prog_2_method_4_code 16 = .ok (.lload 6, 2) := by decide +kernel
theorem d_Doors_goesTurned_18 : decode prog_2_method_4_code 18 = .ok (.ladd, 1) := by decide +kernel
theorem d_Doors_goesTurned_19 : decode prog_2_method_4_code 19 = .ok (.lmul, 1) := by decide +kernel
theorem d_Doors_goesTurned_20 : decode prog_2_method_4_code 20 = .ok (.lstore 10, 2) := by decide +kernel
theorem d_Doors_goesTurned_22 : decode prog_2_method_4_code 22 = .ok (.lload 4, 2) := by decide +kernel
theorem d_Doors_goesTurned_24 : decode prog_2_method_4_code 24 = .ok (.lload 4, 2) := by decide +kernel
theorem d_Doors_goesTurned_26 : decode prog_2_method_4_code 26 = .ok (.lmul, 1) := by decide +kernel
theorem d_Doors_goesTurned_27 : decode prog_2_method_4_code 27 = .ok (.lload 6, 2) := by decide +kernel
theorem d_Doors_goesTurned_29 : decode prog_2_method_4_code 29 = .ok (.lload 6, 2) := by decide +kernel
theorem d_Doors_goesTurned_31 : decode prog_2_method_4_code 31 = .ok (.lmul, 1) := by decide +kernel
theorem d_Doors_goesTurned_32 : decode prog_2_method_4_code 32 = .ok (.lsub, 1) := by decide +kernel
theorem d_Doors_goesTurned_33 : decode prog_2_method_4_code 33 = .ok (.lstore 12, 2) := by decide +kernel
theorem d_Doors_goesTurned_35 : decode prog_2_method_4_code 35 = .ok (.lload 8, 2) := by decide +kernel
theorem d_Doors_goesTurned_37 : decode prog_2_method_4_code 37 = .ok (.lload 8, 2) := by decide +kernel
theorem d_Doors_goesTurned_39 : decode prog_2_method_4_code 39 = .ok (.lmul, 1) := by decide +kernel
theorem d_Doors_goesTurned_40 : decode prog_2_method_4_code 40 = .ok (.lload 10, 2) := by decide +kernel
theorem d_Doors_goesTurned_42 : decode prog_2_method_4_code 42 = .ok (.lload 10, 2) := by decide +kernel
theorem d_Doors_goesTurned_44 : decode prog_2_method_4_code 44 = .ok (.lmul, 1) := by decide +kernel
theorem d_Doors_goesTurned_45 : decode prog_2_method_4_code 45 = .ok (.ladd, 1) := by decide +kernel
theorem d_Doors_goesTurned_46 : decode prog_2_method_4_code 46 = .ok (.ldc2_w 41, 3) := by decide +kernel
theorem d_Doors_goesTurned_49 : decode prog_2_method_4_code 49 = .ok (.lload 12, 2) := by decide +kernel
theorem d_Doors_goesTurned_51 : decode prog_2_method_4_code 51 = .ok (.lmul, 1) := by decide +kernel
theorem d_Doors_goesTurned_52 : decode prog_2_method_4_code 52 = .ok (.lload 12, 2) := by decide +kernel
theorem d_Doors_goesTurned_54 : decode prog_2_method_4_code 54 = .ok (.lmul, 1) := by decide +kernel
theorem d_Doors_goesTurned_55 : decode prog_2_method_4_code 55 = .ok (.lcmp, 1) := by decide +kernel
theorem d_Doors_goesTurned_56 : decode prog_2_method_4_code 56 = .ok (.ifCond .lt 7, 3) := by decide +kernel
theorem d_Doors_goesTurned_59 : decode prog_2_method_4_code 59 = .ok (.iconst 1, 1) := by decide +kernel
theorem d_Doors_goesTurned_60 : decode prog_2_method_4_code 60 = .ok (.goto 4, 3) := by decide +kernel
theorem d_Doors_goesTurned_63 : decode prog_2_method_4_code 63 = .ok (.iconst 0, 1) := by decide +kernel
theorem d_Doors_goesTurned_64 : decode prog_2_method_4_code 64 = .ok (.ireturn, 1) := by decide +kernel
theorem d_Doors_spread_0 : decode prog_2_method_5_code 0 = .ok (.iload_n 1, 1) := by decide +kernel
theorem d_Doors_spread_1 : decode prog_2_method_5_code 1 = .ok (.istore 4, 2) := by decide +kernel
theorem d_Doors_spread_3 : decode prog_2_method_5_code 3 = .ok (.iconst 0, 1) := by decide +kernel
theorem d_Doors_spread_4 : decode prog_2_method_5_code 4 = .ok (.istore 5, 2) := by decide +kernel
theorem d_Doors_spread_6 : decode prog_2_method_5_code 6 = .ok (.iload 5, 2) := by decide +kernel
theorem d_Doors_spread_8 : decode prog_2_method_5_code 8 = .ok (.aload_n 0, 1) := by decide +kernel
theorem d_Doors_spread_9 : decode prog_2_method_5_code 9 = .ok (.getfield 24, 3) := by decide +kernel
theorem d_Doors_spread_12 : decode prog_2_method_5_code 12 = .ok (.if_icmp .ge 55, 3) := by decide +kernel
theorem d_Doors_spread_15 : decode prog_2_method_5_code 15 = .ok (.iconst 1, 1) := by decide +kernel
theorem d_Doors_spread_16 : decode prog_2_method_5_code 16 = .ok (.aload_n 0, 1) := by decide +kernel
theorem d_Doors_spread_17 : decode prog_2_method_5_code 17 = .ok (.getfield 9, 3) := by decide +kernel
theorem d_Doors_spread_20 : decode prog_2_method_5_code 20 = .ok (.iload 5, 2) := by decide +kernel
theorem d_Doors_spread_22 : decode prog_2_method_5_code 22 = .ok (.iaload, 1) := by decide +kernel
theorem d_Doors_spread_23 : decode prog_2_method_5_code 23 = .ok (.ishl, 1) := by decide +kernel
theorem d_Doors_spread_24 : decode prog_2_method_5_code 24 = .ok (.iconst 1, 1) := by decide +kernel
theorem d_Doors_spread_25 : decode prog_2_method_5_code 25 = .ok (.aload_n 0, 1) := by decide +kernel
theorem d_Doors_spread_26 : decode prog_2_method_5_code 26 = .ok (.getfield 15, 3) := by decide +kernel
theorem d_Doors_spread_29 : decode prog_2_method_5_code 29 = .ok (.iload 5, 2) := by decide +kernel
theorem d_Doors_spread_31 : decode prog_2_method_5_code 31 = .ok (.iaload, 1) := by decide +kernel
theorem d_Doors_spread_32 : decode prog_2_method_5_code 32 = .ok (.ishl, 1) := by decide +kernel
theorem d_Doors_spread_33 : decode prog_2_method_5_code 33 = .ok (.ior, 1) := by decide +kernel
theorem d_Doors_spread_34 : decode prog_2_method_5_code 34 = .ok (.istore 6, 2) := by decide +kernel
theorem d_Doors_spread_36 : decode prog_2_method_5_code 36 = .ok (.lload_n 2, 1) := by decide +kernel
theorem d_Doors_spread_37 : decode prog_2_method_5_code 37 = .ok (.iload 5, 2) := by decide +kernel
theorem d_Doors_spread_39 : decode prog_2_method_5_code 39 = .ok (.lushr, 1) := by decide +kernel
theorem d_Doors_spread_40 : decode prog_2_method_5_code 40 = .ok (.lconst 1, 1) := by decide +kernel
theorem d_Doors_spread_41 : decode prog_2_method_5_code 41 = .ok (.land, 1) := by decide +kernel
theorem d_Doors_spread_42 : decode prog_2_method_5_code 42 = .ok (.lconst 1, 1) := by decide +kernel
theorem d_Doors_spread_43 : decode prog_2_method_5_code 43 = .ok (.lcmp, 1) := by decide +kernel
theorem d_Doors_spread_44 : decode prog_2_method_5_code 44 = .ok (.ifCond .ne 17, 3) := by decide +kernel
theorem d_Doors_spread_47 : decode prog_2_method_5_code 47 = .ok (.iload_n 1, 1) := by decide +kernel
theorem d_Doors_spread_48 : decode prog_2_method_5_code 48 = .ok (.iload 6, 2) := by decide +kernel
theorem d_Doors_spread_50 : decode prog_2_method_5_code 50 = .ok (.iand, 1) := by decide +kernel
theorem d_Doors_spread_51 : decode prog_2_method_5_code 51 = .ok (.ifCond .eq 10, 3) := by decide +kernel
theorem d_Doors_spread_54 : decode prog_2_method_5_code 54 = .ok (.iload 4, 2) := by decide +kernel
theorem d_Doors_spread_56 : decode prog_2_method_5_code 56 = .ok (.iload 6, 2) := by decide +kernel
theorem d_Doors_spread_58 : decode prog_2_method_5_code 58 = .ok (.ior, 1) := by decide +kernel
theorem d_Doors_spread_59 : decode prog_2_method_5_code 59 = .ok (.istore 4, 2) := by decide +kernel
theorem d_Doors_spread_61 : decode prog_2_method_5_code 61 = .ok (.iinc 5 1, 3) := by decide +kernel
theorem d_Doors_spread_64 : decode prog_2_method_5_code 64 = .ok (.goto (-58), 3) := by decide +kernel
theorem d_Doors_spread_67 : decode prog_2_method_5_code 67 = .ok (.iload 4, 2) := by decide +kernel
theorem d_Doors_spread_69 : decode prog_2_method_5_code 69 = .ok (.ireturn, 1) := by decide +kernel
theorem d_Plans_init_0 : decode prog_4_method_1_code 0 = .ok (.aload_n 0, 1) := by decide +kernel
theorem d_Plans_init_1 : decode prog_4_method_1_code 1 = .ok (.invokespecial 3, 3) := by decide +kernel
theorem d_Plans_init_4 : decode prog_4_method_1_code 4 = .ok (.aload_n 0, 1) := by decide +kernel
theorem d_Plans_init_5 : decode prog_4_method_1_code 5 = .ok (.bipush 30, 2) := by decide +kernel
theorem d_Plans_init_7 : decode prog_4_method_1_code 7 = .ok (.newarray .int, 2) := by decide +kernel
theorem d_Plans_init_9 : decode prog_4_method_1_code 9 = .ok (.putfield 9, 3) := by decide +kernel
theorem d_Plans_init_12 : decode prog_4_method_1_code 12 = .ok (.aload_n 0, 1) := by decide +kernel
theorem d_Plans_init_13 : decode prog_4_method_1_code 13 = .ok (.bipush 30, 2) := by decide +kernel
theorem d_Plans_init_15 : decode prog_4_method_1_code 15 = .ok (.newarray .int, 2) := by decide +kernel
theorem d_Plans_init_17 : decode prog_4_method_1_code 17 = .ok (.putfield 15, 3) := by decide +kernel
theorem d_Plans_init_20 : decode prog_4_method_1_code 20 = .ok (.aload_n 0, 1) := by decide +kernel
theorem d_Plans_init_21 : decode prog_4_method_1_code 21 = .ok (.bipush 30, 2) := by decide +kernel
theorem d_Plans_init_23 : decode prog_4_method_1_code 23 = .ok (.newarray .int, 2) := by decide +kernel
theorem d_Plans_init_25 : decode prog_4_method_1_code 25 = .ok (.putfield 18, 3) := by decide +kernel
theorem d_Plans_init_28 : decode prog_4_method_1_code 28 = .ok (.aload_n 0, 1) := by decide +kernel
theorem d_Plans_init_29 : decode prog_4_method_1_code 29 = .ok (.bipush 30, 2) := by decide +kernel
theorem d_Plans_init_31 : decode prog_4_method_1_code 31 = .ok (.newarray .int, 2) := by decide +kernel
theorem d_Plans_init_33 : decode prog_4_method_1_code 33 = .ok (.putfield 21, 3) := by decide +kernel
theorem d_Plans_init_36 : decode prog_4_method_1_code 36 = .ok (.aload_n 0, 1) := by decide +kernel
theorem d_Plans_init_37 : decode prog_4_method_1_code 37 = .ok (.iconst 0, 1) := by decide +kernel
theorem d_Plans_init_38 : decode prog_4_method_1_code 38 = .ok (.putfield 24, 3) := by decide +kernel
theorem d_Plans_init_41 : decode prog_4_method_1_code 41 = .ok (.return_, 1) := by decide +kernel
theorem d_Plans_add_0 : decode prog_4_method_2_code 0 = .ok (.aload_n 0, 1) := by decide +kernel
theorem d_Plans_add_1 : decode prog_4_method_2_code 1 = .ok (.getfield 9, 3) := by decide +kernel
theorem d_Plans_add_4 : decode prog_4_method_2_code 4 = .ok (.aload_n 0, 1) := by decide +kernel
theorem d_Plans_add_5 : decode prog_4_method_2_code 5 = .ok (.getfield 24, 3) := by decide +kernel
theorem d_Plans_add_8 : decode prog_4_method_2_code 8 = .ok (.iload_n 1, 1) := by decide +kernel
theorem d_Plans_add_9 : decode prog_4_method_2_code 9 = .ok (.iastore, 1) := by decide +kernel
theorem d_Plans_add_10 : decode prog_4_method_2_code 10 = .ok (.aload_n 0, 1) := by decide +kernel
theorem d_Plans_add_11 : decode prog_4_method_2_code 11 = .ok (.getfield 15, 3) := by decide +kernel
theorem d_Plans_add_14 : decode prog_4_method_2_code 14 = .ok (.aload_n 0, 1) := by decide +kernel
theorem d_Plans_add_15 : decode prog_4_method_2_code 15 = .ok (.getfield 24, 3) := by decide +kernel
theorem d_Plans_add_18 : decode prog_4_method_2_code 18 = .ok (.iload_n 2, 1) := by decide +kernel
theorem d_Plans_add_19 : decode prog_4_method_2_code 19 = .ok (.iastore, 1) := by decide +kernel
theorem d_Plans_add_20 : decode prog_4_method_2_code 20 = .ok (.aload_n 0, 1) := by decide +kernel
theorem d_Plans_add_21 : decode prog_4_method_2_code 21 = .ok (.getfield 18, 3) := by decide +kernel
theorem d_Plans_add_24 : decode prog_4_method_2_code 24 = .ok (.aload_n 0, 1) := by decide +kernel
theorem d_Plans_add_25 : decode prog_4_method_2_code 25 = .ok (.getfield 24, 3) := by decide +kernel
theorem d_Plans_add_28 : decode prog_4_method_2_code 28 = .ok (.iload_n 3, 1) := by decide +kernel
theorem d_Plans_add_29 : decode prog_4_method_2_code 29 = .ok (.iastore, 1) := by decide +kernel
theorem d_Plans_add_30 : decode prog_4_method_2_code 30 = .ok (.aload_n 0, 1) := by decide +kernel
theorem d_Plans_add_31 : decode prog_4_method_2_code 31 = .ok (.getfield 21, 3) := by decide +kernel
theorem d_Plans_add_34 : decode prog_4_method_2_code 34 = .ok (.aload_n 0, 1) := by decide +kernel
theorem d_Plans_add_35 : decode prog_4_method_2_code 35 = .ok (.getfield 24, 3) := by decide +kernel
theorem d_Plans_add_38 : decode prog_4_method_2_code 38 = .ok (.iload 4, 2) := by decide +kernel
theorem d_Plans_add_40 : decode prog_4_method_2_code 40 = .ok (.iastore, 1) := by decide +kernel
theorem d_Plans_add_41 : decode prog_4_method_2_code 41 = .ok (.aload_n 0, 1) := by decide +kernel
theorem d_Plans_add_42 : decode prog_4_method_2_code 42 = .ok (.dup, 1) := by decide +kernel
theorem d_Plans_add_43 : decode prog_4_method_2_code 43 = .ok (.getfield 24, 3) := by decide +kernel
theorem d_Plans_add_46 : decode prog_4_method_2_code 46 = .ok (.iconst 1, 1) := by decide +kernel
theorem d_Plans_add_47 : decode prog_4_method_2_code 47 = .ok (.iadd, 1) := by decide +kernel
theorem d_Plans_add_48 : decode prog_4_method_2_code 48 = .ok (.putfield 24, 3) := by decide +kernel
theorem d_Plans_add_51 : decode prog_4_method_2_code 51 = .ok (.return_, 1) := by decide +kernel
theorem d_Plans_dropNewest_0 : decode prog_4_method_3_code 0 = .ok (.aload_n 0, 1) := by decide +kernel
theorem d_Plans_dropNewest_1 : decode prog_4_method_3_code 1 = .ok (.dup, 1) := by decide +kernel
theorem d_Plans_dropNewest_2 : decode prog_4_method_3_code 2 = .ok (.getfield 24, 3) := by decide +kernel
theorem d_Plans_dropNewest_5 : decode prog_4_method_3_code 5 = .ok (.iconst 1, 1) := by decide +kernel
theorem d_Plans_dropNewest_6 : decode prog_4_method_3_code 6 = .ok (.isub, 1) := by decide +kernel
theorem d_Plans_dropNewest_7 : decode prog_4_method_3_code 7 = .ok (.putfield 24, 3) := by decide +kernel
theorem d_Plans_dropNewest_10 : decode prog_4_method_3_code 10 = .ok (.return_, 1) := by decide +kernel
theorem d_Plans_covers_0 : decode prog_4_method_4_code 0 = .ok (.aload_n 0, 1) := by decide +kernel
theorem d_Plans_covers_1 : decode prog_4_method_4_code 1 = .ok (.getfield 18, 3) := by decide +kernel
theorem d_Plans_covers_4 : decode prog_4_method_4_code 4 = .ok (.iload_n 1, 1) := by decide +kernel
theorem d_Plans_covers_5 : decode prog_4_method_4_code 5 = .ok (.iaload, 1) := by decide +kernel
theorem d_Plans_covers_6 : decode prog_4_method_4_code 6 = .ok (.iload_n 2, 1) := by decide +kernel
theorem d_Plans_covers_7 : decode prog_4_method_4_code 7 = .ok (.if_icmp .gt 17, 3) := by decide +kernel
theorem d_Plans_covers_10 : decode prog_4_method_4_code 10 = .ok (.iload_n 2, 1) := by decide +kernel
theorem d_Plans_covers_11 : decode prog_4_method_4_code 11 = .ok (.aload_n 0, 1) := by decide +kernel
theorem d_Plans_covers_12 : decode prog_4_method_4_code 12 = .ok (.getfield 21, 3) := by decide +kernel
theorem d_Plans_covers_15 : decode prog_4_method_4_code 15 = .ok (.iload_n 1, 1) := by decide +kernel
theorem d_Plans_covers_16 : decode prog_4_method_4_code 16 = .ok (.iaload, 1) := by decide +kernel
theorem d_Plans_covers_17 : decode prog_4_method_4_code 17 = .ok (.if_icmp .gt 7, 3) := by decide +kernel
theorem d_Plans_covers_20 : decode prog_4_method_4_code 20 = .ok (.iconst 1, 1) := by decide +kernel
theorem d_Plans_covers_21 : decode prog_4_method_4_code 21 = .ok (.goto 4, 3) := by decide +kernel
theorem d_Plans_covers_24 : decode prog_4_method_4_code 24 = .ok (.iconst 0, 1) := by decide +kernel
theorem d_Plans_covers_25 : decode prog_4_method_4_code 25 = .ok (.ireturn, 1) := by decide +kernel
theorem d_QuietTimes_init_0 : decode prog_5_method_1_code 0 = .ok (.aload_n 0, 1) := by decide +kernel
theorem d_QuietTimes_init_1 : decode prog_5_method_1_code 1 = .ok (.invokespecial 3, 3) := by decide +kernel
theorem d_QuietTimes_init_4 : decode prog_5_method_1_code 4 = .ok (.aload_n 0, 1) := by decide +kernel
theorem d_QuietTimes_init_5 : decode prog_5_method_1_code 5 = .ok (.bipush 20, 2) := by decide +kernel
theorem d_QuietTimes_init_7 : decode prog_5_method_1_code 7 = .ok (.newarray .int, 2) := by decide +kernel
theorem d_QuietTimes_init_9 : decode prog_5_method_1_code 9 = .ok (.putfield 9, 3) := by decide +kernel
theorem d_QuietTimes_init_12 : decode prog_5_method_1_code 12 = .ok (.aload_n 0, 1) := by decide +kernel
theorem d_QuietTimes_init_13 : decode prog_5_method_1_code 13 = .ok (.bipush 20, 2) := by decide +kernel
theorem d_QuietTimes_init_15 : decode prog_5_method_1_code 15 = .ok (.newarray .int, 2) := by decide +kernel
theorem d_QuietTimes_init_17 : decode prog_5_method_1_code 17 = .ok (.putfield 15, 3) := by decide +kernel
theorem d_QuietTimes_init_20 : decode prog_5_method_1_code 20 = .ok (.aload_n 0, 1) := by decide +kernel
theorem d_QuietTimes_init_21 : decode prog_5_method_1_code 21 = .ok (.bipush 20, 2) := by decide +kernel
theorem d_QuietTimes_init_23 : decode prog_5_method_1_code 23 = .ok (.newarray .int, 2) := by decide +kernel
theorem d_QuietTimes_init_25 : decode prog_5_method_1_code 25 = .ok (.putfield 18, 3) := by decide +kernel
theorem d_QuietTimes_init_28 : decode prog_5_method_1_code 28 = .ok (.aload_n 0, 1) := by decide +kernel
theorem d_QuietTimes_init_29 : decode prog_5_method_1_code 29 = .ok (.iconst 0, 1) := by decide +kernel
theorem d_QuietTimes_init_30 : decode prog_5_method_1_code 30 = .ok (.putfield 21, 3) := by decide +kernel
theorem d_QuietTimes_init_33 : decode prog_5_method_1_code 33 = .ok (.return_, 1) := by decide +kernel
theorem d_QuietTimes_add_0 : decode prog_5_method_2_code 0 = .ok (.aload_n 0, 1) := by decide +kernel
theorem d_QuietTimes_add_1 : decode prog_5_method_2_code 1 = .ok (.getfield 9, 3) := by decide +kernel
theorem d_QuietTimes_add_4 : decode prog_5_method_2_code 4 = .ok (.aload_n 0, 1) := by decide +kernel
theorem d_QuietTimes_add_5 : decode prog_5_method_2_code 5 = .ok (.getfield 21, 3) := by decide +kernel
theorem d_QuietTimes_add_8 : decode prog_5_method_2_code 8 = .ok (.iload_n 1, 1) := by decide +kernel
theorem d_QuietTimes_add_9 : decode prog_5_method_2_code 9 = .ok (.iastore, 1) := by decide +kernel
theorem d_QuietTimes_add_10 : decode prog_5_method_2_code 10 = .ok (.aload_n 0, 1) := by decide +kernel
theorem d_QuietTimes_add_11 : decode prog_5_method_2_code 11 = .ok (.getfield 15, 3) := by decide +kernel
theorem d_QuietTimes_add_14 : decode prog_5_method_2_code 14 = .ok (.aload_n 0, 1) := by decide +kernel
theorem d_QuietTimes_add_15 : decode prog_5_method_2_code 15 = .ok (.getfield 21, 3) := by decide +kernel
theorem d_QuietTimes_add_18 : decode prog_5_method_2_code 18 = .ok (.iload_n 2, 1) := by decide +kernel
theorem d_QuietTimes_add_19 : decode prog_5_method_2_code 19 = .ok (.iastore, 1) := by decide +kernel
theorem d_QuietTimes_add_20 : decode prog_5_method_2_code 20 = .ok (.aload_n 0, 1) := by decide +kernel
theorem d_QuietTimes_add_21 : decode prog_5_method_2_code 21 = .ok (.getfield 18, 3) := by decide +kernel
theorem d_QuietTimes_add_24 : decode prog_5_method_2_code 24 = .ok (.aload_n 0, 1) := by decide +kernel
theorem d_QuietTimes_add_25 : decode prog_5_method_2_code 25 = .ok (.getfield 21, 3) := by decide +kernel
theorem d_QuietTimes_add_28 : decode prog_5_method_2_code 28 = .ok (.iload_n 3, 1) := by decide +kernel
theorem d_QuietTimes_add_29 : decode prog_5_method_2_code 29 = .ok (.iastore, 1) := by decide +kernel
theorem d_QuietTimes_add_30 : decode prog_5_method_2_code 30 = .ok (.aload_n 0, 1) := by decide +kernel
theorem d_QuietTimes_add_31 : decode prog_5_method_2_code 31 = .ok (.dup, 1) := by decide +kernel
theorem d_QuietTimes_add_32 : decode prog_5_method_2_code 32 = .ok (.getfield 21, 3) := by decide +kernel
theorem d_QuietTimes_add_35 : decode prog_5_method_2_code 35 = .ok (.iconst 1, 1) := by decide +kernel
theorem d_QuietTimes_add_36 : decode prog_5_method_2_code 36 = .ok (.iadd, 1) := by decide +kernel
theorem d_QuietTimes_add_37 : decode prog_5_method_2_code 37 = .ok (.putfield 21, 3) := by decide +kernel
theorem d_QuietTimes_add_40 : decode prog_5_method_2_code 40 = .ok (.return_, 1) := by decide +kernel
theorem d_QuietTimes_covers_0 : decode prog_5_method_3_code 0 = .ok (.aload_n 0, 1) := by decide +kernel
theorem d_QuietTimes_covers_1 : decode prog_5_method_3_code 1 = .ok (.getfield 15, 3) := by decide +kernel
theorem d_QuietTimes_covers_4 : decode prog_5_method_3_code 4 = .ok (.iload_n 1, 1) := by decide +kernel
theorem d_QuietTimes_covers_5 : decode prog_5_method_3_code 5 = .ok (.iaload, 1) := by decide +kernel
theorem d_QuietTimes_covers_6 : decode prog_5_method_3_code 6 = .ok (.iload_n 2, 1) := by decide +kernel
theorem d_QuietTimes_covers_7 : decode prog_5_method_3_code 7 = .ok (.if_icmp .gt 17, 3) := by decide +kernel
theorem d_QuietTimes_covers_10 : decode prog_5_method_3_code 10 = .ok (.iload_n 2, 1) := by decide +kernel
theorem d_QuietTimes_covers_11 : decode prog_5_method_3_code 11 = .ok (.aload_n 0, 1) := by decide +kernel
theorem d_QuietTimes_covers_12 : decode prog_5_method_3_code 12 = .ok (.getfield 18, 3) := by decide +kernel
theorem d_QuietTimes_covers_15 : decode prog_5_method_3_code 15 = .ok (.iload_n 1, 1) := by decide +kernel
theorem d_QuietTimes_covers_16 : decode prog_5_method_3_code 16 = .ok (.iaload, 1) := by decide +kernel
theorem d_QuietTimes_covers_17 : decode prog_5_method_3_code 17 = .ok (.if_icmp .gt 7, 3) := by decide +kernel
theorem d_QuietTimes_covers_20 : decode prog_5_method_3_code 20 = .ok (.iconst 1, 1) := by decide +kernel
theorem d_QuietTimes_covers_21 : decode prog_5_method_3_code 21 = .ok (.goto 4, 3) := by decide +kernel
theorem d_QuietTimes_covers_24 : decode prog_5_method_3_code 24 = .ok (.iconst 0, 1) := by decide +kernel
theorem d_QuietTimes_covers_25 : decode prog_5_method_3_code 25 = .ok (.ireturn, 1) := by decide +kernel

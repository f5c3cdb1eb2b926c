theorem d_MD_init_0 : decode prog_9_method_1_code 0 = .ok (.aload_n 0, 1) := by decide +kernel
theorem d_MD_init_1 : decode prog_9_method_1_code 1 = .ok (.invokespecial 1, 3) := by decide +kernel
theorem d_MD_init_4 : decode prog_9_method_1_code 4 = .ok (.aload_n 0, 1) := by decide +kernel
theorem d_MD_init_5 : decode prog_9_method_1_code 5 = .ok (.bipush 24, 2) := by decide +kernel
theorem d_MD_init_7 : decode prog_9_method_1_code 7 = .ok (.newarray .int, 2) := by decide +kernel
theorem d_MD_init_9 : decode prog_9_method_1_code 9 = .ok (.putfield 7, 3) := by decide +kernel
theorem d_MD_init_12 : decode prog_9_method_1_code 12 = .ok (.aload_n 0, 1) := by decide +kernel
theorem d_MD_init_13 : decode prog_9_method_1_code 13 = .ok (.bipush 24, 2) := by decide +kernel
theorem d_MD_init_15 : decode prog_9_method_1_code 15 = .ok (.newarray .int, 2) := by decide +kernel
theorem d_MD_init_17 : decode prog_9_method_1_code 17 = .ok (.putfield 13, 3) := by decide +kernel
theorem d_MD_init_20 : decode prog_9_method_1_code 20 = .ok (.aload_n 0, 1) := by decide +kernel
theorem d_MD_init_21 : decode prog_9_method_1_code 21 = .ok (.bipush 60, 2) := by decide +kernel
theorem d_MD_init_23 : decode prog_9_method_1_code 23 = .ok (.newarray .int, 2) := by decide +kernel
theorem d_MD_init_25 : decode prog_9_method_1_code 25 = .ok (.putfield 16, 3) := by decide +kernel
theorem d_MD_init_28 : decode prog_9_method_1_code 28 = .ok (.aload_n 0, 1) := by decide +kernel
theorem d_MD_init_29 : decode prog_9_method_1_code 29 = .ok (.bipush 20, 2) := by decide +kernel
theorem d_MD_init_31 : decode prog_9_method_1_code 31 = .ok (.newarray .int, 2) := by decide +kernel
theorem d_MD_init_33 : decode prog_9_method_1_code 33 = .ok (.putfield 19, 3) := by decide +kernel
theorem d_MD_init_36 : decode prog_9_method_1_code 36 = .ok (.aload_n 0, 1) := by decide +kernel
theorem d_MD_init_37 : decode prog_9_method_1_code 37 = .ok (.bipush 20, 2) := by decide +kernel
theorem d_MD_init_39 : decode prog_9_method_1_code 39 = .ok (.newarray .int, 2) := by decide +kernel
theorem d_MD_init_41 : decode prog_9_method_1_code 41 = .ok (.putfield 22, 3) := by decide +kernel
theorem d_MD_init_44 : decode prog_9_method_1_code 44 = .ok (.aload_n 0, 1) := by decide +kernel
theorem d_MD_init_45 : decode prog_9_method_1_code 45 = .ok (.bipush 20, 2) := by decide +kernel
theorem d_MD_init_47 : decode prog_9_method_1_code 47 = .ok (.newarray .boolean, 2) := by decide +kernel
theorem d_MD_init_49 : decode prog_9_method_1_code 49 = .ok (.putfield 25, 3) := by decide +kernel
theorem d_MD_init_52 : decode prog_9_method_1_code 52 = .ok (.aload_n 0, 1) := by decide +kernel
theorem d_MD_init_53 : decode prog_9_method_1_code 53 = .ok (.bipush 10, 2) := by decide +kernel
theorem d_MD_init_55 : decode prog_9_method_1_code 55 = .ok (.newarray .boolean, 2) := by decide +kernel
theorem d_MD_init_57 : decode prog_9_method_1_code 57 = .ok (.putfield 29, 3) := by decide +kernel
theorem d_MD_init_60 : decode prog_9_method_1_code 60 = .ok (.aload_n 0, 1) := by decide +kernel
theorem d_MD_init_61 : decode prog_9_method_1_code 61 = .ok (.bipush 20, 2) := by decide +kernel
theorem d_MD_init_63 : decode prog_9_method_1_code 63 = .ok (.newarray .int, 2) := by decide +kernel
theorem d_MD_init_65 : decode prog_9_method_1_code 65 = .ok (.putfield 32, 3) := by decide +kernel
theorem d_MD_init_68 : decode prog_9_method_1_code 68 = .ok (.aload_n 0, 1) := by decide +kernel
theorem d_MD_init_69 : decode prog_9_method_1_code 69 = .ok (.sipush 800, 3) := by decide +kernel
theorem d_MD_init_72 : decode prog_9_method_1_code 72 = .ok (.newarray .int, 2) := by decide +kernel
theorem d_MD_init_74 : decode prog_9_method_1_code 74 = .ok (.putfield 35, 3) := by decide +kernel
theorem d_MD_init_77 : decode prog_9_method_1_code 77 = .ok (.aload_n 0, 1) := by decide +kernel
theorem d_MD_init_78 : decode prog_9_method_1_code 78 = .ok (.sipush 800, 3) := by decide +kernel
theorem d_MD_init_81 : decode prog_9_method_1_code 81 = .ok (.newarray .int, 2) := by decide +kernel
theorem d_MD_init_83 : decode prog_9_method_1_code 83 = .ok (.putfield 38, 3) := by decide +kernel
theorem d_MD_init_86 : decode prog_9_method_1_code 86 = .ok (.aload_n 0, 1) := by decide +kernel
theorem d_MD_init_87 : decode prog_9_method_1_code 87 = .ok (.sipush 800, 3) := by decide +kernel
theorem d_MD_init_90 : decode prog_9_method_1_code 90 = .ok (.newarray .int, 2) := by decide +kernel
theorem d_MD_init_92 : decode prog_9_method_1_code 92 = .ok (.putfield 41, 3) := by decide +kernel
theorem d_MD_init_95 : decode prog_9_method_1_code 95 = .ok (.aload_n 0, 1) := by decide +kernel
theorem d_MD_init_96 : decode prog_9_method_1_code 96 = .ok (.bipush 40, 2) := by decide +kernel
theorem d_MD_init_98 : decode prog_9_method_1_code 98 = .ok (.newarray .int, 2) := by decide +kernel
theorem d_MD_init_100 : decode prog_9_method_1_code 100 = .ok (.putfield 44, 3) := by decide +kernel
theorem d_MD_init_103 : decode prog_9_method_1_code 103 = .ok (.aload_n 0, 1) := by decide +kernel
theorem d_MD_init_104 : decode prog_9_method_1_code 104 = .ok (.bipush 40, 2) := by decide +kernel
theorem d_MD_init_106 : decode prog_9_method_1_code 106 = .ok (.newarray .int, 2) := by decide +kernel
theorem d_MD_init_108 : decode prog_9_method_1_code 108 = .ok (.putfield 47, 3) := by decide +kernel
theorem d_MD_init_111 : decode prog_9_method_1_code 111 = .ok (.aload_n 0, 1) := by decide +kernel
theorem d_MD_init_112 : decode prog_9_method_1_code 112 = .ok (.bipush 40, 2) := by decide +kernel
theorem d_MD_init_114 : decode prog_9_method_1_code 114 = .ok (.newarray .int, 2) := by decide +kernel
theorem d_MD_init_116 : decode prog_9_method_1_code 116 = .ok (.putfield 50, 3) := by decide +kernel
theorem d_MD_init_119 : decode prog_9_method_1_code 119 = .ok (.aload_n 0, 1) := by decide +kernel
theorem d_MD_init_120 : decode prog_9_method_1_code 120 = .ok (.bipush 40, 2) := by decide +kernel
theorem d_MD_init_122 : decode prog_9_method_1_code 122 = .ok (.newarray .int, 2) := by decide +kernel
theorem d_MD_init_124 : decode prog_9_method_1_code 124 = .ok (.putfield 53, 3) := by decide +kernel
theorem d_MD_init_127 : decode prog_9_method_1_code 127 = .ok (.aload_n 0, 1) := by decide +kernel
theorem d_MD_init_128 : decode prog_9_method_1_code 128 = .ok (.bipush 24, 2) := by decide +kernel
theorem d_MD_init_130 : decode prog_9_method_1_code 130 = .ok (.newarray .int, 2) := by decide +kernel
theorem d_MD_init_132 : decode prog_9_method_1_code 132 = .ok (.putfield 56, 3) := by decide +kernel
theorem d_MD_init_135 : decode prog_9_method_1_code 135 = .ok (.aload_n 0, 1) := by decide +kernel
theorem d_MD_init_136 : decode prog_9_method_1_code 136 = .ok (.bipush 30, 2) := by decide +kernel
theorem d_MD_init_138 : decode prog_9_method_1_code 138 = .ok (.newarray .int, 2) := by decide +kernel
theorem d_MD_init_140 : decode prog_9_method_1_code 140 = .ok (.putfield 59, 3) := by decide +kernel
theorem d_MD_init_143 : decode prog_9_method_1_code 143 = .ok (.aload_n 0, 1) := by decide +kernel
theorem d_MD_init_144 : decode prog_9_method_1_code 144 = .ok (.bipush 30, 2) := by decide +kernel
theorem d_MD_init_146 : decode prog_9_method_1_code 146 = .ok (.newarray .int, 2) := by decide +kernel
theorem d_MD_init_148 : decode prog_9_method_1_code 148 = .ok (.putfield 62, 3) := by decide +kernel
theorem d_MD_init_151 : decode prog_9_method_1_code 151 = .ok (.aload_n 0, 1) := by decide +kernel
theorem d_MD_init_152 : decode prog_9_method_1_code 152 = .ok (.bipush 30, 2) := by decide +kernel
theorem d_MD_init_154 : decode prog_9_method_1_code 154 = .ok (.newarray .int, 2) := by decide +kernel
theorem d_MD_init_156 : decode prog_9_method_1_code 156 = .ok (.putfield 65, 3) := by decide +kernel
theorem d_MD_init_159 : decode prog_9_method_1_code 159 = .ok (.aload_n 0, 1) := by decide +kernel
theorem d_MD_init_160 : decode prog_9_method_1_code 160 = .ok (.bipush 30, 2) := by decide +kernel
theorem d_MD_init_162 : decode prog_9_method_1_code 162 = .ok (.newarray .int, 2) := by decide +kernel
theorem d_MD_init_164 : decode prog_9_method_1_code 164 = .ok (.putfield 68, 3) := by decide +kernel
theorem d_MD_init_167 : decode prog_9_method_1_code 167 = .ok (.aload_n 0, 1) := by decide +kernel
theorem d_MD_init_168 : decode prog_9_method_1_code 168 = .ok (.bipush 20, 2) := by decide +kernel
theorem d_MD_init_170 : decode prog_9_method_1_code 170 = .ok (.newarray .int, 2) := by decide +kernel
theorem d_MD_init_172 : decode prog_9_method_1_code 172 = .ok (.putfield 71, 3) := by decide +kernel
theorem d_MD_init_175 : decode prog_9_method_1_code 175 = .ok (.aload_n 0, 1) := by decide +kernel
theorem d_MD_init_176 : decode prog_9_method_1_code 176 = .ok (.bipush 20, 2) := by decide +kernel
theorem d_MD_init_178 : decode prog_9_method_1_code 178 = .ok (.newarray .int, 2) := by decide +kernel
theorem d_MD_init_180 : decode prog_9_method_1_code 180 = .ok (.putfield 74, 3) := by decide +kernel
theorem d_MD_init_183 : decode prog_9_method_1_code 183 = .ok (.aload_n 0, 1) := by decide +kernel
theorem d_MD_init_184 : decode prog_9_method_1_code 184 = .ok (.bipush 20, 2) := by decide +kernel
theorem d_MD_init_186 : decode prog_9_method_1_code 186 = .ok (.newarray .int, 2) := by decide +kernel
theorem d_MD_init_188 : decode prog_9_method_1_code 188 = .ok (.putfield 77, 3) := by decide +kernel
theorem d_MD_init_191 : decode prog_9_method_1_code 191 = .ok (.aload_n 0, 1) := by decide +kernel
theorem d_MD_init_192 : decode prog_9_method_1_code 192 = .ok (.iconst (-1), 1) := by decide +kernel
theorem d_MD_init_193 : decode prog_9_method_1_code 193 = .ok (.putfield 80, 3) := by decide +kernel
theorem d_MD_init_196 : decode prog_9_method_1_code 196 = .ok (.return_, 1) := by decide +kernel
theorem d_MD_thrown_0 : decode prog_9_method_2_code 0 = .ok (.aload_n 0, 1) := by decide +kernel
theorem d_MD_thrown_1 : decode prog_9_method_2_code 1 = .ok (.getfield 84, 3) := by decide +kernel
theorem d_MD_thrown_4 : decode prog_9_method_2_code 4 = .ok (.ireturn, 1) := by decide +kernel
theorem d_MD_goes_0 : decode prog_9_method_3_code 0 = .ok (.aload_n 0, 1) := by decide +kernel
theorem d_MD_goes_1 : decode prog_9_method_3_code 1 = .ok (.iload_n 1, 1) := by decide +kernel
theorem d_MD_goes_2 : decode prog_9_method_3_code 2 = .ok (.ifCond .ne 7, 3) := by decide +kernel
theorem d_MD_goes_5 : decode prog_9_method_3_code 5 = .ok (.iconst 1, 1) := by decide +kernel
theorem d_MD_goes_6 : decode prog_9_method_3_code 6 = .ok (.goto 20, 3) := by decide +kernel
theorem d_MD_goes_9 : decode prog_9_method_3_code 9 = .ok (.iload_n 2, 1) := by decide +kernel
theorem d_MD_goes_10 : decode prog_9_method_3_code 10 = .ok (.ifCond .ne 7, 3) := by decide +kernel
theorem d_MD_goes_13 : decode prog_9_method_3_code 13 = .ok (.iconst 2, 1) := by decide +kernel
theorem d_MD_goes_14 : decode prog_9_method_3_code 14 = .ok (.goto 12, 3) := by decide +kernel
theorem d_MD_goes_17 : decode prog_9_method_3_code 17 = .ok (.iload_n 3, 1) := by decide +kernel
theorem d_MD_goes_18 : decode prog_9_method_3_code 18 = .ok (.ifCond .ne 7, 3) := by decide +kernel
theorem d_MD_goes_21 : decode prog_9_method_3_code 21 = .ok (.iconst 3, 1) := by decide +kernel
theorem d_MD_goes_22 : decode prog_9_method_3_code 22 = .ok (.goto 4, 3) := by decide +kernel
theorem d_MD_goes_25 : decode prog_9_method_3_code 25 = .ok (.iconst 0, 1) := by decide +kernel
theorem d_MD_goes_26 : decode prog_9_method_3_code 26 = .ok (.putfield 84, 3) := by decide +kernel
theorem d_MD_goes_29 : decode prog_9_method_3_code 29 = .ok (.aload_n 0, 1) := by decide +kernel
theorem d_MD_goes_30 : decode prog_9_method_3_code 30 = .ok (.getfield 84, 3) := by decide +kernel
theorem d_MD_goes_33 : decode prog_9_method_3_code 33 = .ok (.ifCond .ne 7, 3) := by decide +kernel
theorem d_MD_goes_36 : decode prog_9_method_3_code 36 = .ok (.iconst 1, 1) := by decide +kernel
theorem d_MD_goes_37 : decode prog_9_method_3_code 37 = .ok (.goto 4, 3) := by decide +kernel
theorem d_MD_goes_40 : decode prog_9_method_3_code 40 = .ok (.iconst 0, 1) := by decide +kernel
theorem d_MD_goes_41 : decode prog_9_method_3_code 41 = .ok (.ireturn, 1) := by decide +kernel
theorem d_MD_within_0 : decode prog_9_method_4_code 0 = .ok (.iload_n 0, 1) := by decide +kernel
theorem d_MD_within_1 : decode prog_9_method_4_code 1 = .ok (.iload_n 1, 1) := by decide +kernel
theorem d_MD_within_2 : decode prog_9_method_4_code 2 = .ok (.if_icmp .lt 12, 3) := by decide +kernel
theorem d_MD_within_5 : decode prog_9_method_4_code 5 = .ok (.iload_n 0, 1) := by decide +kernel
theorem d_MD_within_6 : decode prog_9_method_4_code 6 = .ok (.iload_n 2, 1) := by decide +kernel
theorem d_MD_within_7 : decode prog_9_method_4_code 7 = .ok (.if_icmp .gt 7, 3) := by decide +kernel
theorem d_MD_within_10 : decode prog_9_method_4_code 10 = .ok (.iconst 1, 1) := by decide +kernel
theorem d_MD_within_11 : decode prog_9_method_4_code 11 = .ok (.goto 4, 3) := by decide +kernel
theorem d_MD_within_14 : decode prog_9_method_4_code 14 = .ok (.iconst 0, 1) := by decide +kernel
theorem d_MD_within_15 : decode prog_9_method_4_code 15 = .ok (.ireturn, 1) := by decide +kernel
theorem d_MD_isPlace_0 : decode prog_9_method_5_code 0 = .ok (.iload_n 1, 1) := by decide +kernel
theorem d_MD_isPlace_1 : decode prog_9_method_5_code 1 = .ok (.ifCond .lt 15, 3) := by decide +kernel
theorem d_MD_isPlace_4 : decode prog_9_method_5_code 4 = .ok (.iload_n 1, 1) := by decide +kernel
theorem d_MD_isPlace_5 : decode prog_9_method_5_code 5 = .ok (.aload_n 0, 1) := by decide +kernel
theorem d_MD_isPlace_6 : decode prog_9_method_5_code 6 = .ok (.getfield 87, 3) := by decide +kernel
theorem d_MD_isPlace_9 : decode prog_9_method_5_code 9 = .ok (.if_icmp .ge 7, 3) := by decide +kernel
theorem d_MD_isPlace_12 : decode prog_9_method_5_code 12 = .ok (.iconst 1, 1) := by decide +kernel
theorem d_MD_isPlace_13 : decode prog_9_method_5_code 13 = .ok (.goto 4, 3) := by decide +kernel
theorem d_MD_isPlace_16 : decode prog_9_method_5_code 16 = .ok (.iconst 0, 1) := by decide +kernel
theorem d_MD_isPlace_17 : decode prog_9_method_5_code 17 = .ok (.ireturn, 1) := by decide +kernel
theorem d_MD_isObject_0 : decode prog_9_method_6_code 0 = .ok (.iload_n 1, 1) := by decide +kernel
theorem d_MD_isObject_1 : decode prog_9_method_6_code 1 = .ok (.ifCond .lt 15, 3) := by decide +kernel
theorem d_MD_isObject_4 : decode prog_9_method_6_code 4 = .ok (.iload_n 1, 1) := by decide +kernel
theorem d_MD_isObject_5 : decode prog_9_method_6_code 5 = .ok (.aload_n 0, 1) := by decide +kernel
theorem d_MD_isObject_6 : decode prog_9_method_6_code 6 = .ok (.getfield 90, 3) := by decide +kernel
theorem d_MD_isObject_9 : decode prog_9_method_6_code 9 = .ok (.if_icmp .ge 7, 3) := by decide +kernel
theorem d_MD_isObject_12 : decode prog_9_method_6_code 12 = .ok (.iconst 1, 1) := by decide +kernel
theorem d_MD_isObject_13 : decode prog_9_method_6_code 13 = .ok (.goto 4, 3) := by decide +kernel
theorem d_MD_isObject_16 : decode prog_9_method_6_code 16 = .ok (.iconst 0, 1) := by decide +kernel
theorem d_MD_isObject_17 : decode prog_9_method_6_code 17 = .ok (.ireturn, 1) := by decide +kernel
theorem d_MD_isPerson_0 : decode prog_9_method_7_code 0 = .ok (.iload_n 0, 1) := by decide +kernel
theorem d_MD_isPerson_1 : decode prog_9_method_7_code 1 = .ok (.ifCond .lt 13, 3) := by decide +kernel
theorem d_MD_isPerson_4 : decode prog_9_method_7_code 4 = .ok (.iload_n 0, 1) := by decide +kernel
theorem d_MD_isPerson_5 : decode prog_9_method_7_code 5 = .ok (.bipush 10, 2) := by decide +kernel
theorem d_MD_isPerson_7 : decode prog_9_method_7_code 7 = .ok (.if_icmp .ge 7, 3) := by decide +kernel
theorem d_MD_isPerson_10 : decode prog_9_method_7_code 10 = .ok (.iconst 1, 1) := by decide +kernel
theorem d_MD_isPerson_11 : decode prog_9_method_7_code 11 = .ok (.goto 4, 3) := by decide +kernel
theorem d_MD_isPerson_14 : decode prog_9_method_7_code 14 = .ok (.iconst 0, 1) := by decide +kernel
theorem d_MD_isPerson_15 : decode prog_9_method_7_code 15 = .ok (.ireturn, 1) := by decide +kernel
theorem d_MD_place_0 : decode prog_9_method_8_code 0 = .ok (.aload_n 0, 1) := by decide +kernel
theorem d_MD_place_1 : decode prog_9_method_8_code 1 = .ok (.iload_n 1, 1) := by decide +kernel
theorem d_MD_place_2 : decode prog_9_method_8_code 2 = .ok (.iconst (-1), 1) := by decide +kernel
theorem d_MD_place_3 : decode prog_9_method_8_code 3 = .ok (.if_icmp .eq 11, 3) := by decide +kernel
theorem d_MD_place_6 : decode prog_9_method_8_code 6 = .ok (.aload_n 0, 1) := by decide +kernel
theorem d_MD_place_7 : decode prog_9_method_8_code 7 = .ok (.iload_n 1, 1) := by decide +kernel
theorem d_MD_place_8 : decode prog_9_method_8_code 8 = .ok (.invokevirtual 93, 3) := by decide +kernel
theorem d_MD_place_11 : decode prog_9_method_8_code 11 = .ok (.ifCond .eq 7, 3) := by decide +kernel
theorem d_MD_place_14 : decode prog_9_method_8_code 14 = .ok (.iconst 1, 1) := by decide +kernel
theorem d_MD_place_15 : decode prog_9_method_8_code 15 = .ok (.goto 4, 3) := by decide +kernel
theorem d_MD_place_18 : decode prog_9_method_8_code 18 = .ok (.iconst 0, 1) := by decide +kernel
theorem d_MD_place_19 : decode prog_9_method_8_code 19 = .ok (.iload_n 2, 1) := by decide +kernel
theorem d_MD_place_20 : decode prog_9_method_8_code 20 = .ok (.iconst 1, 1) := by decide +kernel
theorem d_MD_place_21 : decode prog_9_method_8_code 21 = .ok (.ldc 97, 2) := by decide +kernel
theorem d_MD_place_23 : decode prog_9_method_8_code 23 = .ok (.invokestatic 98, 3) := by decide +kernel
theorem d_MD_place_26 : decode prog_9_method_8_code 26 = .ok (.aload_n 0, 1) := by decide +kernel
theorem d_MD_place_27 : decode prog_9_method_8_code 27 = .ok (.getfield 87, 3) := by decide +kernel
theorem d_MD_place_30 : decode prog_9_method_8_code 30 = .ok (.bipush 24, 2) := by decide +kernel
theorem d_MD_place_32 : decode prog_9_method_8_code 32 = .ok (.if_icmp .ge 7, 3) := by decide +kernel
theorem d_MD_place_35 : decode prog_9_method_8_code 35 = .ok (.iconst 1, 1) := by decide +kernel
theorem d_MD_place_36 : decode prog_9_method_8_code 36 = .ok (.goto 4, 3) := by decide +kernel
theorem d_MD_place_39 : decode prog_9_method_8_code 39 = .ok (.iconst 0, 1) := by decide +kernel
theorem d_MD_place_40 : decode prog_9_method_8_code 40 = .ok (.invokevirtual 102, 3) := by decide +kernel
theorem d_MD_place_43 : decode prog_9_method_8_code 43 = .ok (.ifCond .ne 5, 3) := by decide +kernel
theorem d_MD_place_46 : decode prog_9_method_8_code 46 = .ok (.iconst 0, 1) := by decide +kernel
theorem d_MD_place_47 : decode prog_9_method_8_code 47 = .ok (.ireturn, 1) := by decide +kernel
theorem d_MD_place_48 : decode prog_9_method_8_code 48 = .ok (.aload_n 0, 1) := by decide +kernel
theorem d_MD_place_49 : decode prog_9_method_8_code 49 = .ok (.getfield 7, 3) := by decide +kernel
theorem d_MD_place_52 : decode prog_9_method_8_code 52 = .ok (.aload_n 0, 1) := by decide +kernel
theorem d_MD_place_53 : decode prog_9_method_8_code 53 = .ok (.getfield 87, 3) := by decide +kernel
theorem d_MD_place_56 : decode prog_9_method_8_code 56 = .ok (.iload_n 1, 1) := by decide +kernel
theorem d_MD_place_57 : decode prog_9_method_8_code 57 = .ok (.iastore, 1) := by decide +kernel
theorem d_MD_place_58 : decode prog_9_method_8_code 58 = .ok (.aload_n 0, 1) := by decide +kernel
theorem d_MD_place_59 : decode prog_9_method_8_code 59 = .ok (.getfield 13, 3) := by decide +kernel
theorem d_MD_place_62 : decode prog_9_method_8_code 62 = .ok (.aload_n 0, 1) := by decide +kernel
theorem d_MD_place_63 : decode prog_9_method_8_code 63 = .ok (.getfield 87, 3) := by decide +kernel
theorem d_MD_place_66 : decode prog_9_method_8_code 66 = .ok (.iload_n 2, 1) := by decide +kernel
theorem d_MD_place_67 : decode prog_9_method_8_code 67 = .ok (.iastore, 1) := by decide +kernel
theorem d_MD_place_68 : decode prog_9_method_8_code 68 = .ok (.aload_n 0, 1) := by decide +kernel
theorem d_MD_place_69 : decode prog_9_method_8_code 69 = .ok (.dup, 1) := by decide +kernel
theorem d_MD_place_70 : decode prog_9_method_8_code 70 = .ok (.getfield 87, 3) := by decide +kernel
theorem d_MD_place_73 : decode prog_9_method_8_code 73 = .ok (.iconst 1, 1) := by decide +kernel
theorem d_MD_place_74 : decode prog_9_method_8_code 74 = .ok (.iadd, 1) := by decide +kernel
theorem d_MD_place_75 : decode prog_9_method_8_code 75 = .ok (.putfield 87, 3) := by decide +kernel
theorem d_MD_place_78 : decode prog_9_method_8_code 78 = .ok (.aload_n 0, 1) := by decide +kernel
theorem d_MD_place_79 : decode prog_9_method_8_code 79 = .ok (.getfield 87, 3) := by decide +kernel
theorem d_MD_place_82 : decode prog_9_method_8_code 82 = .ok (.iconst 1, 1) := by decide +kernel
theorem d_MD_place_83 : decode prog_9_method_8_code 83 = .ok (.isub, 1) := by decide +kernel
theorem d_MD_place_84 : decode prog_9_method_8_code 84 = .ok (.ireturn, 1) := by decide +kernel
theorem d_MD_isSize_0 : decode prog_9_method_9_code 0 = .ok (.iload_n 0, 1) := by decide +kernel
theorem d_MD_isSize_1 : decode prog_9_method_9_code 1 = .ok (.iconst 1, 1) := by decide +kernel
theorem d_MD_isSize_2 : decode prog_9_method_9_code 2 = .ok (.if_icmp .lt 14, 3) := by decide +kernel
theorem d_MD_isSize_5 : decode prog_9_method_9_code 5 = .ok (.iload_n 0, 1) := by decide +kernel
theorem d_MD_isSize_6 : decode prog_9_method_9_code 6 = .ok (.sipush 10000, 3) := by decide +kernel
theorem d_MD_isSize_9 : decode prog_9_method_9_code 9 = .ok (.if_icmp .gt 7, 3) := by decide +kernel
theorem d_MD_isSize_12 : decode prog_9_method_9_code 12 = .ok (.iconst 1, 1) := by decide +kernel
theorem d_MD_isSize_13 : decode prog_9_method_9_code 13 = .ok (.goto 4, 3) := by decide +kernel
theorem d_MD_isSize_16 : decode prog_9_method_9_code 16 = .ok (.iconst 0, 1) := by decide +kernel
theorem d_MD_isSize_17 : decode prog_9_method_9_code 17 = .ok (.ireturn, 1) := by decide +kernel
theorem d_MD_object_0 : decode prog_9_method_10_code 0 = .ok (.aload_n 0, 1) := by decide +kernel
theorem d_MD_object_1 : decode prog_9_method_10_code 1 = .ok (.iload_n 1, 1) := by decide +kernel
theorem d_MD_object_2 : decode prog_9_method_10_code 2 = .ok (.invokestatic 106, 3) := by decide +kernel
theorem d_MD_object_5 : decode prog_9_method_10_code 5 = .ok (.ifCond .eq 28, 3) := by decide +kernel
theorem d_MD_object_8 : decode prog_9_method_10_code 8 = .ok (.iload_n 2, 1) := by decide +kernel
theorem d_MD_object_9 : decode prog_9_method_10_code 9 = .ok (.invokestatic 106, 3) := by decide +kernel
theorem d_MD_object_12 : decode prog_9_method_10_code 12 = .ok (.ifCond .eq 21, 3) := by decide +kernel
theorem d_MD_object_15 : decode prog_9_method_10_code 15 = .ok (.iload_n 3, 1) := by decide +kernel
theorem d_MD_object_16 : decode prog_9_method_10_code 16 = .ok (.invokestatic 106, 3) := by decide +kernel
theorem d_MD_object_19 : decode prog_9_method_10_code 19 = .ok (.ifCond .eq 14, 3) := by decide +kernel
theorem d_MD_object_22 : decode prog_9_method_10_code 22 = .ok (.iload 4, 2) := by decide +kernel
theorem d_MD_object_24 : decode prog_9_method_10_code 24 = .ok (.iconst 1, 1) := by decide +kernel
theorem d_MD_object_25 : decode prog_9_method_10_code 25 = .ok (.ldc 109, 2) := by decide +kernel
theorem d_MD_object_27 : decode prog_9_method_10_code 27 = .ok (.invokestatic 98, 3) := by decide +kernel
theorem d_MD_object_30 : decode prog_9_method_10_code 30 = .ok (.ifCond .ne 7, 3) := by decide +kernel
theorem d_MD_object_33 : decode prog_9_method_10_code 33 = .ok (.iconst 1, 1) := by decide +kernel
theorem d_MD_object_34 : decode prog_9_method_10_code 34 = .ok (.goto 17, 3) := by decide +kernel
theorem d_MD_object_37 : decode prog_9_method_10_code 37 = .ok (.aload_n 0, 1) := by decide +kernel
theorem d_MD_object_38 : decode prog_9_method_10_code 38 = .ok (.getfield 90, 3) := by decide +kernel
theorem d_MD_object_41 : decode prog_9_method_10_code 41 = .ok (.bipush 20, 2) := by decide +kernel
theorem d_MD_object_43 : decode prog_9_method_10_code 43 = .ok (.if_icmp .ne 7, 3) := by decide +kernel
theorem d_MD_object_46 : decode prog_9_method_10_code 46 = .ok (.iconst 2, 1) := by decide +kernel
theorem d_MD_object_47 : decode prog_9_method_10_code 47 = .ok (.goto 4, 3) := by decide +kernel
theorem d_MD_object_50 : decode prog_9_method_10_code 50 = .ok (.iconst 0, 1) := by decide +kernel
theorem d_MD_object_51 : decode prog_9_method_10_code 51 = .ok (.putfield 84, 3) := by decide +kernel
theorem d_MD_object_54 : decode prog_9_method_10_code 54 = .ok (.aload_n 0, 1) := by decide +kernel
theorem d_MD_object_55 : decode prog_9_method_10_code 55 = .ok (.getfield 84, 3) := by decide +kernel
theorem d_MD_object_58 : decode prog_9_method_10_code 58 = .ok (.ifCond .eq 5, 3) := by decide +kernel
theorem d_MD_object_61 : decode prog_9_method_10_code 61 = .ok (.iconst 0, 1) := by decide +kernel
theorem d_MD_object_62 : decode prog_9_method_10_code 62 = .ok (.ireturn, 1) := by decide +kernel
theorem d_MD_object_63 : decode prog_9_method_10_code 63 = .ok (.aload_n 0, 1) := by decide +kernel
theorem d_MD_object_64 : decode prog_9_method_10_code 64 = .ok (.getfield 16, 3) := by decide +kernel
theorem d_MD_object_67 : decode prog_9_method_10_code 67 = .ok (.iconst 3, 1) := by decide +kernel
theorem d_MD_object_68 : decode prog_9_method_10_code 68 = .ok (.aload_n 0, 1) := by decide +kernel
theorem d_MD_object_69 : decode prog_9_method_10_code 69 = .ok (.getfield 90, 3) := by decide +kernel
theorem d_MD_object_72 : decode prog_9_method_10_code 72 = .ok (.imul, 1) := by decide +kernel
theorem d_MD_object_73 : decode prog_9_method_10_code 73 = .ok (.iload_n 1, 1) := by decide +kernel
theorem d_MD_object_74 : decode prog_9_method_10_code 74 = .ok (.iastore, 1) := by decide +kernel
theorem d_MD_object_75 : decode prog_9_method_10_code 75 = .ok (.aload_n 0, 1) := by decide +kernel
theorem d_MD_object_76 : decode prog_9_method_10_code 76 = .ok (.getfield 16, 3) := by decide +kernel
theorem d_MD_object_79 : decode prog_9_method_10_code 79 = .ok (.iconst 3, 1) := by decide +kernel
theorem d_MD_object_80 : decode prog_9_method_10_code 80 = .ok (.aload_n 0, 1) := by decide +kernel
theorem d_MD_object_81 : decode prog_9_method_10_code 81 = .ok (.getfield 90, 3) := by decide +kernel
theorem d_MD_object_84 : decode prog_9_method_10_code 84 = .ok (.imul, 1) := by decide +kernel
theorem d_MD_object_85 : decode prog_9_method_10_code 85 = .ok (.iconst 1, 1) := by decide +kernel
theorem d_MD_object_86 : decode prog_9_method_10_code 86 = .ok (.iadd, 1) := by decide +kernel
theorem d_MD_object_87 : decode prog_9_method_10_code 87 = .ok (.iload_n 2, 1) := by decide +kernel
theorem d_MD_object_88 : decode prog_9_method_10_code 88 = .ok (.iastore, 1) := by decide +kernel
theorem d_MD_object_89 : decode prog_9_method_10_code 89 = .ok (.aload_n 0, 1) := by decide +kernel
theorem d_MD_object_90 : decode prog_9_method_10_code 90 = .ok (.getfield 16, 3) := by decide +kernel
theorem d_MD_object_93 : decode prog_9_method_10_code 93 = .ok (.iconst 3, 1) := by decide +kernel
theorem d_MD_object_94 : decode prog_9_method_10_code 94 = .ok (.aload_n 0, 1) := by decide +kernel
theorem d_MD_object_95 : decode prog_9_method_10_code 95 = .ok (.getfield 90, 3) := by decide +kernel
theorem d_MD_object_98 : decode prog_9_method_10_code 98 = .ok (.imul, 1) := by decide +kernel
theorem d_MD_object_99 : decode prog_9_method_10_code 99 = .ok (.iconst 2, 1) := by decide +kernel
theorem d_MD_object_100 : decode prog_9_method_10_code 100 = .ok (.iadd, 1) := by decide +kernel
theorem d_MD_object_101 : decode prog_9_method_10_code 101 = .ok (.iload_n 3, 1) := by decide +kernel
theorem d_MD_object_102 : decode prog_9_method_10_code 102 = .ok (.iastore, 1) := by decide +kernel
theorem d_MD_object_103 : decode prog_9_method_10_code 103 = .ok (.aload_n 0, 1) := by decide +kernel
theorem d_MD_object_104 : decode prog_9_method_10_code 104 = .ok (.getfield 19, 3) := by decide +kernel
theorem d_MD_object_107 : decode prog_9_method_10_code 107 = .ok (.aload_n 0, 1) := by decide +kernel
theorem d_MD_object_108 : decode prog_9_method_10_code 108 = .ok (.getfield 90, 3) := by decide +kernel
theorem d_MD_object_111 : decode prog_9_method_10_code 111 = .ok (.iload 4, 2) := by decide +kernel
theorem d_MD_object_113 : decode prog_9_method_10_code 113 = .ok (.iastore, 1) := by decide +kernel
theorem d_MD_object_114 : decode prog_9_method_10_code 114 = .ok (.aload_n 0, 1) := by decide +kernel
theorem d_MD_object_115 : decode prog_9_method_10_code 115 = .ok (.dup, 1) := by decide +kernel
theorem d_MD_object_116 : decode prog_9_method_10_code 116 = .ok (.getfield 90, 3) := by decide +kernel
theorem d_MD_object_119 : decode prog_9_method_10_code 119 = .ok (.iconst 1, 1) := by decide +kernel
theorem d_MD_object_120 : decode prog_9_method_10_code 120 = .ok (.iadd, 1) := by decide +kernel
theorem d_MD_object_121 : decode prog_9_method_10_code 121 = .ok (.putfield 90, 3) := by decide +kernel
theorem d_MD_object_124 : decode prog_9_method_10_code 124 = .ok (.aload_n 0, 1) := by decide +kernel
theorem d_MD_object_125 : decode prog_9_method_10_code 125 = .ok (.getfield 90, 3) := by decide +kernel
theorem d_MD_object_128 : decode prog_9_method_10_code 128 = .ok (.iconst 1, 1) := by decide +kernel
theorem d_MD_object_129 : decode prog_9_method_10_code 129 = .ok (.isub, 1) := by decide +kernel
theorem d_MD_object_130 : decode prog_9_method_10_code 130 = .ok (.ireturn, 1) := by decide +kernel
theorem d_MD_keys_0 : decode prog_9_method_11_code 0 = .ok (.aload_n 0, 1) := by decide +kernel
theorem d_MD_keys_1 : decode prog_9_method_11_code 1 = .ok (.aload_n 0, 1) := by decide +kernel
theorem d_MD_keys_2 : decode prog_9_method_11_code 2 = .ok (.iload_n 1, 1) := by decide +kernel
theorem d_MD_keys_3 : decode prog_9_method_11_code 3 = .ok (.invokevirtual 110, 3) := by decide +kernel
theorem d_MD_keys_6 : decode prog_9_method_11_code 6 = .ok (.iload_n 2, 1) := by decide +kernel
theorem d_MD_keys_7 : decode prog_9_method_11_code 7 = .ok (.iconst 0, 1) := by decide +kernel
theorem d_MD_keys_8 : decode prog_9_method_11_code 8 = .ok (.iconst 2, 1) := by decide +kernel
theorem d_MD_keys_9 : decode prog_9_method_11_code 9 = .ok (.invokestatic 98, 3) := by decide +kernel
theorem d_MD_keys_12 : decode prog_9_method_11_code 12 = .ok (.iconst 1, 1) := by decide +kernel
theorem d_MD_keys_13 : decode prog_9_method_11_code 13 = .ok (.invokevirtual 102, 3) := by decide +kernel
theorem d_MD_keys_16 : decode prog_9_method_11_code 16 = .ok (.ifCond .ne 5, 3) := by decide +kernel
theorem d_MD_keys_19 : decode prog_9_method_11_code 19 = .ok (.iconst 0, 1) := by decide +kernel
theorem d_MD_keys_20 : decode prog_9_method_11_code 20 = .ok (.ireturn, 1) := by decide +kernel
theorem d_MD_keys_21 : decode prog_9_method_11_code 21 = .ok (.aload_n 0, 1) := by decide +kernel
theorem d_MD_keys_22 : decode prog_9_method_11_code 22 = .ok (.getfield 22, 3) := by decide +kernel
theorem d_MD_keys_25 : decode prog_9_method_11_code 25 = .ok (.iload_n 1, 1) := by decide +kernel
theorem d_MD_keys_26 : decode prog_9_method_11_code 26 = .ok (.iaload, 1) := by decide +kernel
theorem d_MD_keys_27 : decode prog_9_method_11_code 27 = .ok (.istore_n 3, 1) := by decide +kernel
theorem d_MD_keys_28 : decode prog_9_method_11_code 28 = .ok (.aload_n 0, 1) := by decide +kernel
theorem d_MD_keys_29 : decode prog_9_method_11_code 29 = .ok (.getfield 22, 3) := by decide +kernel
theorem d_MD_keys_32 : decode prog_9_method_11_code 32 = .ok (.iload_n 1, 1) := by decide +kernel
theorem d_MD_keys_33 : decode prog_9_method_11_code 33 = .ok (.iload_n 2, 1) := by decide +kernel
theorem d_MD_keys_34 : decode prog_9_method_11_code 34 = .ok (.iastore, 1) := by decide +kernel
theorem d_MD_keys_35 : decode prog_9_method_11_code 35 = .ok (.iload_n 3, 1) := by decide +kernel
theorem d_MD_keys_36 : decode prog_9_method_11_code 36 = .ok (.ireturn, 1) := by decide +kernel
theorem d_MD_key_0 : decode prog_9_method_12_code 0 = .ok (.aload_n 0, 1) := by decide +kernel
theorem d_MD_key_1 : decode prog_9_method_12_code 1 = .ok (.iload_n 1, 1) := by decide +kernel
theorem d_MD_key_2 : decode prog_9_method_12_code 2 = .ok (.invokestatic 113, 3) := by decide +kernel
theorem d_MD_key_5 : decode prog_9_method_12_code 5 = .ok (.iconst 1, 1) := by decide +kernel
theorem d_MD_key_6 : decode prog_9_method_12_code 6 = .ok (.iconst 1, 1) := by decide +kernel
theorem d_MD_key_7 : decode prog_9_method_12_code 7 = .ok (.invokevirtual 102, 3) := by decide +kernel
theorem d_MD_key_10 : decode prog_9_method_12_code 10 = .ok (.ifCond .ne 5, 3) := by decide +kernel
theorem d_MD_key_13 : decode prog_9_method_12_code 13 = .ok (.iconst 0, 1) := by decide +kernel
theorem d_MD_key_14 : decode prog_9_method_12_code 14 = .ok (.ireturn, 1) := by decide +kernel
theorem d_MD_key_15 : decode prog_9_method_12_code 15 = .ok (.aload_n 0, 1) := by decide +kernel
theorem d_MD_key_16 : decode prog_9_method_12_code 16 = .ok (.getfield 29, 3) := by decide +kernel
theorem d_MD_key_19 : decode prog_9_method_12_code 19 = .ok (.iload_n 1, 1) := by decide +kernel
theorem d_MD_key_20 : decode prog_9_method_12_code 20 = .ok (.baload, 1) := by decide +kernel
theorem d_MD_key_21 : decode prog_9_method_12_code 21 = .ok (.iload_n 2, 1) := by decide +kernel
theorem d_MD_key_22 : decode prog_9_method_12_code 22 = .ok (.if_icmp .eq 7, 3) := by decide +kernel
theorem d_MD_key_25 : decode prog_9_method_12_code 25 = .ok (.iconst 1, 1) := by decide +kernel
theorem d_MD_key_26 : decode prog_9_method_12_code 26 = .ok (.goto 4, 3) := by decide +kernel
theorem d_MD_key_29 : decode prog_9_method_12_code 29 = .ok (.iconst 0, 1) := by decide +kernel
theorem d_MD_key_30 : decode prog_9_method_12_code 30 = .ok (.istore_n 3, 1) := by decide +kernel
theorem d_MD_key_31 : decode prog_9_method_12_code 31 = .ok (.aload_n 0, 1) := by decide +kernel
theorem d_MD_key_32 : decode prog_9_method_12_code 32 = .ok (.getfield 29, 3) := by decide +kernel
theorem d_MD_key_35 : decode prog_9_method_12_code 35 = .ok (.iload_n 1, 1) := by decide +kernel
theorem d_MD_key_36 : decode prog_9_method_12_code 36 = .ok (.iload_n 2, 1) := by decide +kernel
theorem d_MD_key_37 : decode prog_9_method_12_code 37 = .ok (.bastore, 1) := by decide +kernel
theorem d_MD_key_38 : decode prog_9_method_12_code 38 = .ok (.iload_n 3, 1) := by decide +kernel
theorem d_MD_key_39 : decode prog_9_method_12_code 39 = .ok (.ireturn, 1) := by decide +kernel
theorem d_MD_box_0 : decode prog_9_method_13_code 0 = .ok (.aload_n 0, 1) := by decide +kernel
theorem d_MD_box_1 : decode prog_9_method_13_code 1 = .ok (.aload_n 0, 1) := by decide +kernel
theorem d_MD_box_2 : decode prog_9_method_13_code 2 = .ok (.iload_n 1, 1) := by decide +kernel
theorem d_MD_box_3 : decode prog_9_method_13_code 3 = .ok (.invokevirtual 110, 3) := by decide +kernel
theorem d_MD_box_6 : decode prog_9_method_13_code 6 = .ok (.iconst 1, 1) := by decide +kernel
theorem d_MD_box_7 : decode prog_9_method_13_code 7 = .ok (.iconst 1, 1) := by decide +kernel
theorem d_MD_box_8 : decode prog_9_method_13_code 8 = .ok (.invokevirtual 102, 3) := by decide +kernel
theorem d_MD_box_11 : decode prog_9_method_13_code 11 = .ok (.ifCond .ne 5, 3) := by decide +kernel
theorem d_MD_box_14 : decode prog_9_method_13_code 14 = .ok (.iconst 0, 1) := by decide +kernel
theorem d_MD_box_15 : decode prog_9_method_13_code 15 = .ok (.ireturn, 1) := by decide +kernel
theorem d_MD_box_16 : decode prog_9_method_13_code 16 = .ok (.aload_n 0, 1) := by decide +kernel
theorem d_MD_box_17 : decode prog_9_method_13_code 17 = .ok (.getfield 25, 3) := by decide +kernel
theorem d_MD_box_20 : decode prog_9_method_13_code 20 = .ok (.iload_n 1, 1) := by decide +kernel
theorem d_MD_box_21 : decode prog_9_method_13_code 21 = .ok (.baload, 1) := by decide +kernel
theorem d_MD_box_22 : decode prog_9_method_13_code 22 = .ok (.istore_n 2, 1) := by decide +kernel
theorem d_MD_box_23 : decode prog_9_method_13_code 23 = .ok (.aload_n 0, 1) := by decide +kernel
theorem d_MD_box_24 : decode prog_9_method_13_code 24 = .ok (.getfield 25, 3) := by decide +kernel
theorem d_MD_box_27 : decode prog_9_method_13_code 27 = .ok (.iload_n 1, 1) := by decide +kernel
theorem d_MD_box_28 : decode prog_9_method_13_code 28 = .ok (.iconst 1, 1) := by decide +kernel
theorem d_MD_box_29 : decode prog_9_method_13_code 29 = .ok (.bastore, 1) := by decide +kernel
theorem d_MD_box_30 : decode prog_9_method_13_code 30 = .ok (.iload_n 2, 1) := by decide +kernel
theorem d_MD_box_31 : decode prog_9_method_13_code 31 = .ok (.ifCond .ne 7, 3) := by decide +kernel
theorem d_MD_box_34 : decode prog_9_method_13_code 34 = .ok (.iconst 1, 1) := by decide +kernel
theorem d_MD_box_35 : decode prog_9_method_13_code 35 = .ok (.goto 4, 3) := by decide +kernel
theorem d_MD_box_38 : decode prog_9_method_13_code 38 = .ok (.iconst 0, 1) := by decide +kernel
theorem d_MD_box_39 : decode prog_9_method_13_code 39 = .ok (.ireturn, 1) := by decide +kernel
theorem d_MD_rowAt_0 : decode prog_9_method_14_code 0 = .ok (.iconst (-1), 1) := by decide +kernel
theorem d_MD_rowAt_1 : decode prog_9_method_14_code 1 = .ok (.istore_n 3, 1) := by decide +kernel
theorem d_MD_rowAt_2 : decode prog_9_method_14_code 2 = .ok (.bipush 40, 2) := by decide +kernel
theorem d_MD_rowAt_4 : decode prog_9_method_14_code 4 = .ok (.iload_n 1, 1) := by decide +kernel
theorem d_MD_rowAt_5 : decode prog_9_method_14_code 5 = .ok (.imul, 1) := by decide +kernel
theorem d_MD_rowAt_6 : decode prog_9_method_14_code 6 = .ok (.istore 4, 2) := by decide +kernel
theorem d_MD_rowAt_8 : decode prog_9_method_14_code 8 = .ok (.iload 4, 2) := by decide +kernel
theorem d_MD_rowAt_10 : decode prog_9_method_14_code 10 = .ok (.bipush 40, 2) := by decide +kernel
theorem d_MD_rowAt_12 : decode prog_9_method_14_code 12 = .ok (.iload_n 1, 1) := by decide +kernel
theorem d_MD_rowAt_13 : decode prog_9_method_14_code 13 = .ok (.imul, 1) := by decide +kernel
theorem d_MD_rowAt_14 : decode prog_9_method_14_code 14 = .ok (.aload_n 0, 1) := by decide +kernel
theorem d_MD_rowAt_15 : decode prog_9_method_14_code 15 = .ok (.getfield 32, 3) := by decide +kernel
theorem d_MD_rowAt_18 : decode prog_9_method_14_code 18 = .ok (.iload_n 1, 1) := by decide +kernel
theorem d_MD_rowAt_19 : decode prog_9_method_14_code 19 = .ok (.iaload, 1) := by decide +kernel
theorem d_MD_rowAt_20 : decode prog_9_method_14_code 20 = .ok (.iadd, 1) := by decide +kernel
theorem d_MD_rowAt_21 : decode prog_9_method_14_code 21 = .ok (.if_icmp .ge 27, 3) := by decide +kernel
theorem d_MD_rowAt_24 : decode prog_9_method_14_code 24 = .ok (.aload_n 0, 1) := by decide +kernel
theorem d_MD_rowAt_25 : decode prog_9_method_14_code 25 = .ok (.getfield 35, 3) := by decide +kernel
theorem d_MD_rowAt_28 : decode prog_9_method_14_code 28 = .ok (.iload 4, 2) := by decide +kernel
theorem d_MD_rowAt_30 : decode prog_9_method_14_code 30 = .ok (.iaload, 1) := by decide +kernel
theorem d_MD_rowAt_31 : decode prog_9_method_14_code 31 = .ok (.iload_n 2, 1) := by decide +kernel
theorem d_MD_rowAt_32 : decode prog_9_method_14_code 32 = .ok (.if_icmp .gt 8, 3) := by decide +kernel
theorem d_MD_rowAt_35 : decode prog_9_method_14_code 35 = .ok (.iload 4, 2) := by decide +kernel
theorem d_MD_rowAt_37 : decode prog_9_method_14_code 37 = .ok (.goto 4, 3) := by decide +kernel
theorem d_MD_rowAt_40 : decode prog_9_method_14_code 40 = .ok (.iload_n 3, 1) := by decide +kernel
theorem d_MD_rowAt_41 : decode prog_9_method_14_code 41 = .ok (.istore_n 3, 1) := by decide +kernel
theorem d_MD_rowAt_42 : decode prog_9_method_14_code 42 = .ok (.iinc 4 1, 3) := by decide +kernel
theorem d_MD_rowAt_45 : decode prog_9_method_14_code 45 = .ok (.goto (-37), 3) := by decide +kernel
theorem d_MD_rowAt_48 : decode prog_9_method_14_code 48 = .ok (.iload_n 3, 1) := by decide +kernel
theorem d_MD_rowAt_49 : decode prog_9_method_14_code 49 = .ok (.ireturn, 1) := by decide +kernel
theorem d_MD_at_0 : decode prog_9_method_15_code 0 = .ok (.iload_n 1, 1) := by decide +kernel
theorem d_MD_at_1 : decode prog_9_method_15_code 1 = .ok (.istore_n 3, 1) := by decide +kernel
theorem d_MD_at_2 : decode prog_9_method_15_code 2 = .ok (.iconst 0, 1) := by decide +kernel
theorem d_MD_at_3 : decode prog_9_method_15_code 3 = .ok (.istore 4, 2) := by decide +kernel
theorem d_MD_at_5 : decode prog_9_method_15_code 5 = .ok (.iload 4, 2) := by decide +kernel
theorem d_MD_at_7 : decode prog_9_method_15_code 7 = .ok (.bipush 20, 2) := by decide +kernel
theorem d_MD_at_9 : decode prog_9_method_15_code 9 = .ok (.if_icmp .gt 75, 3) := by decide +kernel
theorem d_MD_at_12 : decode prog_9_method_15_code 12 = .ok (.iload_n 3, 1) := by decide +kernel
theorem d_MD_at_13 : decode prog_9_method_15_code 13 = .ok (.aload_n 0, 1) := by decide +kernel
theorem d_MD_at_14 : decode prog_9_method_15_code 14 = .ok (.getfield 80, 3) := by decide +kernel
theorem d_MD_at_17 : decode prog_9_method_15_code 17 = .ok (.if_icmp .ne 8, 3) := by decide +kernel
theorem d_MD_at_20 : decode prog_9_method_15_code 20 = .ok (.aload_n 0, 1) := by decide +kernel
theorem d_MD_at_21 : decode prog_9_method_15_code 21 = .ok (.getfield 116, 3) := by decide +kernel
theorem d_MD_at_24 : decode prog_9_method_15_code 24 = .ok (.ireturn, 1) := by decide +kernel
theorem d_MD_at_25 : decode prog_9_method_15_code 25 = .ok (.aload_n 0, 1) := by decide +kernel
theorem d_MD_at_26 : decode prog_9_method_15_code 26 = .ok (.iload_n 3, 1) := by decide +kernel
theorem d_MD_at_27 : decode prog_9_method_15_code 27 = .ok (.iload_n 2, 1) := by decide +kernel
theorem d_MD_at_28 : decode prog_9_method_15_code 28 = .ok (.invokevirtual 119, 3) := by decide +kernel
theorem d_MD_at_31 : decode prog_9_method_15_code 31 = .ok (.istore 5, 2) := by decide +kernel
theorem d_MD_at_33 : decode prog_9_method_15_code 33 = .ok (.iload 5, 2) := by decide +kernel
theorem d_MD_at_35 : decode prog_9_method_15_code 35 = .ok (.iconst (-1), 1) := by decide +kernel
theorem d_MD_at_36 : decode prog_9_method_15_code 36 = .ok (.if_icmp .eq 14, 3) := by decide +kernel
theorem d_MD_at_39 : decode prog_9_method_15_code 39 = .ok (.aload_n 0, 1) := by decide +kernel
theorem d_MD_at_40 : decode prog_9_method_15_code 40 = .ok (.getfield 38, 3) := by decide +kernel
theorem d_MD_at_43 : decode prog_9_method_15_code 43 = .ok (.iload 5, 2) := by decide +kernel
theorem d_MD_at_45 : decode prog_9_method_15_code 45 = .ok (.iaload, 1) := by decide +kernel
theorem d_MD_at_46 : decode prog_9_method_15_code 46 = .ok (.iconst 2, 1) := by decide +kernel
theorem d_MD_at_47 : decode prog_9_method_15_code 47 = .ok (.if_icmp .ne 5, 3) := by decide +kernel
theorem d_MD_at_50 : decode prog_9_method_15_code 50 = .ok (.iconst (-1), 1) := by decide +kernel
theorem d_MD_at_51 : decode prog_9_method_15_code 51 = .ok (.ireturn, 1) := by decide +kernel
theorem d_MD_at_52 : decode prog_9_method_15_code 52 = .ok (.aload_n 0, 1) := by decide +kernel
theorem d_MD_at_53 : decode prog_9_method_15_code 53 = .ok (.getfield 38, 3) := by decide +kernel
theorem d_MD_at_56 : decode prog_9_method_15_code 56 = .ok (.iload 5, 2) := by decide +kernel
theorem d_MD_at_58 : decode prog_9_method_15_code 58 = .ok (.iaload, 1) := by decide +kernel
theorem d_MD_at_59 : decode prog_9_method_15_code 59 = .ok (.ifCond .ne 11, 3) := by decide +kernel
theorem d_MD_at_62 : decode prog_9_method_15_code 62 = .ok (.aload_n 0, 1) := by decide +kernel
theorem d_MD_at_63 : decode prog_9_method_15_code 63 = .ok (.getfield 41, 3) := by decide +kernel
theorem d_MD_at_66 : decode prog_9_method_15_code 66 = .ok (.iload 5, 2) := by decide +kernel
theorem d_MD_at_68 : decode prog_9_method_15_code 68 = .ok (.iaload, 1) := by decide +kernel
theorem d_MD_at_69 : decode prog_9_method_15_code 69 = .ok (.ireturn, 1) := by decide +kernel
theorem d_MD_at_70 : decode prog_9_method_15_code 70 = .ok (.aload_n 0, 1) := by decide +kernel
theorem d_MD_at_71 : decode prog_9_method_15_code 71 = .ok (.getfield 41, 3) := by decide +kernel
theorem d_MD_at_74 : decode prog_9_method_15_code 74 = .ok (.iload 5, 2) := by decide +kernel
theorem d_MD_at_76 : decode prog_9_method_15_code 76 = .ok (.iaload, 1) := by decide +kernel
theorem d_MD_at_77 : decode prog_9_method_15_code 77 = .ok (.istore_n 3, 1) := by decide +kernel
theorem d_MD_at_78 : decode prog_9_method_15_code 78 = .ok (.iinc 4 1, 3) := by decide +kernel
theorem d_MD_at_81 : decode prog_9_method_15_code 81 = .ok (.goto (-76), 3) := by decide +kernel
theorem d_MD_at_84 : decode prog_9_method_15_code 84 = .ok (.iconst (-1), 1) := by decide +kernel
theorem d_MD_at_85 : decode prog_9_method_15_code 85 = .ok (.ireturn, 1) := by decide +kernel
theorem d_MD_lies_0 : decode prog_9_method_16_code 0 = .ok (.iload_n 1, 1) := by decide +kernel
theorem d_MD_lies_1 : decode prog_9_method_16_code 1 = .ok (.istore_n 3, 1) := by decide +kernel
theorem d_MD_lies_2 : decode prog_9_method_16_code 2 = .ok (.iload_n 3, 1) := by decide +kernel
theorem d_MD_lies_3 : decode prog_9_method_16_code 3 = .ok (.iconst (-1), 1) := by decide +kernel
theorem d_MD_lies_4 : decode prog_9_method_16_code 4 = .ok (.if_icmp .eq 18, 3) := by decide +kernel
theorem d_MD_lies_7 : decode prog_9_method_16_code 7 = .ok (.iload_n 3, 1) := by decide +kernel
theorem d_MD_lies_8 : decode prog_9_method_16_code 8 = .ok (.iload_n 2, 1) := by decide +kernel
theorem d_MD_lies_9 : decode prog_9_method_16_code 9 = .ok (.if_icmp .eq 13, 3) := by decide +kernel
theorem d_MD_lies_12 : decode prog_9_method_16_code 12 = .ok (.aload_n 0, 1) := by decide +kernel
theorem d_MD_lies_13 : decode prog_9_method_16_code 13 = .ok (.getfield 7, 3) := by decide +kernel
theorem d_MD_lies_16 : decode prog_9_method_16_code 16 = .ok (.iload_n 3, 1) := by decide +kernel
theorem d_MD_lies_17 : decode prog_9_method_16_code 17 = .ok (.iaload, 1) := by decide +kernel
theorem d_MD_lies_18 : decode prog_9_method_16_code 18 = .ok (.istore_n 3, 1) := by decide +kernel
theorem d_MD_lies_19 : decode prog_9_method_16_code 19 = .ok (.goto (-17), 3) := by decide +kernel
theorem d_MD_lies_22 : decode prog_9_method_16_code 22 = .ok (.iload_n 3, 1) := by decide +kernel
theorem d_MD_lies_23 : decode prog_9_method_16_code 23 = .ok (.iload_n 2, 1) := by decide +kernel
theorem d_MD_lies_24 : decode prog_9_method_16_code 24 = .ok (.if_icmp .ne 12, 3) := by decide +kernel
theorem d_MD_lies_27 : decode prog_9_method_16_code 27 = .ok (.iload_n 2, 1) := by decide +kernel
theorem d_MD_lies_28 : decode prog_9_method_16_code 28 = .ok (.iconst (-1), 1) := by decide +kernel
theorem d_MD_lies_29 : decode prog_9_method_16_code 29 = .ok (.if_icmp .eq 7, 3) := by decide +kernel
theorem d_MD_lies_32 : decode prog_9_method_16_code 32 = .ok (.iconst 1, 1) := by decide +kernel
theorem d_MD_lies_33 : decode prog_9_method_16_code 33 = .ok (.goto 4, 3) := by decide +kernel
theorem d_MD_lies_36 : decode prog_9_method_16_code 36 = .ok (.iconst 0, 1) := by decide +kernel
theorem d_MD_lies_37 : decode prog_9_method_16_code 37 = .ok (.ireturn, 1) := by decide +kernel
theorem d_MD_isPlanned_0 : decode prog_9_method_17_code 0 = .ok (.iconst 0, 1) := by decide +kernel
theorem d_MD_isPlanned_1 : decode prog_9_method_17_code 1 = .ok (.istore 4, 2) := by decide +kernel
theorem d_MD_isPlanned_3 : decode prog_9_method_17_code 3 = .ok (.iload 4, 2) := by decide +kernel
theorem d_MD_isPlanned_5 : decode prog_9_method_17_code 5 = .ok (.aload_n 0, 1) := by decide +kernel
theorem d_MD_isPlanned_6 : decode prog_9_method_17_code 6 = .ok (.getfield 123, 3) := by decide +kernel
theorem d_MD_isPlanned_9 : decode prog_9_method_17_code 9 = .ok (.if_icmp .ge 58, 3) := by decide +kernel
theorem d_MD_isPlanned_12 : decode prog_9_method_17_code 12 = .ok (.aload_n 0, 1) := by decide +kernel
theorem d_MD_isPlanned_13 : decode prog_9_method_17_code 13 = .ok (.getfield 59, 3) := by decide +kernel
theorem d_MD_isPlanned_16 : decode prog_9_method_17_code 16 = .ok (.iload 4, 2) := by decide +kernel
theorem d_MD_isPlanned_18 : decode prog_9_method_17_code 18 = .ok (.iaload, 1) := by decide +kernel
theorem d_MD_isPlanned_19 : decode prog_9_method_17_code 19 = .ok (.iload_n 1, 1) := by decide +kernel
theorem d_MD_isPlanned_20 : decode prog_9_method_17_code 20 = .ok (.if_icmp .ne 41, 3) := by decide +kernel
theorem d_MD_isPlanned_23 : decode prog_9_method_17_code 23 = .ok (.iload_n 3, 1) := by decide +kernel
theorem d_MD_isPlanned_24 : decode prog_9_method_17_code 24 = .ok (.aload_n 0, 1) := by decide +kernel
theorem d_MD_isPlanned_25 : decode prog_9_method_17_code 25 = .ok (.getfield 65, 3) := by decide +kernel
theorem d_MD_isPlanned_28 : decode prog_9_method_17_code 28 = .ok (.iload 4, 2) := by decide +kernel
theorem d_MD_isPlanned_30 : decode prog_9_method_17_code 30 = .ok (.iaload, 1) := by decide +kernel
theorem d_MD_isPlanned_31 : decode prog_9_method_17_code 31 = .ok (.aload_n 0, 1) := by decide +kernel
theorem d_MD_isPlanned_32 : decode prog_9_method_17_code 32 = .ok (.getfield 68, 3) := by decide +kernel
theorem d_MD_isPlanned_35 : decode prog_9_method_17_code 35 = .ok (.iload 4, 2) := by decide +kernel
theorem d_MD_isPlanned_37 : decode prog_9_method_17_code 37 = .ok (.iaload, 1) := by decide +kernel
theorem d_MD_isPlanned_38 : decode prog_9_method_17_code 38 = .ok (.invokestatic 98, 3) := by decide +kernel
theorem d_MD_isPlanned_41 : decode prog_9_method_17_code 41 = .ok (.ifCond .eq 20, 3) := by decide +kernel
theorem d_MD_isPlanned_44 : decode prog_9_method_17_code 44 = .ok (.aload_n 0, 1) := by decide +kernel
theorem d_MD_isPlanned_45 : decode prog_9_method_17_code 45 = .ok (.aload_n 0, 1) := by decide +kernel
theorem d_MD_isPlanned_46 : decode prog_9_method_17_code 46 = .ok (.getfield 62, 3) := by decide +kernel
theorem d_MD_isPlanned_49 : decode prog_9_method_17_code 49 = .ok (.iload 4, 2) := by decide +kernel
theorem d_MD_isPlanned_51 : decode prog_9_method_17_code 51 = .ok (.iaload, 1) := by decide +kernel
theorem d_MD_isPlanned_52 : decode prog_9_method_17_code 52 = .ok (.iload_n 2, 1) := by decide +kernel
theorem d_MD_isPlanned_53 : decode prog_9_method_17_code 53 = .ok (.invokevirtual 126, 3) := by decide +kernel
theorem d_MD_isPlanned_56 : decode prog_9_method_17_code 56 = .ok (.ifCond .eq 5, 3) := by decide +kernel
theorem d_MD_isPlanned_59 : decode prog_9_method_17_code 59 = .ok (.iconst 1, 1) := by decide +kernel
theorem d_MD_isPlanned_60 : decode prog_9_method_17_code 60 = .ok (.ireturn, 1) := by decide +kernel
theorem d_MD_isPlanned_61 : decode prog_9_method_17_code 61 = .ok (.iinc 4 1, 3) := by decide +kernel
theorem d_MD_isPlanned_64 : decode prog_9_method_17_code 64 = .ok (.goto (-61), 3) := by decide +kernel
theorem d_MD_isPlanned_67 : decode prog_9_method_17_code 67 = .ok (.iconst 0, 1) := by decide +kernel
theorem d_MD_isPlanned_68 : decode prog_9_method_17_code 68 = .ok (.ireturn, 1) := by decide +kernel
theorem d_MD_weight_0 : decode prog_9_method_18_code 0 = .ok (.iconst 0, 1) := by decide +kernel
theorem d_MD_weight_1 : decode prog_9_method_18_code 1 = .ok (.istore_n 3, 1) := by decide +kernel
theorem d_MD_weight_2 : decode prog_9_method_18_code 2 = .ok (.iconst 0, 1) := by decide +kernel
theorem d_MD_weight_3 : decode prog_9_method_18_code 3 = .ok (.istore 4, 2) := by decide +kernel
theorem d_MD_weight_5 : decode prog_9_method_18_code 5 = .ok (.iload 4, 2) := by decide +kernel
theorem d_MD_weight_7 : decode prog_9_method_18_code 7 = .ok (.aload_n 0, 1) := by decide +kernel
theorem d_MD_weight_8 : decode prog_9_method_18_code 8 = .ok (.getfield 90, 3) := by decide +kernel
theorem d_MD_weight_11 : decode prog_9_method_18_code 11 = .ok (.if_icmp .ge 49, 3) := by decide +kernel
theorem d_MD_weight_14 : decode prog_9_method_18_code 14 = .ok (.aload_n 0, 1) := by decide +kernel
theorem d_MD_weight_15 : decode prog_9_method_18_code 15 = .ok (.aload_n 0, 1) := by decide +kernel
theorem d_MD_weight_16 : decode prog_9_method_18_code 16 = .ok (.iload 4, 2) := by decide +kernel
theorem d_MD_weight_18 : decode prog_9_method_18_code 18 = .ok (.iload_n 2, 1) := by decide +kernel
theorem d_MD_weight_19 : decode prog_9_method_18_code 19 = .ok (.invokevirtual 130, 3) := by decide +kernel
theorem d_MD_weight_22 : decode prog_9_method_18_code 22 = .ok (.iload_n 1, 1) := by decide +kernel
theorem d_MD_weight_23 : decode prog_9_method_18_code 23 = .ok (.invokevirtual 126, 3) := by decide +kernel
theorem d_MD_weight_26 : decode prog_9_method_18_code 26 = .ok (.ifCond .ne 14, 3) := by decide +kernel
theorem d_MD_weight_29 : decode prog_9_method_18_code 29 = .ok (.aload_n 0, 1) := by decide +kernel
theorem d_MD_weight_30 : decode prog_9_method_18_code 30 = .ok (.iload 4, 2) := by decide +kernel
theorem d_MD_weight_32 : decode prog_9_method_18_code 32 = .ok (.iload_n 1, 1) := by decide +kernel
theorem d_MD_weight_33 : decode prog_9_method_18_code 33 = .ok (.iload_n 2, 1) := by decide +kernel
theorem d_MD_weight_34 : decode prog_9_method_18_code 34 = .ok (.invokevirtual 133, 3) := by decide +kernel
theorem d_MD_weight_37 : decode prog_9_method_18_code 37 = .ok (.ifCond .eq 15, 3) := by decide +kernel
theorem d_MD_weight_40 : decode prog_9_method_18_code 40 = .ok (.iload_n 3, 1) := by decide +kernel
theorem d_MD_weight_41 : decode prog_9_method_18_code 41 = .ok (.aload_n 0, 1) := by decide +kernel
theorem d_MD_weight_42 : decode prog_9_method_18_code 42 = .ok (.getfield 19, 3) := by decide +kernel
theorem d_MD_weight_45 : decode prog_9_method_18_code 45 = .ok (.iload 4, 2) := by decide +kernel
theorem d_MD_weight_47 : decode prog_9_method_18_code 47 = .ok (.iaload, 1) := by decide +kernel
theorem d_MD_weight_48 : decode prog_9_method_18_code 48 = .ok (.iadd, 1) := by decide +kernel
theorem d_MD_weight_49 : decode prog_9_method_18_code 49 = .ok (.goto 4, 3) := by decide +kernel
theorem d_MD_weight_52 : decode prog_9_method_18_code 52 = .ok (.iload_n 3, 1) := by decide +kernel
theorem d_MD_weight_53 : decode prog_9_method_18_code 53 = .ok (.istore_n 3, 1) := by decide +kernel
theorem d_MD_weight_54 : decode prog_9_method_18_code 54 = .ok (.iinc 4 1, 3) := by decide +kernel
theorem d_MD_weight_57 : decode prog_9_method_18_code 57 = .ok (.goto (-52), 3) := by decide +kernel
theorem d_MD_weight_60 : decode prog_9_method_18_code 60 = .ok (.iload_n 3, 1) := by decide +kernel
theorem d_MD_weight_61 : decode prog_9_method_18_code 61 = .ok (.ireturn, 1) := by decide +kernel
theorem d_MD_bears_0 : decode prog_9_method_19_code 0 = .ok (.iconst 1, 1) := by decide +kernel
theorem d_MD_bears_1 : decode prog_9_method_19_code 1 = .ok (.istore_n 3, 1) := by decide +kernel
theorem d_MD_bears_2 : decode prog_9_method_19_code 2 = .ok (.iload_n 1, 1) := by decide +kernel
theorem d_MD_bears_3 : decode prog_9_method_19_code 3 = .ok (.istore 4, 2) := by decide +kernel
theorem d_MD_bears_5 : decode prog_9_method_19_code 5 = .ok (.iload 4, 2) := by decide +kernel
theorem d_MD_bears_7 : decode prog_9_method_19_code 7 = .ok (.iconst (-1), 1) := by decide +kernel
theorem d_MD_bears_8 : decode prog_9_method_19_code 8 = .ok (.if_icmp .eq 42, 3) := by decide +kernel
theorem d_MD_bears_11 : decode prog_9_method_19_code 11 = .ok (.iload_n 3, 1) := by decide +kernel
theorem d_MD_bears_12 : decode prog_9_method_19_code 12 = .ok (.ifCond .eq 24, 3) := by decide +kernel
theorem d_MD_bears_15 : decode prog_9_method_19_code 15 = .ok (.aload_n 0, 1) := by decide +kernel
theorem d_MD_bears_16 : decode prog_9_method_19_code 16 = .ok (.iload 4, 2) := by decide +kernel
theorem d_MD_bears_18 : decode prog_9_method_19_code 18 = .ok (.iload_n 2, 1) := by decide +kernel
theorem d_MD_bears_19 : decode prog_9_method_19_code 19 = .ok (.invokevirtual 136, 3) := by decide +kernel
theorem d_MD_bears_22 : decode prog_9_method_19_code 22 = .ok (.aload_n 0, 1) := by decide +kernel
theorem d_MD_bears_23 : decode prog_9_method_19_code 23 = .ok (.getfield 13, 3) := by decide +kernel
theorem d_MD_bears_26 : decode prog_9_method_19_code 26 = .ok (.iload 4, 2) := by decide +kernel
theorem d_MD_bears_28 : decode prog_9_method_19_code 28 = .ok (.iaload, 1) := by decide +kernel
theorem d_MD_bears_29 : decode prog_9_method_19_code 29 = .ok (.if_icmp .gt 7, 3) := by decide +kernel
theorem d_MD_bears_32 : decode prog_9_method_19_code 32 = .ok (.iconst 1, 1) := by decide +kernel
theorem d_MD_bears_33 : decode prog_9_method_19_code 33 = .ok (.goto 4, 3) := by decide +kernel
theorem d_MD_bears_36 : decode prog_9_method_19_code 36 = .ok (.iconst 0, 1) := by decide +kernel
theorem d_MD_bears_37 : decode prog_9_method_19_code 37 = .ok (.istore_n 3, 1) := by decide +kernel
theorem d_MD_bears_38 : decode prog_9_method_19_code 38 = .ok (.aload_n 0, 1) := by decide +kernel
theorem d_MD_bears_39 : decode prog_9_method_19_code 39 = .ok (.getfield 7, 3) := by decide +kernel
theorem d_MD_bears_42 : decode prog_9_method_19_code 42 = .ok (.iload 4, 2) := by decide +kernel
theorem d_MD_bears_44 : decode prog_9_method_19_code 44 = .ok (.iaload, 1) := by decide +kernel
theorem d_MD_bears_45 : decode prog_9_method_19_code 45 = .ok (.istore 4, 2) := by decide +kernel
theorem d_MD_bears_47 : decode prog_9_method_19_code 47 = .ok (.goto (-42), 3) := by decide +kernel
theorem d_MD_bears_50 : decode prog_9_method_19_code 50 = .ok (.iload_n 3, 1) := by decide +kernel
theorem d_MD_bears_51 : decode prog_9_method_19_code 51 = .ok (.ireturn, 1) := by decide +kernel
theorem d_MD_mayCome_0 : decode prog_9_method_20_code 0 = .ok (.aload_n 0, 1) := by decide +kernel
theorem d_MD_mayCome_1 : decode prog_9_method_20_code 1 = .ok (.iload_n 1, 1) := by decide +kernel
theorem d_MD_mayCome_2 : decode prog_9_method_20_code 2 = .ok (.putfield 80, 3) := by decide +kernel
theorem d_MD_mayCome_5 : decode prog_9_method_20_code 5 = .ok (.aload_n 0, 1) := by decide +kernel
theorem d_MD_mayCome_6 : decode prog_9_method_20_code 6 = .ok (.iload_n 2, 1) := by decide +kernel
theorem d_MD_mayCome_7 : decode prog_9_method_20_code 7 = .ok (.putfield 116, 3) := by decide +kernel
theorem d_MD_mayCome_10 : decode prog_9_method_20_code 10 = .ok (.aload_n 0, 1) := by decide +kernel
theorem d_MD_mayCome_11 : decode prog_9_method_20_code 11 = .ok (.iload_n 2, 1) := by decide +kernel
theorem d_MD_mayCome_12 : decode prog_9_method_20_code 12 = .ok (.iload_n 3, 1) := by decide +kernel
theorem d_MD_mayCome_13 : decode prog_9_method_20_code 13 = .ok (.invokevirtual 139, 3) := by decide +kernel
theorem d_MD_mayCome_16 : decode prog_9_method_20_code 16 = .ok (.istore 4, 2) := by decide +kernel
theorem d_MD_mayCome_18 : decode prog_9_method_20_code 18 = .ok (.iconst 0, 1) := by decide +kernel
theorem d_MD_mayCome_19 : decode prog_9_method_20_code 19 = .ok (.istore 5, 2) := by decide +kernel
theorem d_MD_mayCome_21 : decode prog_9_method_20_code 21 = .ok (.iload 5, 2) := by decide +kernel
theorem d_MD_mayCome_23 : decode prog_9_method_20_code 23 = .ok (.aload_n 0, 1) := by decide +kernel
theorem d_MD_mayCome_24 : decode prog_9_method_20_code 24 = .ok (.getfield 123, 3) := by decide +kernel
theorem d_MD_mayCome_27 : decode prog_9_method_20_code 27 = .ok (.if_icmp .ge 47, 3) := by decide +kernel
theorem d_MD_mayCome_30 : decode prog_9_method_20_code 30 = .ok (.iload 4, 2) := by decide +kernel
theorem d_MD_mayCome_32 : decode prog_9_method_20_code 32 = .ok (.ifCond .eq 33, 3) := by decide +kernel
theorem d_MD_mayCome_35 : decode prog_9_method_20_code 35 = .ok (.aload_n 0, 1) := by decide +kernel
theorem d_MD_mayCome_36 : decode prog_9_method_20_code 36 = .ok (.getfield 65, 3) := by decide +kernel
theorem d_MD_mayCome_39 : decode prog_9_method_20_code 39 = .ok (.iload 5, 2) := by decide +kernel
theorem d_MD_mayCome_41 : decode prog_9_method_20_code 41 = .ok (.iaload, 1) := by decide +kernel
theorem d_MD_mayCome_42 : decode prog_9_method_20_code 42 = .ok (.iload_n 3, 1) := by decide +kernel
theorem d_MD_mayCome_43 : decode prog_9_method_20_code 43 = .ok (.if_icmp .le 18, 3) := by decide +kernel
theorem d_MD_mayCome_46 : decode prog_9_method_20_code 46 = .ok (.aload_n 0, 1) := by decide +kernel
theorem d_MD_mayCome_47 : decode prog_9_method_20_code 47 = .ok (.iload_n 2, 1) := by decide +kernel
theorem d_MD_mayCome_48 : decode prog_9_method_20_code 48 = .ok (.aload_n 0, 1) := by decide +kernel
theorem d_MD_mayCome_49 : decode prog_9_method_20_code 49 = .ok (.getfield 65, 3) := by decide +kernel
theorem d_MD_mayCome_52 : decode prog_9_method_20_code 52 = .ok (.iload 5, 2) := by decide +kernel
theorem d_MD_mayCome_54 : decode prog_9_method_20_code 54 = .ok (.iaload, 1) := by decide +kernel
theorem d_MD_mayCome_55 : decode prog_9_method_20_code 55 = .ok (.invokevirtual 139, 3) := by decide +kernel
theorem d_MD_mayCome_58 : decode prog_9_method_20_code 58 = .ok (.ifCond .eq 7, 3) := by decide +kernel
theorem d_MD_mayCome_61 : decode prog_9_method_20_code 61 = .ok (.iconst 1, 1) := by decide +kernel
theorem d_MD_mayCome_62 : decode prog_9_method_20_code 62 = .ok (.goto 4, 3) := by decide +kernel
theorem d_MD_mayCome_65 : decode prog_9_method_20_code 65 = .ok (.iconst 0, 1) := by decide +kernel
theorem d_MD_mayCome_66 : decode prog_9_method_20_code 66 = .ok (.istore 4, 2) := by decide +kernel
theorem d_MD_mayCome_68 : decode prog_9_method_20_code 68 = .ok (.iinc 5 1, 3) := by decide +kernel
theorem d_MD_mayCome_71 : decode prog_9_method_20_code 71 = .ok (.goto (-50), 3) := by decide +kernel
theorem d_MD_mayCome_74 : decode prog_9_method_20_code 74 = .ok (.aload_n 0, 1) := by decide +kernel
theorem d_MD_mayCome_75 : decode prog_9_method_20_code 75 = .ok (.iconst (-1), 1) := by decide +kernel
theorem d_MD_mayCome_76 : decode prog_9_method_20_code 76 = .ok (.putfield 80, 3) := by decide +kernel
theorem d_MD_mayCome_79 : decode prog_9_method_20_code 79 = .ok (.iload 4, 2) := by decide +kernel
theorem d_MD_mayCome_81 : decode prog_9_method_20_code 81 = .ok (.ireturn, 1) := by decide +kernel
theorem d_MD_barred_0 : decode prog_9_method_21_code 0 = .ok (.iconst 0, 1) := by decide +kernel
theorem d_MD_barred_1 : decode prog_9_method_21_code 1 = .ok (.istore 4, 2) := by decide +kernel
theorem d_MD_barred_3 : decode prog_9_method_21_code 3 = .ok (.iload 4, 2) := by decide +kernel
theorem d_MD_barred_5 : decode prog_9_method_21_code 5 = .ok (.aload_n 0, 1) := by decide +kernel
theorem d_MD_barred_6 : decode prog_9_method_21_code 6 = .ok (.getfield 142, 3) := by decide +kernel
theorem d_MD_barred_9 : decode prog_9_method_21_code 9 = .ok (.if_icmp .ge 59, 3) := by decide +kernel
theorem d_MD_barred_12 : decode prog_9_method_21_code 12 = .ok (.iload_n 3, 1) := by decide +kernel
theorem d_MD_barred_13 : decode prog_9_method_21_code 13 = .ok (.aload_n 0, 1) := by decide +kernel
theorem d_MD_barred_14 : decode prog_9_method_21_code 14 = .ok (.getfield 74, 3) := by decide +kernel
theorem d_MD_barred_17 : decode prog_9_method_21_code 17 = .ok (.iload 4, 2) := by decide +kernel
theorem d_MD_barred_19 : decode prog_9_method_21_code 19 = .ok (.iaload, 1) := by decide +kernel
theorem d_MD_barred_20 : decode prog_9_method_21_code 20 = .ok (.aload_n 0, 1) := by decide +kernel
theorem d_MD_barred_21 : decode prog_9_method_21_code 21 = .ok (.getfield 77, 3) := by decide +kernel
theorem d_MD_barred_24 : decode prog_9_method_21_code 24 = .ok (.iload 4, 2) := by decide +kernel
theorem d_MD_barred_26 : decode prog_9_method_21_code 26 = .ok (.iaload, 1) := by decide +kernel
theorem d_MD_barred_27 : decode prog_9_method_21_code 27 = .ok (.invokestatic 98, 3) := by decide +kernel
theorem d_MD_barred_30 : decode prog_9_method_21_code 30 = .ok (.ifCond .eq 32, 3) := by decide +kernel
theorem d_MD_barred_33 : decode prog_9_method_21_code 33 = .ok (.aload_n 0, 1) := by decide +kernel
theorem d_MD_barred_34 : decode prog_9_method_21_code 34 = .ok (.iload_n 1, 1) := by decide +kernel
theorem d_MD_barred_35 : decode prog_9_method_21_code 35 = .ok (.aload_n 0, 1) := by decide +kernel
theorem d_MD_barred_36 : decode prog_9_method_21_code 36 = .ok (.getfield 71, 3) := by decide +kernel
theorem d_MD_barred_39 : decode prog_9_method_21_code 39 = .ok (.iload 4, 2) := by decide +kernel
theorem d_MD_barred_41 : decode prog_9_method_21_code 41 = .ok (.iaload, 1) := by decide +kernel
theorem d_MD_barred_42 : decode prog_9_method_21_code 42 = .ok (.invokevirtual 126, 3) := by decide +kernel
theorem d_MD_barred_45 : decode prog_9_method_21_code 45 = .ok (.aload_n 0, 1) := by decide +kernel
theorem d_MD_barred_46 : decode prog_9_method_21_code 46 = .ok (.iload_n 2, 1) := by decide +kernel
theorem d_MD_barred_47 : decode prog_9_method_21_code 47 = .ok (.aload_n 0, 1) := by decide +kernel
theorem d_MD_barred_48 : decode prog_9_method_21_code 48 = .ok (.getfield 71, 3) := by decide +kernel
theorem d_MD_barred_51 : decode prog_9_method_21_code 51 = .ok (.iload 4, 2) := by decide +kernel
theorem d_MD_barred_53 : decode prog_9_method_21_code 53 = .ok (.iaload, 1) := by decide +kernel
theorem d_MD_barred_54 : decode prog_9_method_21_code 54 = .ok (.invokevirtual 126, 3) := by decide +kernel
theorem d_MD_barred_57 : decode prog_9_method_21_code 57 = .ok (.if_icmp .eq 5, 3) := by decide +kernel
theorem d_MD_barred_60 : decode prog_9_method_21_code 60 = .ok (.iconst 1, 1) := by decide +kernel
theorem d_MD_barred_61 : decode prog_9_method_21_code 61 = .ok (.ireturn, 1) := by decide +kernel
theorem d_MD_barred_62 : decode prog_9_method_21_code 62 = .ok (.iinc 4 1, 3) := by decide +kernel
theorem d_MD_barred_65 : decode prog_9_method_21_code 65 = .ok (.goto (-62), 3) := by decide +kernel
theorem d_MD_barred_68 : decode prog_9_method_21_code 68 = .ok (.iconst 0, 1) := by decide +kernel
theorem d_MD_barred_69 : decode prog_9_method_21_code 69 = .ok (.ireturn, 1) := by decide +kernel
theorem d_MD_row_0 : decode prog_9_method_22_code 0 = .ok (.bipush 40, 2) := by decide +kernel
theorem d_MD_row_2 : decode prog_9_method_22_code 2 = .ok (.iload_n 1, 1) := by decide +kernel
theorem d_MD_row_3 : decode prog_9_method_22_code 3 = .ok (.imul, 1) := by decide +kernel
theorem d_MD_row_4 : decode prog_9_method_22_code 4 = .ok (.aload_n 0, 1) := by decide +kernel
theorem d_MD_row_5 : decode prog_9_method_22_code 5 = .ok (.getfield 32, 3) := by decide +kernel
theorem d_MD_row_8 : decode prog_9_method_22_code 8 = .ok (.iload_n 1, 1) := by decide +kernel
theorem d_MD_row_9 : decode prog_9_method_22_code 9 = .ok (.iaload, 1) := by decide +kernel
theorem d_MD_row_10 : decode prog_9_method_22_code 10 = .ok (.iadd, 1) := by decide +kernel
theorem d_MD_row_11 : decode prog_9_method_22_code 11 = .ok (.istore 5, 2) := by decide +kernel
theorem d_MD_row_13 : decode prog_9_method_22_code 13 = .ok (.aload_n 0, 1) := by decide +kernel
theorem d_MD_row_14 : decode prog_9_method_22_code 14 = .ok (.getfield 35, 3) := by decide +kernel
theorem d_MD_row_17 : decode prog_9_method_22_code 17 = .ok (.iload 5, 2) := by decide +kernel
theorem d_MD_row_19 : decode prog_9_method_22_code 19 = .ok (.iload_n 2, 1) := by decide +kernel
theorem d_MD_row_20 : decode prog_9_method_22_code 20 = .ok (.iastore, 1) := by decide +kernel
theorem d_MD_row_21 : decode prog_9_method_22_code 21 = .ok (.aload_n 0, 1) := by decide +kernel
theorem d_MD_row_22 : decode prog_9_method_22_code 22 = .ok (.getfield 38, 3) := by decide +kernel
theorem d_MD_row_25 : decode prog_9_method_22_code 25 = .ok (.iload 5, 2) := by decide +kernel
theorem d_MD_row_27 : decode prog_9_method_22_code 27 = .ok (.iload_n 3, 1) := by decide +kernel
theorem d_MD_row_28 : decode prog_9_method_22_code 28 = .ok (.iastore, 1) := by decide +kernel
theorem d_MD_row_29 : decode prog_9_method_22_code 29 = .ok (.aload_n 0, 1) := by decide +kernel
theorem d_MD_row_30 : decode prog_9_method_22_code 30 = .ok (.getfield 41, 3) := by decide +kernel
theorem d_MD_row_33 : decode prog_9_method_22_code 33 = .ok (.iload 5, 2) := by decide +kernel
theorem d_MD_row_35 : decode prog_9_method_22_code 35 = .ok (.iload 4, 2) := by decide +kernel
theorem d_MD_row_37 : decode prog_9_method_22_code 37 = .ok (.iastore, 1) := by decide +kernel
theorem d_MD_row_38 : decode prog_9_method_22_code 38 = .ok (.aload_n 0, 1) := by decide +kernel
theorem d_MD_row_39 : decode prog_9_method_22_code 39 = .ok (.getfield 32, 3) := by decide +kernel
theorem d_MD_row_42 : decode prog_9_method_22_code 42 = .ok (.iload_n 1, 1) := by decide +kernel
theorem d_MD_row_43 : decode prog_9_method_22_code 43 = .ok (.dup2, 1) := by decide +kernel
theorem d_MD_row_44 : decode prog_9_method_22_code 44 = .ok (.iaload, 1) := by decide +kernel
theorem d_MD_row_45 : decode prog_9_method_22_code 45 = .ok (.iconst 1, 1) := by decide +kernel
theorem d_MD_row_46 : decode prog_9_method_22_code 46 = .ok (.iadd, 1) := by decide +kernel
theorem d_MD_row_47 : decode prog_9_method_22_code 47 = .ok (.iastore, 1) := by decide +kernel
theorem d_MD_row_48 : decode prog_9_method_22_code 48 = .ok (.aload_n 0, 1) := by decide +kernel
theorem d_MD_row_49 : decode prog_9_method_22_code 49 = .ok (.iload_n 2, 1) := by decide +kernel
theorem d_MD_row_50 : decode prog_9_method_22_code 50 = .ok (.putfield 145, 3) := by decide +kernel
theorem d_MD_row_53 : decode prog_9_method_22_code 53 = .ok (.return_, 1) := by decide +kernel
theorem d_MD_mayOpen_0 : decode prog_9_method_23_code 0 = .ok (.aload_n 0, 1) := by decide +kernel
theorem d_MD_mayOpen_1 : decode prog_9_method_23_code 1 = .ok (.getfield 22, 3) := by decide +kernel
theorem d_MD_mayOpen_4 : decode prog_9_method_23_code 4 = .ok (.iload_n 1, 1) := by decide +kernel
theorem d_MD_mayOpen_5 : decode prog_9_method_23_code 5 = .ok (.iaload, 1) := by decide +kernel
theorem d_MD_mayOpen_6 : decode prog_9_method_23_code 6 = .ok (.ifCond .eq 55, 3) := by decide +kernel
theorem d_MD_mayOpen_9 : decode prog_9_method_23_code 9 = .ok (.aload_n 0, 1) := by decide +kernel
theorem d_MD_mayOpen_10 : decode prog_9_method_23_code 10 = .ok (.getfield 22, 3) := by decide +kernel
theorem d_MD_mayOpen_13 : decode prog_9_method_23_code 13 = .ok (.iload_n 1, 1) := by decide +kernel
theorem d_MD_mayOpen_14 : decode prog_9_method_23_code 14 = .ok (.iaload, 1) := by decide +kernel
theorem d_MD_mayOpen_15 : decode prog_9_method_23_code 15 = .ok (.iconst 1, 1) := by decide +kernel
theorem d_MD_mayOpen_16 : decode prog_9_method_23_code 16 = .ok (.if_icmp .ne 12, 3) := by decide +kernel
theorem d_MD_mayOpen_19 : decode prog_9_method_23_code 19 = .ok (.aload_n 0, 1) := by decide +kernel
theorem d_MD_mayOpen_20 : decode prog_9_method_23_code 20 = .ok (.getfield 29, 3) := by decide +kernel
theorem d_MD_mayOpen_23 : decode prog_9_method_23_code 23 = .ok (.iload_n 2, 1) := by decide +kernel
theorem d_MD_mayOpen_24 : decode prog_9_method_23_code 24 = .ok (.baload, 1) := by decide +kernel
theorem d_MD_mayOpen_25 : decode prog_9_method_23_code 25 = .ok (.ifCond .ne 36, 3) := by decide +kernel
theorem d_MD_mayOpen_28 : decode prog_9_method_23_code 28 = .ok (.aload_n 0, 1) := by decide +kernel
theorem d_MD_mayOpen_29 : decode prog_9_method_23_code 29 = .ok (.getfield 22, 3) := by decide +kernel
theorem d_MD_mayOpen_32 : decode prog_9_method_23_code 32 = .ok (.iload_n 1, 1) := by decide +kernel
theorem d_MD_mayOpen_33 : decode prog_9_method_23_code 33 = .ok (.iaload, 1) := by decide +kernel
theorem d_MD_mayOpen_34 : decode prog_9_method_23_code 34 = .ok (.iconst 2, 1) := by decide +kernel
theorem d_MD_mayOpen_35 : decode prog_9_method_23_code 35 = .ok (.if_icmp .ne 30, 3) := by decide +kernel
theorem d_MD_mayOpen_38 : decode prog_9_method_23_code 38 = .ok (.aload_n 0, 1) := by decide +kernel
theorem d_MD_mayOpen_39 : decode prog_9_method_23_code 39 = .ok (.getfield 29, 3) := by decide +kernel
theorem d_MD_mayOpen_42 : decode prog_9_method_23_code 42 = .ok (.iload_n 2, 1) := by decide +kernel
theorem d_MD_mayOpen_43 : decode prog_9_method_23_code 43 = .ok (.baload, 1) := by decide +kernel
theorem d_MD_mayOpen_44 : decode prog_9_method_23_code 44 = .ok (.ifCond .eq 21, 3) := by decide +kernel
theorem d_MD_mayOpen_47 : decode prog_9_method_23_code 47 = .ok (.aload_n 0, 1) := by decide +kernel
theorem d_MD_mayOpen_48 : decode prog_9_method_23_code 48 = .ok (.getfield 29, 3) := by decide +kernel
theorem d_MD_mayOpen_51 : decode prog_9_method_23_code 51 = .ok (.iload_n 3, 1) := by decide +kernel
theorem d_MD_mayOpen_52 : decode prog_9_method_23_code 52 = .ok (.baload, 1) := by decide +kernel
theorem d_MD_mayOpen_53 : decode prog_9_method_23_code 53 = .ok (.ifCond .eq 12, 3) := by decide +kernel
theorem d_MD_mayOpen_56 : decode prog_9_method_23_code 56 = .ok (.iload_n 2, 1) := by decide +kernel
theorem d_MD_mayOpen_57 : decode prog_9_method_23_code 57 = .ok (.iload_n 3, 1) := by decide +kernel
theorem d_MD_mayOpen_58 : decode prog_9_method_23_code 58 = .ok (.if_icmp .eq 7, 3) := by decide +kernel
theorem d_MD_mayOpen_61 : decode prog_9_method_23_code 61 = .ok (.iconst 1, 1) := by decide +kernel
theorem d_MD_mayOpen_62 : decode prog_9_method_23_code 62 = .ok (.goto 4, 3) := by decide +kernel
theorem d_MD_mayOpen_65 : decode prog_9_method_23_code 65 = .ok (.iconst 0, 1) := by decide +kernel
theorem d_MD_mayOpen_66 : decode prog_9_method_23_code 66 = .ok (.ireturn, 1) := by decide +kernel
theorem d_MD_move_0 : decode prog_9_method_24_code 0 = .ok (.aload_n 0, 1) := by decide +kernel
theorem d_MD_move_1 : decode prog_9_method_24_code 1 = .ok (.iload_n 1, 1) := by decide +kernel
theorem d_MD_move_2 : decode prog_9_method_24_code 2 = .ok (.invokevirtual 110, 3) := by decide +kernel
theorem d_MD_move_5 : decode prog_9_method_24_code 5 = .ok (.ifCond .eq 31, 3) := by decide +kernel
theorem d_MD_move_8 : decode prog_9_method_24_code 8 = .ok (.aload_n 0, 1) := by decide +kernel
theorem d_MD_move_9 : decode prog_9_method_24_code 9 = .ok (.iload_n 2, 1) := by decide +kernel
theorem d_MD_move_10 : decode prog_9_method_24_code 10 = .ok (.invokevirtual 93, 3) := by decide +kernel
theorem d_MD_move_13 : decode prog_9_method_24_code 13 = .ok (.ifCond .eq 23, 3) := by decide +kernel
theorem d_MD_move_16 : decode prog_9_method_24_code 16 = .ok (.iload 4, 2) := by decide +kernel
theorem d_MD_move_18 : decode prog_9_method_24_code 18 = .ok (.invokestatic 113, 3) := by decide +kernel
theorem d_MD_move_21 : decode prog_9_method_24_code 21 = .ok (.ifCond .eq 15, 3) := by decide +kernel
theorem d_MD_move_24 : decode prog_9_method_24_code 24 = .ok (.iload 5, 2) := by decide +kernel
theorem d_MD_move_26 : decode prog_9_method_24_code 26 = .ok (.invokestatic 113, 3) := by decide +kernel
theorem d_MD_move_29 : decode prog_9_method_24_code 29 = .ok (.ifCond .eq 7, 3) := by decide +kernel
theorem d_MD_move_32 : decode prog_9_method_24_code 32 = .ok (.iconst 1, 1) := by decide +kernel
theorem d_MD_move_33 : decode prog_9_method_24_code 33 = .ok (.goto 4, 3) := by decide +kernel
theorem d_MD_move_36 : decode prog_9_method_24_code 36 = .ok (.iconst 0, 1) := by decide +kernel
theorem d_MD_move_37 : decode prog_9_method_24_code 37 = .ok (.istore 6, 2) := by decide +kernel
theorem d_MD_move_39 : decode prog_9_method_24_code 39 = .ok (.aload_n 0, 1) := by decide +kernel
theorem d_MD_move_40 : decode prog_9_method_24_code 40 = .ok (.iload 6, 2) := by decide +kernel
theorem d_MD_move_42 : decode prog_9_method_24_code 42 = .ok (.iload_n 3, 1) := by decide +kernel
theorem d_MD_move_43 : decode prog_9_method_24_code 43 = .ok (.aload_n 0, 1) := by decide +kernel
theorem d_MD_move_44 : decode prog_9_method_24_code 44 = .ok (.getfield 145, 3) := by decide +kernel
theorem d_MD_move_47 : decode prog_9_method_24_code 47 = .ok (.ldc 109, 2) := by decide +kernel
theorem d_MD_move_49 : decode prog_9_method_24_code 49 = .ok (.invokestatic 98, 3) := by decide +kernel
theorem d_MD_move_52 : decode prog_9_method_24_code 52 = .ok (.iload 6, 2) := by decide +kernel
theorem d_MD_move_54 : decode prog_9_method_24_code 54 = .ok (.ifCond .eq 30, 3) := by decide +kernel
theorem d_MD_move_57 : decode prog_9_method_24_code 57 = .ok (.aload_n 0, 1) := by decide +kernel
theorem d_MD_move_58 : decode prog_9_method_24_code 58 = .ok (.getfield 32, 3) := by decide +kernel
theorem d_MD_move_61 : decode prog_9_method_24_code 61 = .ok (.iload_n 1, 1) := by decide +kernel
theorem d_MD_move_62 : decode prog_9_method_24_code 62 = .ok (.iaload, 1) := by decide +kernel
theorem d_MD_move_63 : decode prog_9_method_24_code 63 = .ok (.bipush 40, 2) := by decide +kernel
theorem d_MD_move_65 : decode prog_9_method_24_code 65 = .ok (.if_icmp .ge 19, 3) := by decide +kernel
theorem d_MD_move_68 : decode prog_9_method_24_code 68 = .ok (.aload_n 0, 1) := by decide +kernel
theorem d_MD_move_69 : decode prog_9_method_24_code 69 = .ok (.iload_n 1, 1) := by decide +kernel
theorem d_MD_move_70 : decode prog_9_method_24_code 70 = .ok (.iload 4, 2) := by decide +kernel
theorem d_MD_move_72 : decode prog_9_method_24_code 72 = .ok (.iload 5, 2) := by decide +kernel
theorem d_MD_move_74 : decode prog_9_method_24_code 74 = .ok (.invokevirtual 148, 3) := by decide +kernel
theorem d_MD_move_77 : decode prog_9_method_24_code 77 = .ok (.ifCond .eq 7, 3) := by decide +kernel
theorem d_MD_move_80 : decode prog_9_method_24_code 80 = .ok (.iconst 1, 1) := by decide +kernel
theorem d_MD_move_81 : decode prog_9_method_24_code 81 = .ok (.goto 4, 3) := by decide +kernel
theorem d_MD_move_84 : decode prog_9_method_24_code 84 = .ok (.iconst 0, 1) := by decide +kernel
theorem d_MD_move_85 : decode prog_9_method_24_code 85 = .ok (.invokevirtual 102, 3) := by decide +kernel
theorem d_MD_move_88 : decode prog_9_method_24_code 88 = .ok (.ifCond .ne 5, 3) := by decide +kernel
theorem d_MD_move_91 : decode prog_9_method_24_code 91 = .ok (.iconst 0, 1) := by decide +kernel
theorem d_MD_move_92 : decode prog_9_method_24_code 92 = .ok (.ireturn, 1) := by decide +kernel
theorem d_MD_move_93 : decode prog_9_method_24_code 93 = .ok (.aload_n 0, 1) := by decide +kernel
theorem d_MD_move_94 : decode prog_9_method_24_code 94 = .ok (.aload_n 0, 1) := by decide +kernel
theorem d_MD_move_95 : decode prog_9_method_24_code 95 = .ok (.iload_n 1, 1) := by decide +kernel
theorem d_MD_move_96 : decode prog_9_method_24_code 96 = .ok (.iload_n 3, 1) := by decide +kernel
theorem d_MD_move_97 : decode prog_9_method_24_code 97 = .ok (.invokevirtual 130, 3) := by decide +kernel
theorem d_MD_move_100 : decode prog_9_method_24_code 100 = .ok (.iload_n 2, 1) := by decide +kernel
theorem d_MD_move_101 : decode prog_9_method_24_code 101 = .ok (.iload_n 3, 1) := by decide +kernel
theorem d_MD_move_102 : decode prog_9_method_24_code 102 = .ok (.invokevirtual 151, 3) := by decide +kernel
theorem d_MD_move_105 : decode prog_9_method_24_code 105 = .ok (.ifCond .eq 5, 3) := by decide +kernel
theorem d_MD_move_108 : decode prog_9_method_24_code 108 = .ok (.iconst 1, 1) := by decide +kernel
theorem d_MD_move_109 : decode prog_9_method_24_code 109 = .ok (.ireturn, 1) := by decide +kernel
theorem d_MD_move_110 : decode prog_9_method_24_code 110 = .ok (.aload_n 0, 1) := by decide +kernel
theorem d_MD_move_111 : decode prog_9_method_24_code 111 = .ok (.iload_n 1, 1) := by decide +kernel
theorem d_MD_move_112 : decode prog_9_method_24_code 112 = .ok (.iload_n 2, 1) := by decide +kernel
theorem d_MD_move_113 : decode prog_9_method_24_code 113 = .ok (.iload_n 3, 1) := by decide +kernel
theorem d_MD_move_114 : decode prog_9_method_24_code 114 = .ok (.invokevirtual 154, 3) := by decide +kernel
theorem d_MD_move_117 : decode prog_9_method_24_code 117 = .ok (.ifCond .ne 5, 3) := by decide +kernel
theorem d_MD_move_120 : decode prog_9_method_24_code 120 = .ok (.iconst 2, 1) := by decide +kernel
theorem d_MD_move_121 : decode prog_9_method_24_code 121 = .ok (.ireturn, 1) := by decide +kernel
theorem d_MD_move_122 : decode prog_9_method_24_code 122 = .ok (.aload_n 0, 1) := by decide +kernel
theorem d_MD_move_123 : decode prog_9_method_24_code 123 = .ok (.iload_n 1, 1) := by decide +kernel
theorem d_MD_move_124 : decode prog_9_method_24_code 124 = .ok (.iload_n 3, 1) := by decide +kernel
theorem d_MD_move_125 : decode prog_9_method_24_code 125 = .ok (.iconst 0, 1) := by decide +kernel
theorem d_MD_move_126 : decode prog_9_method_24_code 126 = .ok (.iload_n 2, 1) := by decide +kernel
theorem d_MD_move_127 : decode prog_9_method_24_code 127 = .ok (.invokevirtual 157, 3) := by decide +kernel
theorem d_MD_move_130 : decode prog_9_method_24_code 130 = .ok (.iconst 0, 1) := by decide +kernel
theorem d_MD_move_131 : decode prog_9_method_24_code 131 = .ok (.ireturn, 1) := by decide +kernel
theorem d_MD_holds_0 : decode prog_9_method_25_code 0 = .ok (.iload_n 2, 1) := by decide +kernel
theorem d_MD_holds_1 : decode prog_9_method_25_code 1 = .ok (.istore 4, 2) := by decide +kernel
theorem d_MD_holds_3 : decode prog_9_method_25_code 3 = .ok (.iconst 0, 1) := by decide +kernel
theorem d_MD_holds_4 : decode prog_9_method_25_code 4 = .ok (.istore 5, 2) := by decide +kernel
theorem d_MD_holds_6 : decode prog_9_method_25_code 6 = .ok (.iload 5, 2) := by decide +kernel
theorem d_MD_holds_8 : decode prog_9_method_25_code 8 = .ok (.bipush 20, 2) := by decide +kernel
theorem d_MD_holds_10 : decode prog_9_method_25_code 10 = .ok (.if_icmp .gt 52, 3) := by decide +kernel
theorem d_MD_holds_13 : decode prog_9_method_25_code 13 = .ok (.iload 4, 2) := by decide +kernel
theorem d_MD_holds_15 : decode prog_9_method_25_code 15 = .ok (.iload_n 1, 1) := by decide +kernel
theorem d_MD_holds_16 : decode prog_9_method_25_code 16 = .ok (.if_icmp .eq 46, 3) := by decide +kernel
theorem d_MD_holds_19 : decode prog_9_method_25_code 19 = .ok (.aload_n 0, 1) := by decide +kernel
theorem d_MD_holds_20 : decode prog_9_method_25_code 20 = .ok (.iload 4, 2) := by decide +kernel
theorem d_MD_holds_22 : decode prog_9_method_25_code 22 = .ok (.iload_n 3, 1) := by decide +kernel
theorem d_MD_holds_23 : decode prog_9_method_25_code 23 = .ok (.invokevirtual 119, 3) := by decide +kernel
theorem d_MD_holds_26 : decode prog_9_method_25_code 26 = .ok (.istore 6, 2) := by decide +kernel
theorem d_MD_holds_28 : decode prog_9_method_25_code 28 = .ok (.iload 6, 2) := by decide +kernel
theorem d_MD_holds_30 : decode prog_9_method_25_code 30 = .ok (.iconst (-1), 1) := by decide +kernel
theorem d_MD_holds_31 : decode prog_9_method_25_code 31 = .ok (.if_icmp .eq 14, 3) := by decide +kernel
theorem d_MD_holds_34 : decode prog_9_method_25_code 34 = .ok (.aload_n 0, 1) := by decide +kernel
theorem d_MD_holds_35 : decode prog_9_method_25_code 35 = .ok (.getfield 38, 3) := by decide +kernel
theorem d_MD_holds_38 : decode prog_9_method_25_code 38 = .ok (.iload 6, 2) := by decide +kernel
theorem d_MD_holds_40 : decode prog_9_method_25_code 40 = .ok (.iaload, 1) := by decide +kernel
theorem d_MD_holds_41 : decode prog_9_method_25_code 41 = .ok (.iconst 1, 1) := by decide +kernel
theorem d_MD_holds_42 : decode prog_9_method_25_code 42 = .ok (.if_icmp .eq 5, 3) := by decide +kernel
theorem d_MD_holds_45 : decode prog_9_method_25_code 45 = .ok (.iconst 0, 1) := by decide +kernel
theorem d_MD_holds_46 : decode prog_9_method_25_code 46 = .ok (.ireturn, 1) := by decide +kernel
theorem d_MD_holds_47 : decode prog_9_method_25_code 47 = .ok (.aload_n 0, 1) := by decide +kernel
theorem d_MD_holds_48 : decode prog_9_method_25_code 48 = .ok (.getfield 41, 3) := by decide +kernel
theorem d_MD_holds_51 : decode prog_9_method_25_code 51 = .ok (.iload 6, 2) := by decide +kernel
theorem d_MD_holds_53 : decode prog_9_method_25_code 53 = .ok (.iaload, 1) := by decide +kernel
theorem d_MD_holds_54 : decode prog_9_method_25_code 54 = .ok (.istore 4, 2) := by decide +kernel
theorem d_MD_holds_56 : decode prog_9_method_25_code 56 = .ok (.iinc 5 1, 3) := by decide +kernel
theorem d_MD_holds_59 : decode prog_9_method_25_code 59 = .ok (.goto (-53), 3) := by decide +kernel
theorem d_MD_holds_62 : decode prog_9_method_25_code 62 = .ok (.iload 4, 2) := by decide +kernel
theorem d_MD_holds_64 : decode prog_9_method_25_code 64 = .ok (.iload_n 1, 1) := by decide +kernel
theorem d_MD_holds_65 : decode prog_9_method_25_code 65 = .ok (.if_icmp .ne 7, 3) := by decide +kernel
theorem d_MD_holds_68 : decode prog_9_method_25_code 68 = .ok (.iconst 1, 1) := by decide +kernel
theorem d_MD_holds_69 : decode prog_9_method_25_code 69 = .ok (.goto 4, 3) := by decide +kernel
theorem d_MD_holds_72 : decode prog_9_method_25_code 72 = .ok (.iconst 0, 1) := by decide +kernel
theorem d_MD_holds_73 : decode prog_9_method_25_code 73 = .ok (.ireturn, 1) := by decide +kernel
theorem d_MD_size_0 : decode prog_9_method_26_code 0 = .ok (.aload_n 0, 1) := by decide +kernel
theorem d_MD_size_1 : decode prog_9_method_26_code 1 = .ok (.getfield 16, 3) := by decide +kernel
theorem d_MD_size_4 : decode prog_9_method_26_code 4 = .ok (.iconst 3, 1) := by decide +kernel
theorem d_MD_size_5 : decode prog_9_method_26_code 5 = .ok (.iload_n 1, 1) := by decide +kernel
theorem d_MD_size_6 : decode prog_9_method_26_code 6 = .ok (.imul, 1) := by decide +kernel
theorem d_MD_size_7 : decode prog_9_method_26_code 7 = .ok (.iaload, 1) := by decide +kernel
theorem d_MD_size_8 : decode prog_9_method_26_code 8 = .ok (.istore_n 3, 1) := by decide +kernel
theorem d_MD_size_9 : decode prog_9_method_26_code 9 = .ok (.aload_n 0, 1) := by decide +kernel
theorem d_MD_size_10 : decode prog_9_method_26_code 10 = .ok (.getfield 16, 3) := by decide +kernel
theorem d_MD_size_13 : decode prog_9_method_26_code 13 = .ok (.iconst 3, 1) := by decide +kernel
theorem d_MD_size_14 : decode prog_9_method_26_code 14 = .ok (.iload_n 1, 1) := by decide +kernel
theorem d_MD_size_15 : decode prog_9_method_26_code 15 = .ok (.imul, 1) := by decide +kernel
theorem d_MD_size_16 : decode prog_9_method_26_code 16 = .ok (.iconst 1, 1) := by decide +kernel
theorem d_MD_size_17 : decode prog_9_method_26_code 17 = .ok (.iadd, 1) := by decide +kernel
theorem d_MD_size_18 : decode prog_9_method_26_code 18 = .ok (.iaload, 1) := by decide +kernel
theorem d_MD_size_19 : decode prog_9_method_26_code 19 = .ok (.istore 4, 2) := by decide +kernel
theorem d_MD_size_21 : decode prog_9_method_26_code 21 = .ok (.aload_n 0, 1) := by decide +kernel
theorem d_MD_size_22 : decode prog_9_method_26_code 22 = .ok (.getfield 16, 3) := by decide +kernel
theorem d_MD_size_25 : decode prog_9_method_26_code 25 = .ok (.iconst 3, 1) := by decide +kernel
theorem d_MD_size_26 : decode prog_9_method_26_code 26 = .ok (.iload_n 1, 1) := by decide +kernel
theorem d_MD_size_27 : decode prog_9_method_26_code 27 = .ok (.imul, 1) := by decide +kernel
theorem d_MD_size_28 : decode prog_9_method_26_code 28 = .ok (.iconst 2, 1) := by decide +kernel
theorem d_MD_size_29 : decode prog_9_method_26_code 29 = .ok (.iadd, 1) := by decide +kernel
theorem d_MD_size_30 : decode prog_9_method_26_code 30 = .ok (.iaload, 1) := by decide +kernel
theorem d_MD_size_31 : decode prog_9_method_26_code 31 = .ok (.istore 5, 2) := by decide +kernel
theorem d_MD_size_33 : decode prog_9_method_26_code 33 = .ok (.iload_n 3, 1) := by decide +kernel
theorem d_MD_size_34 : decode prog_9_method_26_code 34 = .ok (.iload 4, 2) := by decide +kernel
theorem d_MD_size_36 : decode prog_9_method_26_code 36 = .ok (.if_icmp .ge 7, 3) := by decide +kernel
theorem d_MD_size_39 : decode prog_9_method_26_code 39 = .ok (.iload_n 3, 1) := by decide +kernel
theorem d_MD_size_40 : decode prog_9_method_26_code 40 = .ok (.goto 5, 3) := by decide +kernel
theorem d_MD_size_43 : decode prog_9_method_26_code 43 = .ok (.iload 4, 2) := by decide +kernel
theorem d_MD_size_45 : decode prog_9_method_26_code 45 = .ok (.istore 6, 2) := by decide +kernel
theorem d_MD_size_47 : decode prog_9_method_26_code 47 = .ok (.iload 6, 2) := by decide +kernel
theorem d_MD_size_49 : decode prog_9_method_26_code 49 = .ok (.iload 5, 2) := by decide +kernel
theorem d_MD_size_51 : decode prog_9_method_26_code 51 = .ok (.if_icmp .ge 8, 3) := by decide +kernel
theorem d_MD_size_54 : decode prog_9_method_26_code 54 = .ok (.iload 6, 2) := by decide +kernel
theorem d_MD_size_56 : decode prog_9_method_26_code 56 = .ok (.goto 5, 3) := by decide +kernel
theorem d_MD_size_59 : decode prog_9_method_26_code 59 = .ok (.iload 5, 2) := by decide +kernel
theorem d_MD_size_61 : decode prog_9_method_26_code 61 = .ok (.istore 6, 2) := by decide +kernel
theorem d_MD_size_63 : decode prog_9_method_26_code 63 = .ok (.iload_n 3, 1) := by decide +kernel
theorem d_MD_size_64 : decode prog_9_method_26_code 64 = .ok (.iload 4, 2) := by decide +kernel
theorem d_MD_size_66 : decode prog_9_method_26_code 66 = .ok (.if_icmp .le 7, 3) := by decide +kernel
theorem d_MD_size_69 : decode prog_9_method_26_code 69 = .ok (.iload_n 3, 1) := by decide +kernel
theorem d_MD_size_70 : decode prog_9_method_26_code 70 = .ok (.goto 5, 3) := by decide +kernel
theorem d_MD_size_73 : decode prog_9_method_26_code 73 = .ok (.iload 4, 2) := by decide +kernel
theorem d_MD_size_75 : decode prog_9_method_26_code 75 = .ok (.istore 7, 2) := by decide +kernel
theorem d_MD_size_77 : decode prog_9_method_26_code 77 = .ok (.iload 7, 2) := by decide +kernel
theorem d_MD_size_79 : decode prog_9_method_26_code 79 = .ok (.iload 5, 2) := by decide +kernel
theorem d_MD_size_81 : decode prog_9_method_26_code 81 = .ok (.if_icmp .le 8, 3) := by decide +kernel
theorem d_MD_size_84 : decode prog_9_method_26_code 84 = .ok (.iload 7, 2) := by decide +kernel
theorem d_MD_size_86 : decode prog_9_method_26_code 86 = .ok (.goto 5, 3) := by decide +kernel
theorem d_MD_size_89 : decode prog_9_method_26_code 89 = .ok (.iload 5, 2) := by decide +kernel
theorem d_MD_size_91 : decode prog_9_method_26_code 91 = .ok (.istore 7, 2) := by decide +kernel
theorem d_MD_size_93 : decode prog_9_method_26_code 93 = .ok (.iload_n 2, 1) := by decide +kernel
theorem d_MD_size_94 : decode prog_9_method_26_code 94 = .ok (.ifCond .ne 8, 3) := by decide +kernel
theorem d_MD_size_97 : decode prog_9_method_26_code 97 = .ok (.iload 6, 2) := by decide +kernel
theorem d_MD_size_99 : decode prog_9_method_26_code 99 = .ok (.goto 26, 3) := by decide +kernel
theorem d_MD_size_102 : decode prog_9_method_26_code 102 = .ok (.iload_n 2, 1) := by decide +kernel
theorem d_MD_size_103 : decode prog_9_method_26_code 103 = .ok (.iconst 2, 1) := by decide +kernel
theorem d_MD_size_104 : decode prog_9_method_26_code 104 = .ok (.if_icmp .ne 8, 3) := by decide +kernel
theorem d_MD_size_107 : decode prog_9_method_26_code 107 = .ok (.iload 7, 2) := by decide +kernel
theorem d_MD_size_109 : decode prog_9_method_26_code 109 = .ok (.goto 16, 3) := by decide +kernel
theorem d_MD_size_112 : decode prog_9_method_26_code 112 = .ok (.iload_n 3, 1) := by decide +kernel
theorem d_MD_size_113 : decode prog_9_method_26_code 113 = .ok (.iload 4, 2) := by decide +kernel
theorem d_MD_size_115 : decode prog_9_method_26_code 115 = .ok (.iadd, 1) := by decide +kernel
theorem d_MD_size_116 : decode prog_9_method_26_code 116 = .ok (.iload 5, 2) := by decide +kernel
theorem d_MD_size_118 : decode prog_9_method_26_code 118 = .ok (.iadd, 1) := by decide +kernel
theorem d_MD_size_119 : decode prog_9_method_26_code 119 = .ok (.iload 6, 2) := by decide +kernel
theorem d_MD_size_121 : decode prog_9_method_26_code 121 = .ok (.isub, 1) := by decide +kernel
theorem d_MD_size_122 : decode prog_9_method_26_code 122 = .ok (.iload 7, 2) := by decide +kernel
theorem d_MD_size_124 : decode prog_9_method_26_code 124 = .ok (.isub, 1) := by decide +kernel
theorem d_MD_size_125 : decode prog_9_method_26_code 125 = .ok (.ireturn, 1) := by decide +kernel
theorem d_MD_fits_0 : decode prog_9_method_27_code 0 = .ok (.aload_n 0, 1) := by decide +kernel
theorem d_MD_fits_1 : decode prog_9_method_27_code 1 = .ok (.iload_n 1, 1) := by decide +kernel
theorem d_MD_fits_2 : decode prog_9_method_27_code 2 = .ok (.iconst 0, 1) := by decide +kernel
theorem d_MD_fits_3 : decode prog_9_method_27_code 3 = .ok (.invokevirtual 161, 3) := by decide +kernel
theorem d_MD_fits_6 : decode prog_9_method_27_code 6 = .ok (.aload_n 0, 1) := by decide +kernel
theorem d_MD_fits_7 : decode prog_9_method_27_code 7 = .ok (.iload_n 2, 1) := by decide +kernel
theorem d_MD_fits_8 : decode prog_9_method_27_code 8 = .ok (.iconst 0, 1) := by decide +kernel
theorem d_MD_fits_9 : decode prog_9_method_27_code 9 = .ok (.invokevirtual 161, 3) := by decide +kernel
theorem d_MD_fits_12 : decode prog_9_method_27_code 12 = .ok (.if_icmp .ge 37, 3) := by decide +kernel
theorem d_MD_fits_15 : decode prog_9_method_27_code 15 = .ok (.aload_n 0, 1) := by decide +kernel
theorem d_MD_fits_16 : decode prog_9_method_27_code 16 = .ok (.iload_n 1, 1) := by decide +kernel
theorem d_MD_fits_17 : decode prog_9_method_27_code 17 = .ok (.iconst 1, 1) := by decide +kernel
theorem d_MD_fits_18 : decode prog_9_method_27_code 18 = .ok (.invokevirtual 161, 3) := by decide +kernel
theorem d_MD_fits_21 : decode prog_9_method_27_code 21 = .ok (.aload_n 0, 1) := by decide +kernel
theorem d_MD_fits_22 : decode prog_9_method_27_code 22 = .ok (.iload_n 2, 1) := by decide +kernel
theorem d_MD_fits_23 : decode prog_9_method_27_code 23 = .ok (.iconst 1, 1) := by decide +kernel
theorem d_MD_fits_24 : decode prog_9_method_27_code 24 = .ok (.invokevirtual 161, 3) := by decide +kernel
theorem d_MD_fits_27 : decode prog_9_method_27_code 27 = .ok (.if_icmp .ge 22, 3) := by decide +kernel
theorem d_MD_fits_30 : decode prog_9_method_27_code 30 = .ok (.aload_n 0, 1) := by decide +kernel
theorem d_MD_fits_31 : decode prog_9_method_27_code 31 = .ok (.iload_n 1, 1) := by decide +kernel
theorem d_MD_fits_32 : decode prog_9_method_27_code 32 = .ok (.iconst 2, 1) := by decide +kernel
theorem d_MD_fits_33 : decode prog_9_method_27_code 33 = .ok (.invokevirtual 161, 3) := by decide +kernel
theorem d_MD_fits_36 : decode prog_9_method_27_code 36 = .ok (.aload_n 0, 1) := by decide +kernel
theorem d_MD_fits_37 : decode prog_9_method_27_code 37 = .ok (.iload_n 2, 1) := by decide +kernel
theorem d_MD_fits_38 : decode prog_9_method_27_code 38 = .ok (.iconst 2, 1) := by decide +kernel
theorem d_MD_fits_39 : decode prog_9_method_27_code 39 = .ok (.invokevirtual 161, 3) := by decide +kernel
theorem d_MD_fits_42 : decode prog_9_method_27_code 42 = .ok (.if_icmp .ge 7, 3) := by decide +kernel
theorem d_MD_fits_45 : decode prog_9_method_27_code 45 = .ok (.iconst 1, 1) := by decide +kernel
theorem d_MD_fits_46 : decode prog_9_method_27_code 46 = .ok (.goto 4, 3) := by decide +kernel
theorem d_MD_fits_49 : decode prog_9_method_27_code 49 = .ok (.iconst 0, 1) := by decide +kernel
theorem d_MD_fits_50 : decode prog_9_method_27_code 50 = .ok (.ireturn, 1) := by decide +kernel
theorem d_MD_into_0 : decode prog_9_method_28_code 0 = .ok (.aload_n 0, 1) := by decide +kernel
theorem d_MD_into_1 : decode prog_9_method_28_code 1 = .ok (.iload_n 1, 1) := by decide +kernel
theorem d_MD_into_2 : decode prog_9_method_28_code 2 = .ok (.invokevirtual 110, 3) := by decide +kernel
theorem d_MD_into_5 : decode prog_9_method_28_code 5 = .ok (.ifCond .eq 15, 3) := by decide +kernel
theorem d_MD_into_8 : decode prog_9_method_28_code 8 = .ok (.aload_n 0, 1) := by decide +kernel
theorem d_MD_into_9 : decode prog_9_method_28_code 9 = .ok (.iload_n 2, 1) := by decide +kernel
theorem d_MD_into_10 : decode prog_9_method_28_code 10 = .ok (.invokevirtual 110, 3) := by decide +kernel
theorem d_MD_into_13 : decode prog_9_method_28_code 13 = .ok (.ifCond .eq 7, 3) := by decide +kernel
theorem d_MD_into_16 : decode prog_9_method_28_code 16 = .ok (.iconst 1, 1) := by decide +kernel
theorem d_MD_into_17 : decode prog_9_method_28_code 17 = .ok (.goto 4, 3) := by decide +kernel
theorem d_MD_into_20 : decode prog_9_method_28_code 20 = .ok (.iconst 0, 1) := by decide +kernel
theorem d_MD_into_21 : decode prog_9_method_28_code 21 = .ok (.istore 4, 2) := by decide +kernel
theorem d_MD_into_23 : decode prog_9_method_28_code 23 = .ok (.aload_n 0, 1) := by decide +kernel
theorem d_MD_into_24 : decode prog_9_method_28_code 24 = .ok (.iload 4, 2) := by decide +kernel
theorem d_MD_into_26 : decode prog_9_method_28_code 26 = .ok (.iload_n 3, 1) := by decide +kernel
theorem d_MD_into_27 : decode prog_9_method_28_code 27 = .ok (.aload_n 0, 1) := by decide +kernel
theorem d_MD_into_28 : decode prog_9_method_28_code 28 = .ok (.getfield 145, 3) := by decide +kernel
theorem d_MD_into_31 : decode prog_9_method_28_code 31 = .ok (.ldc 109, 2) := by decide +kernel
theorem d_MD_into_33 : decode prog_9_method_28_code 33 = .ok (.invokestatic 98, 3) := by decide +kernel
theorem d_MD_into_36 : decode prog_9_method_28_code 36 = .ok (.iload 4, 2) := by decide +kernel
theorem d_MD_into_38 : decode prog_9_method_28_code 38 = .ok (.ifCond .eq 18, 3) := by decide +kernel
theorem d_MD_into_41 : decode prog_9_method_28_code 41 = .ok (.aload_n 0, 1) := by decide +kernel
theorem d_MD_into_42 : decode prog_9_method_28_code 42 = .ok (.getfield 32, 3) := by decide +kernel
theorem d_MD_into_45 : decode prog_9_method_28_code 45 = .ok (.iload_n 1, 1) := by decide +kernel
theorem d_MD_into_46 : decode prog_9_method_28_code 46 = .ok (.iaload, 1) := by decide +kernel
theorem d_MD_into_47 : decode prog_9_method_28_code 47 = .ok (.bipush 40, 2) := by decide +kernel
theorem d_MD_into_49 : decode prog_9_method_28_code 49 = .ok (.if_icmp .ge 7, 3) := by decide +kernel
theorem d_MD_into_52 : decode prog_9_method_28_code 52 = .ok (.iconst 1, 1) := by decide +kernel
theorem d_MD_into_53 : decode prog_9_method_28_code 53 = .ok (.goto 4, 3) := by decide +kernel
theorem d_MD_into_56 : decode prog_9_method_28_code 56 = .ok (.iconst 0, 1) := by decide +kernel
theorem d_MD_into_57 : decode prog_9_method_28_code 57 = .ok (.invokevirtual 102, 3) := by decide +kernel
theorem d_MD_into_60 : decode prog_9_method_28_code 60 = .ok (.ifCond .ne 5, 3) := by decide +kernel
theorem d_MD_into_63 : decode prog_9_method_28_code 63 = .ok (.iconst 0, 1) := by decide +kernel
theorem d_MD_into_64 : decode prog_9_method_28_code 64 = .ok (.ireturn, 1) := by decide +kernel
theorem d_MD_into_65 : decode prog_9_method_28_code 65 = .ok (.aload_n 0, 1) := by decide +kernel
theorem d_MD_into_66 : decode prog_9_method_28_code 66 = .ok (.iload_n 2, 1) := by decide +kernel
theorem d_MD_into_67 : decode prog_9_method_28_code 67 = .ok (.iload_n 3, 1) := by decide +kernel
theorem d_MD_into_68 : decode prog_9_method_28_code 68 = .ok (.invokevirtual 130, 3) := by decide +kernel
theorem d_MD_into_71 : decode prog_9_method_28_code 71 = .ok (.istore 5, 2) := by decide +kernel
theorem d_MD_into_73 : decode prog_9_method_28_code 73 = .ok (.aload_n 0, 1) := by decide +kernel
theorem d_MD_into_74 : decode prog_9_method_28_code 74 = .ok (.getfield 25, 3) := by decide +kernel
theorem d_MD_into_77 : decode prog_9_method_28_code 77 = .ok (.iload_n 2, 1) := by decide +kernel
theorem d_MD_into_78 : decode prog_9_method_28_code 78 = .ok (.baload, 1) := by decide +kernel
theorem d_MD_into_79 : decode prog_9_method_28_code 79 = .ok (.ifCond .eq 13, 3) := by decide +kernel
theorem d_MD_into_82 : decode prog_9_method_28_code 82 = .ok (.aload_n 0, 1) := by decide +kernel
theorem d_MD_into_83 : decode prog_9_method_28_code 83 = .ok (.iload_n 1, 1) := by decide +kernel
theorem d_MD_into_84 : decode prog_9_method_28_code 84 = .ok (.iload_n 2, 1) := by decide +kernel
theorem d_MD_into_85 : decode prog_9_method_28_code 85 = .ok (.iload_n 3, 1) := by decide +kernel
theorem d_MD_into_86 : decode prog_9_method_28_code 86 = .ok (.invokevirtual 164, 3) := by decide +kernel
theorem d_MD_into_89 : decode prog_9_method_28_code 89 = .ok (.ifCond .eq 7, 3) := by decide +kernel
theorem d_MD_into_92 : decode prog_9_method_28_code 92 = .ok (.iconst 1, 1) := by decide +kernel
theorem d_MD_into_93 : decode prog_9_method_28_code 93 = .ok (.goto 71, 3) := by decide +kernel
theorem d_MD_into_96 : decode prog_9_method_28_code 96 = .ok (.aload_n 0, 1) := by decide +kernel
theorem d_MD_into_97 : decode prog_9_method_28_code 97 = .ok (.iload_n 1, 1) := by decide +kernel
theorem d_MD_into_98 : decode prog_9_method_28_code 98 = .ok (.iload_n 2, 1) := by decide +kernel
theorem d_MD_into_99 : decode prog_9_method_28_code 99 = .ok (.invokevirtual 167, 3) := by decide +kernel
theorem d_MD_into_102 : decode prog_9_method_28_code 102 = .ok (.ifCond .ne 7, 3) := by decide +kernel
theorem d_MD_into_105 : decode prog_9_method_28_code 105 = .ok (.iconst 2, 1) := by decide +kernel
theorem d_MD_into_106 : decode prog_9_method_28_code 106 = .ok (.goto 58, 3) := by decide +kernel
theorem d_MD_into_109 : decode prog_9_method_28_code 109 = .ok (.aload_n 0, 1) := by decide +kernel
theorem d_MD_into_110 : decode prog_9_method_28_code 110 = .ok (.getfield 22, 3) := by decide +kernel
theorem d_MD_into_113 : decode prog_9_method_28_code 113 = .ok (.iload_n 1, 1) := by decide +kernel
theorem d_MD_into_114 : decode prog_9_method_28_code 114 = .ok (.iaload, 1) := by decide +kernel
theorem d_MD_into_115 : decode prog_9_method_28_code 115 = .ok (.ifCond .le 7, 3) := by decide +kernel
theorem d_MD_into_118 : decode prog_9_method_28_code 118 = .ok (.iconst 3, 1) := by decide +kernel
theorem d_MD_into_119 : decode prog_9_method_28_code 119 = .ok (.goto 45, 3) := by decide +kernel
theorem d_MD_into_122 : decode prog_9_method_28_code 122 = .ok (.aload_n 0, 1) := by decide +kernel
theorem d_MD_into_123 : decode prog_9_method_28_code 123 = .ok (.aload_n 0, 1) := by decide +kernel
theorem d_MD_into_124 : decode prog_9_method_28_code 124 = .ok (.iload_n 1, 1) := by decide +kernel
theorem d_MD_into_125 : decode prog_9_method_28_code 125 = .ok (.iload_n 3, 1) := by decide +kernel
theorem d_MD_into_126 : decode prog_9_method_28_code 126 = .ok (.invokevirtual 130, 3) := by decide +kernel
theorem d_MD_into_129 : decode prog_9_method_28_code 129 = .ok (.iload 5, 2) := by decide +kernel
theorem d_MD_into_131 : decode prog_9_method_28_code 131 = .ok (.iload_n 3, 1) := by decide +kernel
theorem d_MD_into_132 : decode prog_9_method_28_code 132 = .ok (.invokevirtual 151, 3) := by decide +kernel
theorem d_MD_into_135 : decode prog_9_method_28_code 135 = .ok (.ifCond .eq 7, 3) := by decide +kernel
theorem d_MD_into_138 : decode prog_9_method_28_code 138 = .ok (.iconst 4, 1) := by decide +kernel
theorem d_MD_into_139 : decode prog_9_method_28_code 139 = .ok (.goto 25, 3) := by decide +kernel
theorem d_MD_into_142 : decode prog_9_method_28_code 142 = .ok (.iload 5, 2) := by decide +kernel
theorem d_MD_into_144 : decode prog_9_method_28_code 144 = .ok (.iconst (-1), 1) := by decide +kernel
theorem d_MD_into_145 : decode prog_9_method_28_code 145 = .ok (.if_icmp .eq 18, 3) := by decide +kernel
theorem d_MD_into_148 : decode prog_9_method_28_code 148 = .ok (.aload_n 0, 1) := by decide +kernel
theorem d_MD_into_149 : decode prog_9_method_28_code 149 = .ok (.iload_n 1, 1) := by decide +kernel
theorem d_MD_into_150 : decode prog_9_method_28_code 150 = .ok (.iload 5, 2) := by decide +kernel
theorem d_MD_into_152 : decode prog_9_method_28_code 152 = .ok (.iload_n 3, 1) := by decide +kernel
theorem d_MD_into_153 : decode prog_9_method_28_code 153 = .ok (.invokevirtual 154, 3) := by decide +kernel
theorem d_MD_into_156 : decode prog_9_method_28_code 156 = .ok (.ifCond .ne 7, 3) := by decide +kernel
theorem d_MD_into_159 : decode prog_9_method_28_code 159 = .ok (.iconst 5, 1) := by decide +kernel
theorem d_MD_into_160 : decode prog_9_method_28_code 160 = .ok (.goto 4, 3) := by decide +kernel
theorem d_MD_into_163 : decode prog_9_method_28_code 163 = .ok (.iconst 0, 1) := by decide +kernel
theorem d_MD_into_164 : decode prog_9_method_28_code 164 = .ok (.istore 6, 2) := by decide +kernel
theorem d_MD_into_166 : decode prog_9_method_28_code 166 = .ok (.iload 6, 2) := by decide +kernel
theorem d_MD_into_168 : decode prog_9_method_28_code 168 = .ok (.ifCond .ne 11, 3) := by decide +kernel
theorem d_MD_into_171 : decode prog_9_method_28_code 171 = .ok (.aload_n 0, 1) := by decide +kernel
theorem d_MD_into_172 : decode prog_9_method_28_code 172 = .ok (.iload_n 1, 1) := by decide +kernel
theorem d_MD_into_173 : decode prog_9_method_28_code 173 = .ok (.iload_n 3, 1) := by decide +kernel
theorem d_MD_into_174 : decode prog_9_method_28_code 174 = .ok (.iconst 1, 1) := by decide +kernel
theorem d_MD_into_175 : decode prog_9_method_28_code 175 = .ok (.iload_n 2, 1) := by decide +kernel
theorem d_MD_into_176 : decode prog_9_method_28_code 176 = .ok (.invokevirtual 157, 3) := by decide +kernel
theorem d_MD_into_179 : decode prog_9_method_28_code 179 = .ok (.iload 6, 2) := by decide +kernel
theorem d_MD_into_181 : decode prog_9_method_28_code 181 = .ok (.ireturn, 1) := by decide +kernel
theorem d_MD_lost_0 : decode prog_9_method_29_code 0 = .ok (.aload_n 0, 1) := by decide +kernel
theorem d_MD_lost_1 : decode prog_9_method_29_code 1 = .ok (.iload_n 1, 1) := by decide +kernel
theorem d_MD_lost_2 : decode prog_9_method_29_code 2 = .ok (.invokevirtual 110, 3) := by decide +kernel
theorem d_MD_lost_5 : decode prog_9_method_29_code 5 = .ok (.istore_n 3, 1) := by decide +kernel
theorem d_MD_lost_6 : decode prog_9_method_29_code 6 = .ok (.aload_n 0, 1) := by decide +kernel
theorem d_MD_lost_7 : decode prog_9_method_29_code 7 = .ok (.iload_n 3, 1) := by decide +kernel
theorem d_MD_lost_8 : decode prog_9_method_29_code 8 = .ok (.iload_n 2, 1) := by decide +kernel
theorem d_MD_lost_9 : decode prog_9_method_29_code 9 = .ok (.aload_n 0, 1) := by decide +kernel
theorem d_MD_lost_10 : decode prog_9_method_29_code 10 = .ok (.getfield 145, 3) := by decide +kernel
theorem d_MD_lost_13 : decode prog_9_method_29_code 13 = .ok (.ldc 109, 2) := by decide +kernel
theorem d_MD_lost_15 : decode prog_9_method_29_code 15 = .ok (.invokestatic 98, 3) := by decide +kernel
theorem d_MD_lost_18 : decode prog_9_method_29_code 18 = .ok (.iload_n 3, 1) := by decide +kernel
theorem d_MD_lost_19 : decode prog_9_method_29_code 19 = .ok (.ifCond .eq 18, 3) := by decide +kernel
theorem d_MD_lost_22 : decode prog_9_method_29_code 22 = .ok (.aload_n 0, 1) := by decide +kernel
theorem d_MD_lost_23 : decode prog_9_method_29_code 23 = .ok (.getfield 32, 3) := by decide +kernel
theorem d_MD_lost_26 : decode prog_9_method_29_code 26 = .ok (.iload_n 1, 1) := by decide +kernel
theorem d_MD_lost_27 : decode prog_9_method_29_code 27 = .ok (.iaload, 1) := by decide +kernel
theorem d_MD_lost_28 : decode prog_9_method_29_code 28 = .ok (.bipush 40, 2) := by decide +kernel
theorem d_MD_lost_30 : decode prog_9_method_29_code 30 = .ok (.if_icmp .ge 7, 3) := by decide +kernel
theorem d_MD_lost_33 : decode prog_9_method_29_code 33 = .ok (.iconst 1, 1) := by decide +kernel
theorem d_MD_lost_34 : decode prog_9_method_29_code 34 = .ok (.goto 4, 3) := by decide +kernel
theorem d_MD_lost_37 : decode prog_9_method_29_code 37 = .ok (.iconst 0, 1) := by decide +kernel
theorem d_MD_lost_38 : decode prog_9_method_29_code 38 = .ok (.invokevirtual 102, 3) := by decide +kernel
theorem d_MD_lost_41 : decode prog_9_method_29_code 41 = .ok (.ifCond .ne 5, 3) := by decide +kernel
theorem d_MD_lost_44 : decode prog_9_method_29_code 44 = .ok (.iconst 0, 1) := by decide +kernel
theorem d_MD_lost_45 : decode prog_9_method_29_code 45 = .ok (.ireturn, 1) := by decide +kernel
theorem d_MD_lost_46 : decode prog_9_method_29_code 46 = .ok (.aload_n 0, 1) := by decide +kernel
theorem d_MD_lost_47 : decode prog_9_method_29_code 47 = .ok (.iload_n 1, 1) := by decide +kernel
theorem d_MD_lost_48 : decode prog_9_method_29_code 48 = .ok (.iload_n 2, 1) := by decide +kernel
theorem d_MD_lost_49 : decode prog_9_method_29_code 49 = .ok (.invokevirtual 119, 3) := by decide +kernel
theorem d_MD_lost_52 : decode prog_9_method_29_code 52 = .ok (.istore 4, 2) := by decide +kernel
theorem d_MD_lost_54 : decode prog_9_method_29_code 54 = .ok (.iload 4, 2) := by decide +kernel
theorem d_MD_lost_56 : decode prog_9_method_29_code 56 = .ok (.iconst (-1), 1) := by decide +kernel
theorem d_MD_lost_57 : decode prog_9_method_29_code 57 = .ok (.if_icmp .eq 17, 3) := by decide +kernel
theorem d_MD_lost_60 : decode prog_9_method_29_code 60 = .ok (.aload_n 0, 1) := by decide +kernel
theorem d_MD_lost_61 : decode prog_9_method_29_code 61 = .ok (.getfield 38, 3) := by decide +kernel
theorem d_MD_lost_64 : decode prog_9_method_29_code 64 = .ok (.iload 4, 2) := by decide +kernel
theorem d_MD_lost_66 : decode prog_9_method_29_code 66 = .ok (.iaload, 1) := by decide +kernel
theorem d_MD_lost_67 : decode prog_9_method_29_code 67 = .ok (.ifCond .ne 7, 3) := by decide +kernel
theorem d_MD_lost_70 : decode prog_9_method_29_code 70 = .ok (.iconst 1, 1) := by decide +kernel
theorem d_MD_lost_71 : decode prog_9_method_29_code 71 = .ok (.goto 4, 3) := by decide +kernel
theorem d_MD_lost_74 : decode prog_9_method_29_code 74 = .ok (.iconst 0, 1) := by decide +kernel
theorem d_MD_lost_75 : decode prog_9_method_29_code 75 = .ok (.istore 5, 2) := by decide +kernel
theorem d_MD_lost_77 : decode prog_9_method_29_code 77 = .ok (.iload 5, 2) := by decide +kernel
theorem d_MD_lost_79 : decode prog_9_method_29_code 79 = .ok (.ifCond .eq 11, 3) := by decide +kernel
theorem d_MD_lost_82 : decode prog_9_method_29_code 82 = .ok (.aload_n 0, 1) := by decide +kernel
theorem d_MD_lost_83 : decode prog_9_method_29_code 83 = .ok (.iload_n 1, 1) := by decide +kernel
theorem d_MD_lost_84 : decode prog_9_method_29_code 84 = .ok (.iload_n 2, 1) := by decide +kernel
theorem d_MD_lost_85 : decode prog_9_method_29_code 85 = .ok (.iconst 2, 1) := by decide +kernel
theorem d_MD_lost_86 : decode prog_9_method_29_code 86 = .ok (.iconst (-1), 1) := by decide +kernel
theorem d_MD_lost_87 : decode prog_9_method_29_code 87 = .ok (.invokevirtual 157, 3) := by decide +kernel
theorem d_MD_lost_90 : decode prog_9_method_29_code 90 = .ok (.iload 5, 2) := by decide +kernel
theorem d_MD_lost_92 : decode prog_9_method_29_code 92 = .ok (.ireturn, 1) := by decide +kernel
theorem d_MD_where_0 : decode prog_9_method_30_code 0 = .ok (.aload_n 0, 1) := by decide +kernel
theorem d_MD_where_1 : decode prog_9_method_30_code 1 = .ok (.aload_n 0, 1) := by decide +kernel
theorem d_MD_where_2 : decode prog_9_method_30_code 2 = .ok (.iload_n 1, 1) := by decide +kernel
theorem d_MD_where_3 : decode prog_9_method_30_code 3 = .ok (.invokevirtual 110, 3) := by decide +kernel
theorem d_MD_where_6 : decode prog_9_method_30_code 6 = .ok (.iconst 1, 1) := by decide +kernel
theorem d_MD_where_7 : decode prog_9_method_30_code 7 = .ok (.iconst 1, 1) := by decide +kernel
theorem d_MD_where_8 : decode prog_9_method_30_code 8 = .ok (.invokevirtual 102, 3) := by decide +kernel
theorem d_MD_where_11 : decode prog_9_method_30_code 11 = .ok (.ifCond .eq 12, 3) := by decide +kernel
theorem d_MD_where_14 : decode prog_9_method_30_code 14 = .ok (.aload_n 0, 1) := by decide +kernel
theorem d_MD_where_15 : decode prog_9_method_30_code 15 = .ok (.iload_n 1, 1) := by decide +kernel
theorem d_MD_where_16 : decode prog_9_method_30_code 16 = .ok (.iload_n 2, 1) := by decide +kernel
theorem d_MD_where_17 : decode prog_9_method_30_code 17 = .ok (.invokevirtual 130, 3) := by decide +kernel
theorem d_MD_where_20 : decode prog_9_method_30_code 20 = .ok (.goto 4, 3) := by decide +kernel
theorem d_MD_where_23 : decode prog_9_method_30_code 23 = .ok (.iconst 0, 1) := by decide +kernel
theorem d_MD_where_24 : decode prog_9_method_30_code 24 = .ok (.ireturn, 1) := by decide +kernel
theorem d_MD_last_0 : decode prog_9_method_31_code 0 = .ok (.aload_n 0, 1) := by decide +kernel
theorem d_MD_last_1 : decode prog_9_method_31_code 1 = .ok (.aload_n 0, 1) := by decide +kernel
theorem d_MD_last_2 : decode prog_9_method_31_code 2 = .ok (.iload_n 1, 1) := by decide +kernel
theorem d_MD_last_3 : decode prog_9_method_31_code 3 = .ok (.invokevirtual 110, 3) := by decide +kernel
theorem d_MD_last_6 : decode prog_9_method_31_code 6 = .ok (.iconst 1, 1) := by decide +kernel
theorem d_MD_last_7 : decode prog_9_method_31_code 7 = .ok (.iconst 1, 1) := by decide +kernel
theorem d_MD_last_8 : decode prog_9_method_31_code 8 = .ok (.invokevirtual 102, 3) := by decide +kernel
theorem d_MD_last_11 : decode prog_9_method_31_code 11 = .ok (.ifCond .ne 5, 3) := by decide +kernel
theorem d_MD_last_14 : decode prog_9_method_31_code 14 = .ok (.iconst 0, 1) := by decide +kernel
theorem d_MD_last_15 : decode prog_9_method_31_code 15 = .ok (.ireturn, 1) := by decide +kernel
theorem d_MD_last_16 : decode prog_9_method_31_code 16 = .ok (.aload_n 0, 1) := by decide +kernel
theorem d_MD_last_17 : decode prog_9_method_31_code 17 = .ok (.getfield 145, 3) := by decide +kernel
theorem d_MD_last_20 : decode prog_9_method_31_code 20 = .ok (.istore_n 2, 1) := by decide +kernel
theorem d_MD_last_21 : decode prog_9_method_31_code 21 = .ok (.aload_n 0, 1) := by decide +kernel
theorem d_MD_last_22 : decode prog_9_method_31_code 22 = .ok (.iload_n 1, 1) := by decide +kernel
theorem d_MD_last_23 : decode prog_9_method_31_code 23 = .ok (.iload_n 2, 1) := by decide +kernel
theorem d_MD_last_24 : decode prog_9_method_31_code 24 = .ok (.invokevirtual 130, 3) := by decide +kernel
theorem d_MD_last_27 : decode prog_9_method_31_code 27 = .ok (.istore_n 3, 1) := by decide +kernel
theorem d_MD_last_28 : decode prog_9_method_31_code 28 = .ok (.iload_n 3, 1) := by decide +kernel
theorem d_MD_last_29 : decode prog_9_method_31_code 29 = .ok (.iconst (-1), 1) := by decide +kernel
theorem d_MD_last_30 : decode prog_9_method_31_code 30 = .ok (.if_icmp .ne 117, 3) := by decide +kernel
theorem d_MD_last_33 : decode prog_9_method_31_code 33 = .ok (.iload_n 2, 1) := by decide +kernel
theorem d_MD_last_34 : decode prog_9_method_31_code 34 = .ok (.ifCond .lt 113, 3) := by decide +kernel
theorem d_MD_last_37 : decode prog_9_method_31_code 37 = .ok (.iconst (-1), 1) := by decide +kernel
theorem d_MD_last_38 : decode prog_9_method_31_code 38 = .ok (.istore 4, 2) := by decide +kernel
theorem d_MD_last_40 : decode prog_9_method_31_code 40 = .ok (.iconst 0, 1) := by decide +kernel
theorem d_MD_last_41 : decode prog_9_method_31_code 41 = .ok (.istore 5, 2) := by decide +kernel
theorem d_MD_last_43 : decode prog_9_method_31_code 43 = .ok (.iload 5, 2) := by decide +kernel
theorem d_MD_last_45 : decode prog_9_method_31_code 45 = .ok (.sipush 800, 3) := by decide +kernel
theorem d_MD_last_48 : decode prog_9_method_31_code 48 = .ok (.if_icmp .ge 76, 3) := by decide +kernel
theorem d_MD_last_51 : decode prog_9_method_31_code 51 = .ok (.iload 5, 2) := by decide +kernel
theorem d_MD_last_53 : decode prog_9_method_31_code 53 = .ok (.bipush 40, 2) := by decide +kernel
theorem d_MD_last_55 : decode prog_9_method_31_code 55 = .ok (.irem, 1) := by decide +kernel
theorem d_MD_last_56 : decode prog_9_method_31_code 56 = .ok (.aload_n 0, 1) := by decide +kernel
theorem d_MD_last_57 : decode prog_9_method_31_code 57 = .ok (.getfield 32, 3) := by decide +kernel
theorem d_MD_last_60 : decode prog_9_method_31_code 60 = .ok (.iload 5, 2) := by decide +kernel
theorem d_MD_last_62 : decode prog_9_method_31_code 62 = .ok (.bipush 40, 2) := by decide +kernel
theorem d_MD_last_64 : decode prog_9_method_31_code 64 = .ok (.idiv, 1) := by decide +kernel
theorem d_MD_last_65 : decode prog_9_method_31_code 65 = .ok (.iaload, 1) := by decide +kernel
theorem d_MD_last_66 : decode prog_9_method_31_code 66 = .ok (.if_icmp .ge 18, 3) := by decide +kernel
theorem d_MD_last_69 : decode prog_9_method_31_code 69 = .ok (.aload_n 0, 1) := by decide +kernel
theorem d_MD_last_70 : decode prog_9_method_31_code 70 = .ok (.getfield 35, 3) := by decide +kernel
theorem d_MD_last_73 : decode prog_9_method_31_code 73 = .ok (.iload 5, 2) := by decide +kernel
theorem d_MD_last_75 : decode prog_9_method_31_code 75 = .ok (.iaload, 1) := by decide +kernel
theorem d_MD_last_76 : decode prog_9_method_31_code 76 = .ok (.iload_n 2, 1) := by decide +kernel
theorem d_MD_last_77 : decode prog_9_method_31_code 77 = .ok (.if_icmp .gt 7, 3) := by decide +kernel
theorem d_MD_last_80 : decode prog_9_method_31_code 80 = .ok (.iconst 1, 1) := by decide +kernel
theorem d_MD_last_81 : decode prog_9_method_31_code 81 = .ok (.goto 4, 3) := by decide +kernel
theorem d_MD_last_84 : decode prog_9_method_31_code 84 = .ok (.iconst 0, 1) := by decide +kernel
theorem d_MD_last_85 : decode prog_9_method_31_code 85 = .ok (.istore 6, 2) := by decide +kernel
theorem d_MD_last_87 : decode prog_9_method_31_code 87 = .ok (.iload 6, 2) := by decide +kernel
theorem d_MD_last_89 : decode prog_9_method_31_code 89 = .ok (.ifCond .eq 25, 3) := by decide +kernel
theorem d_MD_last_92 : decode prog_9_method_31_code 92 = .ok (.aload_n 0, 1) := by decide +kernel
theorem d_MD_last_93 : decode prog_9_method_31_code 93 = .ok (.getfield 35, 3) := by decide +kernel
theorem d_MD_last_96 : decode prog_9_method_31_code 96 = .ok (.iload 5, 2) := by decide +kernel
theorem d_MD_last_98 : decode prog_9_method_31_code 98 = .ok (.iaload, 1) := by decide +kernel
theorem d_MD_last_99 : decode prog_9_method_31_code 99 = .ok (.iload 4, 2) := by decide +kernel
theorem d_MD_last_101 : decode prog_9_method_31_code 101 = .ok (.if_icmp .le 13, 3) := by decide +kernel
theorem d_MD_last_104 : decode prog_9_method_31_code 104 = .ok (.aload_n 0, 1) := by decide +kernel
theorem d_MD_last_105 : decode prog_9_method_31_code 105 = .ok (.getfield 35, 3) := by decide +kernel
theorem d_MD_last_108 : decode prog_9_method_31_code 108 = .ok (.iload 5, 2) := by decide +kernel
theorem d_MD_last_110 : decode prog_9_method_31_code 110 = .ok (.iaload, 1) := by decide +kernel
theorem d_MD_last_111 : decode prog_9_method_31_code 111 = .ok (.goto 5, 3) := by decide +kernel
theorem d_MD_last_114 : decode prog_9_method_31_code 114 = .ok (.iload 4, 2) := by decide +kernel
theorem d_MD_last_116 : decode prog_9_method_31_code 116 = .ok (.istore 4, 2) := by decide +kernel
theorem d_MD_last_118 : decode prog_9_method_31_code 118 = .ok (.iinc 5 1, 3) := by decide +kernel
theorem d_MD_last_121 : decode prog_9_method_31_code 121 = .ok (.goto (-78), 3) := by decide +kernel
theorem d_MD_last_124 : decode prog_9_method_31_code 124 = .ok (.iload 4, 2) := by decide +kernel
theorem d_MD_last_126 : decode prog_9_method_31_code 126 = .ok (.iconst 1, 1) := by decide +kernel
theorem d_MD_last_127 : decode prog_9_method_31_code 127 = .ok (.isub, 1) := by decide +kernel
theorem d_MD_last_128 : decode prog_9_method_31_code 128 = .ok (.istore_n 2, 1) := by decide +kernel
theorem d_MD_last_129 : decode prog_9_method_31_code 129 = .ok (.iload_n 2, 1) := by decide +kernel
theorem d_MD_last_130 : decode prog_9_method_31_code 130 = .ok (.ifCond .lt 12, 3) := by decide +kernel
theorem d_MD_last_133 : decode prog_9_method_31_code 133 = .ok (.aload_n 0, 1) := by decide +kernel
theorem d_MD_last_134 : decode prog_9_method_31_code 134 = .ok (.iload_n 1, 1) := by decide +kernel
theorem d_MD_last_135 : decode prog_9_method_31_code 135 = .ok (.iload_n 2, 1) := by decide +kernel
theorem d_MD_last_136 : decode prog_9_method_31_code 136 = .ok (.invokevirtual 130, 3) := by decide +kernel
theorem d_MD_last_139 : decode prog_9_method_31_code 139 = .ok (.goto 4, 3) := by decide +kernel
theorem d_MD_last_142 : decode prog_9_method_31_code 142 = .ok (.iconst (-1), 1) := by decide +kernel
theorem d_MD_last_143 : decode prog_9_method_31_code 143 = .ok (.istore_n 3, 1) := by decide +kernel
theorem d_MD_last_144 : decode prog_9_method_31_code 144 = .ok (.goto (-116), 3) := by decide +kernel
theorem d_MD_last_147 : decode prog_9_method_31_code 147 = .ok (.iload_n 3, 1) := by decide +kernel
theorem d_MD_last_148 : decode prog_9_method_31_code 148 = .ok (.ireturn, 1) := by decide +kernel
theorem d_MD_history_0 : decode prog_9_method_32_code 0 = .ok (.aload_n 0, 1) := by decide +kernel
theorem d_MD_history_1 : decode prog_9_method_32_code 1 = .ok (.aload_n 0, 1) := by decide +kernel
theorem d_MD_history_2 : decode prog_9_method_32_code 2 = .ok (.iload_n 1, 1) := by decide +kernel
theorem d_MD_history_3 : decode prog_9_method_32_code 3 = .ok (.invokevirtual 110, 3) := by decide +kernel
theorem d_MD_history_6 : decode prog_9_method_32_code 6 = .ok (.ifCond .eq 21, 3) := by decide +kernel
theorem d_MD_history_9 : decode prog_9_method_32_code 9 = .ok (.iload_n 2, 1) := by decide +kernel
theorem d_MD_history_10 : decode prog_9_method_32_code 10 = .ok (.ifCond .lt 17, 3) := by decide +kernel
theorem d_MD_history_13 : decode prog_9_method_32_code 13 = .ok (.iload_n 2, 1) := by decide +kernel
theorem d_MD_history_14 : decode prog_9_method_32_code 14 = .ok (.aload_n 0, 1) := by decide +kernel
theorem d_MD_history_15 : decode prog_9_method_32_code 15 = .ok (.getfield 32, 3) := by decide +kernel
theorem d_MD_history_18 : decode prog_9_method_32_code 18 = .ok (.iload_n 1, 1) := by decide +kernel
theorem d_MD_history_19 : decode prog_9_method_32_code 19 = .ok (.iaload, 1) := by decide +kernel
theorem d_MD_history_20 : decode prog_9_method_32_code 20 = .ok (.if_icmp .ge 7, 3) := by decide +kernel
theorem d_MD_history_23 : decode prog_9_method_32_code 23 = .ok (.iconst 1, 1) := by decide +kernel
theorem d_MD_history_24 : decode prog_9_method_32_code 24 = .ok (.goto 4, 3) := by decide +kernel
theorem d_MD_history_27 : decode prog_9_method_32_code 27 = .ok (.iconst 0, 1) := by decide +kernel
theorem d_MD_history_28 : decode prog_9_method_32_code 28 = .ok (.iload_n 3, 1) := by decide +kernel
theorem d_MD_history_29 : decode prog_9_method_32_code 29 = .ok (.iconst 0, 1) := by decide +kernel
theorem d_MD_history_30 : decode prog_9_method_32_code 30 = .ok (.iconst 2, 1) := by decide +kernel
theorem d_MD_history_31 : decode prog_9_method_32_code 31 = .ok (.invokestatic 98, 3) := by decide +kernel
theorem d_MD_history_34 : decode prog_9_method_32_code 34 = .ok (.iconst 1, 1) := by decide +kernel
theorem d_MD_history_35 : decode prog_9_method_32_code 35 = .ok (.invokevirtual 102, 3) := by decide +kernel
theorem d_MD_history_38 : decode prog_9_method_32_code 38 = .ok (.ifCond .ne 5, 3) := by decide +kernel
theorem d_MD_history_41 : decode prog_9_method_32_code 41 = .ok (.iconst 0, 1) := by decide +kernel
theorem d_MD_history_42 : decode prog_9_method_32_code 42 = .ok (.ireturn, 1) := by decide +kernel
theorem d_MD_history_43 : decode prog_9_method_32_code 43 = .ok (.bipush 40, 2) := by decide +kernel
theorem d_MD_history_45 : decode prog_9_method_32_code 45 = .ok (.iload_n 1, 1) := by decide +kernel
theorem d_MD_history_46 : decode prog_9_method_32_code 46 = .ok (.imul, 1) := by decide +kernel
theorem d_MD_history_47 : decode prog_9_method_32_code 47 = .ok (.iload_n 2, 1) := by decide +kernel
theorem d_MD_history_48 : decode prog_9_method_32_code 48 = .ok (.iadd, 1) := by decide +kernel
theorem d_MD_history_49 : decode prog_9_method_32_code 49 = .ok (.istore 4, 2) := by decide +kernel
theorem d_MD_history_51 : decode prog_9_method_32_code 51 = .ok (.iload_n 3, 1) := by decide +kernel
theorem d_MD_history_52 : decode prog_9_method_32_code 52 = .ok (.ifCond .ne 13, 3) := by decide +kernel
theorem d_MD_history_55 : decode prog_9_method_32_code 55 = .ok (.aload_n 0, 1) := by decide +kernel
theorem d_MD_history_56 : decode prog_9_method_32_code 56 = .ok (.getfield 35, 3) := by decide +kernel
theorem d_MD_history_59 : decode prog_9_method_32_code 59 = .ok (.iload 4, 2) := by decide +kernel
theorem d_MD_history_61 : decode prog_9_method_32_code 61 = .ok (.iaload, 1) := by decide +kernel
theorem d_MD_history_62 : decode prog_9_method_32_code 62 = .ok (.goto 25, 3) := by decide +kernel
theorem d_MD_history_65 : decode prog_9_method_32_code 65 = .ok (.iload_n 3, 1) := by decide +kernel
theorem d_MD_history_66 : decode prog_9_method_32_code 66 = .ok (.iconst 1, 1) := by decide +kernel
theorem d_MD_history_67 : decode prog_9_method_32_code 67 = .ok (.if_icmp .ne 13, 3) := by decide +kernel
theorem d_MD_history_70 : decode prog_9_method_32_code 70 = .ok (.aload_n 0, 1) := by decide +kernel
theorem d_MD_history_71 : decode prog_9_method_32_code 71 = .ok (.getfield 38, 3) := by decide +kernel
theorem d_MD_history_74 : decode prog_9_method_32_code 74 = .ok (.iload 4, 2) := by decide +kernel
theorem d_MD_history_76 : decode prog_9_method_32_code 76 = .ok (.iaload, 1) := by decide +kernel
theorem d_MD_history_77 : decode prog_9_method_32_code 77 = .ok (.goto 10, 3) := by decide +kernel
theorem d_MD_history_80 : decode prog_9_method_32_code 80 = .ok (.aload_n 0, 1) := by decide +kernel
theorem d_MD_history_81 : decode prog_9_method_32_code 81 = .ok (.getfield 41, 3) := by decide +kernel
theorem d_MD_history_84 : decode prog_9_method_32_code 84 = .ok (.iload 4, 2) := by decide +kernel
theorem d_MD_history_86 : decode prog_9_method_32_code 86 = .ok (.iaload, 1) := by decide +kernel
theorem d_MD_history_87 : decode prog_9_method_32_code 87 = .ok (.ireturn, 1) := by decide +kernel
theorem d_MD_door_0 : decode prog_9_method_33_code 0 = .ok (.aload_n 0, 1) := by decide +kernel
theorem d_MD_door_1 : decode prog_9_method_33_code 1 = .ok (.aload_n 0, 1) := by decide +kernel
theorem d_MD_door_2 : decode prog_9_method_33_code 2 = .ok (.iload_n 1, 1) := by decide +kernel
theorem d_MD_door_3 : decode prog_9_method_33_code 3 = .ok (.invokevirtual 93, 3) := by decide +kernel
theorem d_MD_door_6 : decode prog_9_method_33_code 6 = .ok (.ifCond .eq 15, 3) := by decide +kernel
theorem d_MD_door_9 : decode prog_9_method_33_code 9 = .ok (.aload_n 0, 1) := by decide +kernel
theorem d_MD_door_10 : decode prog_9_method_33_code 10 = .ok (.iload_n 2, 1) := by decide +kernel
theorem d_MD_door_11 : decode prog_9_method_33_code 11 = .ok (.invokevirtual 93, 3) := by decide +kernel
theorem d_MD_door_14 : decode prog_9_method_33_code 14 = .ok (.ifCond .eq 7, 3) := by decide +kernel
theorem d_MD_door_17 : decode prog_9_method_33_code 17 = .ok (.iconst 1, 1) := by decide +kernel
theorem d_MD_door_18 : decode prog_9_method_33_code 18 = .ok (.goto 4, 3) := by decide +kernel
theorem d_MD_door_21 : decode prog_9_method_33_code 21 = .ok (.iconst 0, 1) := by decide +kernel
theorem d_MD_door_22 : decode prog_9_method_33_code 22 = .ok (.iload_n 1, 1) := by decide +kernel
theorem d_MD_door_23 : decode prog_9_method_33_code 23 = .ok (.iload_n 2, 1) := by decide +kernel
theorem d_MD_door_24 : decode prog_9_method_33_code 24 = .ok (.if_icmp .eq 22, 3) := by decide +kernel
theorem d_MD_door_27 : decode prog_9_method_33_code 27 = .ok (.iload_n 3, 1) := by decide +kernel
theorem d_MD_door_28 : decode prog_9_method_33_code 28 = .ok (.invokestatic 106, 3) := by decide +kernel
theorem d_MD_door_31 : decode prog_9_method_33_code 31 = .ok (.ifCond .eq 15, 3) := by decide +kernel
theorem d_MD_door_34 : decode prog_9_method_33_code 34 = .ok (.iload 4, 2) := by decide +kernel
theorem d_MD_door_36 : decode prog_9_method_33_code 36 = .ok (.invokestatic 106, 3) := by decide +kernel
theorem d_MD_door_39 : decode prog_9_method_33_code 39 = .ok (.ifCond .eq 7, 3) := by decide +kernel
theorem d_MD_door_42 : decode prog_9_method_33_code 42 = .ok (.iconst 1, 1) := by decide +kernel
theorem d_MD_door_43 : decode prog_9_method_33_code 43 = .ok (.goto 4, 3) := by decide +kernel
theorem d_MD_door_46 : decode prog_9_method_33_code 46 = .ok (.iconst 0, 1) := by decide +kernel
theorem d_MD_door_47 : decode prog_9_method_33_code 47 = .ok (.aload_n 0, 1) := by decide +kernel
theorem d_MD_door_48 : decode prog_9_method_33_code 48 = .ok (.getfield 170, 3) := by decide +kernel
theorem d_MD_door_51 : decode prog_9_method_33_code 51 = .ok (.bipush 40, 2) := by decide +kernel
theorem d_MD_door_53 : decode prog_9_method_33_code 53 = .ok (.if_icmp .ge 7, 3) := by decide +kernel
theorem d_MD_door_56 : decode prog_9_method_33_code 56 = .ok (.iconst 1, 1) := by decide +kernel
theorem d_MD_door_57 : decode prog_9_method_33_code 57 = .ok (.goto 4, 3) := by decide +kernel
theorem d_MD_door_60 : decode prog_9_method_33_code 60 = .ok (.iconst 0, 1) := by decide +kernel
theorem d_MD_door_61 : decode prog_9_method_33_code 61 = .ok (.invokevirtual 102, 3) := by decide +kernel
theorem d_MD_door_64 : decode prog_9_method_33_code 64 = .ok (.ifCond .ne 5, 3) := by decide +kernel
theorem d_MD_door_67 : decode prog_9_method_33_code 67 = .ok (.iconst 0, 1) := by decide +kernel
theorem d_MD_door_68 : decode prog_9_method_33_code 68 = .ok (.ireturn, 1) := by decide +kernel
theorem d_MD_door_69 : decode prog_9_method_33_code 69 = .ok (.aload_n 0, 1) := by decide +kernel
theorem d_MD_door_70 : decode prog_9_method_33_code 70 = .ok (.getfield 44, 3) := by decide +kernel
theorem d_MD_door_73 : decode prog_9_method_33_code 73 = .ok (.aload_n 0, 1) := by decide +kernel
theorem d_MD_door_74 : decode prog_9_method_33_code 74 = .ok (.getfield 170, 3) := by decide +kernel
theorem d_MD_door_77 : decode prog_9_method_33_code 77 = .ok (.iload_n 1, 1) := by decide +kernel
theorem d_MD_door_78 : decode prog_9_method_33_code 78 = .ok (.iastore, 1) := by decide +kernel
theorem d_MD_door_79 : decode prog_9_method_33_code 79 = .ok (.aload_n 0, 1) := by decide +kernel
theorem d_MD_door_80 : decode prog_9_method_33_code 80 = .ok (.getfield 47, 3) := by decide +kernel
theorem d_MD_door_83 : decode prog_9_method_33_code 83 = .ok (.aload_n 0, 1) := by decide +kernel
theorem d_MD_door_84 : decode prog_9_method_33_code 84 = .ok (.getfield 170, 3) := by decide +kernel
theorem d_MD_door_87 : decode prog_9_method_33_code 87 = .ok (.iload_n 2, 1) := by decide +kernel
theorem d_MD_door_88 : decode prog_9_method_33_code 88 = .ok (.iastore, 1) := by decide +kernel
theorem d_MD_door_89 : decode prog_9_method_33_code 89 = .ok (.aload_n 0, 1) := by decide +kernel
theorem d_MD_door_90 : decode prog_9_method_33_code 90 = .ok (.getfield 50, 3) := by decide +kernel
theorem d_MD_door_93 : decode prog_9_method_33_code 93 = .ok (.aload_n 0, 1) := by decide +kernel
theorem d_MD_door_94 : decode prog_9_method_33_code 94 = .ok (.getfield 170, 3) := by decide +kernel
theorem d_MD_door_97 : decode prog_9_method_33_code 97 = .ok (.iload_n 3, 1) := by decide +kernel
theorem d_MD_door_98 : decode prog_9_method_33_code 98 = .ok (.iastore, 1) := by decide +kernel
theorem d_MD_door_99 : decode prog_9_method_33_code 99 = .ok (.aload_n 0, 1) := by decide +kernel
theorem d_MD_door_100 : decode prog_9_method_33_code 100 = .ok (.getfield 53, 3) := by decide +kernel
theorem d_MD_door_103 : decode prog_9_method_33_code 103 = .ok (.aload_n 0, 1) := by decide +kernel
theorem d_MD_door_104 : decode prog_9_method_33_code 104 = .ok (.getfield 170, 3) := by decide +kernel
theorem d_MD_door_107 : decode prog_9_method_33_code 107 = .ok (.iload 4, 2) := by decide +kernel
theorem d_MD_door_109 : decode prog_9_method_33_code 109 = .ok (.iastore, 1) := by decide +kernel
theorem d_MD_door_110 : decode prog_9_method_33_code 110 = .ok (.aload_n 0, 1) := by decide +kernel
theorem d_MD_door_111 : decode prog_9_method_33_code 111 = .ok (.dup, 1) := by decide +kernel
theorem d_MD_door_112 : decode prog_9_method_33_code 112 = .ok (.getfield 170, 3) := by decide +kernel
theorem d_MD_door_115 : decode prog_9_method_33_code 115 = .ok (.iconst 1, 1) := by decide +kernel
theorem d_MD_door_116 : decode prog_9_method_33_code 116 = .ok (.iadd, 1) := by decide +kernel
theorem d_MD_door_117 : decode prog_9_method_33_code 117 = .ok (.putfield 170, 3) := by decide +kernel
theorem d_MD_door_120 : decode prog_9_method_33_code 120 = .ok (.aload_n 0, 1) := by decide +kernel
theorem d_MD_door_121 : decode prog_9_method_33_code 121 = .ok (.getfield 170, 3) := by decide +kernel
theorem d_MD_door_124 : decode prog_9_method_33_code 124 = .ok (.iconst 1, 1) := by decide +kernel
theorem d_MD_door_125 : decode prog_9_method_33_code 125 = .ok (.isub, 1) := by decide +kernel
theorem d_MD_door_126 : decode prog_9_method_33_code 126 = .ok (.ireturn, 1) := by decide +kernel
theorem d_MD_face_0 : decode prog_9_method_34_code 0 = .ok (.lload_n 0, 1) := by decide +kernel
theorem d_MD_face_1 : decode prog_9_method_34_code 1 = .ok (.lload_n 2, 1) := by decide +kernel
theorem d_MD_face_2 : decode prog_9_method_34_code 2 = .ok (.lcmp, 1) := by decide +kernel
theorem d_MD_face_3 : decode prog_9_method_34_code 3 = .ok (.ifCond .le 7, 3) := by decide +kernel
theorem d_MD_face_6 : decode prog_9_method_34_code 6 = .ok (.lload_n 0, 1) := by decide +kernel
theorem d_MD_face_7 : decode prog_9_method_34_code 7 = .ok (.goto 4, 3) := by decide +kernel
theorem d_MD_face_10 : decode prog_9_method_34_code 10 = .ok (.lload_n 2, 1) := by decide +kernel
theorem d_MD_face_11 : decode prog_9_method_34_code 11 = .ok (.lstore 8, 2) := by decide +kernel
theorem d_MD_face_13 : decode prog_9_method_34_code 13 = .ok (.lload_n 0, 1) := by decide +kernel
theorem d_MD_face_14 : decode prog_9_method_34_code 14 = .ok (.lload_n 2, 1) := by decide +kernel
theorem d_MD_face_15 : decode prog_9_method_34_code 15 = .ok (.lcmp, 1) := by decide +kernel
theorem d_MD_face_16 : decode prog_9_method_34_code 16 = .ok (.ifCond .le 7, 3) := by decide +kernel
theorem d_MD_face_19 : decode prog_9_method_34_code 19 = .ok (.lload_n 2, 1) := by decide +kernel
theorem d_MD_face_20 : decode prog_9_method_34_code 20 = .ok (.goto 4, 3) := by decide +kernel
theorem d_MD_face_23 : decode prog_9_method_34_code 23 = .ok (.lload_n 0, 1) := by decide +kernel
theorem d_MD_face_24 : decode prog_9_method_34_code 24 = .ok (.lstore 10, 2) := by decide +kernel
theorem d_MD_face_26 : decode prog_9_method_34_code 26 = .ok (.lload 4, 2) := by decide +kernel
theorem d_MD_face_28 : decode prog_9_method_34_code 28 = .ok (.lload 6, 2) := by decide +kernel
theorem d_MD_face_30 : decode prog_9_method_34_code 30 = .ok (.lcmp, 1) := by decide +kernel
theorem d_MD_face_31 : decode prog_9_method_34_code 31 = .ok (.ifCond .le 8, 3) := by decide +kernel
theorem d_MD_face_34 : decode prog_9_method_34_code 34 = .ok (.lload 4, 2) := by decide +kernel
theorem d_MD_face_36 : decode prog_9_method_34_code 36 = .ok (.goto 5, 3) := by decide +kernel
theorem d_MD_face_39 : decode prog_9_method_34_code 39 = .ok (.lload 6, 2) := by decide +kernel
theorem d_MD_face_41 : decode prog_9_method_34_code 41 = .ok (.lstore 12, 2) := by decide +kernel
theorem d_MD_face_43 : decode prog_9_method_34_code 43 = .ok (.lload 4, 2) := by decide +kernel
theorem d_MD_face_45 : decode prog_9_method_34_code 45 = .ok (.lload 6, 2) := by decide +kernel
theorem d_MD_face_47 : decode prog_9_method_34_code 47 = .ok (.lcmp, 1) := by decide +kernel
theorem d_MD_face_48 : decode prog_9_method_34_code 48 = .ok (.ifCond .le 8, 3) := by decide +kernel
theorem d_MD_face_51 : decode prog_9_method_34_code 51 = .ok (.lload 6, 2) := by decide +kernel
theorem d_MD_face_53 : decode prog_9_method_34_code 53 = .ok (.goto 5, 3) := by decide +kernel
theorem d_MD_face_56 : decode prog_9_method_34_code 56 = .ok (.lload 4, 2) := by decide +kernel
theorem d_MD_face_58 : decode prog_9_method_34_code 58 = .ok (.lstore 14, 2) := by decide +kernel
theorem d_MD_face_60 : decode prog_9_method_34_code 60 = .ok (.lload 8, 2) := by decide +kernel
theorem d_MD_face_62 : decode prog_9_method_34_code 62 = .ok (.lload 8, 2) := by decide +kernel
theorem d_MD_face_64 : decode prog_9_method_34_code 64 = .ok (.lmul, 1) := by decide +kernel
theorem d_MD_face_65 : decode prog_9_method_34_code 65 = .ok (.lload 10, 2) := by decide +kernel
theorem d_MD_face_67 : decode prog_9_method_34_code 67 = .ok (.lload 10, 2) := by decide +kernel
theorem d_MD_face_69 : decode prog_9_method_34_code 69 = .ok (.lmul, 1) := by decide +kernel
theorem d_MD_face_70 : decode prog_9_method_34_code 70 = .ok (.lsub, 1) := by decide +kernel
theorem d_MD_face_71 : decode prog_9_method_34_code 71 = .ok (.lstore 16, 2) := by decide +kernel
theorem d_MD_face_73 : decode prog_9_method_34_code 73 = .ok (.lload 12, 2) := by decide +kernel
theorem d_MD_face_75 : decode prog_9_method_34_code 75 = .ok (.lload 14, 2) := by decide +kernel
theorem d_MD_face_77 : decode prog_9_method_34_code 77 = .ok (.ladd, 1) := by decide +kernel
theorem d_MD_face_78 : decode prog_9_method_34_code 78 = .ok (.lload 12, 2) := by decide +kernel
theorem d_MD_face_80 : decode prog_9_method_34_code 80 = .ok (.lload 14, 2) := by decide +kernel
theorem d_MD_face_82 : decode prog_9_method_34_code 82 = .ok (.ladd, 1) := by decide +kernel
theorem d_MD_face_83 : decode prog_9_method_34_code 83 = .ok (.lmul, 1) := by decide +kernel
theorem d_MD_face_84 : decode prog_9_method_34_code 84 = .ok (.lload 8, 2) := by decide +kernel
theorem d_MD_face_86 : decode prog_9_method_34_code 86 = .ok (.lload 10, 2) := by decide +kernel
theorem d_MD_face_88 : decode prog_9_method_34_code 88 = .ok (.lsub, 1) := by decide +kernel
theorem d_MD_face_89 : decode prog_9_method_34_code 89 = .ok (.lmul, 1) := by decide +kernel
theorem d_MD_face_90 : decode prog_9_method_34_code 90 = .ok (.lload 8, 2) := by decide +kernel
theorem d_MD_face_92 : decode prog_9_method_34_code 92 = .ok (.lload 10, 2) := by decide +kernel
theorem d_MD_face_94 : decode prog_9_method_34_code 94 = .ok (.lsub, 1) := by decide +kernel
theorem d_MD_face_95 : decode prog_9_method_34_code 95 = .ok (.lmul, 1) := by decide +kernel
theorem d_MD_face_96 : decode prog_9_method_34_code 96 = .ok (.lload 12, 2) := by decide +kernel
theorem d_MD_face_98 : decode prog_9_method_34_code 98 = .ok (.lload 14, 2) := by decide +kernel
theorem d_MD_face_100 : decode prog_9_method_34_code 100 = .ok (.lsub, 1) := by decide +kernel
theorem d_MD_face_101 : decode prog_9_method_34_code 101 = .ok (.lload 12, 2) := by decide +kernel
theorem d_MD_face_103 : decode prog_9_method_34_code 103 = .ok (.lload 14, 2) := by decide +kernel
theorem d_MD_face_105 : decode prog_9_method_34_code 105 = .ok (.lsub, 1) := by decide +kernel
theorem d_MD_face_106 : decode prog_9_method_34_code 106 = .ok (.lmul, 1) := by decide +kernel
theorem d_MD_face_107 : decode prog_9_method_34_code 107 = .ok (.lload 8, 2) := by decide +kernel
theorem d_MD_face_109 : decode prog_9_method_34_code 109 = .ok (.lload 10, 2) := by decide +kernel
theorem d_MD_face_111 : decode prog_9_method_34_code 111 = .ok (.ladd, 1) := by decide +kernel
theorem d_MD_face_112 : decode prog_9_method_34_code 112 = .ok (.lmul, 1) := by decide +kernel
theorem d_MD_face_113 : decode prog_9_method_34_code 113 = .ok (.lload 8, 2) := by decide +kernel
theorem d_MD_face_115 : decode prog_9_method_34_code 115 = .ok (.lload 10, 2) := by decide +kernel
theorem d_MD_face_117 : decode prog_9_method_34_code 117 = .ok (.ladd, 1) := by decide +kernel
theorem d_MD_face_118 : decode prog_9_method_34_code 118 = .ok (.lmul, 1) := by decide +kernel
theorem d_MD_face_119 : decode prog_9_method_34_code 119 = .ok (.ladd, 1) := by decide +kernel
theorem d_MD_face_120 : decode prog_9_method_34_code 120 = .ok (.ldc2_w 173, 3) := by decide +kernel
theorem d_MD_face_123 : decode prog_9_method_34_code 123 = .ok (.lload 16, 2) := by decide +kernel
theorem d_MD_face_125 : decode prog_9_method_34_code 125 = .ok (.lmul, 1) := by decide +kernel
theorem d_MD_face_126 : decode prog_9_method_34_code 126 = .ok (.lload 16, 2) := by decide +kernel
theorem d_MD_face_128 : decode prog_9_method_34_code 128 = .ok (.lmul, 1) := by decide +kernel
theorem d_MD_face_129 : decode prog_9_method_34_code 129 = .ok (.lcmp, 1) := by decide +kernel
theorem d_MD_face_130 : decode prog_9_method_34_code 130 = .ok (.ifCond .lt 7, 3) := by decide +kernel
theorem d_MD_face_133 : decode prog_9_method_34_code 133 = .ok (.iconst 1, 1) := by decide +kernel
theorem d_MD_face_134 : decode prog_9_method_34_code 134 = .ok (.goto 4, 3) := by decide +kernel
theorem d_MD_face_137 : decode prog_9_method_34_code 137 = .ok (.iconst 0, 1) := by decide +kernel
theorem d_MD_face_138 : decode prog_9_method_34_code 138 = .ok (.istore 18, 2) := by decide +kernel
theorem d_MD_face_140 : decode prog_9_method_34_code 140 = .ok (.lload 10, 2) := by decide +kernel
theorem d_MD_face_142 : decode prog_9_method_34_code 142 = .ok (.lload 14, 2) := by decide +kernel
theorem d_MD_face_144 : decode prog_9_method_34_code 144 = .ok (.lcmp, 1) := by decide +kernel
theorem d_MD_face_145 : decode prog_9_method_34_code 145 = .ok (.ifCond .gt 20, 3) := by decide +kernel
theorem d_MD_face_148 : decode prog_9_method_34_code 148 = .ok (.lload 8, 2) := by decide +kernel
theorem d_MD_face_150 : decode prog_9_method_34_code 150 = .ok (.lload 12, 2) := by decide +kernel
theorem d_MD_face_152 : decode prog_9_method_34_code 152 = .ok (.lcmp, 1) := by decide +kernel
theorem d_MD_face_153 : decode prog_9_method_34_code 153 = .ok (.ifCond .le 8, 3) := by decide +kernel
theorem d_MD_face_156 : decode prog_9_method_34_code 156 = .ok (.iload 18, 2) := by decide +kernel
theorem d_MD_face_158 : decode prog_9_method_34_code 158 = .ok (.ifCond .eq 7, 3) := by decide +kernel
theorem d_MD_face_161 : decode prog_9_method_34_code 161 = .ok (.iconst 1, 1) := by decide +kernel
theorem d_MD_face_162 : decode prog_9_method_34_code 162 = .ok (.goto 4, 3) := by decide +kernel
theorem d_MD_face_165 : decode prog_9_method_34_code 165 = .ok (.iconst 0, 1) := by decide +kernel
theorem d_MD_face_166 : decode prog_9_method_34_code 166 = .ok (.ireturn, 1) := by decide +kernel
theorem d_MD_through_0 : decode prog_9_method_35_code 0 = .ok (.aload_n 0, 1) := by decide +kernel
theorem d_MD_through_1 : decode prog_9_method_35_code 1 = .ok (.getfield 16, 3) := by decide +kernel
theorem d_MD_through_4 : decode prog_9_method_35_code 4 = .ok (.iconst 3, 1) := by decide +kernel
theorem d_MD_through_5 : decode prog_9_method_35_code 5 = .ok (.iload_n 1, 1) := by decide +kernel
theorem d_MD_through_6 : decode prog_9_method_35_code 6 = .ok (.imul, 1) := by decide +kernel
theorem d_MD_through_7 : decode prog_9_method_35_code 7 = .ok (.iaload, 1) := by decide +kernel
theorem d_MD_through_8 : decode prog_9_method_35_code 8 = .ok (.istore_n 3, 1) := by decide +kernel
theorem d_MD_through_9 : decode prog_9_method_35_code 9 = .ok (.aload_n 0, 1) := by decide +kernel
theorem d_MD_through_10 : decode prog_9_method_35_code 10 = .ok (.getfield 16, 3) := by decide +kernel
theorem d_MD_through_13 : decode prog_9_method_35_code 13 = .ok (.iconst 3, 1) := by decide +kernel
theorem d_MD_through_14 : decode prog_9_method_35_code 14 = .ok (.iload_n 1, 1) := by decide +kernel
theorem d_MD_through_15 : decode prog_9_method_35_code 15 = .ok (.imul, 1) := by decide +kernel
theorem d_MD_through_16 : decode prog_9_method_35_code 16 = .ok (.iconst 1, 1) := by decide +kernel
theorem d_MD_through_17 : decode prog_9_method_35_code 17 = .ok (.iadd, 1) := by decide +kernel
theorem d_MD_through_18 : decode prog_9_method_35_code 18 = .ok (.iaload, 1) := by decide +kernel
theorem d_MD_through_19 : decode prog_9_method_35_code 19 = .ok (.istore 4, 2) := by decide +kernel
theorem d_MD_through_21 : decode prog_9_method_35_code 21 = .ok (.aload_n 0, 1) := by decide +kernel
theorem d_MD_through_22 : decode prog_9_method_35_code 22 = .ok (.getfield 16, 3) := by decide +kernel
theorem d_MD_through_25 : decode prog_9_method_35_code 25 = .ok (.iconst 3, 1) := by decide +kernel
theorem d_MD_through_26 : decode prog_9_method_35_code 26 = .ok (.iload_n 1, 1) := by decide +kernel
theorem d_MD_through_27 : decode prog_9_method_35_code 27 = .ok (.imul, 1) := by decide +kernel
theorem d_MD_through_28 : decode prog_9_method_35_code 28 = .ok (.iconst 2, 1) := by decide +kernel
theorem d_MD_through_29 : decode prog_9_method_35_code 29 = .ok (.iadd, 1) := by decide +kernel
theorem d_MD_through_30 : decode prog_9_method_35_code 30 = .ok (.iaload, 1) := by decide +kernel
theorem d_MD_through_31 : decode prog_9_method_35_code 31 = .ok (.istore 5, 2) := by decide +kernel
theorem d_MD_through_33 : decode prog_9_method_35_code 33 = .ok (.iload_n 3, 1) := by decide +kernel
theorem d_MD_through_34 : decode prog_9_method_35_code 34 = .ok (.i2l, 1) := by decide +kernel
theorem d_MD_through_35 : decode prog_9_method_35_code 35 = .ok (.iload 4, 2) := by decide +kernel
theorem d_MD_through_37 : decode prog_9_method_35_code 37 = .ok (.i2l, 1) := by decide +kernel
theorem d_MD_through_38 : decode prog_9_method_35_code 38 = .ok (.aload_n 0, 1) := by decide +kernel
theorem d_MD_through_39 : decode prog_9_method_35_code 39 = .ok (.getfield 50, 3) := by decide +kernel
theorem d_MD_through_42 : decode prog_9_method_35_code 42 = .ok (.iload_n 2, 1) := by decide +kernel
theorem d_MD_through_43 : decode prog_9_method_35_code 43 = .ok (.iaload, 1) := by decide +kernel
theorem d_MD_through_44 : decode prog_9_method_35_code 44 = .ok (.i2l, 1) := by decide +kernel
theorem d_MD_through_45 : decode prog_9_method_35_code 45 = .ok (.aload_n 0, 1) := by decide +kernel
theorem d_MD_through_46 : decode prog_9_method_35_code 46 = .ok (.getfield 53, 3) := by decide +kernel
theorem d_MD_through_49 : decode prog_9_method_35_code 49 = .ok (.iload_n 2, 1) := by decide +kernel
theorem d_MD_through_50 : decode prog_9_method_35_code 50 = .ok (.iaload, 1) := by decide +kernel
theorem d_MD_through_51 : decode prog_9_method_35_code 51 = .ok (.i2l, 1) := by decide +kernel
theorem d_MD_through_52 : decode prog_9_method_35_code 52 = .ok (.invokestatic 175, 3) := by decide +kernel
theorem d_MD_through_55 : decode prog_9_method_35_code 55 = .ok (.ifCond .ne 54, 3) := by decide +kernel
theorem d_MD_through_58 : decode prog_9_method_35_code 58 = .ok (.iload_n 3, 1) := by decide +kernel
theorem d_MD_through_59 : decode prog_9_method_35_code 59 = .ok (.i2l, 1) := by decide +kernel
theorem d_MD_through_60 : decode prog_9_method_35_code 60 = .ok (.iload 5, 2) := by decide +kernel
theorem d_MD_through_62 : decode prog_9_method_35_code 62 = .ok (.i2l, 1) := by decide +kernel
theorem d_MD_through_63 : decode prog_9_method_35_code 63 = .ok (.aload_n 0, 1) := by decide +kernel
theorem d_MD_through_64 : decode prog_9_method_35_code 64 = .ok (.getfield 50, 3) := by decide +kernel
theorem d_MD_through_67 : decode prog_9_method_35_code 67 = .ok (.iload_n 2, 1) := by decide +kernel
theorem d_MD_through_68 : decode prog_9_method_35_code 68 = .ok (.iaload, 1) := by decide +kernel
theorem d_MD_through_69 : decode prog_9_method_35_code 69 = .ok (.i2l, 1) := by decide +kernel
theorem d_MD_through_70 : decode prog_9_method_35_code 70 = .ok (.aload_n 0, 1) := by decide +kernel
theorem d_MD_through_71 : decode prog_9_method_35_code 71 = .ok (.getfield 53, 3) := by decide +kernel
theorem d_MD_through_74 : decode prog_9_method_35_code 74 = .ok (.iload_n 2, 1) := by decide +kernel
theorem d_MD_through_75 : decode prog_9_method_35_code 75 = .ok (.iaload, 1) := by decide +kernel
theorem d_MD_through_76 : decode prog_9_method_35_code 76 = .ok (.i2l, 1) := by decide +kernel
theorem d_MD_through_77 : decode prog_9_method_35_code 77 = .ok (.invokestatic 175, 3) := by decide +kernel
theorem d_MD_through_80 : decode prog_9_method_35_code 80 = .ok (.ifCond .ne 29, 3) := by decide +kernel
theorem d_MD_through_83 : decode prog_9_method_35_code 83 = .ok (.iload 4, 2) := by decide +kernel
theorem d_MD_through_85 : decode prog_9_method_35_code 85 = .ok (.i2l, 1) := by decide +kernel
theorem d_MD_through_86 : decode prog_9_method_35_code 86 = .ok (.iload 5, 2) := by decide +kernel
theorem d_MD_through_88 : decode prog_9_method_35_code 88 = .ok (.i2l, 1) := by decide +kernel
theorem d_MD_through_89 : decode prog_9_method_35_code 89 = .ok (.aload_n 0, 1) := by decide +kernel
theorem d_MD_through_90 : decode prog_9_method_35_code 90 = .ok (.getfield 50, 3) := by decide +kernel
theorem d_MD_through_93 : decode prog_9_method_35_code 93 = .ok (.iload_n 2, 1) := by decide +kernel
theorem d_MD_through_94 : decode prog_9_method_35_code 94 = .ok (.iaload, 1) := by decide +kernel
theorem d_MD_through_95 : decode prog_9_method_35_code 95 = .ok (.i2l, 1) := by decide +kernel
theorem d_MD_through_96 : decode prog_9_method_35_code 96 = .ok (.aload_n 0, 1) := by decide +kernel
theorem d_MD_through_97 : decode prog_9_method_35_code 97 = .ok (.getfield 53, 3) := by decide +kernel
theorem d_MD_through_100 : decode prog_9_method_35_code 100 = .ok (.iload_n 2, 1) := by decide +kernel
theorem d_MD_through_101 : decode prog_9_method_35_code 101 = .ok (.iaload, 1) := by decide +kernel
theorem d_MD_through_102 : decode prog_9_method_35_code 102 = .ok (.i2l, 1) := by decide +kernel
theorem d_MD_through_103 : decode prog_9_method_35_code 103 = .ok (.invokestatic 175, 3) := by decide +kernel
theorem d_MD_through_106 : decode prog_9_method_35_code 106 = .ok (.ifCond .eq 7, 3) := by decide +kernel
theorem d_MD_through_109 : decode prog_9_method_35_code 109 = .ok (.iconst 1, 1) := by decide +kernel
theorem d_MD_through_110 : decode prog_9_method_35_code 110 = .ok (.goto 4, 3) := by decide +kernel
theorem d_MD_through_113 : decode prog_9_method_35_code 113 = .ok (.iconst 0, 1) := by decide +kernel
theorem d_MD_through_114 : decode prog_9_method_35_code 114 = .ok (.ireturn, 1) := by decide +kernel
theorem d_MD_passes_0 : decode prog_9_method_36_code 0 = .ok (.aload_n 0, 1) := by decide +kernel
theorem d_MD_passes_1 : decode prog_9_method_36_code 1 = .ok (.aload_n 0, 1) := by decide +kernel
theorem d_MD_passes_2 : decode prog_9_method_36_code 2 = .ok (.iload_n 1, 1) := by decide +kernel
theorem d_MD_passes_3 : decode prog_9_method_36_code 3 = .ok (.invokevirtual 110, 3) := by decide +kernel
theorem d_MD_passes_6 : decode prog_9_method_36_code 6 = .ok (.ifCond .eq 19, 3) := by decide +kernel
theorem d_MD_passes_9 : decode prog_9_method_36_code 9 = .ok (.iload_n 2, 1) := by decide +kernel
theorem d_MD_passes_10 : decode prog_9_method_36_code 10 = .ok (.ifCond .lt 15, 3) := by decide +kernel
theorem d_MD_passes_13 : decode prog_9_method_36_code 13 = .ok (.iload_n 2, 1) := by decide +kernel
theorem d_MD_passes_14 : decode prog_9_method_36_code 14 = .ok (.aload_n 0, 1) := by decide +kernel
theorem d_MD_passes_15 : decode prog_9_method_36_code 15 = .ok (.getfield 170, 3) := by decide +kernel
theorem d_MD_passes_18 : decode prog_9_method_36_code 18 = .ok (.if_icmp .ge 7, 3) := by decide +kernel
theorem d_MD_passes_21 : decode prog_9_method_36_code 21 = .ok (.iconst 1, 1) := by decide +kernel
theorem d_MD_passes_22 : decode prog_9_method_36_code 22 = .ok (.goto 4, 3) := by decide +kernel
theorem d_MD_passes_25 : decode prog_9_method_36_code 25 = .ok (.iconst 0, 1) := by decide +kernel
theorem d_MD_passes_26 : decode prog_9_method_36_code 26 = .ok (.iconst 1, 1) := by decide +kernel
theorem d_MD_passes_27 : decode prog_9_method_36_code 27 = .ok (.iconst 1, 1) := by decide +kernel
theorem d_MD_passes_28 : decode prog_9_method_36_code 28 = .ok (.invokevirtual 102, 3) := by decide +kernel
theorem d_MD_passes_31 : decode prog_9_method_36_code 31 = .ok (.ifCond .eq 16, 3) := by decide +kernel
theorem d_MD_passes_34 : decode prog_9_method_36_code 34 = .ok (.aload_n 0, 1) := by decide +kernel
theorem d_MD_passes_35 : decode prog_9_method_36_code 35 = .ok (.iload_n 1, 1) := by decide +kernel
theorem d_MD_passes_36 : decode prog_9_method_36_code 36 = .ok (.iload_n 2, 1) := by decide +kernel
theorem d_MD_passes_37 : decode prog_9_method_36_code 37 = .ok (.invokevirtual 179, 3) := by decide +kernel
theorem d_MD_passes_40 : decode prog_9_method_36_code 40 = .ok (.ifCond .eq 7, 3) := by decide +kernel
theorem d_MD_passes_43 : decode prog_9_method_36_code 43 = .ok (.iconst 1, 1) := by decide +kernel
theorem d_MD_passes_44 : decode prog_9_method_36_code 44 = .ok (.goto 4, 3) := by decide +kernel
theorem d_MD_passes_47 : decode prog_9_method_36_code 47 = .ok (.iconst 0, 1) := by decide +kernel
theorem d_MD_passes_48 : decode prog_9_method_36_code 48 = .ok (.ireturn, 1) := by decide +kernel
theorem d_MD_way_0 : decode prog_9_method_37_code 0 = .ok (.aload_n 0, 1) := by decide +kernel
theorem d_MD_way_1 : decode prog_9_method_37_code 1 = .ok (.aload_n 0, 1) := by decide +kernel
theorem d_MD_way_2 : decode prog_9_method_37_code 2 = .ok (.iload_n 1, 1) := by decide +kernel
theorem d_MD_way_3 : decode prog_9_method_37_code 3 = .ok (.invokevirtual 110, 3) := by decide +kernel
theorem d_MD_way_6 : decode prog_9_method_37_code 6 = .ok (.ifCond .eq 15, 3) := by decide +kernel
theorem d_MD_way_9 : decode prog_9_method_37_code 9 = .ok (.aload_n 0, 1) := by decide +kernel
theorem d_MD_way_10 : decode prog_9_method_37_code 10 = .ok (.iload_n 2, 1) := by decide +kernel
theorem d_MD_way_11 : decode prog_9_method_37_code 11 = .ok (.invokevirtual 93, 3) := by decide +kernel
theorem d_MD_way_14 : decode prog_9_method_37_code 14 = .ok (.ifCond .eq 7, 3) := by decide +kernel
theorem d_MD_way_17 : decode prog_9_method_37_code 17 = .ok (.iconst 1, 1) := by decide +kernel
theorem d_MD_way_18 : decode prog_9_method_37_code 18 = .ok (.goto 4, 3) := by decide +kernel
theorem d_MD_way_21 : decode prog_9_method_37_code 21 = .ok (.iconst 0, 1) := by decide +kernel
theorem d_MD_way_22 : decode prog_9_method_37_code 22 = .ok (.iconst 1, 1) := by decide +kernel
theorem d_MD_way_23 : decode prog_9_method_37_code 23 = .ok (.iconst 1, 1) := by decide +kernel
theorem d_MD_way_24 : decode prog_9_method_37_code 24 = .ok (.invokevirtual 102, 3) := by decide +kernel
theorem d_MD_way_27 : decode prog_9_method_37_code 27 = .ok (.ifCond .ne 5, 3) := by decide +kernel
theorem d_MD_way_30 : decode prog_9_method_37_code 30 = .ok (.iconst 0, 1) := by decide +kernel
theorem d_MD_way_31 : decode prog_9_method_37_code 31 = .ok (.ireturn, 1) := by decide +kernel
theorem d_MD_way_32 : decode prog_9_method_37_code 32 = .ok (.aload_n 0, 1) := by decide +kernel
theorem d_MD_way_33 : decode prog_9_method_37_code 33 = .ok (.iload_n 1, 1) := by decide +kernel
theorem d_MD_way_34 : decode prog_9_method_37_code 34 = .ok (.aload_n 0, 1) := by decide +kernel
theorem d_MD_way_35 : decode prog_9_method_37_code 35 = .ok (.getfield 145, 3) := by decide +kernel
theorem d_MD_way_38 : decode prog_9_method_37_code 38 = .ok (.invokevirtual 130, 3) := by decide +kernel
theorem d_MD_way_41 : decode prog_9_method_37_code 41 = .ok (.istore_n 3, 1) := by decide +kernel
theorem d_MD_way_42 : decode prog_9_method_37_code 42 = .ok (.iconst 0, 1) := by decide +kernel
theorem d_MD_way_43 : decode prog_9_method_37_code 43 = .ok (.istore 4, 2) := by decide +kernel
theorem d_MD_way_45 : decode prog_9_method_37_code 45 = .ok (.iload 4, 2) := by decide +kernel
theorem d_MD_way_47 : decode prog_9_method_37_code 47 = .ok (.bipush 24, 2) := by decide +kernel
theorem d_MD_way_49 : decode prog_9_method_37_code 49 = .ok (.if_icmp .ge 28, 3) := by decide +kernel
theorem d_MD_way_52 : decode prog_9_method_37_code 52 = .ok (.aload_n 0, 1) := by decide +kernel
theorem d_MD_way_53 : decode prog_9_method_37_code 53 = .ok (.getfield 56, 3) := by decide +kernel
theorem d_MD_way_56 : decode prog_9_method_37_code 56 = .ok (.iload 4, 2) := by decide +kernel
theorem d_MD_way_58 : decode prog_9_method_37_code 58 = .ok (.iload 4, 2) := by decide +kernel
theorem d_MD_way_60 : decode prog_9_method_37_code 60 = .ok (.iload_n 3, 1) := by decide +kernel
theorem d_MD_way_61 : decode prog_9_method_37_code 61 = .ok (.if_icmp .ne 7, 3) := by decide +kernel
theorem d_MD_way_64 : decode prog_9_method_37_code 64 = .ok (.iconst 0, 1) := by decide +kernel
theorem d_MD_way_65 : decode prog_9_method_37_code 65 = .ok (.goto 5, 3) := by decide +kernel
theorem d_MD_way_68 : decode prog_9_method_37_code 68 = .ok (.bipush 99, 2) := by decide +kernel
theorem d_MD_way_70 : decode prog_9_method_37_code 70 = .ok (.iastore, 1) := by decide +kernel
theorem d_MD_way_71 : decode prog_9_method_37_code 71 = .ok (.iinc 4 1, 3) := by decide +kernel
theorem d_MD_way_74 : decode prog_9_method_37_code 74 = .ok (.goto (-29), 3) := by decide +kernel
theorem d_MD_way_77 : decode prog_9_method_37_code 77 = .ok (.iconst 0, 1) := by decide +kernel
theorem d_MD_way_78 : decode prog_9_method_37_code 78 = .ok (.istore 4, 2) := by decide +kernel
theorem d_MD_way_80 : decode prog_9_method_37_code 80 = .ok (.iload 4, 2) := by decide +kernel
theorem d_MD_way_82 : decode prog_9_method_37_code 82 = .ok (.bipush 24, 2) := by decide +kernel
theorem d_MD_way_84 : decode prog_9_method_37_code 84 = .ok (.if_icmp .ge 154, 3) := by decide +kernel
theorem d_MD_way_87 : decode prog_9_method_37_code 87 = .ok (.iconst 0, 1) := by decide +kernel
theorem d_MD_way_88 : decode prog_9_method_37_code 88 = .ok (.istore 5, 2) := by decide +kernel
theorem d_MD_way_90 : decode prog_9_method_37_code 90 = .ok (.iload 5, 2) := by decide +kernel
theorem d_MD_way_92 : decode prog_9_method_37_code 92 = .ok (.aload_n 0, 1) := by decide +kernel
theorem d_MD_way_93 : decode prog_9_method_37_code 93 = .ok (.getfield 170, 3) := by decide +kernel
theorem d_MD_way_96 : decode prog_9_method_37_code 96 = .ok (.if_icmp .ge 136, 3) := by decide +kernel
theorem d_MD_way_99 : decode prog_9_method_37_code 99 = .ok (.aload_n 0, 1) := by decide +kernel
theorem d_MD_way_100 : decode prog_9_method_37_code 100 = .ok (.iload_n 1, 1) := by decide +kernel
theorem d_MD_way_101 : decode prog_9_method_37_code 101 = .ok (.iload 5, 2) := by decide +kernel
theorem d_MD_way_103 : decode prog_9_method_37_code 103 = .ok (.invokevirtual 179, 3) := by decide +kernel
theorem d_MD_way_106 : decode prog_9_method_37_code 106 = .ok (.istore 6, 2) := by decide +kernel
theorem d_MD_way_108 : decode prog_9_method_37_code 108 = .ok (.aload_n 0, 1) := by decide +kernel
theorem d_MD_way_109 : decode prog_9_method_37_code 109 = .ok (.getfield 44, 3) := by decide +kernel
theorem d_MD_way_112 : decode prog_9_method_37_code 112 = .ok (.iload 5, 2) := by decide +kernel
theorem d_MD_way_114 : decode prog_9_method_37_code 114 = .ok (.iaload, 1) := by decide +kernel
theorem d_MD_way_115 : decode prog_9_method_37_code 115 = .ok (.istore 7, 2) := by decide +kernel
theorem d_MD_way_117 : decode prog_9_method_37_code 117 = .ok (.aload_n 0, 1) := by decide +kernel
theorem d_MD_way_118 : decode prog_9_method_37_code 118 = .ok (.getfield 47, 3) := by decide +kernel
theorem d_MD_way_121 : decode prog_9_method_37_code 121 = .ok (.iload 5, 2) := by decide +kernel
theorem d_MD_way_123 : decode prog_9_method_37_code 123 = .ok (.iaload, 1) := by decide +kernel
theorem d_MD_way_124 : decode prog_9_method_37_code 124 = .ok (.istore 8, 2) := by decide +kernel
theorem d_MD_way_126 : decode prog_9_method_37_code 126 = .ok (.aload_n 0, 1) := by decide +kernel
theorem d_MD_way_127 : decode prog_9_method_37_code 127 = .ok (.getfield 56, 3) := by decide +kernel
theorem d_MD_way_130 : decode prog_9_method_37_code 130 = .ok (.iload 8, 2) := by decide +kernel
theorem d_MD_way_132 : decode prog_9_method_37_code 132 = .ok (.iload 6, 2) := by decide +kernel
theorem d_MD_way_134 : decode prog_9_method_37_code 134 = .ok (.ifCond .eq 34, 3) := by decide +kernel
theorem d_MD_way_137 : decode prog_9_method_37_code 137 = .ok (.aload_n 0, 1) := by decide +kernel
theorem d_MD_way_138 : decode prog_9_method_37_code 138 = .ok (.getfield 56, 3) := by decide +kernel
theorem d_MD_way_141 : decode prog_9_method_37_code 141 = .ok (.iload 7, 2) := by decide +kernel
theorem d_MD_way_143 : decode prog_9_method_37_code 143 = .ok (.iaload, 1) := by decide +kernel
theorem d_MD_way_144 : decode prog_9_method_37_code 144 = .ok (.iconst 1, 1) := by decide +kernel
theorem d_MD_way_145 : decode prog_9_method_37_code 145 = .ok (.iadd, 1) := by decide +kernel
theorem d_MD_way_146 : decode prog_9_method_37_code 146 = .ok (.aload_n 0, 1) := by decide +kernel
theorem d_MD_way_147 : decode prog_9_method_37_code 147 = .ok (.getfield 56, 3) := by decide +kernel
theorem d_MD_way_150 : decode prog_9_method_37_code 150 = .ok (.iload 8, 2) := by decide +kernel
theorem d_MD_way_152 : decode prog_9_method_37_code 152 = .ok (.iaload, 1) := by decide +kernel
theorem d_MD_way_153 : decode prog_9_method_37_code 153 = .ok (.if_icmp .ge 15, 3) := by decide +kernel
theorem d_MD_way_156 : decode prog_9_method_37_code 156 = .ok (.aload_n 0, 1) := by decide +kernel
theorem d_MD_way_157 : decode prog_9_method_37_code 157 = .ok (.getfield 56, 3) := by decide +kernel
theorem d_MD_way_160 : decode prog_9_method_37_code 160 = .ok (.iload 7, 2) := by decide +kernel
theorem d_MD_way_162 : decode prog_9_method_37_code 162 = .ok (.iaload, 1) := by decide +kernel
theorem d_MD_way_163 : decode prog_9_method_37_code 163 = .ok (.iconst 1, 1) := by decide +kernel
theorem d_MD_way_164 : decode prog_9_method_37_code 164 = .ok (.iadd, 1) := by decide +kernel
theorem d_MD_way_165 : decode prog_9_method_37_code 165 = .ok (.goto 10, 3) := by decide +kernel
theorem d_MD_way_168 : decode prog_9_method_37_code 168 = .ok (.aload_n 0, 1) := by decide +kernel
theorem d_MD_way_169 : decode prog_9_method_37_code 169 = .ok (.getfield 56, 3) := by decide +kernel
theorem d_MD_way_172 : decode prog_9_method_37_code 172 = .ok (.iload 8, 2) := by decide +kernel
theorem d_MD_way_174 : decode prog_9_method_37_code 174 = .ok (.iaload, 1) := by decide +kernel
theorem d_MD_way_175 : decode prog_9_method_37_code 175 = .ok (.iastore, 1) := by decide +kernel
theorem d_MD_way_176 : decode prog_9_method_37_code 176 = .ok (.aload_n 0, 1) := by decide +kernel
theorem d_MD_way_177 : decode prog_9_method_37_code 177 = .ok (.getfield 56, 3) := by decide +kernel
theorem d_MD_way_180 : decode prog_9_method_37_code 180 = .ok (.iload 7, 2) := by decide +kernel
theorem d_MD_way_182 : decode prog_9_method_37_code 182 = .ok (.iload 6, 2) := by decide +kernel
theorem d_MD_way_184 : decode prog_9_method_37_code 184 = .ok (.ifCond .eq 34, 3) := by decide +kernel
theorem d_MD_way_187 : decode prog_9_method_37_code 187 = .ok (.aload_n 0, 1) := by decide +kernel
theorem d_MD_way_188 : decode prog_9_method_37_code 188 = .ok (.getfield 56, 3) := by decide +kernel
theorem d_MD_way_191 : decode prog_9_method_37_code 191 = .ok (.iload 8, 2) := by decide +kernel
theorem d_MD_way_193 : decode prog_9_method_37_code 193 = .ok (.iaload, 1) := by decide +kernel
theorem d_MD_way_194 : decode prog_9_method_37_code 194 = .ok (.iconst 1, 1) := by decide +kernel
theorem d_MD_way_195 : decode prog_9_method_37_code 195 = .ok (.iadd, 1) := by decide +kernel
theorem d_MD_way_196 : decode prog_9_method_37_code 196 = .ok (.aload_n 0, 1) := by decide +kernel
theorem d_MD_way_197 : decode prog_9_method_37_code 197 = .ok (.getfield 56, 3) := by decide +kernel
theorem d_MD_way_200 : decode prog_9_method_37_code 200 = .ok (.iload 7, 2) := by decide +kernel
theorem d_MD_way_202 : decode prog_9_method_37_code 202 = .ok (.iaload, 1) := by decide +kernel
theorem d_MD_way_203 : decode prog_9_method_37_code 203 = .ok (.if_icmp .ge 15, 3) := by decide +kernel
theorem d_MD_way_206 : decode prog_9_method_37_code 206 = .ok (.aload_n 0, 1) := by decide +kernel
theorem d_MD_way_207 : decode prog_9_method_37_code 207 = .ok (.getfield 56, 3) := by decide +kernel
theorem d_MD_way_210 : decode prog_9_method_37_code 210 = .ok (.iload 8, 2) := by decide +kernel
theorem d_MD_way_212 : decode prog_9_method_37_code 212 = .ok (.iaload, 1) := by decide +kernel
theorem d_MD_way_213 : decode prog_9_method_37_code 213 = .ok (.iconst 1, 1) := by decide +kernel
theorem d_MD_way_214 : decode prog_9_method_37_code 214 = .ok (.iadd, 1) := by decide +kernel
theorem d_MD_way_215 : decode prog_9_method_37_code 215 = .ok (.goto 10, 3) := by decide +kernel
theorem d_MD_way_218 : decode prog_9_method_37_code 218 = .ok (.aload_n 0, 1) := by decide +kernel
theorem d_MD_way_219 : decode prog_9_method_37_code 219 = .ok (.getfield 56, 3) := by decide +kernel
theorem d_MD_way_222 : decode prog_9_method_37_code 222 = .ok (.iload 7, 2) := by decide +kernel
theorem d_MD_way_224 : decode prog_9_method_37_code 224 = .ok (.iaload, 1) := by decide +kernel
theorem d_MD_way_225 : decode prog_9_method_37_code 225 = .ok (.iastore, 1) := by decide +kernel
theorem d_MD_way_226 : decode prog_9_method_37_code 226 = .ok (.iinc 5 1, 3) := by decide +kernel
theorem d_MD_way_229 : decode prog_9_method_37_code 229 = .ok (.goto (-139), 3) := by decide +kernel
theorem d_MD_way_232 : decode prog_9_method_37_code 232 = .ok (.iinc 4 1, 3) := by decide +kernel
theorem d_MD_way_235 : decode prog_9_method_37_code 235 = .ok (.goto (-155), 3) := by decide +kernel
theorem d_MD_way_238 : decode prog_9_method_37_code 238 = .ok (.iload_n 3, 1) := by decide +kernel
theorem d_MD_way_239 : decode prog_9_method_37_code 239 = .ok (.iconst (-1), 1) := by decide +kernel
theorem d_MD_way_240 : decode prog_9_method_37_code 240 = .ok (.if_icmp .eq 14, 3) := by decide +kernel
theorem d_MD_way_243 : decode prog_9_method_37_code 243 = .ok (.aload_n 0, 1) := by decide +kernel
theorem d_MD_way_244 : decode prog_9_method_37_code 244 = .ok (.getfield 56, 3) := by decide +kernel
theorem d_MD_way_247 : decode prog_9_method_37_code 247 = .ok (.iload_n 2, 1) := by decide +kernel
theorem d_MD_way_248 : decode prog_9_method_37_code 248 = .ok (.iaload, 1) := by decide +kernel
theorem d_MD_way_249 : decode prog_9_method_37_code 249 = .ok (.bipush 24, 2) := by decide +kernel
theorem d_MD_way_251 : decode prog_9_method_37_code 251 = .ok (.if_icmp .le 7, 3) := by decide +kernel
theorem d_MD_way_254 : decode prog_9_method_37_code 254 = .ok (.iconst (-1), 1) := by decide +kernel
theorem d_MD_way_255 : decode prog_9_method_37_code 255 = .ok (.goto 9, 3) := by decide +kernel
theorem d_MD_way_258 : decode prog_9_method_37_code 258 = .ok (.aload_n 0, 1) := by decide +kernel
theorem d_MD_way_259 : decode prog_9_method_37_code 259 = .ok (.getfield 56, 3) := by decide +kernel
theorem d_MD_way_262 : decode prog_9_method_37_code 262 = .ok (.iload_n 2, 1) := by decide +kernel
theorem d_MD_way_263 : decode prog_9_method_37_code 263 = .ok (.iaload, 1) := by decide +kernel
theorem d_MD_way_264 : decode prog_9_method_37_code 264 = .ok (.ireturn, 1) := by decide +kernel
theorem d_MD_planned_0 : decode prog_9_method_38_code 0 = .ok (.aload_n 0, 1) := by decide +kernel
theorem d_MD_planned_1 : decode prog_9_method_38_code 1 = .ok (.aload_n 0, 1) := by decide +kernel
theorem d_MD_planned_2 : decode prog_9_method_38_code 2 = .ok (.iload_n 1, 1) := by decide +kernel
theorem d_MD_planned_3 : decode prog_9_method_38_code 3 = .ok (.invokevirtual 110, 3) := by decide +kernel
theorem d_MD_planned_6 : decode prog_9_method_38_code 6 = .ok (.ifCond .eq 15, 3) := by decide +kernel
theorem d_MD_planned_9 : decode prog_9_method_38_code 9 = .ok (.aload_n 0, 1) := by decide +kernel
theorem d_MD_planned_10 : decode prog_9_method_38_code 10 = .ok (.iload_n 2, 1) := by decide +kernel
theorem d_MD_planned_11 : decode prog_9_method_38_code 11 = .ok (.invokevirtual 93, 3) := by decide +kernel
theorem d_MD_planned_14 : decode prog_9_method_38_code 14 = .ok (.ifCond .eq 7, 3) := by decide +kernel
theorem d_MD_planned_17 : decode prog_9_method_38_code 17 = .ok (.iconst 1, 1) := by decide +kernel
theorem d_MD_planned_18 : decode prog_9_method_38_code 18 = .ok (.goto 4, 3) := by decide +kernel
theorem d_MD_planned_21 : decode prog_9_method_38_code 21 = .ok (.iconst 0, 1) := by decide +kernel
theorem d_MD_planned_22 : decode prog_9_method_38_code 22 = .ok (.iload_n 3, 1) := by decide +kernel
theorem d_MD_planned_23 : decode prog_9_method_38_code 23 = .ok (.aload_n 0, 1) := by decide +kernel
theorem d_MD_planned_24 : decode prog_9_method_38_code 24 = .ok (.getfield 145, 3) := by decide +kernel
theorem d_MD_planned_27 : decode prog_9_method_38_code 27 = .ok (.if_icmp .lt 20, 3) := by decide +kernel
theorem d_MD_planned_30 : decode prog_9_method_38_code 30 = .ok (.iload 4, 2) := by decide +kernel
theorem d_MD_planned_32 : decode prog_9_method_38_code 32 = .ok (.iload_n 3, 1) := by decide +kernel
theorem d_MD_planned_33 : decode prog_9_method_38_code 33 = .ok (.if_icmp .lt 14, 3) := by decide +kernel
theorem d_MD_planned_36 : decode prog_9_method_38_code 36 = .ok (.iload 4, 2) := by decide +kernel
theorem d_MD_planned_38 : decode prog_9_method_38_code 38 = .ok (.ldc 109, 2) := by decide +kernel
theorem d_MD_planned_40 : decode prog_9_method_38_code 40 = .ok (.if_icmp .gt 7, 3) := by decide +kernel
theorem d_MD_planned_43 : decode prog_9_method_38_code 43 = .ok (.iconst 1, 1) := by decide +kernel
theorem d_MD_planned_44 : decode prog_9_method_38_code 44 = .ok (.goto 4, 3) := by decide +kernel
theorem d_MD_planned_47 : decode prog_9_method_38_code 47 = .ok (.iconst 0, 1) := by decide +kernel
theorem d_MD_planned_48 : decode prog_9_method_38_code 48 = .ok (.aload_n 0, 1) := by decide +kernel
theorem d_MD_planned_49 : decode prog_9_method_38_code 49 = .ok (.getfield 123, 3) := by decide +kernel
theorem d_MD_planned_52 : decode prog_9_method_38_code 52 = .ok (.bipush 30, 2) := by decide +kernel
theorem d_MD_planned_54 : decode prog_9_method_38_code 54 = .ok (.if_icmp .ge 7, 3) := by decide +kernel
theorem d_MD_planned_57 : decode prog_9_method_38_code 57 = .ok (.iconst 1, 1) := by decide +kernel
theorem d_MD_planned_58 : decode prog_9_method_38_code 58 = .ok (.goto 4, 3) := by decide +kernel
theorem d_MD_planned_61 : decode prog_9_method_38_code 61 = .ok (.iconst 0, 1) := by decide +kernel
theorem d_MD_planned_62 : decode prog_9_method_38_code 62 = .ok (.invokevirtual 102, 3) := by decide +kernel
theorem d_MD_planned_65 : decode prog_9_method_38_code 65 = .ok (.ifCond .ne 5, 3) := by decide +kernel
theorem d_MD_planned_68 : decode prog_9_method_38_code 68 = .ok (.iconst 0, 1) := by decide +kernel
theorem d_MD_planned_69 : decode prog_9_method_38_code 69 = .ok (.ireturn, 1) := by decide +kernel
theorem d_MD_planned_70 : decode prog_9_method_38_code 70 = .ok (.aload_n 0, 1) := by decide +kernel
theorem d_MD_planned_71 : decode prog_9_method_38_code 71 = .ok (.getfield 59, 3) := by decide +kernel
theorem d_MD_planned_74 : decode prog_9_method_38_code 74 = .ok (.aload_n 0, 1) := by decide +kernel
theorem d_MD_planned_75 : decode prog_9_method_38_code 75 = .ok (.getfield 123, 3) := by decide +kernel
theorem d_MD_planned_78 : decode prog_9_method_38_code 78 = .ok (.iload_n 1, 1) := by decide +kernel
theorem d_MD_planned_79 : decode prog_9_method_38_code 79 = .ok (.iastore, 1) := by decide +kernel
theorem d_MD_planned_80 : decode prog_9_method_38_code 80 = .ok (.aload_n 0, 1) := by decide +kernel
theorem d_MD_planned_81 : decode prog_9_method_38_code 81 = .ok (.getfield 62, 3) := by decide +kernel
theorem d_MD_planned_84 : decode prog_9_method_38_code 84 = .ok (.aload_n 0, 1) := by decide +kernel
theorem d_MD_planned_85 : decode prog_9_method_38_code 85 = .ok (.getfield 123, 3) := by decide +kernel
theorem d_MD_planned_88 : decode prog_9_method_38_code 88 = .ok (.iload_n 2, 1) := by decide +kernel
theorem d_MD_planned_89 : decode prog_9_method_38_code 89 = .ok (.iastore, 1) := by decide +kernel
theorem d_MD_planned_90 : decode prog_9_method_38_code 90 = .ok (.aload_n 0, 1) := by decide +kernel
theorem d_MD_planned_91 : decode prog_9_method_38_code 91 = .ok (.getfield 65, 3) := by decide +kernel
theorem d_MD_planned_94 : decode prog_9_method_38_code 94 = .ok (.aload_n 0, 1) := by decide +kernel
theorem d_MD_planned_95 : decode prog_9_method_38_code 95 = .ok (.getfield 123, 3) := by decide +kernel
theorem d_MD_planned_98 : decode prog_9_method_38_code 98 = .ok (.iload_n 3, 1) := by decide +kernel
theorem d_MD_planned_99 : decode prog_9_method_38_code 99 = .ok (.iastore, 1) := by decide +kernel
theorem d_MD_planned_100 : decode prog_9_method_38_code 100 = .ok (.aload_n 0, 1) := by decide +kernel
theorem d_MD_planned_101 : decode prog_9_method_38_code 101 = .ok (.getfield 68, 3) := by decide +kernel
theorem d_MD_planned_104 : decode prog_9_method_38_code 104 = .ok (.aload_n 0, 1) := by decide +kernel
theorem d_MD_planned_105 : decode prog_9_method_38_code 105 = .ok (.getfield 123, 3) := by decide +kernel
theorem d_MD_planned_108 : decode prog_9_method_38_code 108 = .ok (.iload 4, 2) := by decide +kernel
theorem d_MD_planned_110 : decode prog_9_method_38_code 110 = .ok (.iastore, 1) := by decide +kernel
theorem d_MD_planned_111 : decode prog_9_method_38_code 111 = .ok (.aload_n 0, 1) := by decide +kernel
theorem d_MD_planned_112 : decode prog_9_method_38_code 112 = .ok (.dup, 1) := by decide +kernel
theorem d_MD_planned_113 : decode prog_9_method_38_code 113 = .ok (.getfield 123, 3) := by decide +kernel
theorem d_MD_planned_116 : decode prog_9_method_38_code 116 = .ok (.iconst 1, 1) := by decide +kernel
theorem d_MD_planned_117 : decode prog_9_method_38_code 117 = .ok (.iadd, 1) := by decide +kernel
theorem d_MD_planned_118 : decode prog_9_method_38_code 118 = .ok (.putfield 123, 3) := by decide +kernel
theorem d_MD_planned_121 : decode prog_9_method_38_code 121 = .ok (.aload_n 0, 1) := by decide +kernel
theorem d_MD_planned_122 : decode prog_9_method_38_code 122 = .ok (.iload_n 2, 1) := by decide +kernel
theorem d_MD_planned_123 : decode prog_9_method_38_code 123 = .ok (.iload_n 3, 1) := by decide +kernel
theorem d_MD_planned_124 : decode prog_9_method_38_code 124 = .ok (.invokevirtual 139, 3) := by decide +kernel
theorem d_MD_planned_127 : decode prog_9_method_38_code 127 = .ok (.istore 5, 2) := by decide +kernel
theorem d_MD_planned_129 : decode prog_9_method_38_code 129 = .ok (.iconst 0, 1) := by decide +kernel
theorem d_MD_planned_130 : decode prog_9_method_38_code 130 = .ok (.istore 6, 2) := by decide +kernel
theorem d_MD_planned_132 : decode prog_9_method_38_code 132 = .ok (.iload 6, 2) := by decide +kernel
theorem d_MD_planned_134 : decode prog_9_method_38_code 134 = .ok (.aload_n 0, 1) := by decide +kernel
theorem d_MD_planned_135 : decode prog_9_method_38_code 135 = .ok (.getfield 123, 3) := by decide +kernel
theorem d_MD_planned_138 : decode prog_9_method_38_code 138 = .ok (.iconst 1, 1) := by decide +kernel
theorem d_MD_planned_139 : decode prog_9_method_38_code 139 = .ok (.isub, 1) := by decide +kernel
theorem d_MD_planned_140 : decode prog_9_method_38_code 140 = .ok (.if_icmp .ge 52, 3) := by decide +kernel
theorem d_MD_planned_143 : decode prog_9_method_38_code 143 = .ok (.iload 5, 2) := by decide +kernel
theorem d_MD_planned_145 : decode prog_9_method_38_code 145 = .ok (.ifCond .eq 38, 3) := by decide +kernel
theorem d_MD_planned_148 : decode prog_9_method_38_code 148 = .ok (.aload_n 0, 1) := by decide +kernel
theorem d_MD_planned_149 : decode prog_9_method_38_code 149 = .ok (.getfield 65, 3) := by decide +kernel
theorem d_MD_planned_152 : decode prog_9_method_38_code 152 = .ok (.iload 6, 2) := by decide +kernel
theorem d_MD_planned_154 : decode prog_9_method_38_code 154 = .ok (.iaload, 1) := by decide +kernel
theorem d_MD_planned_155 : decode prog_9_method_38_code 155 = .ok (.iload_n 3, 1) := by decide +kernel
theorem d_MD_planned_156 : decode prog_9_method_38_code 156 = .ok (.iload 4, 2) := by decide +kernel
theorem d_MD_planned_158 : decode prog_9_method_38_code 158 = .ok (.invokestatic 98, 3) := by decide +kernel
theorem d_MD_planned_161 : decode prog_9_method_38_code 161 = .ok (.ifCond .eq 18, 3) := by decide +kernel
theorem d_MD_planned_164 : decode prog_9_method_38_code 164 = .ok (.aload_n 0, 1) := by decide +kernel
theorem d_MD_planned_165 : decode prog_9_method_38_code 165 = .ok (.iload_n 2, 1) := by decide +kernel
theorem d_MD_planned_166 : decode prog_9_method_38_code 166 = .ok (.aload_n 0, 1) := by decide +kernel
theorem d_MD_planned_167 : decode prog_9_method_38_code 167 = .ok (.getfield 65, 3) := by decide +kernel
theorem d_MD_planned_170 : decode prog_9_method_38_code 170 = .ok (.iload 6, 2) := by decide +kernel
theorem d_MD_planned_172 : decode prog_9_method_38_code 172 = .ok (.iaload, 1) := by decide +kernel
theorem d_MD_planned_173 : decode prog_9_method_38_code 173 = .ok (.invokevirtual 139, 3) := by decide +kernel
theorem d_MD_planned_176 : decode prog_9_method_38_code 176 = .ok (.ifCond .eq 7, 3) := by decide +kernel
theorem d_MD_planned_179 : decode prog_9_method_38_code 179 = .ok (.iconst 1, 1) := by decide +kernel
theorem d_MD_planned_180 : decode prog_9_method_38_code 180 = .ok (.goto 4, 3) := by decide +kernel
theorem d_MD_planned_183 : decode prog_9_method_38_code 183 = .ok (.iconst 0, 1) := by decide +kernel
theorem d_MD_planned_184 : decode prog_9_method_38_code 184 = .ok (.istore 5, 2) := by decide +kernel
theorem d_MD_planned_186 : decode prog_9_method_38_code 186 = .ok (.iinc 6 1, 3) := by decide +kernel
theorem d_MD_planned_189 : decode prog_9_method_38_code 189 = .ok (.goto (-57), 3) := by decide +kernel
theorem d_MD_planned_192 : decode prog_9_method_38_code 192 = .ok (.aload_n 0, 1) := by decide +kernel
theorem d_MD_planned_193 : decode prog_9_method_38_code 193 = .ok (.iload 5, 2) := by decide +kernel
theorem d_MD_planned_195 : decode prog_9_method_38_code 195 = .ok (.ifCond .eq 10, 3) := by decide +kernel
theorem d_MD_planned_198 : decode prog_9_method_38_code 198 = .ok (.aload_n 0, 1) := by decide +kernel
theorem d_MD_planned_199 : decode prog_9_method_38_code 199 = .ok (.getfield 123, 3) := by decide +kernel
theorem d_MD_planned_202 : decode prog_9_method_38_code 202 = .ok (.goto 9, 3) := by decide +kernel
theorem d_MD_planned_205 : decode prog_9_method_38_code 205 = .ok (.aload_n 0, 1) := by decide +kernel
theorem d_MD_planned_206 : decode prog_9_method_38_code 206 = .ok (.getfield 123, 3) := by decide +kernel
theorem d_MD_planned_209 : decode prog_9_method_38_code 209 = .ok (.iconst 1, 1) := by decide +kernel
theorem d_MD_planned_210 : decode prog_9_method_38_code 210 = .ok (.isub, 1) := by decide +kernel
theorem d_MD_planned_211 : decode prog_9_method_38_code 211 = .ok (.putfield 123, 3) := by decide +kernel
theorem d_MD_planned_214 : decode prog_9_method_38_code 214 = .ok (.iload 5, 2) := by decide +kernel
theorem d_MD_planned_216 : decode prog_9_method_38_code 216 = .ok (.ifCond .eq 7, 3) := by decide +kernel
theorem d_MD_planned_219 : decode prog_9_method_38_code 219 = .ok (.iconst 0, 1) := by decide +kernel
theorem d_MD_planned_220 : decode prog_9_method_38_code 220 = .ok (.goto 4, 3) := by decide +kernel
theorem d_MD_planned_223 : decode prog_9_method_38_code 223 = .ok (.iconst 1, 1) := by decide +kernel
theorem d_MD_planned_224 : decode prog_9_method_38_code 224 = .ok (.ireturn, 1) := by decide +kernel
theorem d_MD_used_0 : decode prog_9_method_39_code 0 = .ok (.aload_n 0, 1) := by decide +kernel
theorem d_MD_used_1 : decode prog_9_method_39_code 1 = .ok (.aload_n 0, 1) := by decide +kernel
theorem d_MD_used_2 : decode prog_9_method_39_code 2 = .ok (.iload_n 1, 1) := by decide +kernel
theorem d_MD_used_3 : decode prog_9_method_39_code 3 = .ok (.invokevirtual 93, 3) := by decide +kernel
theorem d_MD_used_6 : decode prog_9_method_39_code 6 = .ok (.iconst 1, 1) := by decide +kernel
theorem d_MD_used_7 : decode prog_9_method_39_code 7 = .ok (.iconst 1, 1) := by decide +kernel
theorem d_MD_used_8 : decode prog_9_method_39_code 8 = .ok (.invokevirtual 102, 3) := by decide +kernel
theorem d_MD_used_11 : decode prog_9_method_39_code 11 = .ok (.ifCond .eq 12, 3) := by decide +kernel
theorem d_MD_used_14 : decode prog_9_method_39_code 14 = .ok (.aload_n 0, 1) := by decide +kernel
theorem d_MD_used_15 : decode prog_9_method_39_code 15 = .ok (.iload_n 1, 1) := by decide +kernel
theorem d_MD_used_16 : decode prog_9_method_39_code 16 = .ok (.iload_n 2, 1) := by decide +kernel
theorem d_MD_used_17 : decode prog_9_method_39_code 17 = .ok (.invokevirtual 136, 3) := by decide +kernel
theorem d_MD_used_20 : decode prog_9_method_39_code 20 = .ok (.goto 4, 3) := by decide +kernel
theorem d_MD_used_23 : decode prog_9_method_39_code 23 = .ok (.iconst 0, 1) := by decide +kernel
theorem d_MD_used_24 : decode prog_9_method_39_code 24 = .ok (.ireturn, 1) := by decide +kernel
theorem d_MD_quiet_0 : decode prog_9_method_40_code 0 = .ok (.aload_n 0, 1) := by decide +kernel
theorem d_MD_quiet_1 : decode prog_9_method_40_code 1 = .ok (.aload_n 0, 1) := by decide +kernel
theorem d_MD_quiet_2 : decode prog_9_method_40_code 2 = .ok (.iload_n 1, 1) := by decide +kernel
theorem d_MD_quiet_3 : decode prog_9_method_40_code 3 = .ok (.invokevirtual 93, 3) := by decide +kernel
theorem d_MD_quiet_6 : decode prog_9_method_40_code 6 = .ok (.iload_n 2, 1) := by decide +kernel
theorem d_MD_quiet_7 : decode prog_9_method_40_code 7 = .ok (.ifCond .lt 12, 3) := by decide +kernel
theorem d_MD_quiet_10 : decode prog_9_method_40_code 10 = .ok (.iload_n 3, 1) := by decide +kernel
theorem d_MD_quiet_11 : decode prog_9_method_40_code 11 = .ok (.iload_n 2, 1) := by decide +kernel
theorem d_MD_quiet_12 : decode prog_9_method_40_code 12 = .ok (.if_icmp .lt 7, 3) := by decide +kernel
theorem d_MD_quiet_15 : decode prog_9_method_40_code 15 = .ok (.iconst 1, 1) := by decide +kernel
theorem d_MD_quiet_16 : decode prog_9_method_40_code 16 = .ok (.goto 4, 3) := by decide +kernel
theorem d_MD_quiet_19 : decode prog_9_method_40_code 19 = .ok (.iconst 0, 1) := by decide +kernel
theorem d_MD_quiet_20 : decode prog_9_method_40_code 20 = .ok (.aload_n 0, 1) := by decide +kernel
theorem d_MD_quiet_21 : decode prog_9_method_40_code 21 = .ok (.getfield 142, 3) := by decide +kernel
theorem d_MD_quiet_24 : decode prog_9_method_40_code 24 = .ok (.bipush 20, 2) := by decide +kernel
theorem d_MD_quiet_26 : decode prog_9_method_40_code 26 = .ok (.if_icmp .ge 7, 3) := by decide +kernel
theorem d_MD_quiet_29 : decode prog_9_method_40_code 29 = .ok (.iconst 1, 1) := by decide +kernel
theorem d_MD_quiet_30 : decode prog_9_method_40_code 30 = .ok (.goto 4, 3) := by decide +kernel
theorem d_MD_quiet_33 : decode prog_9_method_40_code 33 = .ok (.iconst 0, 1) := by decide +kernel
theorem d_MD_quiet_34 : decode prog_9_method_40_code 34 = .ok (.invokevirtual 102, 3) := by decide +kernel
theorem d_MD_quiet_37 : decode prog_9_method_40_code 37 = .ok (.ifCond .eq 43, 3) := by decide +kernel
theorem d_MD_quiet_40 : decode prog_9_method_40_code 40 = .ok (.aload_n 0, 1) := by decide +kernel
theorem d_MD_quiet_41 : decode prog_9_method_40_code 41 = .ok (.getfield 71, 3) := by decide +kernel
theorem d_MD_quiet_44 : decode prog_9_method_40_code 44 = .ok (.aload_n 0, 1) := by decide +kernel
theorem d_MD_quiet_45 : decode prog_9_method_40_code 45 = .ok (.getfield 142, 3) := by decide +kernel
theorem d_MD_quiet_48 : decode prog_9_method_40_code 48 = .ok (.iload_n 1, 1) := by decide +kernel
theorem d_MD_quiet_49 : decode prog_9_method_40_code 49 = .ok (.iastore, 1) := by decide +kernel
theorem d_MD_quiet_50 : decode prog_9_method_40_code 50 = .ok (.aload_n 0, 1) := by decide +kernel
theorem d_MD_quiet_51 : decode prog_9_method_40_code 51 = .ok (.getfield 74, 3) := by decide +kernel
theorem d_MD_quiet_54 : decode prog_9_method_40_code 54 = .ok (.aload_n 0, 1) := by decide +kernel
theorem d_MD_quiet_55 : decode prog_9_method_40_code 55 = .ok (.getfield 142, 3) := by decide +kernel
theorem d_MD_quiet_58 : decode prog_9_method_40_code 58 = .ok (.iload_n 2, 1) := by decide +kernel
theorem d_MD_quiet_59 : decode prog_9_method_40_code 59 = .ok (.iastore, 1) := by decide +kernel
theorem d_MD_quiet_60 : decode prog_9_method_40_code 60 = .ok (.aload_n 0, 1) := by decide +kernel
theorem d_MD_quiet_61 : decode prog_9_method_40_code 61 = .ok (.getfield 77, 3) := by decide +kernel
theorem d_MD_quiet_64 : decode prog_9_method_40_code 64 = .ok (.aload_n 0, 1) := by decide +kernel
theorem d_MD_quiet_65 : decode prog_9_method_40_code 65 = .ok (.getfield 142, 3) := by decide +kernel
theorem d_MD_quiet_68 : decode prog_9_method_40_code 68 = .ok (.iload_n 3, 1) := by decide +kernel
theorem d_MD_quiet_69 : decode prog_9_method_40_code 69 = .ok (.iastore, 1) := by decide +kernel
theorem d_MD_quiet_70 : decode prog_9_method_40_code 70 = .ok (.aload_n 0, 1) := by decide +kernel
theorem d_MD_quiet_71 : decode prog_9_method_40_code 71 = .ok (.dup, 1) := by decide +kernel
theorem d_MD_quiet_72 : decode prog_9_method_40_code 72 = .ok (.getfield 142, 3) := by decide +kernel
theorem d_MD_quiet_75 : decode prog_9_method_40_code 75 = .ok (.iconst 1, 1) := by decide +kernel
theorem d_MD_quiet_76 : decode prog_9_method_40_code 76 = .ok (.iadd, 1) := by decide +kernel
theorem d_MD_quiet_77 : decode prog_9_method_40_code 77 = .ok (.putfield 142, 3) := by decide +kernel
theorem d_MD_quiet_80 : decode prog_9_method_40_code 80 = .ok (.return_, 1) := by decide +kernel
theorem d_MD_count_0 : decode prog_9_method_41_code 0 = .ok (.aload_n 0, 1) := by decide +kernel
theorem d_MD_count_1 : decode prog_9_method_41_code 1 = .ok (.iload_n 1, 1) := by decide +kernel
theorem d_MD_count_2 : decode prog_9_method_41_code 2 = .ok (.iconst 0, 1) := by decide +kernel
theorem d_MD_count_3 : decode prog_9_method_41_code 3 = .ok (.iconst 5, 1) := by decide +kernel
theorem d_MD_count_4 : decode prog_9_method_41_code 4 = .ok (.invokestatic 98, 3) := by decide +kernel
theorem d_MD_count_7 : decode prog_9_method_41_code 7 = .ok (.iconst 1, 1) := by decide +kernel
theorem d_MD_count_8 : decode prog_9_method_41_code 8 = .ok (.iconst 1, 1) := by decide +kernel
theorem d_MD_count_9 : decode prog_9_method_41_code 9 = .ok (.invokevirtual 102, 3) := by decide +kernel
theorem d_MD_count_12 : decode prog_9_method_41_code 12 = .ok (.ifCond .ne 5, 3) := by decide +kernel
theorem d_MD_count_15 : decode prog_9_method_41_code 15 = .ok (.iconst 0, 1) := by decide +kernel
theorem d_MD_count_16 : decode prog_9_method_41_code 16 = .ok (.ireturn, 1) := by decide +kernel
theorem d_MD_count_17 : decode prog_9_method_41_code 17 = .ok (.iconst 0, 1) := by decide +kernel
theorem d_MD_count_18 : decode prog_9_method_41_code 18 = .ok (.istore_n 2, 1) := by decide +kernel
theorem d_MD_count_19 : decode prog_9_method_41_code 19 = .ok (.iconst 0, 1) := by decide +kernel
theorem d_MD_count_20 : decode prog_9_method_41_code 20 = .ok (.istore_n 3, 1) := by decide +kernel
theorem d_MD_count_21 : decode prog_9_method_41_code 21 = .ok (.iload_n 3, 1) := by decide +kernel
theorem d_MD_count_22 : decode prog_9_method_41_code 22 = .ok (.aload_n 0, 1) := by decide +kernel
theorem d_MD_count_23 : decode prog_9_method_41_code 23 = .ok (.getfield 90, 3) := by decide +kernel
theorem d_MD_count_26 : decode prog_9_method_41_code 26 = .ok (.if_icmp .ge 18, 3) := by decide +kernel
theorem d_MD_count_29 : decode prog_9_method_41_code 29 = .ok (.iload_n 2, 1) := by decide +kernel
theorem d_MD_count_30 : decode prog_9_method_41_code 30 = .ok (.aload_n 0, 1) := by decide +kernel
theorem d_MD_count_31 : decode prog_9_method_41_code 31 = .ok (.getfield 32, 3) := by decide +kernel
theorem d_MD_count_34 : decode prog_9_method_41_code 34 = .ok (.iload_n 3, 1) := by decide +kernel
theorem d_MD_count_35 : decode prog_9_method_41_code 35 = .ok (.iaload, 1) := by decide +kernel
theorem d_MD_count_36 : decode prog_9_method_41_code 36 = .ok (.iadd, 1) := by decide +kernel
theorem d_MD_count_37 : decode prog_9_method_41_code 37 = .ok (.istore_n 2, 1) := by decide +kernel
theorem d_MD_count_38 : decode prog_9_method_41_code 38 = .ok (.iinc 3 1, 3) := by decide +kernel
theorem d_MD_count_41 : decode prog_9_method_41_code 41 = .ok (.goto (-20), 3) := by decide +kernel
theorem d_MD_count_44 : decode prog_9_method_41_code 44 = .ok (.iload_n 1, 1) := by decide +kernel
theorem d_MD_count_45 : decode prog_9_method_41_code 45 = .ok (.tableswitch 60 0 4 #[35, 40, 45, 50, 55], 35) := by decide +kernel
theorem d_MD_count_80 : decode prog_9_method_41_code 80 = .ok (.aload_n 0, 1) := by decide +kernel
theorem d_MD_count_81 : decode prog_9_method_41_code 81 = .ok (.getfield 87, 3) := by decide +kernel
theorem d_MD_count_84 : decode prog_9_method_41_code 84 = .ok (.ireturn, 1) := by decide +kernel
theorem d_MD_count_85 : decode prog_9_method_41_code 85 = .ok (.aload_n 0, 1) := by decide +kernel
theorem d_MD_count_86 : decode prog_9_method_41_code 86 = .ok (.getfield 90, 3) := by decide +kernel
theorem d_MD_count_89 : decode prog_9_method_41_code 89 = .ok (.ireturn, 1) := by decide +kernel
theorem d_MD_count_90 : decode prog_9_method_41_code 90 = .ok (.aload_n 0, 1) := by decide +kernel
theorem d_MD_count_91 : decode prog_9_method_41_code 91 = .ok (.getfield 170, 3) := by decide +kernel
theorem d_MD_count_94 : decode prog_9_method_41_code 94 = .ok (.ireturn, 1) := by decide +kernel
theorem d_MD_count_95 : decode prog_9_method_41_code 95 = .ok (.aload_n 0, 1) := by decide +kernel
theorem d_MD_count_96 : decode prog_9_method_41_code 96 = .ok (.getfield 123, 3) := by decide +kernel
theorem d_MD_count_99 : decode prog_9_method_41_code 99 = .ok (.ireturn, 1) := by decide +kernel
theorem d_MD_count_100 : decode prog_9_method_41_code 100 = .ok (.aload_n 0, 1) := by decide +kernel
theorem d_MD_count_101 : decode prog_9_method_41_code 101 = .ok (.getfield 145, 3) := by decide +kernel
theorem d_MD_count_104 : decode prog_9_method_41_code 104 = .ok (.ireturn, 1) := by decide +kernel
theorem d_MD_count_105 : decode prog_9_method_41_code 105 = .ok (.iload_n 2, 1) := by decide +kernel
theorem d_MD_count_106 : decode prog_9_method_41_code 106 = .ok (.ireturn, 1) := by decide +kernel

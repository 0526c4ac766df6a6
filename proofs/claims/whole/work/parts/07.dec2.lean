theorem d_R_init_0 : decode prog_1_method_1_code 0 = .ok (.aload_n 0, 1) := by decide +kernel
theorem d_R_init_1 : decode prog_1_method_1_code 1 = .ok (.invokespecial 1, 3) := by decide +kernel
theorem d_R_init_4 : decode prog_1_method_1_code 4 = .ok (.aload_n 0, 1) := by decide +kernel
theorem d_R_init_5 : decode prog_1_method_1_code 5 = .ok (.iconst 1, 1) := by decide +kernel
theorem d_R_init_6 : decode prog_1_method_1_code 6 = .ok (.iconst 4, 1) := by decide +kernel
theorem d_R_init_7 : decode prog_1_method_1_code 7 = .ok (.iload_n 1, 1) := by decide +kernel
theorem d_R_init_8 : decode prog_1_method_1_code 8 = .ok (.invokestatic 9, 3) := by decide +kernel
theorem d_R_init_11 : decode prog_1_method_1_code 11 = .ok (.invokestatic 15, 3) := by decide +kernel
theorem d_R_init_14 : decode prog_1_method_1_code 14 = .ok (.putfield 18, 3) := by decide +kernel
theorem d_R_init_17 : decode prog_1_method_1_code 17 = .ok (.aload_n 0, 1) := by decide +kernel
theorem d_R_init_18 : decode prog_1_method_1_code 18 = .ok (.new 22, 3) := by decide +kernel
theorem d_R_init_21 : decode prog_1_method_1_code 21 = .ok (.dup, 1) := by decide +kernel
theorem d_R_init_22 : decode prog_1_method_1_code 22 = .ok (.aload_n 0, 1) := by decide +kernel
theorem d_R_init_23 : decode prog_1_method_1_code 23 = .ok (.getfield 18, 3) := by decide +kernel
theorem d_R_init_26 : decode prog_1_method_1_code 26 = .ok (.invokespecial 24, 3) := by decide +kernel
theorem d_R_init_29 : decode prog_1_method_1_code 29 = .ok (.putfield 27, 3) := by decide +kernel
theorem d_R_init_32 : decode prog_1_method_1_code 32 = .ok (.aload_n 0, 1) := by decide +kernel
theorem d_R_init_33 : decode prog_1_method_1_code 33 = .ok (.new 31, 3) := by decide +kernel
theorem d_R_init_36 : decode prog_1_method_1_code 36 = .ok (.dup, 1) := by decide +kernel
theorem d_R_init_37 : decode prog_1_method_1_code 37 = .ok (.aload_n 0, 1) := by decide +kernel
theorem d_R_init_38 : decode prog_1_method_1_code 38 = .ok (.getfield 18, 3) := by decide +kernel
theorem d_R_init_41 : decode prog_1_method_1_code 41 = .ok (.invokespecial 33, 3) := by decide +kernel
theorem d_R_init_44 : decode prog_1_method_1_code 44 = .ok (.putfield 34, 3) := by decide +kernel
theorem d_R_init_47 : decode prog_1_method_1_code 47 = .ok (.aload_n 0, 1) := by decide +kernel
theorem d_R_init_48 : decode prog_1_method_1_code 48 = .ok (.new 31, 3) := by decide +kernel
theorem d_R_init_51 : decode prog_1_method_1_code 51 = .ok (.dup, 1) := by decide +kernel
theorem d_R_init_52 : decode prog_1_method_1_code 52 = .ok (.aload_n 0, 1) := by decide +kernel
theorem d_R_init_53 : decode prog_1_method_1_code 53 = .ok (.getfield 18, 3) := by decide +kernel
theorem d_R_init_56 : decode prog_1_method_1_code 56 = .ok (.invokespecial 33, 3) := by decide +kernel
theorem d_R_init_59 : decode prog_1_method_1_code 59 = .ok (.putfield 38, 3) := by decide +kernel
theorem d_R_init_62 : decode prog_1_method_1_code 62 = .ok (.aload_n 0, 1) := by decide +kernel
theorem d_R_init_63 : decode prog_1_method_1_code 63 = .ok (.new 31, 3) := by decide +kernel
theorem d_R_init_66 : decode prog_1_method_1_code 66 = .ok (.dup, 1) := by decide +kernel
theorem d_R_init_67 : decode prog_1_method_1_code 67 = .ok (.aload_n 0, 1) := by decide +kernel
theorem d_R_init_68 : decode prog_1_method_1_code 68 = .ok (.getfield 18, 3) := by decide +kernel
theorem d_R_init_71 : decode prog_1_method_1_code 71 = .ok (.invokespecial 33, 3) := by decide +kernel
theorem d_R_init_74 : decode prog_1_method_1_code 74 = .ok (.putfield 41, 3) := by decide +kernel
theorem d_R_init_77 : decode prog_1_method_1_code 77 = .ok (.aload_n 0, 1) := by decide +kernel
theorem d_R_init_78 : decode prog_1_method_1_code 78 = .ok (.new 31, 3) := by decide +kernel
theorem d_R_init_81 : decode prog_1_method_1_code 81 = .ok (.dup, 1) := by decide +kernel
theorem d_R_init_82 : decode prog_1_method_1_code 82 = .ok (.aload_n 0, 1) := by decide +kernel
theorem d_R_init_83 : decode prog_1_method_1_code 83 = .ok (.getfield 18, 3) := by decide +kernel
theorem d_R_init_86 : decode prog_1_method_1_code 86 = .ok (.invokespecial 33, 3) := by decide +kernel
theorem d_R_init_89 : decode prog_1_method_1_code 89 = .ok (.putfield 44, 3) := by decide +kernel
theorem d_R_init_92 : decode prog_1_method_1_code 92 = .ok (.aload_n 0, 1) := by decide +kernel
theorem d_R_init_93 : decode prog_1_method_1_code 93 = .ok (.iconst 4, 1) := by decide +kernel
theorem d_R_init_94 : decode prog_1_method_1_code 94 = .ok (.anewarray 47, 3) := by decide +kernel
theorem d_R_init_97 : decode prog_1_method_1_code 97 = .ok (.putfield 49, 3) := by decide +kernel
theorem d_R_init_100 : decode prog_1_method_1_code 100 = .ok (.iconst 0, 1) := by decide +kernel
theorem d_R_init_101 : decode prog_1_method_1_code 101 = .ok (.istore_n 2, 1) := by decide +kernel
theorem d_R_init_102 : decode prog_1_method_1_code 102 = .ok (.iload_n 2, 1) := by decide +kernel
theorem d_R_init_103 : decode prog_1_method_1_code 103 = .ok (.iconst 4, 1) := by decide +kernel
theorem d_R_init_104 : decode prog_1_method_1_code 104 = .ok (.if_icmp .ge 22, 3) := by decide +kernel
theorem d_R_init_107 : decode prog_1_method_1_code 107 = .ok (.aload_n 0, 1) := by decide +kernel
theorem d_R_init_108 : decode prog_1_method_1_code 108 = .ok (.getfield 49, 3) := by decide +kernel
theorem d_R_init_111 : decode prog_1_method_1_code 111 = .ok (.iload_n 2, 1) := by decide +kernel
theorem d_R_init_112 : decode prog_1_method_1_code 112 = .ok (.new 47, 3) := by decide +kernel
theorem d_R_init_115 : decode prog_1_method_1_code 115 = .ok (.dup, 1) := by decide +kernel
theorem d_R_init_116 : decode prog_1_method_1_code 116 = .ok (.invokespecial 53, 3) := by decide +kernel
theorem d_R_init_119 : decode prog_1_method_1_code 119 = .ok (.aastore, 1) := by decide +kernel
theorem d_R_init_120 : decode prog_1_method_1_code 120 = .ok (.iinc 2 1, 3) := by decide +kernel
theorem d_R_init_123 : decode prog_1_method_1_code 123 = .ok (.goto (-21), 3) := by decide +kernel
theorem d_R_init_126 : decode prog_1_method_1_code 126 = .ok (.aload_n 0, 1) := by decide +kernel
theorem d_R_init_127 : decode prog_1_method_1_code 127 = .ok (.new 54, 3) := by decide +kernel
theorem d_R_init_130 : decode prog_1_method_1_code 130 = .ok (.dup, 1) := by decide +kernel
theorem d_R_init_131 : decode prog_1_method_1_code 131 = .ok (.invokespecial 56, 3) := by decide +kernel
theorem d_R_init_134 : decode prog_1_method_1_code 134 = .ok (.putfield 57, 3) := by decide +kernel
theorem d_R_init_137 : decode prog_1_method_1_code 137 = .ok (.aload_n 0, 1) := by decide +kernel
theorem d_R_init_138 : decode prog_1_method_1_code 138 = .ok (.bipush 16, 2) := by decide +kernel
theorem d_R_init_140 : decode prog_1_method_1_code 140 = .ok (.putfield 61, 3) := by decide +kernel
theorem d_R_init_143 : decode prog_1_method_1_code 143 = .ok (.return_, 1) := by decide +kernel
theorem d_R_body_0 : decode prog_1_method_2_code 0 = .ok (.aload_n 0, 1) := by decide +kernel
theorem d_R_body_1 : decode prog_1_method_2_code 1 = .ok (.iload_n 1, 1) := by decide +kernel
theorem d_R_body_2 : decode prog_1_method_2_code 2 = .ok (.invokevirtual 64, 3) := by decide +kernel
theorem d_R_body_5 : decode prog_1_method_2_code 5 = .ok (.ifCond .eq 17, 3) := by decide +kernel
theorem d_R_body_8 : decode prog_1_method_2_code 8 = .ok (.iload_n 2, 1) := by decide +kernel
theorem d_R_body_9 : decode prog_1_method_2_code 9 = .ok (.invokestatic 68, 3) := by decide +kernel
theorem d_R_body_12 : decode prog_1_method_2_code 12 = .ok (.ifCond .eq 10, 3) := by decide +kernel
theorem d_R_body_15 : decode prog_1_method_2_code 15 = .ok (.iload_n 3, 1) := by decide +kernel
theorem d_R_body_16 : decode prog_1_method_2_code 16 = .ok (.invokestatic 68, 3) := by decide +kernel
theorem d_R_body_19 : decode prog_1_method_2_code 19 = .ok (.ifCond .ne 5, 3) := by decide +kernel
theorem d_R_body_22 : decode prog_1_method_2_code 22 = .ok (.iconst (-1), 1) := by decide +kernel
theorem d_R_body_23 : decode prog_1_method_2_code 23 = .ok (.ireturn, 1) := by decide +kernel
theorem d_R_body_24 : decode prog_1_method_2_code 24 = .ok (.aload_n 0, 1) := by decide +kernel
theorem d_R_body_25 : decode prog_1_method_2_code 25 = .ok (.getfield 27, 3) := by decide +kernel
theorem d_R_body_28 : decode prog_1_method_2_code 28 = .ok (.getfield 71, 3) := by decide +kernel
theorem d_R_body_31 : decode prog_1_method_2_code 31 = .ok (.iload_n 1, 1) := by decide +kernel
theorem d_R_body_32 : decode prog_1_method_2_code 32 = .ok (.iload_n 2, 1) := by decide +kernel
theorem d_R_body_33 : decode prog_1_method_2_code 33 = .ok (.iastore, 1) := by decide +kernel
theorem d_R_body_34 : decode prog_1_method_2_code 34 = .ok (.aload_n 0, 1) := by decide +kernel
theorem d_R_body_35 : decode prog_1_method_2_code 35 = .ok (.getfield 27, 3) := by decide +kernel
theorem d_R_body_38 : decode prog_1_method_2_code 38 = .ok (.getfield 75, 3) := by decide +kernel
theorem d_R_body_41 : decode prog_1_method_2_code 41 = .ok (.iload_n 1, 1) := by decide +kernel
theorem d_R_body_42 : decode prog_1_method_2_code 42 = .ok (.iload_n 3, 1) := by decide +kernel
theorem d_R_body_43 : decode prog_1_method_2_code 43 = .ok (.iastore, 1) := by decide +kernel
theorem d_R_body_44 : decode prog_1_method_2_code 44 = .ok (.iconst 0, 1) := by decide +kernel
theorem d_R_body_45 : decode prog_1_method_2_code 45 = .ok (.ireturn, 1) := by decide +kernel
theorem d_R_isBody_0 : decode prog_1_method_15_code 0 = .ok (.iload_n 1, 1) := by decide +kernel
theorem d_R_isBody_1 : decode prog_1_method_15_code 1 = .ok (.ifCond .lt 15, 3) := by decide +kernel
theorem d_R_isBody_4 : decode prog_1_method_15_code 4 = .ok (.iload_n 1, 1) := by decide +kernel
theorem d_R_isBody_5 : decode prog_1_method_15_code 5 = .ok (.aload_n 0, 1) := by decide +kernel
theorem d_R_isBody_6 : decode prog_1_method_15_code 6 = .ok (.getfield 18, 3) := by decide +kernel
theorem d_R_isBody_9 : decode prog_1_method_15_code 9 = .ok (.if_icmp .ge 7, 3) := by decide +kernel
theorem d_R_isBody_12 : decode prog_1_method_15_code 12 = .ok (.iconst 1, 1) := by decide +kernel
theorem d_R_isBody_13 : decode prog_1_method_15_code 13 = .ok (.goto 4, 3) := by decide +kernel
theorem d_R_isBody_16 : decode prog_1_method_15_code 16 = .ok (.iconst 0, 1) := by decide +kernel
theorem d_R_isBody_17 : decode prog_1_method_15_code 17 = .ok (.ireturn, 1) := by decide +kernel
theorem d_R_isSixteenths_0 : decode prog_1_method_16_code 0 = .ok (.iload_n 0, 1) := by decide +kernel
theorem d_R_isSixteenths_1 : decode prog_1_method_16_code 1 = .ok (.ifCond .lt 13, 3) := by decide +kernel
theorem d_R_isSixteenths_4 : decode prog_1_method_16_code 4 = .ok (.iload_n 0, 1) := by decide +kernel
theorem d_R_isSixteenths_5 : decode prog_1_method_16_code 5 = .ok (.bipush 64, 2) := by decide +kernel
theorem d_R_isSixteenths_7 : decode prog_1_method_16_code 7 = .ok (.if_icmp .gt 7, 3) := by decide +kernel
theorem d_R_isSixteenths_10 : decode prog_1_method_16_code 10 = .ok (.iconst 1, 1) := by decide +kernel
theorem d_R_isSixteenths_11 : decode prog_1_method_16_code 11 = .ok (.goto 4, 3) := by decide +kernel
theorem d_R_isSixteenths_14 : decode prog_1_method_16_code 14 = .ok (.iconst 0, 1) := by decide +kernel
theorem d_R_isSixteenths_15 : decode prog_1_method_16_code 15 = .ok (.ireturn, 1) := by decide +kernel
theorem d_R_link_0 : decode prog_1_method_3_code 0 = .ok (.aload_n 0, 1) := by decide +kernel
theorem d_R_link_1 : decode prog_1_method_3_code 1 = .ok (.iload_n 1, 1) := by decide +kernel
theorem d_R_link_2 : decode prog_1_method_3_code 2 = .ok (.invokevirtual 64, 3) := by decide +kernel
theorem d_R_link_5 : decode prog_1_method_3_code 5 = .ok (.ifCond .eq 20, 3) := by decide +kernel
theorem d_R_link_8 : decode prog_1_method_3_code 8 = .ok (.iload_n 1, 1) := by decide +kernel
theorem d_R_link_9 : decode prog_1_method_3_code 9 = .ok (.aload_n 0, 1) := by decide +kernel
theorem d_R_link_10 : decode prog_1_method_3_code 10 = .ok (.getfield 18, 3) := by decide +kernel
theorem d_R_link_13 : decode prog_1_method_3_code 13 = .ok (.iconst 1, 1) := by decide +kernel
theorem d_R_link_14 : decode prog_1_method_3_code 14 = .ok (.isub, 1) := by decide +kernel
theorem d_R_link_15 : decode prog_1_method_3_code 15 = .ok (.if_icmp .eq 10, 3) := by decide +kernel
theorem d_R_link_18 : decode prog_1_method_3_code 18 = .ok (.iload_n 2, 1) := by decide +kernel
theorem d_R_link_19 : decode prog_1_method_3_code 19 = .ok (.invokestatic 68, 3) := by decide +kernel
theorem d_R_link_22 : decode prog_1_method_3_code 22 = .ok (.ifCond .ne 5, 3) := by decide +kernel
theorem d_R_link_25 : decode prog_1_method_3_code 25 = .ok (.iconst (-1), 1) := by decide +kernel
theorem d_R_link_26 : decode prog_1_method_3_code 26 = .ok (.ireturn, 1) := by decide +kernel
theorem d_R_link_27 : decode prog_1_method_3_code 27 = .ok (.aload_n 0, 1) := by decide +kernel
theorem d_R_link_28 : decode prog_1_method_3_code 28 = .ok (.getfield 27, 3) := by decide +kernel
theorem d_R_link_31 : decode prog_1_method_3_code 31 = .ok (.getfield 78, 3) := by decide +kernel
theorem d_R_link_34 : decode prog_1_method_3_code 34 = .ok (.iload_n 1, 1) := by decide +kernel
theorem d_R_link_35 : decode prog_1_method_3_code 35 = .ok (.iload_n 2, 1) := by decide +kernel
theorem d_R_link_36 : decode prog_1_method_3_code 36 = .ok (.iastore, 1) := by decide +kernel
theorem d_R_link_37 : decode prog_1_method_3_code 37 = .ok (.iconst 0, 1) := by decide +kernel
theorem d_R_link_38 : decode prog_1_method_3_code 38 = .ok (.ireturn, 1) := by decide +kernel
theorem d_R_set_0 : decode prog_1_method_4_code 0 = .ok (.aload_n 0, 1) := by decide +kernel
theorem d_R_set_1 : decode prog_1_method_4_code 1 = .ok (.iload_n 1, 1) := by decide +kernel
theorem d_R_set_2 : decode prog_1_method_4_code 2 = .ok (.invokevirtual 64, 3) := by decide +kernel
theorem d_R_set_5 : decode prog_1_method_4_code 5 = .ok (.ifCond .eq 17, 3) := by decide +kernel
theorem d_R_set_8 : decode prog_1_method_4_code 8 = .ok (.iload_n 2, 1) := by decide +kernel
theorem d_R_set_9 : decode prog_1_method_4_code 9 = .ok (.invokestatic 81, 3) := by decide +kernel
theorem d_R_set_12 : decode prog_1_method_4_code 12 = .ok (.ifCond .eq 10, 3) := by decide +kernel
theorem d_R_set_15 : decode prog_1_method_4_code 15 = .ok (.iload_n 3, 1) := by decide +kernel
theorem d_R_set_16 : decode prog_1_method_4_code 16 = .ok (.invokestatic 81, 3) := by decide +kernel
theorem d_R_set_19 : decode prog_1_method_4_code 19 = .ok (.ifCond .ne 5, 3) := by decide +kernel
theorem d_R_set_22 : decode prog_1_method_4_code 22 = .ok (.iconst (-1), 1) := by decide +kernel
theorem d_R_set_23 : decode prog_1_method_4_code 23 = .ok (.ireturn, 1) := by decide +kernel
theorem d_R_set_24 : decode prog_1_method_4_code 24 = .ok (.aload_n 0, 1) := by decide +kernel
theorem d_R_set_25 : decode prog_1_method_4_code 25 = .ok (.getfield 34, 3) := by decide +kernel
theorem d_R_set_28 : decode prog_1_method_4_code 28 = .ok (.getfield 84, 3) := by decide +kernel
theorem d_R_set_31 : decode prog_1_method_4_code 31 = .ok (.iload_n 1, 1) := by decide +kernel
theorem d_R_set_32 : decode prog_1_method_4_code 32 = .ok (.iload_n 2, 1) := by decide +kernel
theorem d_R_set_33 : decode prog_1_method_4_code 33 = .ok (.i2l, 1) := by decide +kernel
theorem d_R_set_34 : decode prog_1_method_4_code 34 = .ok (.lastore, 1) := by decide +kernel
theorem d_R_set_35 : decode prog_1_method_4_code 35 = .ok (.aload_n 0, 1) := by decide +kernel
theorem d_R_set_36 : decode prog_1_method_4_code 36 = .ok (.getfield 34, 3) := by decide +kernel
theorem d_R_set_39 : decode prog_1_method_4_code 39 = .ok (.getfield 88, 3) := by decide +kernel
theorem d_R_set_42 : decode prog_1_method_4_code 42 = .ok (.iload_n 1, 1) := by decide +kernel
theorem d_R_set_43 : decode prog_1_method_4_code 43 = .ok (.iload_n 3, 1) := by decide +kernel
theorem d_R_set_44 : decode prog_1_method_4_code 44 = .ok (.i2l, 1) := by decide +kernel
theorem d_R_set_45 : decode prog_1_method_4_code 45 = .ok (.lastore, 1) := by decide +kernel
theorem d_R_set_46 : decode prog_1_method_4_code 46 = .ok (.iconst 0, 1) := by decide +kernel
theorem d_R_set_47 : decode prog_1_method_4_code 47 = .ok (.ireturn, 1) := by decide +kernel
theorem d_R_isUnits_0 : decode prog_1_method_17_code 0 = .ok (.iload_n 0, 1) := by decide +kernel
theorem d_R_isUnits_1 : decode prog_1_method_17_code 1 = .ok (.ldc 173, 2) := by decide +kernel
theorem d_R_isUnits_3 : decode prog_1_method_17_code 3 = .ok (.if_icmp .lt 13, 3) := by decide +kernel
theorem d_R_isUnits_6 : decode prog_1_method_17_code 6 = .ok (.iload_n 0, 1) := by decide +kernel
theorem d_R_isUnits_7 : decode prog_1_method_17_code 7 = .ok (.ldc 174, 2) := by decide +kernel
theorem d_R_isUnits_9 : decode prog_1_method_17_code 9 = .ok (.if_icmp .gt 7, 3) := by decide +kernel
theorem d_R_isUnits_12 : decode prog_1_method_17_code 12 = .ok (.iconst 1, 1) := by decide +kernel
theorem d_R_isUnits_13 : decode prog_1_method_17_code 13 = .ok (.goto 4, 3) := by decide +kernel
theorem d_R_isUnits_16 : decode prog_1_method_17_code 16 = .ok (.iconst 0, 1) := by decide +kernel
theorem d_R_isUnits_17 : decode prog_1_method_17_code 17 = .ok (.ireturn, 1) := by decide +kernel
theorem d_R_force_0 : decode prog_1_method_5_code 0 = .ok (.aload_n 0, 1) := by decide +kernel
theorem d_R_force_1 : decode prog_1_method_5_code 1 = .ok (.iload_n 1, 1) := by decide +kernel
theorem d_R_force_2 : decode prog_1_method_5_code 2 = .ok (.invokevirtual 64, 3) := by decide +kernel
theorem d_R_force_5 : decode prog_1_method_5_code 5 = .ok (.ifCond .eq 10, 3) := by decide +kernel
theorem d_R_force_8 : decode prog_1_method_5_code 8 = .ok (.iload_n 2, 1) := by decide +kernel
theorem d_R_force_9 : decode prog_1_method_5_code 9 = .ok (.invokestatic 81, 3) := by decide +kernel
theorem d_R_force_12 : decode prog_1_method_5_code 12 = .ok (.ifCond .ne 5, 3) := by decide +kernel
theorem d_R_force_15 : decode prog_1_method_5_code 15 = .ok (.iconst (-1), 1) := by decide +kernel
theorem d_R_force_16 : decode prog_1_method_5_code 16 = .ok (.ireturn, 1) := by decide +kernel
theorem d_R_force_17 : decode prog_1_method_5_code 17 = .ok (.aload_n 0, 1) := by decide +kernel
theorem d_R_force_18 : decode prog_1_method_5_code 18 = .ok (.getfield 27, 3) := by decide +kernel
theorem d_R_force_21 : decode prog_1_method_5_code 21 = .ok (.getfield 91, 3) := by decide +kernel
theorem d_R_force_24 : decode prog_1_method_5_code 24 = .ok (.iload_n 1, 1) := by decide +kernel
theorem d_R_force_25 : decode prog_1_method_5_code 25 = .ok (.iload_n 2, 1) := by decide +kernel
theorem d_R_force_26 : decode prog_1_method_5_code 26 = .ok (.iastore, 1) := by decide +kernel
theorem d_R_force_27 : decode prog_1_method_5_code 27 = .ok (.iconst 0, 1) := by decide +kernel
theorem d_R_force_28 : decode prog_1_method_5_code 28 = .ok (.ireturn, 1) := by decide +kernel
theorem d_R_tolerance_0 : decode prog_1_method_6_code 0 = .ok (.iload_n 1, 1) := by decide +kernel
theorem d_R_tolerance_1 : decode prog_1_method_6_code 1 = .ok (.ifCond .lt 9, 3) := by decide +kernel
theorem d_R_tolerance_4 : decode prog_1_method_6_code 4 = .ok (.iload_n 1, 1) := by decide +kernel
theorem d_R_tolerance_5 : decode prog_1_method_6_code 5 = .ok (.ldc 94, 2) := by decide +kernel
theorem d_R_tolerance_7 : decode prog_1_method_6_code 7 = .ok (.if_icmp .le 5, 3) := by decide +kernel
theorem d_R_tolerance_10 : decode prog_1_method_6_code 10 = .ok (.iconst (-1), 1) := by decide +kernel
theorem d_R_tolerance_11 : decode prog_1_method_6_code 11 = .ok (.ireturn, 1) := by decide +kernel
theorem d_R_tolerance_12 : decode prog_1_method_6_code 12 = .ok (.aload_n 0, 1) := by decide +kernel
theorem d_R_tolerance_13 : decode prog_1_method_6_code 13 = .ok (.iload_n 1, 1) := by decide +kernel
theorem d_R_tolerance_14 : decode prog_1_method_6_code 14 = .ok (.putfield 61, 3) := by decide +kernel
theorem d_R_tolerance_17 : decode prog_1_method_6_code 17 = .ok (.iconst 0, 1) := by decide +kernel
theorem d_R_tolerance_18 : decode prog_1_method_6_code 18 = .ok (.ireturn, 1) := by decide +kernel
theorem d_R_watch_0 : decode prog_1_method_7_code 0 = .ok (.iload_n 1, 1) := by decide +kernel
theorem d_R_watch_1 : decode prog_1_method_7_code 1 = .ok (.ifCond .lt 23, 3) := by decide +kernel
theorem d_R_watch_4 : decode prog_1_method_7_code 4 = .ok (.iload_n 1, 1) := by decide +kernel
theorem d_R_watch_5 : decode prog_1_method_7_code 5 = .ok (.iconst 4, 1) := by decide +kernel
theorem d_R_watch_6 : decode prog_1_method_7_code 6 = .ok (.if_icmp .ge 18, 3) := by decide +kernel
theorem d_R_watch_9 : decode prog_1_method_7_code 9 = .ok (.aload_n 0, 1) := by decide +kernel
theorem d_R_watch_10 : decode prog_1_method_7_code 10 = .ok (.iload_n 2, 1) := by decide +kernel
theorem d_R_watch_11 : decode prog_1_method_7_code 11 = .ok (.invokevirtual 64, 3) := by decide +kernel
theorem d_R_watch_14 : decode prog_1_method_7_code 14 = .ok (.ifCond .eq 10, 3) := by decide +kernel
theorem d_R_watch_17 : decode prog_1_method_7_code 17 = .ok (.iload_n 3, 1) := by decide +kernel
theorem d_R_watch_18 : decode prog_1_method_7_code 18 = .ok (.invokestatic 81, 3) := by decide +kernel
theorem d_R_watch_21 : decode prog_1_method_7_code 21 = .ok (.ifCond .ne 5, 3) := by decide +kernel
theorem d_R_watch_24 : decode prog_1_method_7_code 24 = .ok (.iconst (-1), 1) := by decide +kernel
theorem d_R_watch_25 : decode prog_1_method_7_code 25 = .ok (.ireturn, 1) := by decide +kernel
theorem d_R_watch_26 : decode prog_1_method_7_code 26 = .ok (.iload 5, 2) := by decide +kernel
theorem d_R_watch_28 : decode prog_1_method_7_code 28 = .ok (.iconst (-1), 1) := by decide +kernel
theorem d_R_watch_29 : decode prog_1_method_7_code 29 = .ok (.if_icmp .lt 9, 3) := by decide +kernel
theorem d_R_watch_32 : decode prog_1_method_7_code 32 = .ok (.iload 5, 2) := by decide +kernel
theorem d_R_watch_34 : decode prog_1_method_7_code 34 = .ok (.iconst 2, 1) := by decide +kernel
theorem d_R_watch_35 : decode prog_1_method_7_code 35 = .ok (.if_icmp .le 5, 3) := by decide +kernel
theorem d_R_watch_38 : decode prog_1_method_7_code 38 = .ok (.iconst (-1), 1) := by decide +kernel
theorem d_R_watch_39 : decode prog_1_method_7_code 39 = .ok (.ireturn, 1) := by decide +kernel
theorem d_R_watch_40 : decode prog_1_method_7_code 40 = .ok (.aload_n 0, 1) := by decide +kernel
theorem d_R_watch_41 : decode prog_1_method_7_code 41 = .ok (.getfield 49, 3) := by decide +kernel
theorem d_R_watch_44 : decode prog_1_method_7_code 44 = .ok (.iload_n 1, 1) := by decide +kernel
theorem d_R_watch_45 : decode prog_1_method_7_code 45 = .ok (.aaload, 1) := by decide +kernel
theorem d_R_watch_46 : decode prog_1_method_7_code 46 = .ok (.astore 6, 2) := by decide +kernel
theorem d_R_watch_48 : decode prog_1_method_7_code 48 = .ok (.aload 6, 2) := by decide +kernel
theorem d_R_watch_50 : decode prog_1_method_7_code 50 = .ok (.iload_n 2, 1) := by decide +kernel
theorem d_R_watch_51 : decode prog_1_method_7_code 51 = .ok (.putfield 95, 3) := by decide +kernel
theorem d_R_watch_54 : decode prog_1_method_7_code 54 = .ok (.aload 6, 2) := by decide +kernel
theorem d_R_watch_56 : decode prog_1_method_7_code 56 = .ok (.iload_n 3, 1) := by decide +kernel
theorem d_R_watch_57 : decode prog_1_method_7_code 57 = .ok (.i2l, 1) := by decide +kernel
theorem d_R_watch_58 : decode prog_1_method_7_code 58 = .ok (.putfield 98, 3) := by decide +kernel
theorem d_R_watch_61 : decode prog_1_method_7_code 61 = .ok (.aload 6, 2) := by decide +kernel
theorem d_R_watch_63 : decode prog_1_method_7_code 63 = .ok (.iload 4, 2) := by decide +kernel
theorem d_R_watch_65 : decode prog_1_method_7_code 65 = .ok (.putfield 102, 3) := by decide +kernel
theorem d_R_watch_68 : decode prog_1_method_7_code 68 = .ok (.aload 6, 2) := by decide +kernel
theorem d_R_watch_70 : decode prog_1_method_7_code 70 = .ok (.iload 5, 2) := by decide +kernel
theorem d_R_watch_72 : decode prog_1_method_7_code 72 = .ok (.putfield 106, 3) := by decide +kernel
theorem d_R_watch_75 : decode prog_1_method_7_code 75 = .ok (.iconst 0, 1) := by decide +kernel
theorem d_R_watch_76 : decode prog_1_method_7_code 76 = .ok (.ireturn, 1) := by decide +kernel
theorem d_R_advance_0 : decode prog_1_method_8_code 0 = .ok (.iload_n 1, 1) := by decide +kernel
theorem d_R_advance_1 : decode prog_1_method_8_code 1 = .ok (.iconst 1, 1) := by decide +kernel
theorem d_R_advance_2 : decode prog_1_method_8_code 2 = .ok (.if_icmp .lt 10, 3) := by decide +kernel
theorem d_R_advance_5 : decode prog_1_method_8_code 5 = .ok (.iload_n 1, 1) := by decide +kernel
theorem d_R_advance_6 : decode prog_1_method_8_code 6 = .ok (.sipush 2048, 3) := by decide +kernel
theorem d_R_advance_9 : decode prog_1_method_8_code 9 = .ok (.if_icmp .le 5, 3) := by decide +kernel
theorem d_R_advance_12 : decode prog_1_method_8_code 12 = .ok (.iconst (-1), 1) := by decide +kernel
theorem d_R_advance_13 : decode prog_1_method_8_code 13 = .ok (.ireturn, 1) := by decide +kernel
theorem d_R_advance_14 : decode prog_1_method_8_code 14 = .ok (.iconst 0, 1) := by decide +kernel
theorem d_R_advance_15 : decode prog_1_method_8_code 15 = .ok (.istore_n 2, 1) := by decide +kernel
theorem d_R_advance_16 : decode prog_1_method_8_code 16 = .ok (.iconst 0, 1) := by decide +kernel
theorem d_R_advance_17 : decode prog_1_method_8_code 17 = .ok (.istore_n 3, 1) := by decide +kernel
theorem d_R_advance_18 : decode prog_1_method_8_code 18 = .ok (.iconst 0, 1) := by decide +kernel
theorem d_R_advance_19 : decode prog_1_method_8_code 19 = .ok (.istore 4, 2) := by decide +kernel
theorem d_R_advance_21 : decode prog_1_method_8_code 21 = .ok (.iload 4, 2) := by decide +kernel
theorem d_R_advance_23 : decode prog_1_method_8_code 23 = .ok (.iload_n 1, 1) := by decide +kernel
theorem d_R_advance_24 : decode prog_1_method_8_code 24 = .ok (.if_icmp .ge 72, 3) := by decide +kernel
theorem d_R_advance_27 : decode prog_1_method_8_code 27 = .ok (.iload_n 2, 1) := by decide +kernel
theorem d_R_advance_28 : decode prog_1_method_8_code 28 = .ok (.iload_n 1, 1) := by decide +kernel
theorem d_R_advance_29 : decode prog_1_method_8_code 29 = .ok (.if_icmp .ge 67, 3) := by decide +kernel
theorem d_R_advance_32 : decode prog_1_method_8_code 32 = .ok (.iload_n 3, 1) := by decide +kernel
theorem d_R_advance_33 : decode prog_1_method_8_code 33 = .ok (.ifCond .ne 63, 3) := by decide +kernel
theorem d_R_advance_36 : decode prog_1_method_8_code 36 = .ok (.aload_n 0, 1) := by decide +kernel
theorem d_R_advance_37 : decode prog_1_method_8_code 37 = .ok (.iload_n 1, 1) := by decide +kernel
theorem d_R_advance_38 : decode prog_1_method_8_code 38 = .ok (.iload_n 2, 1) := by decide +kernel
theorem d_R_advance_39 : decode prog_1_method_8_code 39 = .ok (.isub, 1) := by decide +kernel
theorem d_R_advance_40 : decode prog_1_method_8_code 40 = .ok (.invokevirtual 109, 3) := by decide +kernel
theorem d_R_advance_43 : decode prog_1_method_8_code 43 = .ok (.aload_n 0, 1) := by decide +kernel
theorem d_R_advance_44 : decode prog_1_method_8_code 44 = .ok (.invokevirtual 112, 3) := by decide +kernel
theorem d_R_advance_47 : decode prog_1_method_8_code 47 = .ok (.lstore 5, 2) := by decide +kernel
theorem d_R_advance_49 : decode prog_1_method_8_code 49 = .ok (.lload 5, 2) := by decide +kernel
theorem d_R_advance_51 : decode prog_1_method_8_code 51 = .ok (.ldc2_w 116, 3) := by decide +kernel
theorem d_R_advance_54 : decode prog_1_method_8_code 54 = .ok (.lcmp, 1) := by decide +kernel
theorem d_R_advance_55 : decode prog_1_method_8_code 55 = .ok (.ifCond .ne 6, 3) := by decide +kernel
theorem d_R_advance_58 : decode prog_1_method_8_code 58 = .ok (.bipush (-2), 2) := by decide +kernel
theorem d_R_advance_60 : decode prog_1_method_8_code 60 = .ok (.ireturn, 1) := by decide +kernel
theorem d_R_advance_61 : decode prog_1_method_8_code 61 = .ok (.aload_n 0, 1) := by decide +kernel
theorem d_R_advance_62 : decode prog_1_method_8_code 62 = .ok (.getfield 118, 3) := by decide +kernel
theorem d_R_advance_65 : decode prog_1_method_8_code 65 = .ok (.invokestatic 121, 3) := by decide +kernel
theorem d_R_advance_68 : decode prog_1_method_8_code 68 = .ok (.istore 7, 2) := by decide +kernel
theorem d_R_advance_70 : decode prog_1_method_8_code 70 = .ok (.aload_n 0, 1) := by decide +kernel
theorem d_R_advance_71 : decode prog_1_method_8_code 71 = .ok (.iload 7, 2) := by decide +kernel
theorem d_R_advance_73 : decode prog_1_method_8_code 73 = .ok (.lload 5, 2) := by decide +kernel
theorem d_R_advance_75 : decode prog_1_method_8_code 75 = .ok (.invokevirtual 125, 3) := by decide +kernel
theorem d_R_advance_78 : decode prog_1_method_8_code 78 = .ok (.aload_n 0, 1) := by decide +kernel
theorem d_R_advance_79 : decode prog_1_method_8_code 79 = .ok (.iload 7, 2) := by decide +kernel
theorem d_R_advance_81 : decode prog_1_method_8_code 81 = .ok (.invokevirtual 129, 3) := by decide +kernel
theorem d_R_advance_84 : decode prog_1_method_8_code 84 = .ok (.istore_n 3, 1) := by decide +kernel
theorem d_R_advance_85 : decode prog_1_method_8_code 85 = .ok (.iload_n 2, 1) := by decide +kernel
theorem d_R_advance_86 : decode prog_1_method_8_code 86 = .ok (.iload 7, 2) := by decide +kernel
theorem d_R_advance_88 : decode prog_1_method_8_code 88 = .ok (.iadd, 1) := by decide +kernel
theorem d_R_advance_89 : decode prog_1_method_8_code 89 = .ok (.istore_n 2, 1) := by decide +kernel
theorem d_R_advance_90 : decode prog_1_method_8_code 90 = .ok (.iinc 4 1, 3) := by decide +kernel
theorem d_R_advance_93 : decode prog_1_method_8_code 93 = .ok (.goto (-72), 3) := by decide +kernel
theorem d_R_advance_96 : decode prog_1_method_8_code 96 = .ok (.iload_n 2, 1) := by decide +kernel
theorem d_R_advance_97 : decode prog_1_method_8_code 97 = .ok (.ireturn, 1) := by decide +kernel
theorem d_R_fitFineness_0 : decode prog_1_method_20_code 0 = .ok (.aload_n 0, 1) := by decide +kernel
theorem d_R_fitFineness_1 : decode prog_1_method_20_code 1 = .ok (.getfield 118, 3) := by decide +kernel
theorem d_R_fitFineness_4 : decode prog_1_method_20_code 4 = .ok (.bipush 8, 2) := by decide +kernel
theorem d_R_fitFineness_6 : decode prog_1_method_20_code 6 = .ok (.if_icmp .ge 31, 3) := by decide +kernel
theorem d_R_fitFineness_9 : decode prog_1_method_20_code 9 = .ok (.aload_n 0, 1) := by decide +kernel
theorem d_R_fitFineness_10 : decode prog_1_method_20_code 10 = .ok (.aload_n 0, 1) := by decide +kernel
theorem d_R_fitFineness_11 : decode prog_1_method_20_code 11 = .ok (.getfield 118, 3) := by decide +kernel
theorem d_R_fitFineness_14 : decode prog_1_method_20_code 14 = .ok (.invokestatic 121, 3) := by decide +kernel
theorem d_R_fitFineness_17 : decode prog_1_method_20_code 17 = .ok (.iload_n 1, 1) := by decide +kernel
theorem d_R_fitFineness_18 : decode prog_1_method_20_code 18 = .ok (.invokevirtual 179, 3) := by decide +kernel
theorem d_R_fitFineness_21 : decode prog_1_method_20_code 21 = .ok (.ifCond .ne 16, 3) := by decide +kernel
theorem d_R_fitFineness_24 : decode prog_1_method_20_code 24 = .ok (.aload_n 0, 1) := by decide +kernel
theorem d_R_fitFineness_25 : decode prog_1_method_20_code 25 = .ok (.dup, 1) := by decide +kernel
theorem d_R_fitFineness_26 : decode prog_1_method_20_code 26 = .ok (.getfield 118, 3) := by decide +kernel
theorem d_R_fitFineness_29 : decode prog_1_method_20_code 29 = .ok (.iconst 1, 1) := by decide +kernel
theorem d_R_fitFineness_30 : decode prog_1_method_20_code 30 = .ok (.iadd, 1) := by decide +kernel
theorem d_R_fitFineness_31 : decode prog_1_method_20_code 31 = .ok (.putfield 118, 3) := by decide +kernel
theorem d_R_fitFineness_34 : decode prog_1_method_20_code 34 = .ok (.goto (-34), 3) := by decide +kernel
theorem d_R_fitFineness_37 : decode prog_1_method_20_code 37 = .ok (.return_, 1) := by decide +kernel
theorem d_R_ticksOf_0 : decode prog_1_method_19_code 0 = .ok (.sipush 256, 3) := by decide +kernel
theorem d_R_ticksOf_3 : decode prog_1_method_19_code 3 = .ok (.iload_n 0, 1) := by decide +kernel
theorem d_R_ticksOf_4 : decode prog_1_method_19_code 4 = .ok (.ishr, 1) := by decide +kernel
theorem d_R_ticksOf_5 : decode prog_1_method_19_code 5 = .ok (.ireturn, 1) := by decide +kernel
theorem d_R_fits_0 : decode prog_1_method_21_code 0 = .ok (.iload_n 1, 1) := by decide +kernel
theorem d_R_fits_1 : decode prog_1_method_21_code 1 = .ok (.iload_n 2, 1) := by decide +kernel
theorem d_R_fits_2 : decode prog_1_method_21_code 2 = .ok (.if_icmp .gt 18, 3) := by decide +kernel
theorem d_R_fits_5 : decode prog_1_method_21_code 5 = .ok (.aload_n 0, 1) := by decide +kernel
theorem d_R_fits_6 : decode prog_1_method_21_code 6 = .ok (.getfield 157, 3) := by decide +kernel
theorem d_R_fits_9 : decode prog_1_method_21_code 9 = .ok (.iload_n 1, 1) := by decide +kernel
theorem d_R_fits_10 : decode prog_1_method_21_code 10 = .ok (.iconst 1, 1) := by decide +kernel
theorem d_R_fits_11 : decode prog_1_method_21_code 11 = .ok (.isub, 1) := by decide +kernel
theorem d_R_fits_12 : decode prog_1_method_21_code 12 = .ok (.iand, 1) := by decide +kernel
theorem d_R_fits_13 : decode prog_1_method_21_code 13 = .ok (.ifCond .ne 7, 3) := by decide +kernel
theorem d_R_fits_16 : decode prog_1_method_21_code 16 = .ok (.iconst 1, 1) := by decide +kernel
theorem d_R_fits_17 : decode prog_1_method_21_code 17 = .ok (.goto 4, 3) := by decide +kernel
theorem d_R_fits_20 : decode prog_1_method_21_code 20 = .ok (.iconst 0, 1) := by decide +kernel
theorem d_R_fits_21 : decode prog_1_method_21_code 21 = .ok (.ireturn, 1) := by decide +kernel
theorem d_R_tryUntilGood_0 : decode prog_1_method_22_code 0 = .ok (.aload_n 0, 1) := by decide +kernel
theorem d_R_tryUntilGood_1 : decode prog_1_method_22_code 1 = .ok (.invokevirtual 183, 3) := by decide +kernel
theorem d_R_tryUntilGood_4 : decode prog_1_method_22_code 4 = .ok (.lstore_n 1, 1) := by decide +kernel
theorem d_R_tryUntilGood_5 : decode prog_1_method_22_code 5 = .ok (.lload_n 1, 1) := by decide +kernel
theorem d_R_tryUntilGood_6 : decode prog_1_method_22_code 6 = .ok (.aload_n 0, 1) := by decide +kernel
theorem d_R_tryUntilGood_7 : decode prog_1_method_22_code 7 = .ok (.getfield 61, 3) := by decide +kernel
theorem d_R_tryUntilGood_10 : decode prog_1_method_22_code 10 = .ok (.i2l, 1) := by decide +kernel
theorem d_R_tryUntilGood_11 : decode prog_1_method_22_code 11 = .ok (.lcmp, 1) := by decide +kernel
theorem d_R_tryUntilGood_12 : decode prog_1_method_22_code 12 = .ok (.ifCond .le 40, 3) := by decide +kernel
theorem d_R_tryUntilGood_15 : decode prog_1_method_22_code 15 = .ok (.aload_n 0, 1) := by decide +kernel
theorem d_R_tryUntilGood_16 : decode prog_1_method_22_code 16 = .ok (.getfield 118, 3) := by decide +kernel
theorem d_R_tryUntilGood_19 : decode prog_1_method_22_code 19 = .ok (.bipush 8, 2) := by decide +kernel
theorem d_R_tryUntilGood_21 : decode prog_1_method_22_code 21 = .ok (.if_icmp .ge 31, 3) := by decide +kernel
theorem d_R_tryUntilGood_24 : decode prog_1_method_22_code 24 = .ok (.aload_n 0, 1) := by decide +kernel
theorem d_R_tryUntilGood_25 : decode prog_1_method_22_code 25 = .ok (.dup, 1) := by decide +kernel
theorem d_R_tryUntilGood_26 : decode prog_1_method_22_code 26 = .ok (.getfield 118, 3) := by decide +kernel
theorem d_R_tryUntilGood_29 : decode prog_1_method_22_code 29 = .ok (.iconst 1, 1) := by decide +kernel
theorem d_R_tryUntilGood_30 : decode prog_1_method_22_code 30 = .ok (.iadd, 1) := by decide +kernel
theorem d_R_tryUntilGood_31 : decode prog_1_method_22_code 31 = .ok (.putfield 118, 3) := by decide +kernel
theorem d_R_tryUntilGood_34 : decode prog_1_method_22_code 34 = .ok (.aload_n 0, 1) := by decide +kernel
theorem d_R_tryUntilGood_35 : decode prog_1_method_22_code 35 = .ok (.dup, 1) := by decide +kernel
theorem d_R_tryUntilGood_36 : decode prog_1_method_22_code 36 = .ok (.getfield 163, 3) := by decide +kernel
theorem d_R_tryUntilGood_39 : decode prog_1_method_22_code 39 = .ok (.iconst 1, 1) := by decide +kernel
theorem d_R_tryUntilGood_40 : decode prog_1_method_22_code 40 = .ok (.iadd, 1) := by decide +kernel
theorem d_R_tryUntilGood_41 : decode prog_1_method_22_code 41 = .ok (.putfield 163, 3) := by decide +kernel
theorem d_R_tryUntilGood_44 : decode prog_1_method_22_code 44 = .ok (.aload_n 0, 1) := by decide +kernel
theorem d_R_tryUntilGood_45 : decode prog_1_method_22_code 45 = .ok (.invokevirtual 183, 3) := by decide +kernel
theorem d_R_tryUntilGood_48 : decode prog_1_method_22_code 48 = .ok (.lstore_n 1, 1) := by decide +kernel
theorem d_R_tryUntilGood_49 : decode prog_1_method_22_code 49 = .ok (.goto (-44), 3) := by decide +kernel
theorem d_R_tryUntilGood_52 : decode prog_1_method_22_code 52 = .ok (.lload_n 1, 1) := by decide +kernel
theorem d_R_tryUntilGood_53 : decode prog_1_method_22_code 53 = .ok (.lreturn, 1) := by decide +kernel
theorem d_R_errorOfTry_0 : decode prog_1_method_23_code 0 = .ok (.aload_n 0, 1) := by decide +kernel
theorem d_R_errorOfTry_1 : decode prog_1_method_23_code 1 = .ok (.getfield 41, 3) := by decide +kernel
theorem d_R_errorOfTry_4 : decode prog_1_method_23_code 4 = .ok (.aload_n 0, 1) := by decide +kernel
theorem d_R_errorOfTry_5 : decode prog_1_method_23_code 5 = .ok (.getfield 34, 3) := by decide +kernel
theorem d_R_errorOfTry_8 : decode prog_1_method_23_code 8 = .ok (.invokevirtual 186, 3) := by decide +kernel
theorem d_R_errorOfTry_11 : decode prog_1_method_23_code 11 = .ok (.aload_n 0, 1) := by decide +kernel
theorem d_R_errorOfTry_12 : decode prog_1_method_23_code 12 = .ok (.getfield 44, 3) := by decide +kernel
theorem d_R_errorOfTry_15 : decode prog_1_method_23_code 15 = .ok (.aload_n 0, 1) := by decide +kernel
theorem d_R_errorOfTry_16 : decode prog_1_method_23_code 16 = .ok (.getfield 34, 3) := by decide +kernel
theorem d_R_errorOfTry_19 : decode prog_1_method_23_code 19 = .ok (.invokevirtual 186, 3) := by decide +kernel
theorem d_R_errorOfTry_22 : decode prog_1_method_23_code 22 = .ok (.aload_n 0, 1) := by decide +kernel
theorem d_R_errorOfTry_23 : decode prog_1_method_23_code 23 = .ok (.getfield 27, 3) := by decide +kernel
theorem d_R_errorOfTry_26 : decode prog_1_method_23_code 26 = .ok (.aload_n 0, 1) := by decide +kernel
theorem d_R_errorOfTry_27 : decode prog_1_method_23_code 27 = .ok (.getfield 41, 3) := by decide +kernel
theorem d_R_errorOfTry_30 : decode prog_1_method_23_code 30 = .ok (.aload_n 0, 1) := by decide +kernel
theorem d_R_errorOfTry_31 : decode prog_1_method_23_code 31 = .ok (.getfield 118, 3) := by decide +kernel
theorem d_R_errorOfTry_34 : decode prog_1_method_23_code 34 = .ok (.invokevirtual 190, 3) := by decide +kernel
theorem d_R_errorOfTry_37 : decode prog_1_method_23_code 37 = .ok (.ifCond .eq 47, 3) := by decide +kernel
theorem d_R_errorOfTry_40 : decode prog_1_method_23_code 40 = .ok (.aload_n 0, 1) := by decide +kernel
theorem d_R_errorOfTry_41 : decode prog_1_method_23_code 41 = .ok (.getfield 27, 3) := by decide +kernel
theorem d_R_errorOfTry_44 : decode prog_1_method_23_code 44 = .ok (.aload_n 0, 1) := by decide +kernel
theorem d_R_errorOfTry_45 : decode prog_1_method_23_code 45 = .ok (.getfield 44, 3) := by decide +kernel
theorem d_R_errorOfTry_48 : decode prog_1_method_23_code 48 = .ok (.aload_n 0, 1) := by decide +kernel
theorem d_R_errorOfTry_49 : decode prog_1_method_23_code 49 = .ok (.getfield 118, 3) := by decide +kernel
theorem d_R_errorOfTry_52 : decode prog_1_method_23_code 52 = .ok (.iconst 1, 1) := by decide +kernel
theorem d_R_errorOfTry_53 : decode prog_1_method_23_code 53 = .ok (.iadd, 1) := by decide +kernel
theorem d_R_errorOfTry_54 : decode prog_1_method_23_code 54 = .ok (.invokevirtual 190, 3) := by decide +kernel
theorem d_R_errorOfTry_57 : decode prog_1_method_23_code 57 = .ok (.ifCond .eq 27, 3) := by decide +kernel
theorem d_R_errorOfTry_60 : decode prog_1_method_23_code 60 = .ok (.aload_n 0, 1) := by decide +kernel
theorem d_R_errorOfTry_61 : decode prog_1_method_23_code 61 = .ok (.getfield 27, 3) := by decide +kernel
theorem d_R_errorOfTry_64 : decode prog_1_method_23_code 64 = .ok (.aload_n 0, 1) := by decide +kernel
theorem d_R_errorOfTry_65 : decode prog_1_method_23_code 65 = .ok (.getfield 44, 3) := by decide +kernel
theorem d_R_errorOfTry_68 : decode prog_1_method_23_code 68 = .ok (.aload_n 0, 1) := by decide +kernel
theorem d_R_errorOfTry_69 : decode prog_1_method_23_code 69 = .ok (.getfield 118, 3) := by decide +kernel
theorem d_R_errorOfTry_72 : decode prog_1_method_23_code 72 = .ok (.iconst 1, 1) := by decide +kernel
theorem d_R_errorOfTry_73 : decode prog_1_method_23_code 73 = .ok (.iadd, 1) := by decide +kernel
theorem d_R_errorOfTry_74 : decode prog_1_method_23_code 74 = .ok (.invokevirtual 190, 3) := by decide +kernel
theorem d_R_errorOfTry_77 : decode prog_1_method_23_code 77 = .ok (.ifCond .eq 7, 3) := by decide +kernel
theorem d_R_errorOfTry_80 : decode prog_1_method_23_code 80 = .ok (.iconst 1, 1) := by decide +kernel
theorem d_R_errorOfTry_81 : decode prog_1_method_23_code 81 = .ok (.goto 4, 3) := by decide +kernel
theorem d_R_errorOfTry_84 : decode prog_1_method_23_code 84 = .ok (.iconst 0, 1) := by decide +kernel
theorem d_R_errorOfTry_85 : decode prog_1_method_23_code 85 = .ok (.istore_n 1, 1) := by decide +kernel
theorem d_R_errorOfTry_86 : decode prog_1_method_23_code 86 = .ok (.iload_n 1, 1) := by decide +kernel
theorem d_R_errorOfTry_87 : decode prog_1_method_23_code 87 = .ok (.ifCond .eq 17, 3) := by decide +kernel
theorem d_R_errorOfTry_90 : decode prog_1_method_23_code 90 = .ok (.aload_n 0, 1) := by decide +kernel
theorem d_R_errorOfTry_91 : decode prog_1_method_23_code 91 = .ok (.getfield 41, 3) := by decide +kernel
theorem d_R_errorOfTry_94 : decode prog_1_method_23_code 94 = .ok (.aload_n 0, 1) := by decide +kernel
theorem d_R_errorOfTry_95 : decode prog_1_method_23_code 95 = .ok (.getfield 44, 3) := by decide +kernel
theorem d_R_errorOfTry_98 : decode prog_1_method_23_code 98 = .ok (.invokevirtual 194, 3) := by decide +kernel
theorem d_R_errorOfTry_101 : decode prog_1_method_23_code 101 = .ok (.goto 6, 3) := by decide +kernel
theorem d_R_errorOfTry_104 : decode prog_1_method_23_code 104 = .ok (.ldc2_w 116, 3) := by decide +kernel
theorem d_R_errorOfTry_107 : decode prog_1_method_23_code 107 = .ok (.lreturn, 1) := by decide +kernel
theorem d_R_takeStride_0 : decode prog_1_method_24_code 0 = .ok (.aload_n 0, 1) := by decide +kernel
theorem d_R_takeStride_1 : decode prog_1_method_24_code 1 = .ok (.getfield 38, 3) := by decide +kernel
theorem d_R_takeStride_4 : decode prog_1_method_24_code 4 = .ok (.aload_n 0, 1) := by decide +kernel
theorem d_R_takeStride_5 : decode prog_1_method_24_code 5 = .ok (.getfield 34, 3) := by decide +kernel
theorem d_R_takeStride_8 : decode prog_1_method_24_code 8 = .ok (.invokevirtual 186, 3) := by decide +kernel
theorem d_R_takeStride_11 : decode prog_1_method_24_code 11 = .ok (.aload_n 0, 1) := by decide +kernel
theorem d_R_takeStride_12 : decode prog_1_method_24_code 12 = .ok (.getfield 34, 3) := by decide +kernel
theorem d_R_takeStride_15 : decode prog_1_method_24_code 15 = .ok (.aload_n 0, 1) := by decide +kernel
theorem d_R_takeStride_16 : decode prog_1_method_24_code 16 = .ok (.getfield 44, 3) := by decide +kernel
theorem d_R_takeStride_19 : decode prog_1_method_24_code 19 = .ok (.invokevirtual 186, 3) := by decide +kernel
theorem d_R_takeStride_22 : decode prog_1_method_24_code 22 = .ok (.aload_n 0, 1) := by decide +kernel
theorem d_R_takeStride_23 : decode prog_1_method_24_code 23 = .ok (.dup, 1) := by decide +kernel
theorem d_R_takeStride_24 : decode prog_1_method_24_code 24 = .ok (.getfield 157, 3) := by decide +kernel
theorem d_R_takeStride_27 : decode prog_1_method_24_code 27 = .ok (.iload_n 1, 1) := by decide +kernel
theorem d_R_takeStride_28 : decode prog_1_method_24_code 28 = .ok (.iadd, 1) := by decide +kernel
theorem d_R_takeStride_29 : decode prog_1_method_24_code 29 = .ok (.putfield 157, 3) := by decide +kernel
theorem d_R_takeStride_32 : decode prog_1_method_24_code 32 = .ok (.aload_n 0, 1) := by decide +kernel
theorem d_R_takeStride_33 : decode prog_1_method_24_code 33 = .ok (.dup, 1) := by decide +kernel
theorem d_R_takeStride_34 : decode prog_1_method_24_code 34 = .ok (.getfield 160, 3) := by decide +kernel
theorem d_R_takeStride_37 : decode prog_1_method_24_code 37 = .ok (.iconst 1, 1) := by decide +kernel
theorem d_R_takeStride_38 : decode prog_1_method_24_code 38 = .ok (.iadd, 1) := by decide +kernel
theorem d_R_takeStride_39 : decode prog_1_method_24_code 39 = .ok (.putfield 160, 3) := by decide +kernel
theorem d_R_takeStride_42 : decode prog_1_method_24_code 42 = .ok (.aload_n 0, 1) := by decide +kernel
theorem d_R_takeStride_43 : decode prog_1_method_24_code 43 = .ok (.lload_n 2, 1) := by decide +kernel
theorem d_R_takeStride_44 : decode prog_1_method_24_code 44 = .ok (.putfield 166, 3) := by decide +kernel
theorem d_R_takeStride_47 : decode prog_1_method_24_code 47 = .ok (.aload_n 0, 1) := by decide +kernel
theorem d_R_takeStride_48 : decode prog_1_method_24_code 48 = .ok (.getfield 118, 3) := by decide +kernel
theorem d_R_takeStride_51 : decode prog_1_method_24_code 51 = .ok (.ifCond .le 27, 3) := by decide +kernel
theorem d_R_takeStride_54 : decode prog_1_method_24_code 54 = .ok (.lload_n 2, 1) := by decide +kernel
theorem d_R_takeStride_55 : decode prog_1_method_24_code 55 = .ok (.ldc2_w 198, 3) := by decide +kernel
theorem d_R_takeStride_58 : decode prog_1_method_24_code 58 = .ok (.lmul, 1) := by decide +kernel
theorem d_R_takeStride_59 : decode prog_1_method_24_code 59 = .ok (.aload_n 0, 1) := by decide +kernel
theorem d_R_takeStride_60 : decode prog_1_method_24_code 60 = .ok (.getfield 61, 3) := by decide +kernel
theorem d_R_takeStride_63 : decode prog_1_method_24_code 63 = .ok (.i2l, 1) := by decide +kernel
theorem d_R_takeStride_64 : decode prog_1_method_24_code 64 = .ok (.lcmp, 1) := by decide +kernel
theorem d_R_takeStride_65 : decode prog_1_method_24_code 65 = .ok (.ifCond .gt 13, 3) := by decide +kernel
theorem d_R_takeStride_68 : decode prog_1_method_24_code 68 = .ok (.aload_n 0, 1) := by decide +kernel
theorem d_R_takeStride_69 : decode prog_1_method_24_code 69 = .ok (.dup, 1) := by decide +kernel
theorem d_R_takeStride_70 : decode prog_1_method_24_code 70 = .ok (.getfield 118, 3) := by decide +kernel
theorem d_R_takeStride_73 : decode prog_1_method_24_code 73 = .ok (.iconst 1, 1) := by decide +kernel
theorem d_R_takeStride_74 : decode prog_1_method_24_code 74 = .ok (.isub, 1) := by decide +kernel
theorem d_R_takeStride_75 : decode prog_1_method_24_code 75 = .ok (.putfield 118, 3) := by decide +kernel
theorem d_R_takeStride_78 : decode prog_1_method_24_code 78 = .ok (.return_, 1) := by decide +kernel
theorem d_R_lookAtWatches_0 : decode prog_1_method_25_code 0 = .ok (.iconst 0, 1) := by decide +kernel
theorem d_R_lookAtWatches_1 : decode prog_1_method_25_code 1 = .ok (.istore_n 2, 1) := by decide +kernel
theorem d_R_lookAtWatches_2 : decode prog_1_method_25_code 2 = .ok (.iconst 0, 1) := by decide +kernel
theorem d_R_lookAtWatches_3 : decode prog_1_method_25_code 3 = .ok (.istore_n 3, 1) := by decide +kernel
theorem d_R_lookAtWatches_4 : decode prog_1_method_25_code 4 = .ok (.iload_n 3, 1) := by decide +kernel
theorem d_R_lookAtWatches_5 : decode prog_1_method_25_code 5 = .ok (.iconst 4, 1) := by decide +kernel
theorem d_R_lookAtWatches_6 : decode prog_1_method_25_code 6 = .ok (.if_icmp .ge 160, 3) := by decide +kernel
theorem d_R_lookAtWatches_9 : decode prog_1_method_25_code 9 = .ok (.aload_n 0, 1) := by decide +kernel
theorem d_R_lookAtWatches_10 : decode prog_1_method_25_code 10 = .ok (.getfield 49, 3) := by decide +kernel
theorem d_R_lookAtWatches_13 : decode prog_1_method_25_code 13 = .ok (.iload_n 3, 1) := by decide +kernel
theorem d_R_lookAtWatches_14 : decode prog_1_method_25_code 14 = .ok (.aaload, 1) := by decide +kernel
theorem d_R_lookAtWatches_15 : decode prog_1_method_25_code 15 = .ok (.astore 4, 2) := by decide +kernel
theorem d_R_lookAtWatches_17 : decode prog_1_method_25_code 17 = .ok (.aload 4, 2) := by decide +kernel
theorem d_R_lookAtWatches_19 : decode prog_1_method_25_code 19 = .ok (.getfield 95, 3) := by decide +kernel
theorem d_R_lookAtWatches_22 : decode prog_1_method_25_code 22 = .ok (.istore 5, 2) := by decide +kernel
theorem d_R_lookAtWatches_24 : decode prog_1_method_25_code 24 = .ok (.aload 4, 2) := by decide +kernel
theorem d_R_lookAtWatches_26 : decode prog_1_method_25_code 26 = .ok (.aload_n 0, 1) := by decide +kernel
theorem d_R_lookAtWatches_27 : decode prog_1_method_25_code 27 = .ok (.getfield 38, 3) := by decide +kernel
theorem d_R_lookAtWatches_30 : decode prog_1_method_25_code 30 = .ok (.getfield 84, 3) := by decide +kernel
theorem d_R_lookAtWatches_33 : decode prog_1_method_25_code 33 = .ok (.iload 5, 2) := by decide +kernel
theorem d_R_lookAtWatches_35 : decode prog_1_method_25_code 35 = .ok (.laload, 1) := by decide +kernel
theorem d_R_lookAtWatches_36 : decode prog_1_method_25_code 36 = .ok (.aload_n 0, 1) := by decide +kernel
theorem d_R_lookAtWatches_37 : decode prog_1_method_25_code 37 = .ok (.getfield 34, 3) := by decide +kernel
theorem d_R_lookAtWatches_40 : decode prog_1_method_25_code 40 = .ok (.getfield 84, 3) := by decide +kernel
theorem d_R_lookAtWatches_43 : decode prog_1_method_25_code 43 = .ok (.iload 5, 2) := by decide +kernel
theorem d_R_lookAtWatches_45 : decode prog_1_method_25_code 45 = .ok (.laload, 1) := by decide +kernel
theorem d_R_lookAtWatches_46 : decode prog_1_method_25_code 46 = .ok (.invokevirtual 200, 3) := by decide +kernel
theorem d_R_lookAtWatches_49 : decode prog_1_method_25_code 49 = .ok (.ifCond .ne 6, 3) := by decide +kernel
theorem d_R_lookAtWatches_52 : decode prog_1_method_25_code 52 = .ok (.goto 108, 3) := by decide +kernel
theorem d_R_lookAtWatches_55 : decode prog_1_method_25_code 55 = .ok (.aload 4, 2) := by decide +kernel
theorem d_R_lookAtWatches_57 : decode prog_1_method_25_code 57 = .ok (.aload_n 0, 1) := by decide +kernel
theorem d_R_lookAtWatches_58 : decode prog_1_method_25_code 58 = .ok (.getfield 38, 3) := by decide +kernel
theorem d_R_lookAtWatches_61 : decode prog_1_method_25_code 61 = .ok (.getfield 84, 3) := by decide +kernel
theorem d_R_lookAtWatches_64 : decode prog_1_method_25_code 64 = .ok (.iload 5, 2) := by decide +kernel
theorem d_R_lookAtWatches_66 : decode prog_1_method_25_code 66 = .ok (.laload, 1) := by decide +kernel
theorem d_R_lookAtWatches_67 : decode prog_1_method_25_code 67 = .ok (.aload_n 0, 1) := by decide +kernel
theorem d_R_lookAtWatches_68 : decode prog_1_method_25_code 68 = .ok (.getfield 34, 3) := by decide +kernel
theorem d_R_lookAtWatches_71 : decode prog_1_method_25_code 71 = .ok (.getfield 84, 3) := by decide +kernel
theorem d_R_lookAtWatches_74 : decode prog_1_method_25_code 74 = .ok (.iload 5, 2) := by decide +kernel
theorem d_R_lookAtWatches_76 : decode prog_1_method_25_code 76 = .ok (.laload, 1) := by decide +kernel
theorem d_R_lookAtWatches_77 : decode prog_1_method_25_code 77 = .ok (.iload_n 1, 1) := by decide +kernel
theorem d_R_lookAtWatches_78 : decode prog_1_method_25_code 78 = .ok (.invokevirtual 204, 3) := by decide +kernel
theorem d_R_lookAtWatches_81 : decode prog_1_method_25_code 81 = .ok (.istore 6, 2) := by decide +kernel
theorem d_R_lookAtWatches_83 : decode prog_1_method_25_code 83 = .ok (.aload_n 0, 1) := by decide +kernel
theorem d_R_lookAtWatches_84 : decode prog_1_method_25_code 84 = .ok (.getfield 57, 3) := by decide +kernel
theorem d_R_lookAtWatches_87 : decode prog_1_method_25_code 87 = .ok (.iload_n 3, 1) := by decide +kernel
theorem d_R_lookAtWatches_88 : decode prog_1_method_25_code 88 = .ok (.aload_n 0, 1) := by decide +kernel
theorem d_R_lookAtWatches_89 : decode prog_1_method_25_code 89 = .ok (.getfield 157, 3) := by decide +kernel
theorem d_R_lookAtWatches_92 : decode prog_1_method_25_code 92 = .ok (.iload_n 1, 1) := by decide +kernel
theorem d_R_lookAtWatches_93 : decode prog_1_method_25_code 93 = .ok (.isub, 1) := by decide +kernel
theorem d_R_lookAtWatches_94 : decode prog_1_method_25_code 94 = .ok (.iload 6, 2) := by decide +kernel
theorem d_R_lookAtWatches_96 : decode prog_1_method_25_code 96 = .ok (.iadd, 1) := by decide +kernel
theorem d_R_lookAtWatches_97 : decode prog_1_method_25_code 97 = .ok (.aload_n 0, 1) := by decide +kernel
theorem d_R_lookAtWatches_98 : decode prog_1_method_25_code 98 = .ok (.getfield 34, 3) := by decide +kernel
theorem d_R_lookAtWatches_101 : decode prog_1_method_25_code 101 = .ok (.getfield 88, 3) := by decide +kernel
theorem d_R_lookAtWatches_104 : decode prog_1_method_25_code 104 = .ok (.iload 5, 2) := by decide +kernel
theorem d_R_lookAtWatches_106 : decode prog_1_method_25_code 106 = .ok (.laload, 1) := by decide +kernel
theorem d_R_lookAtWatches_107 : decode prog_1_method_25_code 107 = .ok (.l2i, 1) := by decide +kernel
theorem d_R_lookAtWatches_108 : decode prog_1_method_25_code 108 = .ok (.invokevirtual 208, 3) := by decide +kernel
theorem d_R_lookAtWatches_111 : decode prog_1_method_25_code 111 = .ok (.aload 4, 2) := by decide +kernel
theorem d_R_lookAtWatches_113 : decode prog_1_method_25_code 113 = .ok (.getfield 106, 3) := by decide +kernel
theorem d_R_lookAtWatches_116 : decode prog_1_method_25_code 116 = .ok (.iconst 1, 1) := by decide +kernel
theorem d_R_lookAtWatches_117 : decode prog_1_method_25_code 117 = .ok (.if_icmp .ne 24, 3) := by decide +kernel
theorem d_R_lookAtWatches_120 : decode prog_1_method_25_code 120 = .ok (.aload_n 0, 1) := by decide +kernel
theorem d_R_lookAtWatches_121 : decode prog_1_method_25_code 121 = .ok (.getfield 34, 3) := by decide +kernel
theorem d_R_lookAtWatches_124 : decode prog_1_method_25_code 124 = .ok (.getfield 88, 3) := by decide +kernel
theorem d_R_lookAtWatches_127 : decode prog_1_method_25_code 127 = .ok (.iload 5, 2) := by decide +kernel
theorem d_R_lookAtWatches_129 : decode prog_1_method_25_code 129 = .ok (.aload_n 0, 1) := by decide +kernel
theorem d_R_lookAtWatches_130 : decode prog_1_method_25_code 130 = .ok (.getfield 34, 3) := by decide +kernel
theorem d_R_lookAtWatches_133 : decode prog_1_method_25_code 133 = .ok (.getfield 88, 3) := by decide +kernel
theorem d_R_lookAtWatches_136 : decode prog_1_method_25_code 136 = .ok (.iload 5, 2) := by decide +kernel
theorem d_R_lookAtWatches_138 : decode prog_1_method_25_code 138 = .ok (.laload, 1) := by decide +kernel
theorem d_R_lookAtWatches_139 : decode prog_1_method_25_code 139 = .ok (.lneg, 1) := by decide +kernel
theorem d_R_lookAtWatches_140 : decode prog_1_method_25_code 140 = .ok (.lastore, 1) := by decide +kernel
theorem d_R_lookAtWatches_141 : decode prog_1_method_25_code 141 = .ok (.iload_n 2, 1) := by decide +kernel
theorem d_R_lookAtWatches_142 : decode prog_1_method_25_code 142 = .ok (.ifCond .ne 12, 3) := by decide +kernel
theorem d_R_lookAtWatches_145 : decode prog_1_method_25_code 145 = .ok (.aload 4, 2) := by decide +kernel
theorem d_R_lookAtWatches_147 : decode prog_1_method_25_code 147 = .ok (.getfield 106, 3) := by decide +kernel
theorem d_R_lookAtWatches_150 : decode prog_1_method_25_code 150 = .ok (.iconst 2, 1) := by decide +kernel
theorem d_R_lookAtWatches_151 : decode prog_1_method_25_code 151 = .ok (.if_icmp .ne 7, 3) := by decide +kernel
theorem d_R_lookAtWatches_154 : decode prog_1_method_25_code 154 = .ok (.iconst 1, 1) := by decide +kernel
theorem d_R_lookAtWatches_155 : decode prog_1_method_25_code 155 = .ok (.goto 4, 3) := by decide +kernel
theorem d_R_lookAtWatches_158 : decode prog_1_method_25_code 158 = .ok (.iconst 0, 1) := by decide +kernel
theorem d_R_lookAtWatches_159 : decode prog_1_method_25_code 159 = .ok (.istore_n 2, 1) := by decide +kernel
theorem d_R_lookAtWatches_160 : decode prog_1_method_25_code 160 = .ok (.iinc 3 1, 3) := by decide +kernel
theorem d_R_lookAtWatches_163 : decode prog_1_method_25_code 163 = .ok (.goto (-159), 3) := by decide +kernel
theorem d_R_lookAtWatches_166 : decode prog_1_method_25_code 166 = .ok (.iload_n 2, 1) := by decide +kernel
theorem d_R_lookAtWatches_167 : decode prog_1_method_25_code 167 = .ok (.ireturn, 1) := by decide +kernel
theorem d_R_place_0 : decode prog_1_method_9_code 0 = .ok (.aload_n 0, 1) := by decide +kernel
theorem d_R_place_1 : decode prog_1_method_9_code 1 = .ok (.iload_n 1, 1) := by decide +kernel
theorem d_R_place_2 : decode prog_1_method_9_code 2 = .ok (.invokevirtual 64, 3) := by decide +kernel
theorem d_R_place_5 : decode prog_1_method_9_code 5 = .ok (.ifCond .eq 16, 3) := by decide +kernel
theorem d_R_place_8 : decode prog_1_method_9_code 8 = .ok (.aload_n 0, 1) := by decide +kernel
theorem d_R_place_9 : decode prog_1_method_9_code 9 = .ok (.getfield 34, 3) := by decide +kernel
theorem d_R_place_12 : decode prog_1_method_9_code 12 = .ok (.getfield 84, 3) := by decide +kernel
theorem d_R_place_15 : decode prog_1_method_9_code 15 = .ok (.iload_n 1, 1) := by decide +kernel
theorem d_R_place_16 : decode prog_1_method_9_code 16 = .ok (.laload, 1) := by decide +kernel
theorem d_R_place_17 : decode prog_1_method_9_code 17 = .ok (.l2i, 1) := by decide +kernel
theorem d_R_place_18 : decode prog_1_method_9_code 18 = .ok (.goto 4, 3) := by decide +kernel
theorem d_R_place_21 : decode prog_1_method_9_code 21 = .ok (.iconst (-1), 1) := by decide +kernel
theorem d_R_place_22 : decode prog_1_method_9_code 22 = .ok (.ireturn, 1) := by decide +kernel
theorem d_R_speed_0 : decode prog_1_method_10_code 0 = .ok (.aload_n 0, 1) := by decide +kernel
theorem d_R_speed_1 : decode prog_1_method_10_code 1 = .ok (.iload_n 1, 1) := by decide +kernel
theorem d_R_speed_2 : decode prog_1_method_10_code 2 = .ok (.invokevirtual 64, 3) := by decide +kernel
theorem d_R_speed_5 : decode prog_1_method_10_code 5 = .ok (.ifCond .eq 16, 3) := by decide +kernel
theorem d_R_speed_8 : decode prog_1_method_10_code 8 = .ok (.aload_n 0, 1) := by decide +kernel
theorem d_R_speed_9 : decode prog_1_method_10_code 9 = .ok (.getfield 34, 3) := by decide +kernel
theorem d_R_speed_12 : decode prog_1_method_10_code 12 = .ok (.getfield 88, 3) := by decide +kernel
theorem d_R_speed_15 : decode prog_1_method_10_code 15 = .ok (.iload_n 1, 1) := by decide +kernel
theorem d_R_speed_16 : decode prog_1_method_10_code 16 = .ok (.laload, 1) := by decide +kernel
theorem d_R_speed_17 : decode prog_1_method_10_code 17 = .ok (.l2i, 1) := by decide +kernel
theorem d_R_speed_18 : decode prog_1_method_10_code 18 = .ok (.goto 4, 3) := by decide +kernel
theorem d_R_speed_21 : decode prog_1_method_10_code 21 = .ok (.iconst (-1), 1) := by decide +kernel
theorem d_R_speed_22 : decode prog_1_method_10_code 22 = .ok (.ireturn, 1) := by decide +kernel
theorem d_R_push_0 : decode prog_1_method_11_code 0 = .ok (.aload_n 0, 1) := by decide +kernel
theorem d_R_push_1 : decode prog_1_method_11_code 1 = .ok (.iload_n 1, 1) := by decide +kernel
theorem d_R_push_2 : decode prog_1_method_11_code 2 = .ok (.invokevirtual 64, 3) := by decide +kernel
theorem d_R_push_5 : decode prog_1_method_11_code 5 = .ok (.ifCond .eq 18, 3) := by decide +kernel
theorem d_R_push_8 : decode prog_1_method_11_code 8 = .ok (.aload_n 0, 1) := by decide +kernel
theorem d_R_push_9 : decode prog_1_method_11_code 9 = .ok (.getfield 27, 3) := by decide +kernel
theorem d_R_push_12 : decode prog_1_method_11_code 12 = .ok (.iload_n 1, 1) := by decide +kernel
theorem d_R_push_13 : decode prog_1_method_11_code 13 = .ok (.aload_n 0, 1) := by decide +kernel
theorem d_R_push_14 : decode prog_1_method_11_code 14 = .ok (.getfield 34, 3) := by decide +kernel
theorem d_R_push_17 : decode prog_1_method_11_code 17 = .ok (.invokevirtual 132, 3) := by decide +kernel
theorem d_R_push_20 : decode prog_1_method_11_code 20 = .ok (.goto 6, 3) := by decide +kernel
theorem d_R_push_23 : decode prog_1_method_11_code 23 = .ok (.ldc2_w 136, 3) := by decide +kernel
theorem d_R_push_26 : decode prog_1_method_11_code 26 = .ok (.lreturn, 1) := by decide +kernel
theorem d_R_hit_0 : decode prog_1_method_12_code 0 = .ok (.aload_n 0, 1) := by decide +kernel
theorem d_R_hit_1 : decode prog_1_method_12_code 1 = .ok (.getfield 57, 3) := by decide +kernel
theorem d_R_hit_4 : decode prog_1_method_12_code 4 = .ok (.iload_n 1, 1) := by decide +kernel
theorem d_R_hit_5 : decode prog_1_method_12_code 5 = .ok (.invokevirtual 138, 3) := by decide +kernel
theorem d_R_hit_8 : decode prog_1_method_12_code 8 = .ok (.ifCond .ne 6, 3) := by decide +kernel
theorem d_R_hit_11 : decode prog_1_method_12_code 11 = .ok (.ldc 141, 2) := by decide +kernel
theorem d_R_hit_13 : decode prog_1_method_12_code 13 = .ok (.ireturn, 1) := by decide +kernel
theorem d_R_hit_14 : decode prog_1_method_12_code 14 = .ok (.iload_n 2, 1) := by decide +kernel
theorem d_R_hit_15 : decode prog_1_method_12_code 15 = .ok (.tableswitch 55 0 2 #[25, 35, 45], 25) := by decide +kernel
theorem d_R_hit_40 : decode prog_1_method_12_code 40 = .ok (.aload_n 0, 1) := by decide +kernel
theorem d_R_hit_41 : decode prog_1_method_12_code 41 = .ok (.getfield 57, 3) := by decide +kernel
theorem d_R_hit_44 : decode prog_1_method_12_code 44 = .ok (.getfield 142, 3) := by decide +kernel
theorem d_R_hit_47 : decode prog_1_method_12_code 47 = .ok (.iload_n 1, 1) := by decide +kernel
theorem d_R_hit_48 : decode prog_1_method_12_code 48 = .ok (.iaload, 1) := by decide +kernel
theorem d_R_hit_49 : decode prog_1_method_12_code 49 = .ok (.ireturn, 1) := by decide +kernel
theorem d_R_hit_50 : decode prog_1_method_12_code 50 = .ok (.aload_n 0, 1) := by decide +kernel
theorem d_R_hit_51 : decode prog_1_method_12_code 51 = .ok (.getfield 57, 3) := by decide +kernel
theorem d_R_hit_54 : decode prog_1_method_12_code 54 = .ok (.getfield 145, 3) := by decide +kernel
theorem d_R_hit_57 : decode prog_1_method_12_code 57 = .ok (.iload_n 1, 1) := by decide +kernel
theorem d_R_hit_58 : decode prog_1_method_12_code 58 = .ok (.iaload, 1) := by decide +kernel
theorem d_R_hit_59 : decode prog_1_method_12_code 59 = .ok (.ireturn, 1) := by decide +kernel
theorem d_R_hit_60 : decode prog_1_method_12_code 60 = .ok (.aload_n 0, 1) := by decide +kernel
theorem d_R_hit_61 : decode prog_1_method_12_code 61 = .ok (.getfield 57, 3) := by decide +kernel
theorem d_R_hit_64 : decode prog_1_method_12_code 64 = .ok (.getfield 148, 3) := by decide +kernel
theorem d_R_hit_67 : decode prog_1_method_12_code 67 = .ok (.iload_n 1, 1) := by decide +kernel
theorem d_R_hit_68 : decode prog_1_method_12_code 68 = .ok (.iaload, 1) := by decide +kernel
theorem d_R_hit_69 : decode prog_1_method_12_code 69 = .ok (.ireturn, 1) := by decide +kernel
theorem d_R_hit_70 : decode prog_1_method_12_code 70 = .ok (.ldc 141, 2) := by decide +kernel
theorem d_R_hit_72 : decode prog_1_method_12_code 72 = .ok (.ireturn, 1) := by decide +kernel
theorem d_R_clear_0 : decode prog_1_method_13_code 0 = .ok (.aload_n 0, 1) := by decide +kernel
theorem d_R_clear_1 : decode prog_1_method_13_code 1 = .ok (.getfield 57, 3) := by decide +kernel
theorem d_R_clear_4 : decode prog_1_method_13_code 4 = .ok (.getfield 151, 3) := by decide +kernel
theorem d_R_clear_7 : decode prog_1_method_13_code 7 = .ok (.istore_n 1, 1) := by decide +kernel
theorem d_R_clear_8 : decode prog_1_method_13_code 8 = .ok (.aload_n 0, 1) := by decide +kernel
theorem d_R_clear_9 : decode prog_1_method_13_code 9 = .ok (.getfield 57, 3) := by decide +kernel
theorem d_R_clear_12 : decode prog_1_method_13_code 12 = .ok (.invokevirtual 154, 3) := by decide +kernel
theorem d_R_clear_15 : decode prog_1_method_13_code 15 = .ok (.iload_n 1, 1) := by decide +kernel
theorem d_R_clear_16 : decode prog_1_method_13_code 16 = .ok (.ireturn, 1) := by decide +kernel
theorem d_R_count_0 : decode prog_1_method_14_code 0 = .ok (.iload_n 1, 1) := by decide +kernel
theorem d_R_count_1 : decode prog_1_method_14_code 1 = .ok (.tableswitch 91 0 7 #[47, 52, 57, 62, 67, 75, 81, 86], 47) := by decide +kernel
theorem d_R_count_48 : decode prog_1_method_14_code 48 = .ok (.aload_n 0, 1) := by decide +kernel
theorem d_R_count_49 : decode prog_1_method_14_code 49 = .ok (.getfield 157, 3) := by decide +kernel
theorem d_R_count_52 : decode prog_1_method_14_code 52 = .ok (.ireturn, 1) := by decide +kernel
theorem d_R_count_53 : decode prog_1_method_14_code 53 = .ok (.aload_n 0, 1) := by decide +kernel
theorem d_R_count_54 : decode prog_1_method_14_code 54 = .ok (.getfield 118, 3) := by decide +kernel
theorem d_R_count_57 : decode prog_1_method_14_code 57 = .ok (.ireturn, 1) := by decide +kernel
theorem d_R_count_58 : decode prog_1_method_14_code 58 = .ok (.aload_n 0, 1) := by decide +kernel
theorem d_R_count_59 : decode prog_1_method_14_code 59 = .ok (.getfield 160, 3) := by decide +kernel
theorem d_R_count_62 : decode prog_1_method_14_code 62 = .ok (.ireturn, 1) := by decide +kernel
theorem d_R_count_63 : decode prog_1_method_14_code 63 = .ok (.aload_n 0, 1) := by decide +kernel
theorem d_R_count_64 : decode prog_1_method_14_code 64 = .ok (.getfield 163, 3) := by decide +kernel
theorem d_R_count_67 : decode prog_1_method_14_code 67 = .ok (.ireturn, 1) := by decide +kernel
theorem d_R_count_68 : decode prog_1_method_14_code 68 = .ok (.aload_n 0, 1) := by decide +kernel
theorem d_R_count_69 : decode prog_1_method_14_code 69 = .ok (.getfield 57, 3) := by decide +kernel
theorem d_R_count_72 : decode prog_1_method_14_code 72 = .ok (.getfield 151, 3) := by decide +kernel
theorem d_R_count_75 : decode prog_1_method_14_code 75 = .ok (.ireturn, 1) := by decide +kernel
theorem d_R_count_76 : decode prog_1_method_14_code 76 = .ok (.aload_n 0, 1) := by decide +kernel
theorem d_R_count_77 : decode prog_1_method_14_code 77 = .ok (.getfield 166, 3) := by decide +kernel
theorem d_R_count_80 : decode prog_1_method_14_code 80 = .ok (.l2i, 1) := by decide +kernel
theorem d_R_count_81 : decode prog_1_method_14_code 81 = .ok (.ireturn, 1) := by decide +kernel
theorem d_R_count_82 : decode prog_1_method_14_code 82 = .ok (.aload_n 0, 1) := by decide +kernel
theorem d_R_count_83 : decode prog_1_method_14_code 83 = .ok (.getfield 18, 3) := by decide +kernel
theorem d_R_count_86 : decode prog_1_method_14_code 86 = .ok (.ireturn, 1) := by decide +kernel
theorem d_R_count_87 : decode prog_1_method_14_code 87 = .ok (.aload_n 0, 1) := by decide +kernel
theorem d_R_count_88 : decode prog_1_method_14_code 88 = .ok (.invokevirtual 169, 3) := by decide +kernel
theorem d_R_count_91 : decode prog_1_method_14_code 91 = .ok (.ireturn, 1) := by decide +kernel
theorem d_R_count_92 : decode prog_1_method_14_code 92 = .ok (.iconst (-1), 1) := by decide +kernel
theorem d_R_count_93 : decode prog_1_method_14_code 93 = .ok (.ireturn, 1) := by decide +kernel
theorem d_R_watchesSet_0 : decode prog_1_method_18_code 0 = .ok (.iconst 0, 1) := by decide +kernel
theorem d_R_watchesSet_1 : decode prog_1_method_18_code 1 = .ok (.istore_n 1, 1) := by decide +kernel
theorem d_R_watchesSet_2 : decode prog_1_method_18_code 2 = .ok (.iconst 0, 1) := by decide +kernel
theorem d_R_watchesSet_3 : decode prog_1_method_18_code 3 = .ok (.istore_n 2, 1) := by decide +kernel
theorem d_R_watchesSet_4 : decode prog_1_method_18_code 4 = .ok (.iload_n 2, 1) := by decide +kernel
theorem d_R_watchesSet_5 : decode prog_1_method_18_code 5 = .ok (.iconst 4, 1) := by decide +kernel
theorem d_R_watchesSet_6 : decode prog_1_method_18_code 6 = .ok (.if_icmp .ge 24, 3) := by decide +kernel
theorem d_R_watchesSet_9 : decode prog_1_method_18_code 9 = .ok (.aload_n 0, 1) := by decide +kernel
theorem d_R_watchesSet_10 : decode prog_1_method_18_code 10 = .ok (.getfield 49, 3) := by decide +kernel
theorem d_R_watchesSet_13 : decode prog_1_method_18_code 13 = .ok (.iload_n 2, 1) := by decide +kernel
theorem d_R_watchesSet_14 : decode prog_1_method_18_code 14 = .ok (.aaload, 1) := by decide +kernel
theorem d_R_watchesSet_15 : decode prog_1_method_18_code 15 = .ok (.invokevirtual 175, 3) := by decide +kernel
theorem d_R_watchesSet_18 : decode prog_1_method_18_code 18 = .ok (.ifCond .eq 6, 3) := by decide +kernel
theorem d_R_watchesSet_21 : decode prog_1_method_18_code 21 = .ok (.iinc 1 1, 3) := by decide +kernel
theorem d_R_watchesSet_24 : decode prog_1_method_18_code 24 = .ok (.iinc 2 1, 3) := by decide +kernel
theorem d_R_watchesSet_27 : decode prog_1_method_18_code 27 = .ok (.goto (-23), 3) := by decide +kernel
theorem d_R_watchesSet_30 : decode prog_1_method_18_code 30 = .ok (.iload_n 1, 1) := by decide +kernel
theorem d_R_watchesSet_31 : decode prog_1_method_18_code 31 = .ok (.ireturn, 1) := by decide +kernel

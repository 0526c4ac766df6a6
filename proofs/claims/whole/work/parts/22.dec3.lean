theorem d_X_init_0 : decode prog_7_method_1_code 0 = .ok (.aload_n 0, 1) := by decide +kernel
theorem d_X_init_1 : decode prog_7_method_1_code 1 = .ok (.invokespecial 1, 3) := by decide +kernel
theorem d_X_init_4 : decode prog_7_method_1_code 4 = .ok (.aload_n 0, 1) := by decide +kernel
theorem d_X_init_5 : decode prog_7_method_1_code 5 = .ok (.iconst 4, 1) := by decide +kernel
theorem d_X_init_6 : decode prog_7_method_1_code 6 = .ok (.newarray .long, 2) := by decide +kernel
theorem d_X_init_8 : decode prog_7_method_1_code 8 = .ok (.putfield 7, 3) := by decide +kernel
theorem d_X_init_11 : decode prog_7_method_1_code 11 = .ok (.aload_n 0, 1) := by decide +kernel
theorem d_X_init_12 : decode prog_7_method_1_code 12 = .ok (.iconst 4, 1) := by decide +kernel
theorem d_X_init_13 : decode prog_7_method_1_code 13 = .ok (.newarray .long, 2) := by decide +kernel
theorem d_X_init_15 : decode prog_7_method_1_code 15 = .ok (.putfield 13, 3) := by decide +kernel
theorem d_X_init_18 : decode prog_7_method_1_code 18 = .ok (.aload_n 0, 1) := by decide +kernel
theorem d_X_init_19 : decode prog_7_method_1_code 19 = .ok (.iconst 4, 1) := by decide +kernel
theorem d_X_init_20 : decode prog_7_method_1_code 20 = .ok (.newarray .long, 2) := by decide +kernel
theorem d_X_init_22 : decode prog_7_method_1_code 22 = .ok (.putfield 16, 3) := by decide +kernel
theorem d_X_init_25 : decode prog_7_method_1_code 25 = .ok (.aload_n 0, 1) := by decide +kernel
theorem d_X_init_26 : decode prog_7_method_1_code 26 = .ok (.iconst 4, 1) := by decide +kernel
theorem d_X_init_27 : decode prog_7_method_1_code 27 = .ok (.newarray .long, 2) := by decide +kernel
theorem d_X_init_29 : decode prog_7_method_1_code 29 = .ok (.putfield 19, 3) := by decide +kernel
theorem d_X_init_32 : decode prog_7_method_1_code 32 = .ok (.aload_n 0, 1) := by decide +kernel
theorem d_X_init_33 : decode prog_7_method_1_code 33 = .ok (.bipush 12, 2) := by decide +kernel
theorem d_X_init_35 : decode prog_7_method_1_code 35 = .ok (.newarray .long, 2) := by decide +kernel
theorem d_X_init_37 : decode prog_7_method_1_code 37 = .ok (.putfield 22, 3) := by decide +kernel
theorem d_X_init_40 : decode prog_7_method_1_code 40 = .ok (.aload_n 0, 1) := by decide +kernel
theorem d_X_init_41 : decode prog_7_method_1_code 41 = .ok (.bipush 12, 2) := by decide +kernel
theorem d_X_init_43 : decode prog_7_method_1_code 43 = .ok (.newarray .long, 2) := by decide +kernel
theorem d_X_init_45 : decode prog_7_method_1_code 45 = .ok (.putfield 25, 3) := by decide +kernel
theorem d_X_init_48 : decode prog_7_method_1_code 48 = .ok (.aload_n 0, 1) := by decide +kernel
theorem d_X_init_49 : decode prog_7_method_1_code 49 = .ok (.iconst 4, 1) := by decide +kernel
theorem d_X_init_50 : decode prog_7_method_1_code 50 = .ok (.newarray .long, 2) := by decide +kernel
theorem d_X_init_52 : decode prog_7_method_1_code 52 = .ok (.putfield 28, 3) := by decide +kernel
theorem d_X_init_55 : decode prog_7_method_1_code 55 = .ok (.aload_n 0, 1) := by decide +kernel
theorem d_X_init_56 : decode prog_7_method_1_code 56 = .ok (.iconst 4, 1) := by decide +kernel
theorem d_X_init_57 : decode prog_7_method_1_code 57 = .ok (.newarray .int, 2) := by decide +kernel
theorem d_X_init_59 : decode prog_7_method_1_code 59 = .ok (.putfield 31, 3) := by decide +kernel
theorem d_X_init_62 : decode prog_7_method_1_code 62 = .ok (.aload_n 0, 1) := by decide +kernel
theorem d_X_init_63 : decode prog_7_method_1_code 63 = .ok (.iconst 4, 1) := by decide +kernel
theorem d_X_init_64 : decode prog_7_method_1_code 64 = .ok (.newarray .long, 2) := by decide +kernel
theorem d_X_init_66 : decode prog_7_method_1_code 66 = .ok (.putfield 35, 3) := by decide +kernel
theorem d_X_init_69 : decode prog_7_method_1_code 69 = .ok (.aload_n 0, 1) := by decide +kernel
theorem d_X_init_70 : decode prog_7_method_1_code 70 = .ok (.iconst 4, 1) := by decide +kernel
theorem d_X_init_71 : decode prog_7_method_1_code 71 = .ok (.newarray .boolean, 2) := by decide +kernel
theorem d_X_init_73 : decode prog_7_method_1_code 73 = .ok (.putfield 38, 3) := by decide +kernel
theorem d_X_init_76 : decode prog_7_method_1_code 76 = .ok (.aload_n 0, 1) := by decide +kernel
theorem d_X_init_77 : decode prog_7_method_1_code 77 = .ok (.iconst 4, 1) := by decide +kernel
theorem d_X_init_78 : decode prog_7_method_1_code 78 = .ok (.newarray .int, 2) := by decide +kernel
theorem d_X_init_80 : decode prog_7_method_1_code 80 = .ok (.putfield 42, 3) := by decide +kernel
theorem d_X_init_83 : decode prog_7_method_1_code 83 = .ok (.aload_n 0, 1) := by decide +kernel
theorem d_X_init_84 : decode prog_7_method_1_code 84 = .ok (.iconst 4, 1) := by decide +kernel
theorem d_X_init_85 : decode prog_7_method_1_code 85 = .ok (.newarray .boolean, 2) := by decide +kernel
theorem d_X_init_87 : decode prog_7_method_1_code 87 = .ok (.putfield 45, 3) := by decide +kernel
theorem d_X_init_90 : decode prog_7_method_1_code 90 = .ok (.aload_n 0, 1) := by decide +kernel
theorem d_X_init_91 : decode prog_7_method_1_code 91 = .ok (.bipush 120, 2) := by decide +kernel
theorem d_X_init_93 : decode prog_7_method_1_code 93 = .ok (.newarray .int, 2) := by decide +kernel
theorem d_X_init_95 : decode prog_7_method_1_code 95 = .ok (.putfield 48, 3) := by decide +kernel
theorem d_X_init_98 : decode prog_7_method_1_code 98 = .ok (.aload_n 0, 1) := by decide +kernel
theorem d_X_init_99 : decode prog_7_method_1_code 99 = .ok (.iconst 4, 1) := by decide +kernel
theorem d_X_init_100 : decode prog_7_method_1_code 100 = .ok (.newarray .long, 2) := by decide +kernel
theorem d_X_init_102 : decode prog_7_method_1_code 102 = .ok (.putfield 51, 3) := by decide +kernel
theorem d_X_init_105 : decode prog_7_method_1_code 105 = .ok (.aload_n 0, 1) := by decide +kernel
theorem d_X_init_106 : decode prog_7_method_1_code 106 = .ok (.bipush 16, 2) := by decide +kernel
theorem d_X_init_108 : decode prog_7_method_1_code 108 = .ok (.putfield 54, 3) := by decide +kernel
theorem d_X_init_111 : decode prog_7_method_1_code 111 = .ok (.aload_n 0, 1) := by decide +kernel
theorem d_X_init_112 : decode prog_7_method_1_code 112 = .ok (.iload_n 1, 1) := by decide +kernel
theorem d_X_init_113 : decode prog_7_method_1_code 113 = .ok (.iconst 1, 1) := by decide +kernel
theorem d_X_init_114 : decode prog_7_method_1_code 114 = .ok (.if_icmp .ge 7, 3) := by decide +kernel
theorem d_X_init_117 : decode prog_7_method_1_code 117 = .ok (.iconst 1, 1) := by decide +kernel
theorem d_X_init_118 : decode prog_7_method_1_code 118 = .ok (.goto 13, 3) := by decide +kernel
theorem d_X_init_121 : decode prog_7_method_1_code 121 = .ok (.iload_n 1, 1) := by decide +kernel
theorem d_X_init_122 : decode prog_7_method_1_code 122 = .ok (.iconst 4, 1) := by decide +kernel
theorem d_X_init_123 : decode prog_7_method_1_code 123 = .ok (.if_icmp .le 7, 3) := by decide +kernel
theorem d_X_init_126 : decode prog_7_method_1_code 126 = .ok (.iconst 4, 1) := by decide +kernel
theorem d_X_init_127 : decode prog_7_method_1_code 127 = .ok (.goto 4, 3) := by decide +kernel
theorem d_X_init_130 : decode prog_7_method_1_code 130 = .ok (.iload_n 1, 1) := by decide +kernel
theorem d_X_init_131 : decode prog_7_method_1_code 131 = .ok (.putfield 58, 3) := by decide +kernel
theorem d_X_init_134 : decode prog_7_method_1_code 134 = .ok (.return_, 1) := by decide +kernel
theorem d_X_body_0 : decode prog_7_method_4_code 0 = .ok (.aload_n 0, 1) := by decide +kernel
theorem d_X_body_1 : decode prog_7_method_4_code 1 = .ok (.iload_n 1, 1) := by decide +kernel
theorem d_X_body_2 : decode prog_7_method_4_code 2 = .ok (.invokevirtual 61, 3) := by decide +kernel
theorem d_X_body_5 : decode prog_7_method_4_code 5 = .ok (.ifCond .ne 23, 3) := by decide +kernel
theorem d_X_body_8 : decode prog_7_method_4_code 8 = .ok (.iload_n 2, 1) := by decide +kernel
theorem d_X_body_9 : decode prog_7_method_4_code 9 = .ok (.ifCond .lt 19, 3) := by decide +kernel
theorem d_X_body_12 : decode prog_7_method_4_code 12 = .ok (.iload_n 2, 1) := by decide +kernel
theorem d_X_body_13 : decode prog_7_method_4_code 13 = .ok (.bipush 64, 2) := by decide +kernel
theorem d_X_body_15 : decode prog_7_method_4_code 15 = .ok (.if_icmp .gt 13, 3) := by decide +kernel
theorem d_X_body_18 : decode prog_7_method_4_code 18 = .ok (.iload_n 3, 1) := by decide +kernel
theorem d_X_body_19 : decode prog_7_method_4_code 19 = .ok (.ifCond .lt 9, 3) := by decide +kernel
theorem d_X_body_22 : decode prog_7_method_4_code 22 = .ok (.iload_n 3, 1) := by decide +kernel
theorem d_X_body_23 : decode prog_7_method_4_code 23 = .ok (.bipush 64, 2) := by decide +kernel
theorem d_X_body_25 : decode prog_7_method_4_code 25 = .ok (.if_icmp .le 5, 3) := by decide +kernel
theorem d_X_body_28 : decode prog_7_method_4_code 28 = .ok (.iconst (-1), 1) := by decide +kernel
theorem d_X_body_29 : decode prog_7_method_4_code 29 = .ok (.ireturn, 1) := by decide +kernel
theorem d_X_body_30 : decode prog_7_method_4_code 30 = .ok (.aload_n 0, 1) := by decide +kernel
theorem d_X_body_31 : decode prog_7_method_4_code 31 = .ok (.getfield 7, 3) := by decide +kernel
theorem d_X_body_34 : decode prog_7_method_4_code 34 = .ok (.iload_n 1, 1) := by decide +kernel
theorem d_X_body_35 : decode prog_7_method_4_code 35 = .ok (.iload_n 2, 1) := by decide +kernel
theorem d_X_body_36 : decode prog_7_method_4_code 36 = .ok (.i2l, 1) := by decide +kernel
theorem d_X_body_37 : decode prog_7_method_4_code 37 = .ok (.lastore, 1) := by decide +kernel
theorem d_X_body_38 : decode prog_7_method_4_code 38 = .ok (.aload_n 0, 1) := by decide +kernel
theorem d_X_body_39 : decode prog_7_method_4_code 39 = .ok (.getfield 13, 3) := by decide +kernel
theorem d_X_body_42 : decode prog_7_method_4_code 42 = .ok (.iload_n 1, 1) := by decide +kernel
theorem d_X_body_43 : decode prog_7_method_4_code 43 = .ok (.iload_n 3, 1) := by decide +kernel
theorem d_X_body_44 : decode prog_7_method_4_code 44 = .ok (.i2l, 1) := by decide +kernel
theorem d_X_body_45 : decode prog_7_method_4_code 45 = .ok (.lastore, 1) := by decide +kernel
theorem d_X_body_46 : decode prog_7_method_4_code 46 = .ok (.iconst 0, 1) := by decide +kernel
theorem d_X_body_47 : decode prog_7_method_4_code 47 = .ok (.ireturn, 1) := by decide +kernel
theorem d_X_no_0 : decode prog_7_method_2_code 0 = .ok (.iload_n 1, 1) := by decide +kernel
theorem d_X_no_1 : decode prog_7_method_2_code 1 = .ok (.ifCond .lt 11, 3) := by decide +kernel
theorem d_X_no_4 : decode prog_7_method_2_code 4 = .ok (.iload_n 1, 1) := by decide +kernel
theorem d_X_no_5 : decode prog_7_method_2_code 5 = .ok (.aload_n 0, 1) := by decide +kernel
theorem d_X_no_6 : decode prog_7_method_2_code 6 = .ok (.getfield 58, 3) := by decide +kernel
theorem d_X_no_9 : decode prog_7_method_2_code 9 = .ok (.if_icmp .lt 7, 3) := by decide +kernel
theorem d_X_no_12 : decode prog_7_method_2_code 12 = .ok (.iconst 1, 1) := by decide +kernel
theorem d_X_no_13 : decode prog_7_method_2_code 13 = .ok (.goto 4, 3) := by decide +kernel
theorem d_X_no_16 : decode prog_7_method_2_code 16 = .ok (.iconst 0, 1) := by decide +kernel
theorem d_X_no_17 : decode prog_7_method_2_code 17 = .ok (.ireturn, 1) := by decide +kernel
theorem d_X_link_0 : decode prog_7_method_5_code 0 = .ok (.iload_n 1, 1) := by decide +kernel
theorem d_X_link_1 : decode prog_7_method_5_code 1 = .ok (.ifCond .lt 23, 3) := by decide +kernel
theorem d_X_link_4 : decode prog_7_method_5_code 4 = .ok (.iload_n 1, 1) := by decide +kernel
theorem d_X_link_5 : decode prog_7_method_5_code 5 = .ok (.aload_n 0, 1) := by decide +kernel
theorem d_X_link_6 : decode prog_7_method_5_code 6 = .ok (.getfield 58, 3) := by decide +kernel
theorem d_X_link_9 : decode prog_7_method_5_code 9 = .ok (.iconst 2, 1) := by decide +kernel
theorem d_X_link_10 : decode prog_7_method_5_code 10 = .ok (.isub, 1) := by decide +kernel
theorem d_X_link_11 : decode prog_7_method_5_code 11 = .ok (.if_icmp .gt 13, 3) := by decide +kernel
theorem d_X_link_14 : decode prog_7_method_5_code 14 = .ok (.iload_n 2, 1) := by decide +kernel
theorem d_X_link_15 : decode prog_7_method_5_code 15 = .ok (.ifCond .lt 9, 3) := by decide +kernel
theorem d_X_link_18 : decode prog_7_method_5_code 18 = .ok (.iload_n 2, 1) := by decide +kernel
theorem d_X_link_19 : decode prog_7_method_5_code 19 = .ok (.bipush 64, 2) := by decide +kernel
theorem d_X_link_21 : decode prog_7_method_5_code 21 = .ok (.if_icmp .le 5, 3) := by decide +kernel
theorem d_X_link_24 : decode prog_7_method_5_code 24 = .ok (.iconst (-1), 1) := by decide +kernel
theorem d_X_link_25 : decode prog_7_method_5_code 25 = .ok (.ireturn, 1) := by decide +kernel
theorem d_X_link_26 : decode prog_7_method_5_code 26 = .ok (.aload_n 0, 1) := by decide +kernel
theorem d_X_link_27 : decode prog_7_method_5_code 27 = .ok (.getfield 16, 3) := by decide +kernel
theorem d_X_link_30 : decode prog_7_method_5_code 30 = .ok (.iload_n 1, 1) := by decide +kernel
theorem d_X_link_31 : decode prog_7_method_5_code 31 = .ok (.iload_n 2, 1) := by decide +kernel
theorem d_X_link_32 : decode prog_7_method_5_code 32 = .ok (.i2l, 1) := by decide +kernel
theorem d_X_link_33 : decode prog_7_method_5_code 33 = .ok (.lastore, 1) := by decide +kernel
theorem d_X_link_34 : decode prog_7_method_5_code 34 = .ok (.iconst 0, 1) := by decide +kernel
theorem d_X_link_35 : decode prog_7_method_5_code 35 = .ok (.ireturn, 1) := by decide +kernel
theorem d_X_set_0 : decode prog_7_method_6_code 0 = .ok (.aload_n 0, 1) := by decide +kernel
theorem d_X_set_1 : decode prog_7_method_6_code 1 = .ok (.iload_n 1, 1) := by decide +kernel
theorem d_X_set_2 : decode prog_7_method_6_code 2 = .ok (.invokevirtual 61, 3) := by decide +kernel
theorem d_X_set_5 : decode prog_7_method_6_code 5 = .ok (.ifCond .ne 23, 3) := by decide +kernel
theorem d_X_set_8 : decode prog_7_method_6_code 8 = .ok (.aload_n 0, 1) := by decide +kernel
theorem d_X_set_9 : decode prog_7_method_6_code 9 = .ok (.iload_n 2, 1) := by decide +kernel
theorem d_X_set_10 : decode prog_7_method_6_code 10 = .ok (.ldc 65, 2) := by decide +kernel
theorem d_X_set_12 : decode prog_7_method_6_code 12 = .ok (.invokevirtual 66, 3) := by decide +kernel
theorem d_X_set_15 : decode prog_7_method_6_code 15 = .ok (.ifCond .ne 13, 3) := by decide +kernel
theorem d_X_set_18 : decode prog_7_method_6_code 18 = .ok (.aload_n 0, 1) := by decide +kernel
theorem d_X_set_19 : decode prog_7_method_6_code 19 = .ok (.iload_n 3, 1) := by decide +kernel
theorem d_X_set_20 : decode prog_7_method_6_code 20 = .ok (.ldc 65, 2) := by decide +kernel
theorem d_X_set_22 : decode prog_7_method_6_code 22 = .ok (.invokevirtual 66, 3) := by decide +kernel
theorem d_X_set_25 : decode prog_7_method_6_code 25 = .ok (.ifCond .eq 5, 3) := by decide +kernel
theorem d_X_set_28 : decode prog_7_method_6_code 28 = .ok (.iconst (-1), 1) := by decide +kernel
theorem d_X_set_29 : decode prog_7_method_6_code 29 = .ok (.ireturn, 1) := by decide +kernel
theorem d_X_set_30 : decode prog_7_method_6_code 30 = .ok (.aload_n 0, 1) := by decide +kernel
theorem d_X_set_31 : decode prog_7_method_6_code 31 = .ok (.getfield 22, 3) := by decide +kernel
theorem d_X_set_34 : decode prog_7_method_6_code 34 = .ok (.iload_n 1, 1) := by decide +kernel
theorem d_X_set_35 : decode prog_7_method_6_code 35 = .ok (.iload_n 2, 1) := by decide +kernel
theorem d_X_set_36 : decode prog_7_method_6_code 36 = .ok (.i2l, 1) := by decide +kernel
theorem d_X_set_37 : decode prog_7_method_6_code 37 = .ok (.lastore, 1) := by decide +kernel
theorem d_X_set_38 : decode prog_7_method_6_code 38 = .ok (.aload_n 0, 1) := by decide +kernel
theorem d_X_set_39 : decode prog_7_method_6_code 39 = .ok (.getfield 25, 3) := by decide +kernel
theorem d_X_set_42 : decode prog_7_method_6_code 42 = .ok (.iload_n 1, 1) := by decide +kernel
theorem d_X_set_43 : decode prog_7_method_6_code 43 = .ok (.iload_n 3, 1) := by decide +kernel
theorem d_X_set_44 : decode prog_7_method_6_code 44 = .ok (.i2l, 1) := by decide +kernel
theorem d_X_set_45 : decode prog_7_method_6_code 45 = .ok (.lastore, 1) := by decide +kernel
theorem d_X_set_46 : decode prog_7_method_6_code 46 = .ok (.iconst 0, 1) := by decide +kernel
theorem d_X_set_47 : decode prog_7_method_6_code 47 = .ok (.ireturn, 1) := by decide +kernel
theorem d_X_off_0 : decode prog_7_method_3_code 0 = .ok (.iload_n 1, 1) := by decide +kernel
theorem d_X_off_1 : decode prog_7_method_3_code 1 = .ok (.iload_n 2, 1) := by decide +kernel
theorem d_X_off_2 : decode prog_7_method_3_code 2 = .ok (.ineg, 1) := by decide +kernel
theorem d_X_off_3 : decode prog_7_method_3_code 3 = .ok (.if_icmp .lt 8, 3) := by decide +kernel
theorem d_X_off_6 : decode prog_7_method_3_code 6 = .ok (.iload_n 1, 1) := by decide +kernel
theorem d_X_off_7 : decode prog_7_method_3_code 7 = .ok (.iload_n 2, 1) := by decide +kernel
theorem d_X_off_8 : decode prog_7_method_3_code 8 = .ok (.if_icmp .le 7, 3) := by decide +kernel
theorem d_X_off_11 : decode prog_7_method_3_code 11 = .ok (.iconst 1, 1) := by decide +kernel
theorem d_X_off_12 : decode prog_7_method_3_code 12 = .ok (.goto 4, 3) := by decide +kernel
theorem d_X_off_15 : decode prog_7_method_3_code 15 = .ok (.iconst 0, 1) := by decide +kernel
theorem d_X_off_16 : decode prog_7_method_3_code 16 = .ok (.ireturn, 1) := by decide +kernel
theorem d_X_force_0 : decode prog_7_method_7_code 0 = .ok (.aload_n 0, 1) := by decide +kernel
theorem d_X_force_1 : decode prog_7_method_7_code 1 = .ok (.iload_n 1, 1) := by decide +kernel
theorem d_X_force_2 : decode prog_7_method_7_code 2 = .ok (.invokevirtual 61, 3) := by decide +kernel
theorem d_X_force_5 : decode prog_7_method_7_code 5 = .ok (.ifCond .ne 13, 3) := by decide +kernel
theorem d_X_force_8 : decode prog_7_method_7_code 8 = .ok (.aload_n 0, 1) := by decide +kernel
theorem d_X_force_9 : decode prog_7_method_7_code 9 = .ok (.iload_n 2, 1) := by decide +kernel
theorem d_X_force_10 : decode prog_7_method_7_code 10 = .ok (.ldc 65, 2) := by decide +kernel
theorem d_X_force_12 : decode prog_7_method_7_code 12 = .ok (.invokevirtual 66, 3) := by decide +kernel
theorem d_X_force_15 : decode prog_7_method_7_code 15 = .ok (.ifCond .eq 5, 3) := by decide +kernel
theorem d_X_force_18 : decode prog_7_method_7_code 18 = .ok (.iconst (-1), 1) := by decide +kernel
theorem d_X_force_19 : decode prog_7_method_7_code 19 = .ok (.ireturn, 1) := by decide +kernel
theorem d_X_force_20 : decode prog_7_method_7_code 20 = .ok (.aload_n 0, 1) := by decide +kernel
theorem d_X_force_21 : decode prog_7_method_7_code 21 = .ok (.getfield 19, 3) := by decide +kernel
theorem d_X_force_24 : decode prog_7_method_7_code 24 = .ok (.iload_n 1, 1) := by decide +kernel
theorem d_X_force_25 : decode prog_7_method_7_code 25 = .ok (.iload_n 2, 1) := by decide +kernel
theorem d_X_force_26 : decode prog_7_method_7_code 26 = .ok (.i2l, 1) := by decide +kernel
theorem d_X_force_27 : decode prog_7_method_7_code 27 = .ok (.lastore, 1) := by decide +kernel
theorem d_X_force_28 : decode prog_7_method_7_code 28 = .ok (.iconst 0, 1) := by decide +kernel
theorem d_X_force_29 : decode prog_7_method_7_code 29 = .ok (.ireturn, 1) := by decide +kernel
theorem d_X_tolerance_0 : decode prog_7_method_8_code 0 = .ok (.iload_n 1, 1) := by decide +kernel
theorem d_X_tolerance_1 : decode prog_7_method_8_code 1 = .ok (.ifCond .lt 9, 3) := by decide +kernel
theorem d_X_tolerance_4 : decode prog_7_method_8_code 4 = .ok (.iload_n 1, 1) := by decide +kernel
theorem d_X_tolerance_5 : decode prog_7_method_8_code 5 = .ok (.ldc 70, 2) := by decide +kernel
theorem d_X_tolerance_7 : decode prog_7_method_8_code 7 = .ok (.if_icmp .le 5, 3) := by decide +kernel
theorem d_X_tolerance_10 : decode prog_7_method_8_code 10 = .ok (.iconst (-1), 1) := by decide +kernel
theorem d_X_tolerance_11 : decode prog_7_method_8_code 11 = .ok (.ireturn, 1) := by decide +kernel
theorem d_X_tolerance_12 : decode prog_7_method_8_code 12 = .ok (.aload_n 0, 1) := by decide +kernel
theorem d_X_tolerance_13 : decode prog_7_method_8_code 13 = .ok (.iload_n 1, 1) := by decide +kernel
theorem d_X_tolerance_14 : decode prog_7_method_8_code 14 = .ok (.putfield 54, 3) := by decide +kernel
theorem d_X_tolerance_17 : decode prog_7_method_8_code 17 = .ok (.iconst 0, 1) := by decide +kernel
theorem d_X_tolerance_18 : decode prog_7_method_8_code 18 = .ok (.ireturn, 1) := by decide +kernel
theorem d_X_watch_0 : decode prog_7_method_9_code 0 = .ok (.iload_n 1, 1) := by decide +kernel
theorem d_X_watch_1 : decode prog_7_method_9_code 1 = .ok (.ifCond .lt 38, 3) := by decide +kernel
theorem d_X_watch_4 : decode prog_7_method_9_code 4 = .ok (.iload_n 1, 1) := by decide +kernel
theorem d_X_watch_5 : decode prog_7_method_9_code 5 = .ok (.iconst 3, 1) := by decide +kernel
theorem d_X_watch_6 : decode prog_7_method_9_code 6 = .ok (.if_icmp .gt 33, 3) := by decide +kernel
theorem d_X_watch_9 : decode prog_7_method_9_code 9 = .ok (.aload_n 0, 1) := by decide +kernel
theorem d_X_watch_10 : decode prog_7_method_9_code 10 = .ok (.iload_n 2, 1) := by decide +kernel
theorem d_X_watch_11 : decode prog_7_method_9_code 11 = .ok (.invokevirtual 61, 3) := by decide +kernel
theorem d_X_watch_14 : decode prog_7_method_9_code 14 = .ok (.ifCond .ne 25, 3) := by decide +kernel
theorem d_X_watch_17 : decode prog_7_method_9_code 17 = .ok (.aload_n 0, 1) := by decide +kernel
theorem d_X_watch_18 : decode prog_7_method_9_code 18 = .ok (.iload_n 3, 1) := by decide +kernel
theorem d_X_watch_19 : decode prog_7_method_9_code 19 = .ok (.ldc 65, 2) := by decide +kernel
theorem d_X_watch_21 : decode prog_7_method_9_code 21 = .ok (.invokevirtual 66, 3) := by decide +kernel
theorem d_X_watch_24 : decode prog_7_method_9_code 24 = .ok (.ifCond .ne 15, 3) := by decide +kernel
theorem d_X_watch_27 : decode prog_7_method_9_code 27 = .ok (.iload 5, 2) := by decide +kernel
theorem d_X_watch_29 : decode prog_7_method_9_code 29 = .ok (.iconst (-1), 1) := by decide +kernel
theorem d_X_watch_30 : decode prog_7_method_9_code 30 = .ok (.if_icmp .lt 9, 3) := by decide +kernel
theorem d_X_watch_33 : decode prog_7_method_9_code 33 = .ok (.iload 5, 2) := by decide +kernel
theorem d_X_watch_35 : decode prog_7_method_9_code 35 = .ok (.iconst 2, 1) := by decide +kernel
theorem d_X_watch_36 : decode prog_7_method_9_code 36 = .ok (.if_icmp .le 5, 3) := by decide +kernel
theorem d_X_watch_39 : decode prog_7_method_9_code 39 = .ok (.iconst (-1), 1) := by decide +kernel
theorem d_X_watch_40 : decode prog_7_method_9_code 40 = .ok (.ireturn, 1) := by decide +kernel
theorem d_X_watch_41 : decode prog_7_method_9_code 41 = .ok (.aload_n 0, 1) := by decide +kernel
theorem d_X_watch_42 : decode prog_7_method_9_code 42 = .ok (.getfield 45, 3) := by decide +kernel
theorem d_X_watch_45 : decode prog_7_method_9_code 45 = .ok (.iload_n 1, 1) := by decide +kernel
theorem d_X_watch_46 : decode prog_7_method_9_code 46 = .ok (.iload 5, 2) := by decide +kernel
theorem d_X_watch_48 : decode prog_7_method_9_code 48 = .ok (.ifCond .lt 7, 3) := by decide +kernel
theorem d_X_watch_51 : decode prog_7_method_9_code 51 = .ok (.iconst 1, 1) := by decide +kernel
theorem d_X_watch_52 : decode prog_7_method_9_code 52 = .ok (.goto 4, 3) := by decide +kernel
theorem d_X_watch_55 : decode prog_7_method_9_code 55 = .ok (.iconst 0, 1) := by decide +kernel
theorem d_X_watch_56 : decode prog_7_method_9_code 56 = .ok (.bastore, 1) := by decide +kernel
theorem d_X_watch_57 : decode prog_7_method_9_code 57 = .ok (.aload_n 0, 1) := by decide +kernel
theorem d_X_watch_58 : decode prog_7_method_9_code 58 = .ok (.getfield 31, 3) := by decide +kernel
theorem d_X_watch_61 : decode prog_7_method_9_code 61 = .ok (.iload_n 1, 1) := by decide +kernel
theorem d_X_watch_62 : decode prog_7_method_9_code 62 = .ok (.iload_n 2, 1) := by decide +kernel
theorem d_X_watch_63 : decode prog_7_method_9_code 63 = .ok (.iastore, 1) := by decide +kernel
theorem d_X_watch_64 : decode prog_7_method_9_code 64 = .ok (.aload_n 0, 1) := by decide +kernel
theorem d_X_watch_65 : decode prog_7_method_9_code 65 = .ok (.getfield 35, 3) := by decide +kernel
theorem d_X_watch_68 : decode prog_7_method_9_code 68 = .ok (.iload_n 1, 1) := by decide +kernel
theorem d_X_watch_69 : decode prog_7_method_9_code 69 = .ok (.iload_n 3, 1) := by decide +kernel
theorem d_X_watch_70 : decode prog_7_method_9_code 70 = .ok (.i2l, 1) := by decide +kernel
theorem d_X_watch_71 : decode prog_7_method_9_code 71 = .ok (.lastore, 1) := by decide +kernel
theorem d_X_watch_72 : decode prog_7_method_9_code 72 = .ok (.aload_n 0, 1) := by decide +kernel
theorem d_X_watch_73 : decode prog_7_method_9_code 73 = .ok (.getfield 38, 3) := by decide +kernel
theorem d_X_watch_76 : decode prog_7_method_9_code 76 = .ok (.iload_n 1, 1) := by decide +kernel
theorem d_X_watch_77 : decode prog_7_method_9_code 77 = .ok (.iload 4, 2) := by decide +kernel
theorem d_X_watch_79 : decode prog_7_method_9_code 79 = .ok (.bastore, 1) := by decide +kernel
theorem d_X_watch_80 : decode prog_7_method_9_code 80 = .ok (.aload_n 0, 1) := by decide +kernel
theorem d_X_watch_81 : decode prog_7_method_9_code 81 = .ok (.getfield 42, 3) := by decide +kernel
theorem d_X_watch_84 : decode prog_7_method_9_code 84 = .ok (.iload_n 1, 1) := by decide +kernel
theorem d_X_watch_85 : decode prog_7_method_9_code 85 = .ok (.iload 5, 2) := by decide +kernel
theorem d_X_watch_87 : decode prog_7_method_9_code 87 = .ok (.iastore, 1) := by decide +kernel
theorem d_X_watch_88 : decode prog_7_method_9_code 88 = .ok (.iconst 0, 1) := by decide +kernel
theorem d_X_watch_89 : decode prog_7_method_9_code 89 = .ok (.ireturn, 1) := by decide +kernel
theorem d_X_advance_0 : decode prog_7_method_20_code 0 = .ok (.iload_n 1, 1) := by decide +kernel
theorem d_X_advance_1 : decode prog_7_method_20_code 1 = .ok (.iconst 1, 1) := by decide +kernel
theorem d_X_advance_2 : decode prog_7_method_20_code 2 = .ok (.if_icmp .lt 10, 3) := by decide +kernel
theorem d_X_advance_5 : decode prog_7_method_20_code 5 = .ok (.iload_n 1, 1) := by decide +kernel
theorem d_X_advance_6 : decode prog_7_method_20_code 6 = .ok (.sipush 2048, 3) := by decide +kernel
theorem d_X_advance_9 : decode prog_7_method_20_code 9 = .ok (.if_icmp .le 5, 3) := by decide +kernel
theorem d_X_advance_12 : decode prog_7_method_20_code 12 = .ok (.iconst (-1), 1) := by decide +kernel
theorem d_X_advance_13 : decode prog_7_method_20_code 13 = .ok (.ireturn, 1) := by decide +kernel
theorem d_X_advance_14 : decode prog_7_method_20_code 14 = .ok (.iconst 0, 1) := by decide +kernel
theorem d_X_advance_15 : decode prog_7_method_20_code 15 = .ok (.istore_n 2, 1) := by decide +kernel
theorem d_X_advance_16 : decode prog_7_method_20_code 16 = .ok (.iconst 0, 1) := by decide +kernel
theorem d_X_advance_17 : decode prog_7_method_20_code 17 = .ok (.istore_n 3, 1) := by decide +kernel
theorem d_X_advance_18 : decode prog_7_method_20_code 18 = .ok (.iload_n 2, 1) := by decide +kernel
theorem d_X_advance_19 : decode prog_7_method_20_code 19 = .ok (.iload_n 1, 1) := by decide +kernel
theorem d_X_advance_20 : decode prog_7_method_20_code 20 = .ok (.if_icmp .ge 149, 3) := by decide +kernel
theorem d_X_advance_23 : decode prog_7_method_20_code 23 = .ok (.iload_n 3, 1) := by decide +kernel
theorem d_X_advance_24 : decode prog_7_method_20_code 24 = .ok (.ifCond .ne 145, 3) := by decide +kernel
theorem d_X_advance_27 : decode prog_7_method_20_code 27 = .ok (.aload_n 0, 1) := by decide +kernel
theorem d_X_advance_28 : decode prog_7_method_20_code 28 = .ok (.iload_n 1, 1) := by decide +kernel
theorem d_X_advance_29 : decode prog_7_method_20_code 29 = .ok (.iload_n 2, 1) := by decide +kernel
theorem d_X_advance_30 : decode prog_7_method_20_code 30 = .ok (.isub, 1) := by decide +kernel
theorem d_X_advance_31 : decode prog_7_method_20_code 31 = .ok (.invokevirtual 120, 3) := by decide +kernel
theorem d_X_advance_34 : decode prog_7_method_20_code 34 = .ok (.ifCond .ne 6, 3) := by decide +kernel
theorem d_X_advance_37 : decode prog_7_method_20_code 37 = .ok (.bipush (-2), 2) := by decide +kernel
theorem d_X_advance_39 : decode prog_7_method_20_code 39 = .ok (.ireturn, 1) := by decide +kernel
theorem d_X_advance_40 : decode prog_7_method_20_code 40 = .ok (.aload_n 0, 1) := by decide +kernel
theorem d_X_advance_41 : decode prog_7_method_20_code 41 = .ok (.invokevirtual 92, 3) := by decide +kernel
theorem d_X_advance_44 : decode prog_7_method_20_code 44 = .ok (.istore 4, 2) := by decide +kernel
theorem d_X_advance_46 : decode prog_7_method_20_code 46 = .ok (.aload_n 0, 1) := by decide +kernel
theorem d_X_advance_47 : decode prog_7_method_20_code 47 = .ok (.invokevirtual 106, 3) := by decide +kernel
theorem d_X_advance_50 : decode prog_7_method_20_code 50 = .ok (.lstore 5, 2) := by decide +kernel
theorem d_X_advance_52 : decode prog_7_method_20_code 52 = .ok (.iconst 0, 1) := by decide +kernel
theorem d_X_advance_53 : decode prog_7_method_20_code 53 = .ok (.istore 7, 2) := by decide +kernel
theorem d_X_advance_55 : decode prog_7_method_20_code 55 = .ok (.iload 7, 2) := by decide +kernel
theorem d_X_advance_57 : decode prog_7_method_20_code 57 = .ok (.iconst 4, 1) := by decide +kernel
theorem d_X_advance_58 : decode prog_7_method_20_code 58 = .ok (.if_icmp .ge 23, 3) := by decide +kernel
theorem d_X_advance_61 : decode prog_7_method_20_code 61 = .ok (.aload_n 0, 1) := by decide +kernel
theorem d_X_advance_62 : decode prog_7_method_20_code 62 = .ok (.getfield 51, 3) := by decide +kernel
theorem d_X_advance_65 : decode prog_7_method_20_code 65 = .ok (.iload 7, 2) := by decide +kernel
theorem d_X_advance_67 : decode prog_7_method_20_code 67 = .ok (.aload_n 0, 1) := by decide +kernel
theorem d_X_advance_68 : decode prog_7_method_20_code 68 = .ok (.getfield 22, 3) := by decide +kernel
theorem d_X_advance_71 : decode prog_7_method_20_code 71 = .ok (.iload 7, 2) := by decide +kernel
theorem d_X_advance_73 : decode prog_7_method_20_code 73 = .ok (.laload, 1) := by decide +kernel
theorem d_X_advance_74 : decode prog_7_method_20_code 74 = .ok (.lastore, 1) := by decide +kernel
theorem d_X_advance_75 : decode prog_7_method_20_code 75 = .ok (.iinc 7 1, 3) := by decide +kernel
theorem d_X_advance_78 : decode prog_7_method_20_code 78 = .ok (.goto (-23), 3) := by decide +kernel
theorem d_X_advance_81 : decode prog_7_method_20_code 81 = .ok (.aload_n 0, 1) := by decide +kernel
theorem d_X_advance_82 : decode prog_7_method_20_code 82 = .ok (.iconst 2, 1) := by decide +kernel
theorem d_X_advance_83 : decode prog_7_method_20_code 83 = .ok (.iconst 0, 1) := by decide +kernel
theorem d_X_advance_84 : decode prog_7_method_20_code 84 = .ok (.invokevirtual 99, 3) := by decide +kernel
theorem d_X_advance_87 : decode prog_7_method_20_code 87 = .ok (.aload_n 0, 1) := by decide +kernel
theorem d_X_advance_88 : decode prog_7_method_20_code 88 = .ok (.dup, 1) := by decide +kernel
theorem d_X_advance_89 : decode prog_7_method_20_code 89 = .ok (.getfield 96, 3) := by decide +kernel
theorem d_X_advance_92 : decode prog_7_method_20_code 92 = .ok (.iload 4, 2) := by decide +kernel
theorem d_X_advance_94 : decode prog_7_method_20_code 94 = .ok (.iadd, 1) := by decide +kernel
theorem d_X_advance_95 : decode prog_7_method_20_code 95 = .ok (.putfield 96, 3) := by decide +kernel
theorem d_X_advance_98 : decode prog_7_method_20_code 98 = .ok (.iload_n 2, 1) := by decide +kernel
theorem d_X_advance_99 : decode prog_7_method_20_code 99 = .ok (.iload 4, 2) := by decide +kernel
theorem d_X_advance_101 : decode prog_7_method_20_code 101 = .ok (.iadd, 1) := by decide +kernel
theorem d_X_advance_102 : decode prog_7_method_20_code 102 = .ok (.istore_n 2, 1) := by decide +kernel
theorem d_X_advance_103 : decode prog_7_method_20_code 103 = .ok (.aload_n 0, 1) := by decide +kernel
theorem d_X_advance_104 : decode prog_7_method_20_code 104 = .ok (.dup, 1) := by decide +kernel
theorem d_X_advance_105 : decode prog_7_method_20_code 105 = .ok (.getfield 123, 3) := by decide +kernel
theorem d_X_advance_108 : decode prog_7_method_20_code 108 = .ok (.iconst 1, 1) := by decide +kernel
theorem d_X_advance_109 : decode prog_7_method_20_code 109 = .ok (.iadd, 1) := by decide +kernel
theorem d_X_advance_110 : decode prog_7_method_20_code 110 = .ok (.putfield 123, 3) := by decide +kernel
theorem d_X_advance_113 : decode prog_7_method_20_code 113 = .ok (.aload_n 0, 1) := by decide +kernel
theorem d_X_advance_114 : decode prog_7_method_20_code 114 = .ok (.lload 5, 2) := by decide +kernel
theorem d_X_advance_116 : decode prog_7_method_20_code 116 = .ok (.l2i, 1) := by decide +kernel
theorem d_X_advance_117 : decode prog_7_method_20_code 117 = .ok (.putfield 126, 3) := by decide +kernel
theorem d_X_advance_120 : decode prog_7_method_20_code 120 = .ok (.aload_n 0, 1) := by decide +kernel
theorem d_X_advance_121 : decode prog_7_method_20_code 121 = .ok (.getfield 89, 3) := by decide +kernel
theorem d_X_advance_124 : decode prog_7_method_20_code 124 = .ok (.ifCond .le 28, 3) := by decide +kernel
theorem d_X_advance_127 : decode prog_7_method_20_code 127 = .ok (.lload 5, 2) := by decide +kernel
theorem d_X_advance_129 : decode prog_7_method_20_code 129 = .ok (.ldc2_w 129, 3) := by decide +kernel
theorem d_X_advance_132 : decode prog_7_method_20_code 132 = .ok (.lmul, 1) := by decide +kernel
theorem d_X_advance_133 : decode prog_7_method_20_code 133 = .ok (.aload_n 0, 1) := by decide +kernel
theorem d_X_advance_134 : decode prog_7_method_20_code 134 = .ok (.getfield 54, 3) := by decide +kernel
theorem d_X_advance_137 : decode prog_7_method_20_code 137 = .ok (.i2l, 1) := by decide +kernel
theorem d_X_advance_138 : decode prog_7_method_20_code 138 = .ok (.lcmp, 1) := by decide +kernel
theorem d_X_advance_139 : decode prog_7_method_20_code 139 = .ok (.ifCond .gt 13, 3) := by decide +kernel
theorem d_X_advance_142 : decode prog_7_method_20_code 142 = .ok (.aload_n 0, 1) := by decide +kernel
theorem d_X_advance_143 : decode prog_7_method_20_code 143 = .ok (.dup, 1) := by decide +kernel
theorem d_X_advance_144 : decode prog_7_method_20_code 144 = .ok (.getfield 89, 3) := by decide +kernel
theorem d_X_advance_147 : decode prog_7_method_20_code 147 = .ok (.iconst 1, 1) := by decide +kernel
theorem d_X_advance_148 : decode prog_7_method_20_code 148 = .ok (.isub, 1) := by decide +kernel
theorem d_X_advance_149 : decode prog_7_method_20_code 149 = .ok (.putfield 89, 3) := by decide +kernel
theorem d_X_advance_152 : decode prog_7_method_20_code 152 = .ok (.aload_n 0, 1) := by decide +kernel
theorem d_X_advance_153 : decode prog_7_method_20_code 153 = .ok (.aload_n 0, 1) := by decide +kernel
theorem d_X_advance_154 : decode prog_7_method_20_code 154 = .ok (.getfield 96, 3) := by decide +kernel
theorem d_X_advance_157 : decode prog_7_method_20_code 157 = .ok (.iload 4, 2) := by decide +kernel
theorem d_X_advance_159 : decode prog_7_method_20_code 159 = .ok (.isub, 1) := by decide +kernel
theorem d_X_advance_160 : decode prog_7_method_20_code 160 = .ok (.iload 4, 2) := by decide +kernel
theorem d_X_advance_162 : decode prog_7_method_20_code 162 = .ok (.invokevirtual 131, 3) := by decide +kernel
theorem d_X_advance_165 : decode prog_7_method_20_code 165 = .ok (.istore_n 3, 1) := by decide +kernel
theorem d_X_advance_166 : decode prog_7_method_20_code 166 = .ok (.goto (-148), 3) := by decide +kernel
theorem d_X_advance_169 : decode prog_7_method_20_code 169 = .ok (.iload_n 2, 1) := by decide +kernel
theorem d_X_advance_170 : decode prog_7_method_20_code 170 = .ok (.ireturn, 1) := by decide +kernel
theorem d_X_stride_0 : decode prog_7_method_17_code 0 = .ok (.aload_n 0, 1) := by decide +kernel
theorem d_X_stride_1 : decode prog_7_method_17_code 1 = .ok (.invokevirtual 92, 3) := by decide +kernel
theorem d_X_stride_4 : decode prog_7_method_17_code 4 = .ok (.iload_n 1, 1) := by decide +kernel
theorem d_X_stride_5 : decode prog_7_method_17_code 5 = .ok (.if_icmp .gt 15, 3) := by decide +kernel
theorem d_X_stride_8 : decode prog_7_method_17_code 8 = .ok (.aload_n 0, 1) := by decide +kernel
theorem d_X_stride_9 : decode prog_7_method_17_code 9 = .ok (.getfield 96, 3) := by decide +kernel
theorem d_X_stride_12 : decode prog_7_method_17_code 12 = .ok (.aload_n 0, 1) := by decide +kernel
theorem d_X_stride_13 : decode prog_7_method_17_code 13 = .ok (.invokevirtual 92, 3) := by decide +kernel
theorem d_X_stride_16 : decode prog_7_method_17_code 16 = .ok (.irem, 1) := by decide +kernel
theorem d_X_stride_17 : decode prog_7_method_17_code 17 = .ok (.ifCond .eq 16, 3) := by decide +kernel
theorem d_X_stride_20 : decode prog_7_method_17_code 20 = .ok (.aload_n 0, 1) := by decide +kernel
theorem d_X_stride_21 : decode prog_7_method_17_code 21 = .ok (.dup, 1) := by decide +kernel
theorem d_X_stride_22 : decode prog_7_method_17_code 22 = .ok (.getfield 89, 3) := by decide +kernel
theorem d_X_stride_25 : decode prog_7_method_17_code 25 = .ok (.iconst 1, 1) := by decide +kernel
theorem d_X_stride_26 : decode prog_7_method_17_code 26 = .ok (.iadd, 1) := by decide +kernel
theorem d_X_stride_27 : decode prog_7_method_17_code 27 = .ok (.putfield 89, 3) := by decide +kernel
theorem d_X_stride_30 : decode prog_7_method_17_code 30 = .ok (.goto (-30), 3) := by decide +kernel
theorem d_X_stride_33 : decode prog_7_method_17_code 33 = .ok (.iconst 1, 1) := by decide +kernel
theorem d_X_stride_34 : decode prog_7_method_17_code 34 = .ok (.istore_n 2, 1) := by decide +kernel
theorem d_X_stride_35 : decode prog_7_method_17_code 35 = .ok (.iload_n 2, 1) := by decide +kernel
theorem d_X_stride_36 : decode prog_7_method_17_code 36 = .ok (.ifCond .eq 112, 3) := by decide +kernel
theorem d_X_stride_39 : decode prog_7_method_17_code 39 = .ok (.aload_n 0, 1) := by decide +kernel
theorem d_X_stride_40 : decode prog_7_method_17_code 40 = .ok (.iconst 0, 1) := by decide +kernel
theorem d_X_stride_41 : decode prog_7_method_17_code 41 = .ok (.iconst 1, 1) := by decide +kernel
theorem d_X_stride_42 : decode prog_7_method_17_code 42 = .ok (.invokevirtual 99, 3) := by decide +kernel
theorem d_X_stride_45 : decode prog_7_method_17_code 45 = .ok (.aload_n 0, 1) := by decide +kernel
theorem d_X_stride_46 : decode prog_7_method_17_code 46 = .ok (.iconst 0, 1) := by decide +kernel
theorem d_X_stride_47 : decode prog_7_method_17_code 47 = .ok (.iconst 2, 1) := by decide +kernel
theorem d_X_stride_48 : decode prog_7_method_17_code 48 = .ok (.invokevirtual 99, 3) := by decide +kernel
theorem d_X_stride_51 : decode prog_7_method_17_code 51 = .ok (.aload_n 0, 1) := by decide +kernel
theorem d_X_stride_52 : decode prog_7_method_17_code 52 = .ok (.iconst 1, 1) := by decide +kernel
theorem d_X_stride_53 : decode prog_7_method_17_code 53 = .ok (.aload_n 0, 1) := by decide +kernel
theorem d_X_stride_54 : decode prog_7_method_17_code 54 = .ok (.getfield 89, 3) := by decide +kernel
theorem d_X_stride_57 : decode prog_7_method_17_code 57 = .ok (.invokevirtual 103, 3) := by decide +kernel
theorem d_X_stride_60 : decode prog_7_method_17_code 60 = .ok (.ifCond .eq 31, 3) := by decide +kernel
theorem d_X_stride_63 : decode prog_7_method_17_code 63 = .ok (.aload_n 0, 1) := by decide +kernel
theorem d_X_stride_64 : decode prog_7_method_17_code 64 = .ok (.iconst 2, 1) := by decide +kernel
theorem d_X_stride_65 : decode prog_7_method_17_code 65 = .ok (.aload_n 0, 1) := by decide +kernel
theorem d_X_stride_66 : decode prog_7_method_17_code 66 = .ok (.getfield 89, 3) := by decide +kernel
theorem d_X_stride_69 : decode prog_7_method_17_code 69 = .ok (.iconst 1, 1) := by decide +kernel
theorem d_X_stride_70 : decode prog_7_method_17_code 70 = .ok (.iadd, 1) := by decide +kernel
theorem d_X_stride_71 : decode prog_7_method_17_code 71 = .ok (.invokevirtual 103, 3) := by decide +kernel
theorem d_X_stride_74 : decode prog_7_method_17_code 74 = .ok (.ifCond .eq 17, 3) := by decide +kernel
theorem d_X_stride_77 : decode prog_7_method_17_code 77 = .ok (.aload_n 0, 1) := by decide +kernel
theorem d_X_stride_78 : decode prog_7_method_17_code 78 = .ok (.iconst 2, 1) := by decide +kernel
theorem d_X_stride_79 : decode prog_7_method_17_code 79 = .ok (.aload_n 0, 1) := by decide +kernel
theorem d_X_stride_80 : decode prog_7_method_17_code 80 = .ok (.getfield 89, 3) := by decide +kernel
theorem d_X_stride_83 : decode prog_7_method_17_code 83 = .ok (.iconst 1, 1) := by decide +kernel
theorem d_X_stride_84 : decode prog_7_method_17_code 84 = .ok (.iadd, 1) := by decide +kernel
theorem d_X_stride_85 : decode prog_7_method_17_code 85 = .ok (.invokevirtual 103, 3) := by decide +kernel
theorem d_X_stride_88 : decode prog_7_method_17_code 88 = .ok (.ifCond .ne 5, 3) := by decide +kernel
theorem d_X_stride_91 : decode prog_7_method_17_code 91 = .ok (.iconst 0, 1) := by decide +kernel
theorem d_X_stride_92 : decode prog_7_method_17_code 92 = .ok (.ireturn, 1) := by decide +kernel
theorem d_X_stride_93 : decode prog_7_method_17_code 93 = .ok (.aload_n 0, 1) := by decide +kernel
theorem d_X_stride_94 : decode prog_7_method_17_code 94 = .ok (.invokevirtual 106, 3) := by decide +kernel
theorem d_X_stride_97 : decode prog_7_method_17_code 97 = .ok (.aload_n 0, 1) := by decide +kernel
theorem d_X_stride_98 : decode prog_7_method_17_code 98 = .ok (.getfield 54, 3) := by decide +kernel
theorem d_X_stride_101 : decode prog_7_method_17_code 101 = .ok (.i2l, 1) := by decide +kernel
theorem d_X_stride_102 : decode prog_7_method_17_code 102 = .ok (.lcmp, 1) := by decide +kernel
theorem d_X_stride_103 : decode prog_7_method_17_code 103 = .ok (.ifCond .le 16, 3) := by decide +kernel
theorem d_X_stride_106 : decode prog_7_method_17_code 106 = .ok (.aload_n 0, 1) := by decide +kernel
theorem d_X_stride_107 : decode prog_7_method_17_code 107 = .ok (.getfield 89, 3) := by decide +kernel
theorem d_X_stride_110 : decode prog_7_method_17_code 110 = .ok (.bipush 8, 2) := by decide +kernel
theorem d_X_stride_112 : decode prog_7_method_17_code 112 = .ok (.if_icmp .ge 7, 3) := by decide +kernel
theorem d_X_stride_115 : decode prog_7_method_17_code 115 = .ok (.iconst 1, 1) := by decide +kernel
theorem d_X_stride_116 : decode prog_7_method_17_code 116 = .ok (.goto 4, 3) := by decide +kernel
theorem d_X_stride_119 : decode prog_7_method_17_code 119 = .ok (.iconst 0, 1) := by decide +kernel
theorem d_X_stride_120 : decode prog_7_method_17_code 120 = .ok (.istore_n 2, 1) := by decide +kernel
theorem d_X_stride_121 : decode prog_7_method_17_code 121 = .ok (.iload_n 2, 1) := by decide +kernel
theorem d_X_stride_122 : decode prog_7_method_17_code 122 = .ok (.ifCond .eq (-87), 3) := by decide +kernel
theorem d_X_stride_125 : decode prog_7_method_17_code 125 = .ok (.aload_n 0, 1) := by decide +kernel
theorem d_X_stride_126 : decode prog_7_method_17_code 126 = .ok (.dup, 1) := by decide +kernel
theorem d_X_stride_127 : decode prog_7_method_17_code 127 = .ok (.getfield 89, 3) := by decide +kernel
theorem d_X_stride_130 : decode prog_7_method_17_code 130 = .ok (.iconst 1, 1) := by decide +kernel
theorem d_X_stride_131 : decode prog_7_method_17_code 131 = .ok (.iadd, 1) := by decide +kernel
theorem d_X_stride_132 : decode prog_7_method_17_code 132 = .ok (.putfield 89, 3) := by decide +kernel
theorem d_X_stride_135 : decode prog_7_method_17_code 135 = .ok (.aload_n 0, 1) := by decide +kernel
theorem d_X_stride_136 : decode prog_7_method_17_code 136 = .ok (.dup, 1) := by decide +kernel
theorem d_X_stride_137 : decode prog_7_method_17_code 137 = .ok (.getfield 110, 3) := by decide +kernel
theorem d_X_stride_140 : decode prog_7_method_17_code 140 = .ok (.iconst 1, 1) := by decide +kernel
theorem d_X_stride_141 : decode prog_7_method_17_code 141 = .ok (.iadd, 1) := by decide +kernel
theorem d_X_stride_142 : decode prog_7_method_17_code 142 = .ok (.putfield 110, 3) := by decide +kernel
theorem d_X_stride_145 : decode prog_7_method_17_code 145 = .ok (.goto (-110), 3) := by decide +kernel
theorem d_X_stride_148 : decode prog_7_method_17_code 148 = .ok (.iconst 1, 1) := by decide +kernel
theorem d_X_stride_149 : decode prog_7_method_17_code 149 = .ok (.ireturn, 1) := by decide +kernel
theorem d_X_ticks_0 : decode prog_7_method_16_code 0 = .ok (.sipush 256, 3) := by decide +kernel
theorem d_X_ticks_3 : decode prog_7_method_16_code 3 = .ok (.aload_n 0, 1) := by decide +kernel
theorem d_X_ticks_4 : decode prog_7_method_16_code 4 = .ok (.getfield 89, 3) := by decide +kernel
theorem d_X_ticks_7 : decode prog_7_method_16_code 7 = .ok (.ishr, 1) := by decide +kernel
theorem d_X_ticks_8 : decode prog_7_method_16_code 8 = .ok (.ireturn, 1) := by decide +kernel
theorem d_X_copy_0 : decode prog_7_method_14_code 0 = .ok (.iconst 0, 1) := by decide +kernel
theorem d_X_copy_1 : decode prog_7_method_14_code 1 = .ok (.istore_n 3, 1) := by decide +kernel
theorem d_X_copy_2 : decode prog_7_method_14_code 2 = .ok (.iload_n 3, 1) := by decide +kernel
theorem d_X_copy_3 : decode prog_7_method_14_code 3 = .ok (.iconst 4, 1) := by decide +kernel
theorem d_X_copy_4 : decode prog_7_method_14_code 4 = .ok (.if_icmp .ge 49, 3) := by decide +kernel
theorem d_X_copy_7 : decode prog_7_method_14_code 7 = .ok (.aload_n 0, 1) := by decide +kernel
theorem d_X_copy_8 : decode prog_7_method_14_code 8 = .ok (.getfield 22, 3) := by decide +kernel
theorem d_X_copy_11 : decode prog_7_method_14_code 11 = .ok (.iload_n 2, 1) := by decide +kernel
theorem d_X_copy_12 : decode prog_7_method_14_code 12 = .ok (.iconst 4, 1) := by decide +kernel
theorem d_X_copy_13 : decode prog_7_method_14_code 13 = .ok (.imul, 1) := by decide +kernel
theorem d_X_copy_14 : decode prog_7_method_14_code 14 = .ok (.iload_n 3, 1) := by decide +kernel
theorem d_X_copy_15 : decode prog_7_method_14_code 15 = .ok (.iadd, 1) := by decide +kernel
theorem d_X_copy_16 : decode prog_7_method_14_code 16 = .ok (.aload_n 0, 1) := by decide +kernel
theorem d_X_copy_17 : decode prog_7_method_14_code 17 = .ok (.getfield 22, 3) := by decide +kernel
theorem d_X_copy_20 : decode prog_7_method_14_code 20 = .ok (.iload_n 1, 1) := by decide +kernel
theorem d_X_copy_21 : decode prog_7_method_14_code 21 = .ok (.iconst 4, 1) := by decide +kernel
theorem d_X_copy_22 : decode prog_7_method_14_code 22 = .ok (.imul, 1) := by decide +kernel
theorem d_X_copy_23 : decode prog_7_method_14_code 23 = .ok (.iload_n 3, 1) := by decide +kernel
theorem d_X_copy_24 : decode prog_7_method_14_code 24 = .ok (.iadd, 1) := by decide +kernel
theorem d_X_copy_25 : decode prog_7_method_14_code 25 = .ok (.laload, 1) := by decide +kernel
theorem d_X_copy_26 : decode prog_7_method_14_code 26 = .ok (.lastore, 1) := by decide +kernel
theorem d_X_copy_27 : decode prog_7_method_14_code 27 = .ok (.aload_n 0, 1) := by decide +kernel
theorem d_X_copy_28 : decode prog_7_method_14_code 28 = .ok (.getfield 25, 3) := by decide +kernel
theorem d_X_copy_31 : decode prog_7_method_14_code 31 = .ok (.iload_n 2, 1) := by decide +kernel
theorem d_X_copy_32 : decode prog_7_method_14_code 32 = .ok (.iconst 4, 1) := by decide +kernel
theorem d_X_copy_33 : decode prog_7_method_14_code 33 = .ok (.imul, 1) := by decide +kernel
theorem d_X_copy_34 : decode prog_7_method_14_code 34 = .ok (.iload_n 3, 1) := by decide +kernel
theorem d_X_copy_35 : decode prog_7_method_14_code 35 = .ok (.iadd, 1) := by decide +kernel
theorem d_X_copy_36 : decode prog_7_method_14_code 36 = .ok (.aload_n 0, 1) := by decide +kernel
theorem d_X_copy_37 : decode prog_7_method_14_code 37 = .ok (.getfield 25, 3) := by decide +kernel
theorem d_X_copy_40 : decode prog_7_method_14_code 40 = .ok (.iload_n 1, 1) := by decide +kernel
theorem d_X_copy_41 : decode prog_7_method_14_code 41 = .ok (.iconst 4, 1) := by decide +kernel
theorem d_X_copy_42 : decode prog_7_method_14_code 42 = .ok (.imul, 1) := by decide +kernel
theorem d_X_copy_43 : decode prog_7_method_14_code 43 = .ok (.iload_n 3, 1) := by decide +kernel
theorem d_X_copy_44 : decode prog_7_method_14_code 44 = .ok (.iadd, 1) := by decide +kernel
theorem d_X_copy_45 : decode prog_7_method_14_code 45 = .ok (.laload, 1) := by decide +kernel
theorem d_X_copy_46 : decode prog_7_method_14_code 46 = .ok (.lastore, 1) := by decide +kernel
theorem d_X_copy_47 : decode prog_7_method_14_code 47 = .ok (.iinc 3 1, 3) := by decide +kernel
theorem d_X_copy_50 : decode prog_7_method_14_code 50 = .ok (.goto (-48), 3) := by decide +kernel
theorem d_X_copy_53 : decode prog_7_method_14_code 53 = .ok (.return_, 1) := by decide +kernel
theorem d_X_step_0 : decode prog_7_method_13_code 0 = .ok (.iconst 1, 1) := by decide +kernel
theorem d_X_step_1 : decode prog_7_method_13_code 1 = .ok (.istore_n 3, 1) := by decide +kernel
theorem d_X_step_2 : decode prog_7_method_13_code 2 = .ok (.iconst 0, 1) := by decide +kernel
theorem d_X_step_3 : decode prog_7_method_13_code 3 = .ok (.istore 4, 2) := by decide +kernel
theorem d_X_step_5 : decode prog_7_method_13_code 5 = .ok (.iload 4, 2) := by decide +kernel
theorem d_X_step_7 : decode prog_7_method_13_code 7 = .ok (.aload_n 0, 1) := by decide +kernel
theorem d_X_step_8 : decode prog_7_method_13_code 8 = .ok (.getfield 58, 3) := by decide +kernel
theorem d_X_step_11 : decode prog_7_method_13_code 11 = .ok (.if_icmp .ge 62, 3) := by decide +kernel
theorem d_X_step_14 : decode prog_7_method_13_code 14 = .ok (.aload_n 0, 1) := by decide +kernel
theorem d_X_step_15 : decode prog_7_method_13_code 15 = .ok (.getfield 25, 3) := by decide +kernel
theorem d_X_step_18 : decode prog_7_method_13_code 18 = .ok (.iload_n 1, 1) := by decide +kernel
theorem d_X_step_19 : decode prog_7_method_13_code 19 = .ok (.iconst 4, 1) := by decide +kernel
theorem d_X_step_20 : decode prog_7_method_13_code 20 = .ok (.imul, 1) := by decide +kernel
theorem d_X_step_21 : decode prog_7_method_13_code 21 = .ok (.iload 4, 2) := by decide +kernel
theorem d_X_step_23 : decode prog_7_method_13_code 23 = .ok (.iadd, 1) := by decide +kernel
theorem d_X_step_24 : decode prog_7_method_13_code 24 = .ok (.laload, 1) := by decide +kernel
theorem d_X_step_25 : decode prog_7_method_13_code 25 = .ok (.lstore 5, 2) := by decide +kernel
theorem d_X_step_27 : decode prog_7_method_13_code 27 = .ok (.aload_n 0, 1) := by decide +kernel
theorem d_X_step_28 : decode prog_7_method_13_code 28 = .ok (.getfield 28, 3) := by decide +kernel
theorem d_X_step_31 : decode prog_7_method_13_code 31 = .ok (.iload 4, 2) := by decide +kernel
theorem d_X_step_33 : decode prog_7_method_13_code 33 = .ok (.lload 5, 2) := by decide +kernel
theorem d_X_step_35 : decode prog_7_method_13_code 35 = .ok (.aload_n 0, 1) := by decide +kernel
theorem d_X_step_36 : decode prog_7_method_13_code 36 = .ok (.aload_n 0, 1) := by decide +kernel
theorem d_X_step_37 : decode prog_7_method_13_code 37 = .ok (.iload_n 1, 1) := by decide +kernel
theorem d_X_step_38 : decode prog_7_method_13_code 38 = .ok (.iload 4, 2) := by decide +kernel
theorem d_X_step_40 : decode prog_7_method_13_code 40 = .ok (.lload 5, 2) := by decide +kernel
theorem d_X_step_42 : decode prog_7_method_13_code 42 = .ok (.invokevirtual 77, 3) := by decide +kernel
theorem d_X_step_45 : decode prog_7_method_13_code 45 = .ok (.iload_n 2, 1) := by decide +kernel
theorem d_X_step_46 : decode prog_7_method_13_code 46 = .ok (.invokevirtual 81, 3) := by decide +kernel
theorem d_X_step_49 : decode prog_7_method_13_code 49 = .ok (.ladd, 1) := by decide +kernel
theorem d_X_step_50 : decode prog_7_method_13_code 50 = .ok (.lastore, 1) := by decide +kernel
theorem d_X_step_51 : decode prog_7_method_13_code 51 = .ok (.aload_n 0, 1) := by decide +kernel
theorem d_X_step_52 : decode prog_7_method_13_code 52 = .ok (.aload_n 0, 1) := by decide +kernel
theorem d_X_step_53 : decode prog_7_method_13_code 53 = .ok (.getfield 28, 3) := by decide +kernel
theorem d_X_step_56 : decode prog_7_method_13_code 56 = .ok (.iload 4, 2) := by decide +kernel
theorem d_X_step_58 : decode prog_7_method_13_code 58 = .ok (.laload, 1) := by decide +kernel
theorem d_X_step_59 : decode prog_7_method_13_code 59 = .ok (.invokevirtual 85, 3) := by decide +kernel
theorem d_X_step_62 : decode prog_7_method_13_code 62 = .ok (.ifCond .eq 5, 3) := by decide +kernel
theorem d_X_step_65 : decode prog_7_method_13_code 65 = .ok (.iconst 0, 1) := by decide +kernel
theorem d_X_step_66 : decode prog_7_method_13_code 66 = .ok (.istore_n 3, 1) := by decide +kernel
theorem d_X_step_67 : decode prog_7_method_13_code 67 = .ok (.iinc 4 1, 3) := by decide +kernel
theorem d_X_step_70 : decode prog_7_method_13_code 70 = .ok (.goto (-65), 3) := by decide +kernel
theorem d_X_step_73 : decode prog_7_method_13_code 73 = .ok (.iload_n 3, 1) := by decide +kernel
theorem d_X_step_74 : decode prog_7_method_13_code 74 = .ok (.ifCond .ne 5, 3) := by decide +kernel
theorem d_X_step_77 : decode prog_7_method_13_code 77 = .ok (.iconst 0, 1) := by decide +kernel
theorem d_X_step_78 : decode prog_7_method_13_code 78 = .ok (.ireturn, 1) := by decide +kernel
theorem d_X_step_79 : decode prog_7_method_13_code 79 = .ok (.iconst 0, 1) := by decide +kernel
theorem d_X_step_80 : decode prog_7_method_13_code 80 = .ok (.istore 4, 2) := by decide +kernel
theorem d_X_step_82 : decode prog_7_method_13_code 82 = .ok (.iload 4, 2) := by decide +kernel
theorem d_X_step_84 : decode prog_7_method_13_code 84 = .ok (.aload_n 0, 1) := by decide +kernel
theorem d_X_step_85 : decode prog_7_method_13_code 85 = .ok (.getfield 58, 3) := by decide +kernel
theorem d_X_step_88 : decode prog_7_method_13_code 88 = .ok (.if_icmp .ge 58, 3) := by decide +kernel
theorem d_X_step_91 : decode prog_7_method_13_code 91 = .ok (.aload_n 0, 1) := by decide +kernel
theorem d_X_step_92 : decode prog_7_method_13_code 92 = .ok (.getfield 22, 3) := by decide +kernel
theorem d_X_step_95 : decode prog_7_method_13_code 95 = .ok (.iload_n 1, 1) := by decide +kernel
theorem d_X_step_96 : decode prog_7_method_13_code 96 = .ok (.iconst 4, 1) := by decide +kernel
theorem d_X_step_97 : decode prog_7_method_13_code 97 = .ok (.imul, 1) := by decide +kernel
theorem d_X_step_98 : decode prog_7_method_13_code 98 = .ok (.iload 4, 2) := by decide +kernel
theorem d_X_step_100 : decode prog_7_method_13_code 100 = .ok (.iadd, 1) := by decide +kernel
theorem d_X_step_101 : decode prog_7_method_13_code 101 = .ok (.dup2, 1) := by decide +kernel
theorem d_X_step_102 : decode prog_7_method_13_code 102 = .ok (.laload, 1) := by decide +kernel
theorem d_X_step_103 : decode prog_7_method_13_code 103 = .ok (.aload_n 0, 1) := by decide +kernel
theorem d_X_step_104 : decode prog_7_method_13_code 104 = .ok (.getfield 28, 3) := by decide +kernel
theorem d_X_step_107 : decode prog_7_method_13_code 107 = .ok (.iload 4, 2) := by decide +kernel
theorem d_X_step_109 : decode prog_7_method_13_code 109 = .ok (.laload, 1) := by decide +kernel
theorem d_X_step_110 : decode prog_7_method_13_code 110 = .ok (.lconst 1, 1) := by decide +kernel
theorem d_X_step_111 : decode prog_7_method_13_code 111 = .ok (.iload_n 2, 1) := by decide +kernel
theorem d_X_step_112 : decode prog_7_method_13_code 112 = .ok (.lshl, 1) := by decide +kernel
theorem d_X_step_113 : decode prog_7_method_13_code 113 = .ok (.iconst 1, 1) := by decide +kernel
theorem d_X_step_114 : decode prog_7_method_13_code 114 = .ok (.lshr, 1) := by decide +kernel
theorem d_X_step_115 : decode prog_7_method_13_code 115 = .ok (.ladd, 1) := by decide +kernel
theorem d_X_step_116 : decode prog_7_method_13_code 116 = .ok (.iload_n 2, 1) := by decide +kernel
theorem d_X_step_117 : decode prog_7_method_13_code 117 = .ok (.lshr, 1) := by decide +kernel
theorem d_X_step_118 : decode prog_7_method_13_code 118 = .ok (.ladd, 1) := by decide +kernel
theorem d_X_step_119 : decode prog_7_method_13_code 119 = .ok (.lastore, 1) := by decide +kernel
theorem d_X_step_120 : decode prog_7_method_13_code 120 = .ok (.aload_n 0, 1) := by decide +kernel
theorem d_X_step_121 : decode prog_7_method_13_code 121 = .ok (.aload_n 0, 1) := by decide +kernel
theorem d_X_step_122 : decode prog_7_method_13_code 122 = .ok (.getfield 22, 3) := by decide +kernel
theorem d_X_step_125 : decode prog_7_method_13_code 125 = .ok (.iload_n 1, 1) := by decide +kernel
theorem d_X_step_126 : decode prog_7_method_13_code 126 = .ok (.iconst 4, 1) := by decide +kernel
theorem d_X_step_127 : decode prog_7_method_13_code 127 = .ok (.imul, 1) := by decide +kernel
theorem d_X_step_128 : decode prog_7_method_13_code 128 = .ok (.iload 4, 2) := by decide +kernel
theorem d_X_step_130 : decode prog_7_method_13_code 130 = .ok (.iadd, 1) := by decide +kernel
theorem d_X_step_131 : decode prog_7_method_13_code 131 = .ok (.laload, 1) := by decide +kernel
theorem d_X_step_132 : decode prog_7_method_13_code 132 = .ok (.invokevirtual 85, 3) := by decide +kernel
theorem d_X_step_135 : decode prog_7_method_13_code 135 = .ok (.ifCond .eq 5, 3) := by decide +kernel
theorem d_X_step_138 : decode prog_7_method_13_code 138 = .ok (.iconst 0, 1) := by decide +kernel
theorem d_X_step_139 : decode prog_7_method_13_code 139 = .ok (.istore_n 3, 1) := by decide +kernel
theorem d_X_step_140 : decode prog_7_method_13_code 140 = .ok (.iinc 4 1, 3) := by decide +kernel
theorem d_X_step_143 : decode prog_7_method_13_code 143 = .ok (.goto (-61), 3) := by decide +kernel
theorem d_X_step_146 : decode prog_7_method_13_code 146 = .ok (.iload_n 3, 1) := by decide +kernel
theorem d_X_step_147 : decode prog_7_method_13_code 147 = .ok (.ifCond .ne 5, 3) := by decide +kernel
theorem d_X_step_150 : decode prog_7_method_13_code 150 = .ok (.iconst 0, 1) := by decide +kernel
theorem d_X_step_151 : decode prog_7_method_13_code 151 = .ok (.ireturn, 1) := by decide +kernel
theorem d_X_step_152 : decode prog_7_method_13_code 152 = .ok (.iconst 0, 1) := by decide +kernel
theorem d_X_step_153 : decode prog_7_method_13_code 153 = .ok (.istore 4, 2) := by decide +kernel
theorem d_X_step_155 : decode prog_7_method_13_code 155 = .ok (.iload 4, 2) := by decide +kernel
theorem d_X_step_157 : decode prog_7_method_13_code 157 = .ok (.aload_n 0, 1) := by decide +kernel
theorem d_X_step_158 : decode prog_7_method_13_code 158 = .ok (.getfield 58, 3) := by decide +kernel
theorem d_X_step_161 : decode prog_7_method_13_code 161 = .ok (.if_icmp .ge 67, 3) := by decide +kernel
theorem d_X_step_164 : decode prog_7_method_13_code 164 = .ok (.aload_n 0, 1) := by decide +kernel
theorem d_X_step_165 : decode prog_7_method_13_code 165 = .ok (.getfield 25, 3) := by decide +kernel
theorem d_X_step_168 : decode prog_7_method_13_code 168 = .ok (.iload_n 1, 1) := by decide +kernel
theorem d_X_step_169 : decode prog_7_method_13_code 169 = .ok (.iconst 4, 1) := by decide +kernel
theorem d_X_step_170 : decode prog_7_method_13_code 170 = .ok (.imul, 1) := by decide +kernel
theorem d_X_step_171 : decode prog_7_method_13_code 171 = .ok (.iload 4, 2) := by decide +kernel
theorem d_X_step_173 : decode prog_7_method_13_code 173 = .ok (.iadd, 1) := by decide +kernel
theorem d_X_step_174 : decode prog_7_method_13_code 174 = .ok (.aload_n 0, 1) := by decide +kernel
theorem d_X_step_175 : decode prog_7_method_13_code 175 = .ok (.getfield 28, 3) := by decide +kernel
theorem d_X_step_178 : decode prog_7_method_13_code 178 = .ok (.iload 4, 2) := by decide +kernel
theorem d_X_step_180 : decode prog_7_method_13_code 180 = .ok (.laload, 1) := by decide +kernel
theorem d_X_step_181 : decode prog_7_method_13_code 181 = .ok (.aload_n 0, 1) := by decide +kernel
theorem d_X_step_182 : decode prog_7_method_13_code 182 = .ok (.aload_n 0, 1) := by decide +kernel
theorem d_X_step_183 : decode prog_7_method_13_code 183 = .ok (.iload_n 1, 1) := by decide +kernel
theorem d_X_step_184 : decode prog_7_method_13_code 184 = .ok (.iload 4, 2) := by decide +kernel
theorem d_X_step_186 : decode prog_7_method_13_code 186 = .ok (.aload_n 0, 1) := by decide +kernel
theorem d_X_step_187 : decode prog_7_method_13_code 187 = .ok (.getfield 28, 3) := by decide +kernel
theorem d_X_step_190 : decode prog_7_method_13_code 190 = .ok (.iload 4, 2) := by decide +kernel
theorem d_X_step_192 : decode prog_7_method_13_code 192 = .ok (.laload, 1) := by decide +kernel
theorem d_X_step_193 : decode prog_7_method_13_code 193 = .ok (.invokevirtual 77, 3) := by decide +kernel
theorem d_X_step_196 : decode prog_7_method_13_code 196 = .ok (.iload_n 2, 1) := by decide +kernel
theorem d_X_step_197 : decode prog_7_method_13_code 197 = .ok (.invokevirtual 81, 3) := by decide +kernel
theorem d_X_step_200 : decode prog_7_method_13_code 200 = .ok (.ladd, 1) := by decide +kernel
theorem d_X_step_201 : decode prog_7_method_13_code 201 = .ok (.lastore, 1) := by decide +kernel
theorem d_X_step_202 : decode prog_7_method_13_code 202 = .ok (.aload_n 0, 1) := by decide +kernel
theorem d_X_step_203 : decode prog_7_method_13_code 203 = .ok (.aload_n 0, 1) := by decide +kernel
theorem d_X_step_204 : decode prog_7_method_13_code 204 = .ok (.getfield 25, 3) := by decide +kernel
theorem d_X_step_207 : decode prog_7_method_13_code 207 = .ok (.iload_n 1, 1) := by decide +kernel
theorem d_X_step_208 : decode prog_7_method_13_code 208 = .ok (.iconst 4, 1) := by decide +kernel
theorem d_X_step_209 : decode prog_7_method_13_code 209 = .ok (.imul, 1) := by decide +kernel
theorem d_X_step_210 : decode prog_7_method_13_code 210 = .ok (.iload 4, 2) := by decide +kernel
theorem d_X_step_212 : decode prog_7_method_13_code 212 = .ok (.iadd, 1) := by decide +kernel
theorem d_X_step_213 : decode prog_7_method_13_code 213 = .ok (.laload, 1) := by decide +kernel
theorem d_X_step_214 : decode prog_7_method_13_code 214 = .ok (.invokevirtual 85, 3) := by decide +kernel
theorem d_X_step_217 : decode prog_7_method_13_code 217 = .ok (.ifCond .eq 5, 3) := by decide +kernel
theorem d_X_step_220 : decode prog_7_method_13_code 220 = .ok (.iconst 0, 1) := by decide +kernel
theorem d_X_step_221 : decode prog_7_method_13_code 221 = .ok (.istore_n 3, 1) := by decide +kernel
theorem d_X_step_222 : decode prog_7_method_13_code 222 = .ok (.iinc 4 1, 3) := by decide +kernel
theorem d_X_step_225 : decode prog_7_method_13_code 225 = .ok (.goto (-70), 3) := by decide +kernel
theorem d_X_step_228 : decode prog_7_method_13_code 228 = .ok (.iload_n 3, 1) := by decide +kernel
theorem d_X_step_229 : decode prog_7_method_13_code 229 = .ok (.ireturn, 1) := by decide +kernel
theorem d_X_pushIn_0 : decode prog_7_method_10_code 0 = .ok (.aload_n 0, 1) := by decide +kernel
theorem d_X_pushIn_1 : decode prog_7_method_10_code 1 = .ok (.getfield 22, 3) := by decide +kernel
theorem d_X_pushIn_4 : decode prog_7_method_10_code 4 = .ok (.iload_n 1, 1) := by decide +kernel
theorem d_X_pushIn_5 : decode prog_7_method_10_code 5 = .ok (.iconst 4, 1) := by decide +kernel
theorem d_X_pushIn_6 : decode prog_7_method_10_code 6 = .ok (.imul, 1) := by decide +kernel
theorem d_X_pushIn_7 : decode prog_7_method_10_code 7 = .ok (.iload_n 2, 1) := by decide +kernel
theorem d_X_pushIn_8 : decode prog_7_method_10_code 8 = .ok (.iadd, 1) := by decide +kernel
theorem d_X_pushIn_9 : decode prog_7_method_10_code 9 = .ok (.laload, 1) := by decide +kernel
theorem d_X_pushIn_10 : decode prog_7_method_10_code 10 = .ok (.lstore 5, 2) := by decide +kernel
theorem d_X_pushIn_12 : decode prog_7_method_10_code 12 = .ok (.ldc2_w 71, 3) := by decide +kernel
theorem d_X_pushIn_15 : decode prog_7_method_10_code 15 = .ok (.aload_n 0, 1) := by decide +kernel
theorem d_X_pushIn_16 : decode prog_7_method_10_code 16 = .ok (.getfield 19, 3) := by decide +kernel
theorem d_X_pushIn_19 : decode prog_7_method_10_code 19 = .ok (.iload_n 2, 1) := by decide +kernel
theorem d_X_pushIn_20 : decode prog_7_method_10_code 20 = .ok (.laload, 1) := by decide +kernel
theorem d_X_pushIn_21 : decode prog_7_method_10_code 21 = .ok (.lmul, 1) := by decide +kernel
theorem d_X_pushIn_22 : decode prog_7_method_10_code 22 = .ok (.aload_n 0, 1) := by decide +kernel
theorem d_X_pushIn_23 : decode prog_7_method_10_code 23 = .ok (.getfield 7, 3) := by decide +kernel
theorem d_X_pushIn_26 : decode prog_7_method_10_code 26 = .ok (.iload_n 2, 1) := by decide +kernel
theorem d_X_pushIn_27 : decode prog_7_method_10_code 27 = .ok (.laload, 1) := by decide +kernel
theorem d_X_pushIn_28 : decode prog_7_method_10_code 28 = .ok (.lload 5, 2) := by decide +kernel
theorem d_X_pushIn_30 : decode prog_7_method_10_code 30 = .ok (.lmul, 1) := by decide +kernel
theorem d_X_pushIn_31 : decode prog_7_method_10_code 31 = .ok (.lsub, 1) := by decide +kernel
theorem d_X_pushIn_32 : decode prog_7_method_10_code 32 = .ok (.aload_n 0, 1) := by decide +kernel
theorem d_X_pushIn_33 : decode prog_7_method_10_code 33 = .ok (.getfield 13, 3) := by decide +kernel
theorem d_X_pushIn_36 : decode prog_7_method_10_code 36 = .ok (.iload_n 2, 1) := by decide +kernel
theorem d_X_pushIn_37 : decode prog_7_method_10_code 37 = .ok (.laload, 1) := by decide +kernel
theorem d_X_pushIn_38 : decode prog_7_method_10_code 38 = .ok (.lload_n 3, 1) := by decide +kernel
theorem d_X_pushIn_39 : decode prog_7_method_10_code 39 = .ok (.lmul, 1) := by decide +kernel
theorem d_X_pushIn_40 : decode prog_7_method_10_code 40 = .ok (.lsub, 1) := by decide +kernel
theorem d_X_pushIn_41 : decode prog_7_method_10_code 41 = .ok (.lstore 7, 2) := by decide +kernel
theorem d_X_pushIn_43 : decode prog_7_method_10_code 43 = .ok (.iload_n 2, 1) := by decide +kernel
theorem d_X_pushIn_44 : decode prog_7_method_10_code 44 = .ok (.aload_n 0, 1) := by decide +kernel
theorem d_X_pushIn_45 : decode prog_7_method_10_code 45 = .ok (.getfield 58, 3) := by decide +kernel
theorem d_X_pushIn_48 : decode prog_7_method_10_code 48 = .ok (.iconst 1, 1) := by decide +kernel
theorem d_X_pushIn_49 : decode prog_7_method_10_code 49 = .ok (.isub, 1) := by decide +kernel
theorem d_X_pushIn_50 : decode prog_7_method_10_code 50 = .ok (.if_icmp .ge 30, 3) := by decide +kernel
theorem d_X_pushIn_53 : decode prog_7_method_10_code 53 = .ok (.lload 7, 2) := by decide +kernel
theorem d_X_pushIn_55 : decode prog_7_method_10_code 55 = .ok (.aload_n 0, 1) := by decide +kernel
theorem d_X_pushIn_56 : decode prog_7_method_10_code 56 = .ok (.getfield 16, 3) := by decide +kernel
theorem d_X_pushIn_59 : decode prog_7_method_10_code 59 = .ok (.iload_n 2, 1) := by decide +kernel
theorem d_X_pushIn_60 : decode prog_7_method_10_code 60 = .ok (.laload, 1) := by decide +kernel
theorem d_X_pushIn_61 : decode prog_7_method_10_code 61 = .ok (.aload_n 0, 1) := by decide +kernel
theorem d_X_pushIn_62 : decode prog_7_method_10_code 62 = .ok (.getfield 22, 3) := by decide +kernel
theorem d_X_pushIn_65 : decode prog_7_method_10_code 65 = .ok (.iload_n 1, 1) := by decide +kernel
theorem d_X_pushIn_66 : decode prog_7_method_10_code 66 = .ok (.iconst 4, 1) := by decide +kernel
theorem d_X_pushIn_67 : decode prog_7_method_10_code 67 = .ok (.imul, 1) := by decide +kernel
theorem d_X_pushIn_68 : decode prog_7_method_10_code 68 = .ok (.iload_n 2, 1) := by decide +kernel
theorem d_X_pushIn_69 : decode prog_7_method_10_code 69 = .ok (.iadd, 1) := by decide +kernel
theorem d_X_pushIn_70 : decode prog_7_method_10_code 70 = .ok (.iconst 1, 1) := by decide +kernel
theorem d_X_pushIn_71 : decode prog_7_method_10_code 71 = .ok (.iadd, 1) := by decide +kernel
theorem d_X_pushIn_72 : decode prog_7_method_10_code 72 = .ok (.laload, 1) := by decide +kernel
theorem d_X_pushIn_73 : decode prog_7_method_10_code 73 = .ok (.lload 5, 2) := by decide +kernel
theorem d_X_pushIn_75 : decode prog_7_method_10_code 75 = .ok (.lsub, 1) := by decide +kernel
theorem d_X_pushIn_76 : decode prog_7_method_10_code 76 = .ok (.lmul, 1) := by decide +kernel
theorem d_X_pushIn_77 : decode prog_7_method_10_code 77 = .ok (.ladd, 1) := by decide +kernel
theorem d_X_pushIn_78 : decode prog_7_method_10_code 78 = .ok (.lstore 7, 2) := by decide +kernel
theorem d_X_pushIn_80 : decode prog_7_method_10_code 80 = .ok (.iload_n 2, 1) := by decide +kernel
theorem d_X_pushIn_81 : decode prog_7_method_10_code 81 = .ok (.ifCond .le 32, 3) := by decide +kernel
theorem d_X_pushIn_84 : decode prog_7_method_10_code 84 = .ok (.lload 7, 2) := by decide +kernel
theorem d_X_pushIn_86 : decode prog_7_method_10_code 86 = .ok (.aload_n 0, 1) := by decide +kernel
theorem d_X_pushIn_87 : decode prog_7_method_10_code 87 = .ok (.getfield 16, 3) := by decide +kernel
theorem d_X_pushIn_90 : decode prog_7_method_10_code 90 = .ok (.iload_n 2, 1) := by decide +kernel
theorem d_X_pushIn_91 : decode prog_7_method_10_code 91 = .ok (.iconst 1, 1) := by decide +kernel
theorem d_X_pushIn_92 : decode prog_7_method_10_code 92 = .ok (.isub, 1) := by decide +kernel
theorem d_X_pushIn_93 : decode prog_7_method_10_code 93 = .ok (.laload, 1) := by decide +kernel
theorem d_X_pushIn_94 : decode prog_7_method_10_code 94 = .ok (.lload 5, 2) := by decide +kernel
theorem d_X_pushIn_96 : decode prog_7_method_10_code 96 = .ok (.aload_n 0, 1) := by decide +kernel
theorem d_X_pushIn_97 : decode prog_7_method_10_code 97 = .ok (.getfield 22, 3) := by decide +kernel
theorem d_X_pushIn_100 : decode prog_7_method_10_code 100 = .ok (.iload_n 1, 1) := by decide +kernel
theorem d_X_pushIn_101 : decode prog_7_method_10_code 101 = .ok (.iconst 4, 1) := by decide +kernel
theorem d_X_pushIn_102 : decode prog_7_method_10_code 102 = .ok (.imul, 1) := by decide +kernel
theorem d_X_pushIn_103 : decode prog_7_method_10_code 103 = .ok (.iload_n 2, 1) := by decide +kernel
theorem d_X_pushIn_104 : decode prog_7_method_10_code 104 = .ok (.iadd, 1) := by decide +kernel
theorem d_X_pushIn_105 : decode prog_7_method_10_code 105 = .ok (.iconst 1, 1) := by decide +kernel
theorem d_X_pushIn_106 : decode prog_7_method_10_code 106 = .ok (.isub, 1) := by decide +kernel
theorem d_X_pushIn_107 : decode prog_7_method_10_code 107 = .ok (.laload, 1) := by decide +kernel
theorem d_X_pushIn_108 : decode prog_7_method_10_code 108 = .ok (.lsub, 1) := by decide +kernel
theorem d_X_pushIn_109 : decode prog_7_method_10_code 109 = .ok (.lmul, 1) := by decide +kernel
theorem d_X_pushIn_110 : decode prog_7_method_10_code 110 = .ok (.lsub, 1) := by decide +kernel
theorem d_X_pushIn_111 : decode prog_7_method_10_code 111 = .ok (.lstore 7, 2) := by decide +kernel
theorem d_X_pushIn_113 : decode prog_7_method_10_code 113 = .ok (.lload 7, 2) := by decide +kernel
theorem d_X_pushIn_115 : decode prog_7_method_10_code 115 = .ok (.lreturn, 1) := by decide +kernel
theorem d_X_kick_0 : decode prog_7_method_12_code 0 = .ok (.lload_n 1, 1) := by decide +kernel
theorem d_X_kick_1 : decode prog_7_method_12_code 1 = .ok (.lconst 1, 1) := by decide +kernel
theorem d_X_kick_2 : decode prog_7_method_12_code 2 = .ok (.iload_n 3, 1) := by decide +kernel
theorem d_X_kick_3 : decode prog_7_method_12_code 3 = .ok (.iconst 4, 1) := by decide +kernel
theorem d_X_kick_4 : decode prog_7_method_12_code 4 = .ok (.iadd, 1) := by decide +kernel
theorem d_X_kick_5 : decode prog_7_method_12_code 5 = .ok (.lshl, 1) := by decide +kernel
theorem d_X_kick_6 : decode prog_7_method_12_code 6 = .ok (.ladd, 1) := by decide +kernel
theorem d_X_kick_7 : decode prog_7_method_12_code 7 = .ok (.iload_n 3, 1) := by decide +kernel
theorem d_X_kick_8 : decode prog_7_method_12_code 8 = .ok (.iconst 5, 1) := by decide +kernel
theorem d_X_kick_9 : decode prog_7_method_12_code 9 = .ok (.iadd, 1) := by decide +kernel
theorem d_X_kick_10 : decode prog_7_method_12_code 10 = .ok (.lshr, 1) := by decide +kernel
theorem d_X_kick_11 : decode prog_7_method_12_code 11 = .ok (.lreturn, 1) := by decide +kernel
theorem d_X_far_0 : decode prog_7_method_11_code 0 = .ok (.lload_n 1, 1) := by decide +kernel
theorem d_X_far_1 : decode prog_7_method_11_code 1 = .ok (.ldc2_w 73, 3) := by decide +kernel
theorem d_X_far_4 : decode prog_7_method_11_code 4 = .ok (.lcmp, 1) := by decide +kernel
theorem d_X_far_5 : decode prog_7_method_11_code 5 = .ok (.ifCond .gt 11, 3) := by decide +kernel
theorem d_X_far_8 : decode prog_7_method_11_code 8 = .ok (.lload_n 1, 1) := by decide +kernel
theorem d_X_far_9 : decode prog_7_method_11_code 9 = .ok (.ldc2_w 75, 3) := by decide +kernel
theorem d_X_far_12 : decode prog_7_method_11_code 12 = .ok (.lcmp, 1) := by decide +kernel
theorem d_X_far_13 : decode prog_7_method_11_code 13 = .ok (.ifCond .ge 7, 3) := by decide +kernel
theorem d_X_far_16 : decode prog_7_method_11_code 16 = .ok (.iconst 1, 1) := by decide +kernel
theorem d_X_far_17 : decode prog_7_method_11_code 17 = .ok (.goto 4, 3) := by decide +kernel
theorem d_X_far_20 : decode prog_7_method_11_code 20 = .ok (.iconst 0, 1) := by decide +kernel
theorem d_X_far_21 : decode prog_7_method_11_code 21 = .ok (.ireturn, 1) := by decide +kernel
theorem d_X_error_0 : decode prog_7_method_15_code 0 = .ok (.lconst 0, 1) := by decide +kernel
theorem d_X_error_1 : decode prog_7_method_15_code 1 = .ok (.lstore_n 1, 1) := by decide +kernel
theorem d_X_error_2 : decode prog_7_method_15_code 2 = .ok (.iconst 0, 1) := by decide +kernel
theorem d_X_error_3 : decode prog_7_method_15_code 3 = .ok (.istore_n 3, 1) := by decide +kernel
theorem d_X_error_4 : decode prog_7_method_15_code 4 = .ok (.iload_n 3, 1) := by decide +kernel
theorem d_X_error_5 : decode prog_7_method_15_code 5 = .ok (.aload_n 0, 1) := by decide +kernel
theorem d_X_error_6 : decode prog_7_method_15_code 6 = .ok (.getfield 58, 3) := by decide +kernel
theorem d_X_error_9 : decode prog_7_method_15_code 9 = .ok (.if_icmp .ge 93, 3) := by decide +kernel
theorem d_X_error_12 : decode prog_7_method_15_code 12 = .ok (.aload_n 0, 1) := by decide +kernel
theorem d_X_error_13 : decode prog_7_method_15_code 13 = .ok (.getfield 22, 3) := by decide +kernel
theorem d_X_error_16 : decode prog_7_method_15_code 16 = .ok (.iconst 4, 1) := by decide +kernel
theorem d_X_error_17 : decode prog_7_method_15_code 17 = .ok (.iload_n 3, 1) := by decide +kernel
theorem d_X_error_18 : decode prog_7_method_15_code 18 = .ok (.iadd, 1) := by decide +kernel
theorem d_X_error_19 : decode prog_7_method_15_code 19 = .ok (.laload, 1) := by decide +kernel
theorem d_X_error_20 : decode prog_7_method_15_code 20 = .ok (.aload_n 0, 1) := by decide +kernel
theorem d_X_error_21 : decode prog_7_method_15_code 21 = .ok (.getfield 22, 3) := by decide +kernel
theorem d_X_error_24 : decode prog_7_method_15_code 24 = .ok (.bipush 8, 2) := by decide +kernel
theorem d_X_error_26 : decode prog_7_method_15_code 26 = .ok (.iload_n 3, 1) := by decide +kernel
theorem d_X_error_27 : decode prog_7_method_15_code 27 = .ok (.iadd, 1) := by decide +kernel
theorem d_X_error_28 : decode prog_7_method_15_code 28 = .ok (.laload, 1) := by decide +kernel
theorem d_X_error_29 : decode prog_7_method_15_code 29 = .ok (.lsub, 1) := by decide +kernel
theorem d_X_error_30 : decode prog_7_method_15_code 30 = .ok (.lstore 4, 2) := by decide +kernel
theorem d_X_error_32 : decode prog_7_method_15_code 32 = .ok (.aload_n 0, 1) := by decide +kernel
theorem d_X_error_33 : decode prog_7_method_15_code 33 = .ok (.getfield 25, 3) := by decide +kernel
theorem d_X_error_36 : decode prog_7_method_15_code 36 = .ok (.iconst 4, 1) := by decide +kernel
theorem d_X_error_37 : decode prog_7_method_15_code 37 = .ok (.iload_n 3, 1) := by decide +kernel
theorem d_X_error_38 : decode prog_7_method_15_code 38 = .ok (.iadd, 1) := by decide +kernel
theorem d_X_error_39 : decode prog_7_method_15_code 39 = .ok (.laload, 1) := by decide +kernel
theorem d_X_error_40 : decode prog_7_method_15_code 40 = .ok (.aload_n 0, 1) := by decide +kernel
theorem d_X_error_41 : decode prog_7_method_15_code 41 = .ok (.getfield 25, 3) := by decide +kernel
theorem d_X_error_44 : decode prog_7_method_15_code 44 = .ok (.bipush 8, 2) := by decide +kernel
theorem d_X_error_46 : decode prog_7_method_15_code 46 = .ok (.iload_n 3, 1) := by decide +kernel
theorem d_X_error_47 : decode prog_7_method_15_code 47 = .ok (.iadd, 1) := by decide +kernel
theorem d_X_error_48 : decode prog_7_method_15_code 48 = .ok (.laload, 1) := by decide +kernel
theorem d_X_error_49 : decode prog_7_method_15_code 49 = .ok (.lsub, 1) := by decide +kernel
theorem d_X_error_50 : decode prog_7_method_15_code 50 = .ok (.lstore 6, 2) := by decide +kernel
theorem d_X_error_52 : decode prog_7_method_15_code 52 = .ok (.lload 4, 2) := by decide +kernel
theorem d_X_error_54 : decode prog_7_method_15_code 54 = .ok (.lconst 0, 1) := by decide +kernel
theorem d_X_error_55 : decode prog_7_method_15_code 55 = .ok (.lcmp, 1) := by decide +kernel
theorem d_X_error_56 : decode prog_7_method_15_code 56 = .ok (.ifCond .ge 8, 3) := by decide +kernel
theorem d_X_error_59 : decode prog_7_method_15_code 59 = .ok (.lload 4, 2) := by decide +kernel
theorem d_X_error_61 : decode prog_7_method_15_code 61 = .ok (.lneg, 1) := by decide +kernel
theorem d_X_error_62 : decode prog_7_method_15_code 62 = .ok (.lstore 4, 2) := by decide +kernel
theorem d_X_error_64 : decode prog_7_method_15_code 64 = .ok (.lload 6, 2) := by decide +kernel
theorem d_X_error_66 : decode prog_7_method_15_code 66 = .ok (.lconst 0, 1) := by decide +kernel
theorem d_X_error_67 : decode prog_7_method_15_code 67 = .ok (.lcmp, 1) := by decide +kernel
theorem d_X_error_68 : decode prog_7_method_15_code 68 = .ok (.ifCond .ge 8, 3) := by decide +kernel
theorem d_X_error_71 : decode prog_7_method_15_code 71 = .ok (.lload 6, 2) := by decide +kernel
theorem d_X_error_73 : decode prog_7_method_15_code 73 = .ok (.lneg, 1) := by decide +kernel
theorem d_X_error_74 : decode prog_7_method_15_code 74 = .ok (.lstore 6, 2) := by decide +kernel
theorem d_X_error_76 : decode prog_7_method_15_code 76 = .ok (.lload 4, 2) := by decide +kernel
theorem d_X_error_78 : decode prog_7_method_15_code 78 = .ok (.lload_n 1, 1) := by decide +kernel
theorem d_X_error_79 : decode prog_7_method_15_code 79 = .ok (.lcmp, 1) := by decide +kernel
theorem d_X_error_80 : decode prog_7_method_15_code 80 = .ok (.ifCond .le 6, 3) := by decide +kernel
theorem d_X_error_83 : decode prog_7_method_15_code 83 = .ok (.lload 4, 2) := by decide +kernel
theorem d_X_error_85 : decode prog_7_method_15_code 85 = .ok (.lstore_n 1, 1) := by decide +kernel
theorem d_X_error_86 : decode prog_7_method_15_code 86 = .ok (.lload 6, 2) := by decide +kernel
theorem d_X_error_88 : decode prog_7_method_15_code 88 = .ok (.lload_n 1, 1) := by decide +kernel
theorem d_X_error_89 : decode prog_7_method_15_code 89 = .ok (.lcmp, 1) := by decide +kernel
theorem d_X_error_90 : decode prog_7_method_15_code 90 = .ok (.ifCond .le 6, 3) := by decide +kernel
theorem d_X_error_93 : decode prog_7_method_15_code 93 = .ok (.lload 6, 2) := by decide +kernel
theorem d_X_error_95 : decode prog_7_method_15_code 95 = .ok (.lstore_n 1, 1) := by decide +kernel
theorem d_X_error_96 : decode prog_7_method_15_code 96 = .ok (.iinc 3 1, 3) := by decide +kernel
theorem d_X_error_99 : decode prog_7_method_15_code 99 = .ok (.goto (-95), 3) := by decide +kernel
theorem d_X_error_102 : decode prog_7_method_15_code 102 = .ok (.lload_n 1, 1) := by decide +kernel
theorem d_X_error_103 : decode prog_7_method_15_code 103 = .ok (.lreturn, 1) := by decide +kernel
theorem d_X_look_0 : decode prog_7_method_19_code 0 = .ok (.iconst 0, 1) := by decide +kernel
theorem d_X_look_1 : decode prog_7_method_19_code 1 = .ok (.istore_n 3, 1) := by decide +kernel
theorem d_X_look_2 : decode prog_7_method_19_code 2 = .ok (.iconst 0, 1) := by decide +kernel
theorem d_X_look_3 : decode prog_7_method_19_code 3 = .ok (.istore 4, 2) := by decide +kernel
theorem d_X_look_5 : decode prog_7_method_19_code 5 = .ok (.iload 4, 2) := by decide +kernel
theorem d_X_look_7 : decode prog_7_method_19_code 7 = .ok (.iconst 4, 1) := by decide +kernel
theorem d_X_look_8 : decode prog_7_method_19_code 8 = .ok (.if_icmp .ge 150, 3) := by decide +kernel
theorem d_X_look_11 : decode prog_7_method_19_code 11 = .ok (.aload_n 0, 1) := by decide +kernel
theorem d_X_look_12 : decode prog_7_method_19_code 12 = .ok (.getfield 51, 3) := by decide +kernel
theorem d_X_look_15 : decode prog_7_method_19_code 15 = .ok (.aload_n 0, 1) := by decide +kernel
theorem d_X_look_16 : decode prog_7_method_19_code 16 = .ok (.getfield 31, 3) := by decide +kernel
theorem d_X_look_19 : decode prog_7_method_19_code 19 = .ok (.iload 4, 2) := by decide +kernel
theorem d_X_look_21 : decode prog_7_method_19_code 21 = .ok (.iaload, 1) := by decide +kernel
theorem d_X_look_22 : decode prog_7_method_19_code 22 = .ok (.laload, 1) := by decide +kernel
theorem d_X_look_23 : decode prog_7_method_19_code 23 = .ok (.lstore 5, 2) := by decide +kernel
theorem d_X_look_25 : decode prog_7_method_19_code 25 = .ok (.aload_n 0, 1) := by decide +kernel
theorem d_X_look_26 : decode prog_7_method_19_code 26 = .ok (.getfield 22, 3) := by decide +kernel
theorem d_X_look_29 : decode prog_7_method_19_code 29 = .ok (.aload_n 0, 1) := by decide +kernel
theorem d_X_look_30 : decode prog_7_method_19_code 30 = .ok (.getfield 31, 3) := by decide +kernel
theorem d_X_look_33 : decode prog_7_method_19_code 33 = .ok (.iload 4, 2) := by decide +kernel
theorem d_X_look_35 : decode prog_7_method_19_code 35 = .ok (.iaload, 1) := by decide +kernel
theorem d_X_look_36 : decode prog_7_method_19_code 36 = .ok (.laload, 1) := by decide +kernel
theorem d_X_look_37 : decode prog_7_method_19_code 37 = .ok (.lstore 7, 2) := by decide +kernel
theorem d_X_look_39 : decode prog_7_method_19_code 39 = .ok (.aload_n 0, 1) := by decide +kernel
theorem d_X_look_40 : decode prog_7_method_19_code 40 = .ok (.getfield 38, 3) := by decide +kernel
theorem d_X_look_43 : decode prog_7_method_19_code 43 = .ok (.iload 4, 2) := by decide +kernel
theorem d_X_look_45 : decode prog_7_method_19_code 45 = .ok (.baload, 1) := by decide +kernel
theorem d_X_look_46 : decode prog_7_method_19_code 46 = .ok (.ifCond .eq 37, 3) := by decide +kernel
theorem d_X_look_49 : decode prog_7_method_19_code 49 = .ok (.lload 5, 2) := by decide +kernel
theorem d_X_look_51 : decode prog_7_method_19_code 51 = .ok (.aload_n 0, 1) := by decide +kernel
theorem d_X_look_52 : decode prog_7_method_19_code 52 = .ok (.getfield 35, 3) := by decide +kernel
theorem d_X_look_55 : decode prog_7_method_19_code 55 = .ok (.iload 4, 2) := by decide +kernel
theorem d_X_look_57 : decode prog_7_method_19_code 57 = .ok (.laload, 1) := by decide +kernel
theorem d_X_look_58 : decode prog_7_method_19_code 58 = .ok (.lcmp, 1) := by decide +kernel
theorem d_X_look_59 : decode prog_7_method_19_code 59 = .ok (.ifCond .ge 20, 3) := by decide +kernel
theorem d_X_look_62 : decode prog_7_method_19_code 62 = .ok (.lload 7, 2) := by decide +kernel
theorem d_X_look_64 : decode prog_7_method_19_code 64 = .ok (.aload_n 0, 1) := by decide +kernel
theorem d_X_look_65 : decode prog_7_method_19_code 65 = .ok (.getfield 35, 3) := by decide +kernel
theorem d_X_look_68 : decode prog_7_method_19_code 68 = .ok (.iload 4, 2) := by decide +kernel
theorem d_X_look_70 : decode prog_7_method_19_code 70 = .ok (.laload, 1) := by decide +kernel
theorem d_X_look_71 : decode prog_7_method_19_code 71 = .ok (.lcmp, 1) := by decide +kernel
theorem d_X_look_72 : decode prog_7_method_19_code 72 = .ok (.ifCond .lt 7, 3) := by decide +kernel
theorem d_X_look_75 : decode prog_7_method_19_code 75 = .ok (.iconst 1, 1) := by decide +kernel
theorem d_X_look_76 : decode prog_7_method_19_code 76 = .ok (.goto 38, 3) := by decide +kernel
theorem d_X_look_79 : decode prog_7_method_19_code 79 = .ok (.iconst 0, 1) := by decide +kernel
theorem d_X_look_80 : decode prog_7_method_19_code 80 = .ok (.goto 34, 3) := by decide +kernel
theorem d_X_look_83 : decode prog_7_method_19_code 83 = .ok (.lload 5, 2) := by decide +kernel
theorem d_X_look_85 : decode prog_7_method_19_code 85 = .ok (.aload_n 0, 1) := by decide +kernel
theorem d_X_look_86 : decode prog_7_method_19_code 86 = .ok (.getfield 35, 3) := by decide +kernel
theorem d_X_look_89 : decode prog_7_method_19_code 89 = .ok (.iload 4, 2) := by decide +kernel
theorem d_X_look_91 : decode prog_7_method_19_code 91 = .ok (.laload, 1) := by decide +kernel
theorem d_X_look_92 : decode prog_7_method_19_code 92 = .ok (.lcmp, 1) := by decide +kernel
theorem d_X_look_93 : decode prog_7_method_19_code 93 = .ok (.ifCond .le 20, 3) := by decide +kernel
theorem d_X_look_96 : decode prog_7_method_19_code 96 = .ok (.lload 7, 2) := by decide +kernel
theorem d_X_look_98 : decode prog_7_method_19_code 98 = .ok (.aload_n 0, 1) := by decide +kernel
theorem d_X_look_99 : decode prog_7_method_19_code 99 = .ok (.getfield 35, 3) := by decide +kernel
theorem d_X_look_102 : decode prog_7_method_19_code 102 = .ok (.iload 4, 2) := by decide +kernel
theorem d_X_look_104 : decode prog_7_method_19_code 104 = .ok (.laload, 1) := by decide +kernel
theorem d_X_look_105 : decode prog_7_method_19_code 105 = .ok (.lcmp, 1) := by decide +kernel
theorem d_X_look_106 : decode prog_7_method_19_code 106 = .ok (.ifCond .gt 7, 3) := by decide +kernel
theorem d_X_look_109 : decode prog_7_method_19_code 109 = .ok (.iconst 1, 1) := by decide +kernel
theorem d_X_look_110 : decode prog_7_method_19_code 110 = .ok (.goto 4, 3) := by decide +kernel
theorem d_X_look_113 : decode prog_7_method_19_code 113 = .ok (.iconst 0, 1) := by decide +kernel
theorem d_X_look_114 : decode prog_7_method_19_code 114 = .ok (.istore 9, 2) := by decide +kernel
theorem d_X_look_116 : decode prog_7_method_19_code 116 = .ok (.aload_n 0, 1) := by decide +kernel
theorem d_X_look_117 : decode prog_7_method_19_code 117 = .ok (.getfield 45, 3) := by decide +kernel
theorem d_X_look_120 : decode prog_7_method_19_code 120 = .ok (.iload 4, 2) := by decide +kernel
theorem d_X_look_122 : decode prog_7_method_19_code 122 = .ok (.baload, 1) := by decide +kernel
theorem d_X_look_123 : decode prog_7_method_19_code 123 = .ok (.ifCond .eq 29, 3) := by decide +kernel
theorem d_X_look_126 : decode prog_7_method_19_code 126 = .ok (.iload 9, 2) := by decide +kernel
theorem d_X_look_128 : decode prog_7_method_19_code 128 = .ok (.ifCond .eq 24, 3) := by decide +kernel
theorem d_X_look_131 : decode prog_7_method_19_code 131 = .ok (.aload_n 0, 1) := by decide +kernel
theorem d_X_look_132 : decode prog_7_method_19_code 132 = .ok (.iload 4, 2) := by decide +kernel
theorem d_X_look_134 : decode prog_7_method_19_code 134 = .ok (.iload_n 1, 1) := by decide +kernel
theorem d_X_look_135 : decode prog_7_method_19_code 135 = .ok (.iload_n 2, 1) := by decide +kernel
theorem d_X_look_136 : decode prog_7_method_19_code 136 = .ok (.invokevirtual 116, 3) := by decide +kernel
theorem d_X_look_139 : decode prog_7_method_19_code 139 = .ok (.aload_n 0, 1) := by decide +kernel
theorem d_X_look_140 : decode prog_7_method_19_code 140 = .ok (.getfield 42, 3) := by decide +kernel
theorem d_X_look_143 : decode prog_7_method_19_code 143 = .ok (.iload 4, 2) := by decide +kernel
theorem d_X_look_145 : decode prog_7_method_19_code 145 = .ok (.iaload, 1) := by decide +kernel
theorem d_X_look_146 : decode prog_7_method_19_code 146 = .ok (.iconst 2, 1) := by decide +kernel
theorem d_X_look_147 : decode prog_7_method_19_code 147 = .ok (.if_icmp .ne 5, 3) := by decide +kernel
theorem d_X_look_150 : decode prog_7_method_19_code 150 = .ok (.iconst 1, 1) := by decide +kernel
theorem d_X_look_151 : decode prog_7_method_19_code 151 = .ok (.istore_n 3, 1) := by decide +kernel
theorem d_X_look_152 : decode prog_7_method_19_code 152 = .ok (.iinc 4 1, 3) := by decide +kernel
theorem d_X_look_155 : decode prog_7_method_19_code 155 = .ok (.goto (-150), 3) := by decide +kernel
theorem d_X_look_158 : decode prog_7_method_19_code 158 = .ok (.iload_n 3, 1) := by decide +kernel
theorem d_X_look_159 : decode prog_7_method_19_code 159 = .ok (.ireturn, 1) := by decide +kernel
theorem d_X_note_0 : decode prog_7_method_18_code 0 = .ok (.aload_n 0, 1) := by decide +kernel
theorem d_X_note_1 : decode prog_7_method_18_code 1 = .ok (.getfield 31, 3) := by decide +kernel
theorem d_X_note_4 : decode prog_7_method_18_code 4 = .ok (.iload_n 1, 1) := by decide +kernel
theorem d_X_note_5 : decode prog_7_method_18_code 5 = .ok (.iaload, 1) := by decide +kernel
theorem d_X_note_6 : decode prog_7_method_18_code 6 = .ok (.istore 4, 2) := by decide +kernel
theorem d_X_note_8 : decode prog_7_method_18_code 8 = .ok (.aload_n 0, 1) := by decide +kernel
theorem d_X_note_9 : decode prog_7_method_18_code 9 = .ok (.getfield 22, 3) := by decide +kernel
theorem d_X_note_12 : decode prog_7_method_18_code 12 = .ok (.iload 4, 2) := by decide +kernel
theorem d_X_note_14 : decode prog_7_method_18_code 14 = .ok (.laload, 1) := by decide +kernel
theorem d_X_note_15 : decode prog_7_method_18_code 15 = .ok (.aload_n 0, 1) := by decide +kernel
theorem d_X_note_16 : decode prog_7_method_18_code 16 = .ok (.getfield 51, 3) := by decide +kernel
theorem d_X_note_19 : decode prog_7_method_18_code 19 = .ok (.iload 4, 2) := by decide +kernel
theorem d_X_note_21 : decode prog_7_method_18_code 21 = .ok (.laload, 1) := by decide +kernel
theorem d_X_note_22 : decode prog_7_method_18_code 22 = .ok (.lsub, 1) := by decide +kernel
theorem d_X_note_23 : decode prog_7_method_18_code 23 = .ok (.lstore 5, 2) := by decide +kernel
theorem d_X_note_25 : decode prog_7_method_18_code 25 = .ok (.aload_n 0, 1) := by decide +kernel
theorem d_X_note_26 : decode prog_7_method_18_code 26 = .ok (.getfield 35, 3) := by decide +kernel
theorem d_X_note_29 : decode prog_7_method_18_code 29 = .ok (.iload_n 1, 1) := by decide +kernel
theorem d_X_note_30 : decode prog_7_method_18_code 30 = .ok (.laload, 1) := by decide +kernel
theorem d_X_note_31 : decode prog_7_method_18_code 31 = .ok (.aload_n 0, 1) := by decide +kernel
theorem d_X_note_32 : decode prog_7_method_18_code 32 = .ok (.getfield 51, 3) := by decide +kernel
theorem d_X_note_35 : decode prog_7_method_18_code 35 = .ok (.iload 4, 2) := by decide +kernel
theorem d_X_note_37 : decode prog_7_method_18_code 37 = .ok (.laload, 1) := by decide +kernel
theorem d_X_note_38 : decode prog_7_method_18_code 38 = .ok (.lsub, 1) := by decide +kernel
theorem d_X_note_39 : decode prog_7_method_18_code 39 = .ok (.lstore 7, 2) := by decide +kernel
theorem d_X_note_41 : decode prog_7_method_18_code 41 = .ok (.lload 5, 2) := by decide +kernel
theorem d_X_note_43 : decode prog_7_method_18_code 43 = .ok (.lconst 0, 1) := by decide +kernel
theorem d_X_note_44 : decode prog_7_method_18_code 44 = .ok (.lcmp, 1) := by decide +kernel
theorem d_X_note_45 : decode prog_7_method_18_code 45 = .ok (.ifCond .ge 8, 3) := by decide +kernel
theorem d_X_note_48 : decode prog_7_method_18_code 48 = .ok (.lload 5, 2) := by decide +kernel
theorem d_X_note_50 : decode prog_7_method_18_code 50 = .ok (.lneg, 1) := by decide +kernel
theorem d_X_note_51 : decode prog_7_method_18_code 51 = .ok (.lstore 5, 2) := by decide +kernel
theorem d_X_note_53 : decode prog_7_method_18_code 53 = .ok (.lload 7, 2) := by decide +kernel
theorem d_X_note_55 : decode prog_7_method_18_code 55 = .ok (.lconst 0, 1) := by decide +kernel
theorem d_X_note_56 : decode prog_7_method_18_code 56 = .ok (.lcmp, 1) := by decide +kernel
theorem d_X_note_57 : decode prog_7_method_18_code 57 = .ok (.ifCond .ge 8, 3) := by decide +kernel
theorem d_X_note_60 : decode prog_7_method_18_code 60 = .ok (.lload 7, 2) := by decide +kernel
theorem d_X_note_62 : decode prog_7_method_18_code 62 = .ok (.lneg, 1) := by decide +kernel
theorem d_X_note_63 : decode prog_7_method_18_code 63 = .ok (.lstore 7, 2) := by decide +kernel
theorem d_X_note_65 : decode prog_7_method_18_code 65 = .ok (.aload_n 0, 1) := by decide +kernel
theorem d_X_note_66 : decode prog_7_method_18_code 66 = .ok (.getfield 113, 3) := by decide +kernel
theorem d_X_note_69 : decode prog_7_method_18_code 69 = .ok (.bipush 40, 2) := by decide +kernel
theorem d_X_note_71 : decode prog_7_method_18_code 71 = .ok (.if_icmp .ge 65, 3) := by decide +kernel
theorem d_X_note_74 : decode prog_7_method_18_code 74 = .ok (.aload_n 0, 1) := by decide +kernel
theorem d_X_note_75 : decode prog_7_method_18_code 75 = .ok (.getfield 48, 3) := by decide +kernel
theorem d_X_note_78 : decode prog_7_method_18_code 78 = .ok (.aload_n 0, 1) := by decide +kernel
theorem d_X_note_79 : decode prog_7_method_18_code 79 = .ok (.getfield 113, 3) := by decide +kernel
theorem d_X_note_82 : decode prog_7_method_18_code 82 = .ok (.iconst 3, 1) := by decide +kernel
theorem d_X_note_83 : decode prog_7_method_18_code 83 = .ok (.imul, 1) := by decide +kernel
theorem d_X_note_84 : decode prog_7_method_18_code 84 = .ok (.iload_n 1, 1) := by decide +kernel
theorem d_X_note_85 : decode prog_7_method_18_code 85 = .ok (.iastore, 1) := by decide +kernel
theorem d_X_note_86 : decode prog_7_method_18_code 86 = .ok (.aload_n 0, 1) := by decide +kernel
theorem d_X_note_87 : decode prog_7_method_18_code 87 = .ok (.getfield 48, 3) := by decide +kernel
theorem d_X_note_90 : decode prog_7_method_18_code 90 = .ok (.aload_n 0, 1) := by decide +kernel
theorem d_X_note_91 : decode prog_7_method_18_code 91 = .ok (.getfield 113, 3) := by decide +kernel
theorem d_X_note_94 : decode prog_7_method_18_code 94 = .ok (.iconst 3, 1) := by decide +kernel
theorem d_X_note_95 : decode prog_7_method_18_code 95 = .ok (.imul, 1) := by decide +kernel
theorem d_X_note_96 : decode prog_7_method_18_code 96 = .ok (.iconst 1, 1) := by decide +kernel
theorem d_X_note_97 : decode prog_7_method_18_code 97 = .ok (.iadd, 1) := by decide +kernel
theorem d_X_note_98 : decode prog_7_method_18_code 98 = .ok (.iload_n 2, 1) := by decide +kernel
theorem d_X_note_99 : decode prog_7_method_18_code 99 = .ok (.iload_n 3, 1) := by decide +kernel
theorem d_X_note_100 : decode prog_7_method_18_code 100 = .ok (.i2l, 1) := by decide +kernel
theorem d_X_note_101 : decode prog_7_method_18_code 101 = .ok (.lload 7, 2) := by decide +kernel
theorem d_X_note_103 : decode prog_7_method_18_code 103 = .ok (.lmul, 1) := by decide +kernel
theorem d_X_note_104 : decode prog_7_method_18_code 104 = .ok (.lload 5, 2) := by decide +kernel
theorem d_X_note_106 : decode prog_7_method_18_code 106 = .ok (.ladd, 1) := by decide +kernel
theorem d_X_note_107 : decode prog_7_method_18_code 107 = .ok (.lconst 1, 1) := by decide +kernel
theorem d_X_note_108 : decode prog_7_method_18_code 108 = .ok (.lsub, 1) := by decide +kernel
theorem d_X_note_109 : decode prog_7_method_18_code 109 = .ok (.lload 5, 2) := by decide +kernel
theorem d_X_note_111 : decode prog_7_method_18_code 111 = .ok (.ldiv, 1) := by decide +kernel
theorem d_X_note_112 : decode prog_7_method_18_code 112 = .ok (.l2i, 1) := by decide +kernel
theorem d_X_note_113 : decode prog_7_method_18_code 113 = .ok (.iadd, 1) := by decide +kernel
theorem d_X_note_114 : decode prog_7_method_18_code 114 = .ok (.iastore, 1) := by decide +kernel
theorem d_X_note_115 : decode prog_7_method_18_code 115 = .ok (.aload_n 0, 1) := by decide +kernel
theorem d_X_note_116 : decode prog_7_method_18_code 116 = .ok (.getfield 48, 3) := by decide +kernel
theorem d_X_note_119 : decode prog_7_method_18_code 119 = .ok (.aload_n 0, 1) := by decide +kernel
theorem d_X_note_120 : decode prog_7_method_18_code 120 = .ok (.getfield 113, 3) := by decide +kernel
theorem d_X_note_123 : decode prog_7_method_18_code 123 = .ok (.iconst 3, 1) := by decide +kernel
theorem d_X_note_124 : decode prog_7_method_18_code 124 = .ok (.imul, 1) := by decide +kernel
theorem d_X_note_125 : decode prog_7_method_18_code 125 = .ok (.iconst 2, 1) := by decide +kernel
theorem d_X_note_126 : decode prog_7_method_18_code 126 = .ok (.iadd, 1) := by decide +kernel
theorem d_X_note_127 : decode prog_7_method_18_code 127 = .ok (.aload_n 0, 1) := by decide +kernel
theorem d_X_note_128 : decode prog_7_method_18_code 128 = .ok (.getfield 25, 3) := by decide +kernel
theorem d_X_note_131 : decode prog_7_method_18_code 131 = .ok (.iload 4, 2) := by decide +kernel
theorem d_X_note_133 : decode prog_7_method_18_code 133 = .ok (.laload, 1) := by decide +kernel
theorem d_X_note_134 : decode prog_7_method_18_code 134 = .ok (.l2i, 1) := by decide +kernel
theorem d_X_note_135 : decode prog_7_method_18_code 135 = .ok (.iastore, 1) := by decide +kernel
theorem d_X_note_136 : decode prog_7_method_18_code 136 = .ok (.aload_n 0, 1) := by decide +kernel
theorem d_X_note_137 : decode prog_7_method_18_code 137 = .ok (.dup, 1) := by decide +kernel
theorem d_X_note_138 : decode prog_7_method_18_code 138 = .ok (.getfield 113, 3) := by decide +kernel
theorem d_X_note_141 : decode prog_7_method_18_code 141 = .ok (.iconst 1, 1) := by decide +kernel
theorem d_X_note_142 : decode prog_7_method_18_code 142 = .ok (.iadd, 1) := by decide +kernel
theorem d_X_note_143 : decode prog_7_method_18_code 143 = .ok (.putfield 113, 3) := by decide +kernel
theorem d_X_note_146 : decode prog_7_method_18_code 146 = .ok (.aload_n 0, 1) := by decide +kernel
theorem d_X_note_147 : decode prog_7_method_18_code 147 = .ok (.getfield 42, 3) := by decide +kernel
theorem d_X_note_150 : decode prog_7_method_18_code 150 = .ok (.iload_n 1, 1) := by decide +kernel
theorem d_X_note_151 : decode prog_7_method_18_code 151 = .ok (.iaload, 1) := by decide +kernel
theorem d_X_note_152 : decode prog_7_method_18_code 152 = .ok (.iconst 1, 1) := by decide +kernel
theorem d_X_note_153 : decode prog_7_method_18_code 153 = .ok (.if_icmp .ne 18, 3) := by decide +kernel
theorem d_X_note_156 : decode prog_7_method_18_code 156 = .ok (.aload_n 0, 1) := by decide +kernel
theorem d_X_note_157 : decode prog_7_method_18_code 157 = .ok (.getfield 25, 3) := by decide +kernel
theorem d_X_note_160 : decode prog_7_method_18_code 160 = .ok (.iload 4, 2) := by decide +kernel
theorem d_X_note_162 : decode prog_7_method_18_code 162 = .ok (.aload_n 0, 1) := by decide +kernel
theorem d_X_note_163 : decode prog_7_method_18_code 163 = .ok (.getfield 25, 3) := by decide +kernel
theorem d_X_note_166 : decode prog_7_method_18_code 166 = .ok (.iload 4, 2) := by decide +kernel
theorem d_X_note_168 : decode prog_7_method_18_code 168 = .ok (.laload, 1) := by decide +kernel
theorem d_X_note_169 : decode prog_7_method_18_code 169 = .ok (.lneg, 1) := by decide +kernel
theorem d_X_note_170 : decode prog_7_method_18_code 170 = .ok (.lastore, 1) := by decide +kernel
theorem d_X_note_171 : decode prog_7_method_18_code 171 = .ok (.return_, 1) := by decide +kernel
theorem d_X_place_0 : decode prog_7_method_21_code 0 = .ok (.aload_n 0, 1) := by decide +kernel
theorem d_X_place_1 : decode prog_7_method_21_code 1 = .ok (.iload_n 1, 1) := by decide +kernel
theorem d_X_place_2 : decode prog_7_method_21_code 2 = .ok (.invokevirtual 61, 3) := by decide +kernel
theorem d_X_place_5 : decode prog_7_method_21_code 5 = .ok (.ifCond .eq 7, 3) := by decide +kernel
theorem d_X_place_8 : decode prog_7_method_21_code 8 = .ok (.iconst (-1), 1) := by decide +kernel
theorem d_X_place_9 : decode prog_7_method_21_code 9 = .ok (.goto 10, 3) := by decide +kernel
theorem d_X_place_12 : decode prog_7_method_21_code 12 = .ok (.aload_n 0, 1) := by decide +kernel
theorem d_X_place_13 : decode prog_7_method_21_code 13 = .ok (.getfield 22, 3) := by decide +kernel
theorem d_X_place_16 : decode prog_7_method_21_code 16 = .ok (.iload_n 1, 1) := by decide +kernel
theorem d_X_place_17 : decode prog_7_method_21_code 17 = .ok (.laload, 1) := by decide +kernel
theorem d_X_place_18 : decode prog_7_method_21_code 18 = .ok (.l2i, 1) := by decide +kernel
theorem d_X_place_19 : decode prog_7_method_21_code 19 = .ok (.ireturn, 1) := by decide +kernel
theorem d_X_speed_0 : decode prog_7_method_22_code 0 = .ok (.aload_n 0, 1) := by decide +kernel
theorem d_X_speed_1 : decode prog_7_method_22_code 1 = .ok (.iload_n 1, 1) := by decide +kernel
theorem d_X_speed_2 : decode prog_7_method_22_code 2 = .ok (.invokevirtual 61, 3) := by decide +kernel
theorem d_X_speed_5 : decode prog_7_method_22_code 5 = .ok (.ifCond .eq 7, 3) := by decide +kernel
theorem d_X_speed_8 : decode prog_7_method_22_code 8 = .ok (.iconst (-1), 1) := by decide +kernel
theorem d_X_speed_9 : decode prog_7_method_22_code 9 = .ok (.goto 10, 3) := by decide +kernel
theorem d_X_speed_12 : decode prog_7_method_22_code 12 = .ok (.aload_n 0, 1) := by decide +kernel
theorem d_X_speed_13 : decode prog_7_method_22_code 13 = .ok (.getfield 25, 3) := by decide +kernel
theorem d_X_speed_16 : decode prog_7_method_22_code 16 = .ok (.iload_n 1, 1) := by decide +kernel
theorem d_X_speed_17 : decode prog_7_method_22_code 17 = .ok (.laload, 1) := by decide +kernel
theorem d_X_speed_18 : decode prog_7_method_22_code 18 = .ok (.l2i, 1) := by decide +kernel
theorem d_X_speed_19 : decode prog_7_method_22_code 19 = .ok (.ireturn, 1) := by decide +kernel
theorem d_X_push_0 : decode prog_7_method_23_code 0 = .ok (.aload_n 0, 1) := by decide +kernel
theorem d_X_push_1 : decode prog_7_method_23_code 1 = .ok (.iload_n 1, 1) := by decide +kernel
theorem d_X_push_2 : decode prog_7_method_23_code 2 = .ok (.invokevirtual 61, 3) := by decide +kernel
theorem d_X_push_5 : decode prog_7_method_23_code 5 = .ok (.ifCond .eq 9, 3) := by decide +kernel
theorem d_X_push_8 : decode prog_7_method_23_code 8 = .ok (.ldc2_w 134, 3) := by decide +kernel
theorem d_X_push_11 : decode prog_7_method_23_code 11 = .ok (.goto 15, 3) := by decide +kernel
theorem d_X_push_14 : decode prog_7_method_23_code 14 = .ok (.aload_n 0, 1) := by decide +kernel
theorem d_X_push_15 : decode prog_7_method_23_code 15 = .ok (.iconst 0, 1) := by decide +kernel
theorem d_X_push_16 : decode prog_7_method_23_code 16 = .ok (.iload_n 1, 1) := by decide +kernel
theorem d_X_push_17 : decode prog_7_method_23_code 17 = .ok (.aload_n 0, 1) := by decide +kernel
theorem d_X_push_18 : decode prog_7_method_23_code 18 = .ok (.getfield 25, 3) := by decide +kernel
theorem d_X_push_21 : decode prog_7_method_23_code 21 = .ok (.iload_n 1, 1) := by decide +kernel
theorem d_X_push_22 : decode prog_7_method_23_code 22 = .ok (.laload, 1) := by decide +kernel
theorem d_X_push_23 : decode prog_7_method_23_code 23 = .ok (.invokevirtual 77, 3) := by decide +kernel
theorem d_X_push_26 : decode prog_7_method_23_code 26 = .ok (.lreturn, 1) := by decide +kernel
theorem d_X_hit_0 : decode prog_7_method_24_code 0 = .ok (.iload_n 1, 1) := by decide +kernel
theorem d_X_hit_1 : decode prog_7_method_24_code 1 = .ok (.ifCond .lt 26, 3) := by decide +kernel
theorem d_X_hit_4 : decode prog_7_method_24_code 4 = .ok (.iload_n 1, 1) := by decide +kernel
theorem d_X_hit_5 : decode prog_7_method_24_code 5 = .ok (.aload_n 0, 1) := by decide +kernel
theorem d_X_hit_6 : decode prog_7_method_24_code 6 = .ok (.getfield 113, 3) := by decide +kernel
theorem d_X_hit_9 : decode prog_7_method_24_code 9 = .ok (.if_icmp .ge 18, 3) := by decide +kernel
theorem d_X_hit_12 : decode prog_7_method_24_code 12 = .ok (.iload_n 1, 1) := by decide +kernel
theorem d_X_hit_13 : decode prog_7_method_24_code 13 = .ok (.bipush 40, 2) := by decide +kernel
theorem d_X_hit_15 : decode prog_7_method_24_code 15 = .ok (.if_icmp .ge 12, 3) := by decide +kernel
theorem d_X_hit_18 : decode prog_7_method_24_code 18 = .ok (.iload_n 2, 1) := by decide +kernel
theorem d_X_hit_19 : decode prog_7_method_24_code 19 = .ok (.ifCond .lt 8, 3) := by decide +kernel
theorem d_X_hit_22 : decode prog_7_method_24_code 22 = .ok (.iload_n 2, 1) := by decide +kernel
theorem d_X_hit_23 : decode prog_7_method_24_code 23 = .ok (.iconst 2, 1) := by decide +kernel
theorem d_X_hit_24 : decode prog_7_method_24_code 24 = .ok (.if_icmp .le 6, 3) := by decide +kernel
theorem d_X_hit_27 : decode prog_7_method_24_code 27 = .ok (.ldc 136, 2) := by decide +kernel
theorem d_X_hit_29 : decode prog_7_method_24_code 29 = .ok (.ireturn, 1) := by decide +kernel
theorem d_X_hit_30 : decode prog_7_method_24_code 30 = .ok (.aload_n 0, 1) := by decide +kernel
theorem d_X_hit_31 : decode prog_7_method_24_code 31 = .ok (.getfield 48, 3) := by decide +kernel
theorem d_X_hit_34 : decode prog_7_method_24_code 34 = .ok (.iload_n 1, 1) := by decide +kernel
theorem d_X_hit_35 : decode prog_7_method_24_code 35 = .ok (.iconst 3, 1) := by decide +kernel
theorem d_X_hit_36 : decode prog_7_method_24_code 36 = .ok (.imul, 1) := by decide +kernel
theorem d_X_hit_37 : decode prog_7_method_24_code 37 = .ok (.iload_n 2, 1) := by decide +kernel
theorem d_X_hit_38 : decode prog_7_method_24_code 38 = .ok (.iadd, 1) := by decide +kernel
theorem d_X_hit_39 : decode prog_7_method_24_code 39 = .ok (.iaload, 1) := by decide +kernel
theorem d_X_hit_40 : decode prog_7_method_24_code 40 = .ok (.ireturn, 1) := by decide +kernel
theorem d_X_clear_0 : decode prog_7_method_25_code 0 = .ok (.aload_n 0, 1) := by decide +kernel
theorem d_X_clear_1 : decode prog_7_method_25_code 1 = .ok (.getfield 113, 3) := by decide +kernel
theorem d_X_clear_4 : decode prog_7_method_25_code 4 = .ok (.istore_n 1, 1) := by decide +kernel
theorem d_X_clear_5 : decode prog_7_method_25_code 5 = .ok (.aload_n 0, 1) := by decide +kernel
theorem d_X_clear_6 : decode prog_7_method_25_code 6 = .ok (.iconst 0, 1) := by decide +kernel
theorem d_X_clear_7 : decode prog_7_method_25_code 7 = .ok (.putfield 113, 3) := by decide +kernel
theorem d_X_clear_10 : decode prog_7_method_25_code 10 = .ok (.iload_n 1, 1) := by decide +kernel
theorem d_X_clear_11 : decode prog_7_method_25_code 11 = .ok (.ireturn, 1) := by decide +kernel
theorem d_X_count_0 : decode prog_7_method_26_code 0 = .ok (.iload_n 1, 1) := by decide +kernel
theorem d_X_count_1 : decode prog_7_method_26_code 1 = .ok (.ifCond .ne 8, 3) := by decide +kernel
theorem d_X_count_4 : decode prog_7_method_26_code 4 = .ok (.aload_n 0, 1) := by decide +kernel
theorem d_X_count_5 : decode prog_7_method_26_code 5 = .ok (.getfield 96, 3) := by decide +kernel
theorem d_X_count_8 : decode prog_7_method_26_code 8 = .ok (.ireturn, 1) := by decide +kernel
theorem d_X_count_9 : decode prog_7_method_26_code 9 = .ok (.iload_n 1, 1) := by decide +kernel
theorem d_X_count_10 : decode prog_7_method_26_code 10 = .ok (.iconst 1, 1) := by decide +kernel
theorem d_X_count_11 : decode prog_7_method_26_code 11 = .ok (.if_icmp .ne 8, 3) := by decide +kernel
theorem d_X_count_14 : decode prog_7_method_26_code 14 = .ok (.aload_n 0, 1) := by decide +kernel
theorem d_X_count_15 : decode prog_7_method_26_code 15 = .ok (.getfield 89, 3) := by decide +kernel
theorem d_X_count_18 : decode prog_7_method_26_code 18 = .ok (.ireturn, 1) := by decide +kernel
theorem d_X_count_19 : decode prog_7_method_26_code 19 = .ok (.iload_n 1, 1) := by decide +kernel
theorem d_X_count_20 : decode prog_7_method_26_code 20 = .ok (.iconst 2, 1) := by decide +kernel
theorem d_X_count_21 : decode prog_7_method_26_code 21 = .ok (.if_icmp .ne 8, 3) := by decide +kernel
theorem d_X_count_24 : decode prog_7_method_26_code 24 = .ok (.aload_n 0, 1) := by decide +kernel
theorem d_X_count_25 : decode prog_7_method_26_code 25 = .ok (.getfield 123, 3) := by decide +kernel
theorem d_X_count_28 : decode prog_7_method_26_code 28 = .ok (.ireturn, 1) := by decide +kernel
theorem d_X_count_29 : decode prog_7_method_26_code 29 = .ok (.iload_n 1, 1) := by decide +kernel
theorem d_X_count_30 : decode prog_7_method_26_code 30 = .ok (.iconst 3, 1) := by decide +kernel
theorem d_X_count_31 : decode prog_7_method_26_code 31 = .ok (.if_icmp .ne 8, 3) := by decide +kernel
theorem d_X_count_34 : decode prog_7_method_26_code 34 = .ok (.aload_n 0, 1) := by decide +kernel
theorem d_X_count_35 : decode prog_7_method_26_code 35 = .ok (.getfield 110, 3) := by decide +kernel
theorem d_X_count_38 : decode prog_7_method_26_code 38 = .ok (.ireturn, 1) := by decide +kernel
theorem d_X_count_39 : decode prog_7_method_26_code 39 = .ok (.iload_n 1, 1) := by decide +kernel
theorem d_X_count_40 : decode prog_7_method_26_code 40 = .ok (.iconst 4, 1) := by decide +kernel
theorem d_X_count_41 : decode prog_7_method_26_code 41 = .ok (.if_icmp .ne 8, 3) := by decide +kernel
theorem d_X_count_44 : decode prog_7_method_26_code 44 = .ok (.aload_n 0, 1) := by decide +kernel
theorem d_X_count_45 : decode prog_7_method_26_code 45 = .ok (.getfield 113, 3) := by decide +kernel
theorem d_X_count_48 : decode prog_7_method_26_code 48 = .ok (.ireturn, 1) := by decide +kernel
theorem d_X_count_49 : decode prog_7_method_26_code 49 = .ok (.iload_n 1, 1) := by decide +kernel
theorem d_X_count_50 : decode prog_7_method_26_code 50 = .ok (.iconst 5, 1) := by decide +kernel
theorem d_X_count_51 : decode prog_7_method_26_code 51 = .ok (.if_icmp .ne 8, 3) := by decide +kernel
theorem d_X_count_54 : decode prog_7_method_26_code 54 = .ok (.aload_n 0, 1) := by decide +kernel
theorem d_X_count_55 : decode prog_7_method_26_code 55 = .ok (.getfield 126, 3) := by decide +kernel
theorem d_X_count_58 : decode prog_7_method_26_code 58 = .ok (.ireturn, 1) := by decide +kernel
theorem d_X_count_59 : decode prog_7_method_26_code 59 = .ok (.iload_n 1, 1) := by decide +kernel
theorem d_X_count_60 : decode prog_7_method_26_code 60 = .ok (.bipush 6, 2) := by decide +kernel
theorem d_X_count_62 : decode prog_7_method_26_code 62 = .ok (.if_icmp .ne 8, 3) := by decide +kernel
theorem d_X_count_65 : decode prog_7_method_26_code 65 = .ok (.aload_n 0, 1) := by decide +kernel
theorem d_X_count_66 : decode prog_7_method_26_code 66 = .ok (.getfield 58, 3) := by decide +kernel
theorem d_X_count_69 : decode prog_7_method_26_code 69 = .ok (.ireturn, 1) := by decide +kernel
theorem d_X_count_70 : decode prog_7_method_26_code 70 = .ok (.iload_n 1, 1) := by decide +kernel
theorem d_X_count_71 : decode prog_7_method_26_code 71 = .ok (.bipush 7, 2) := by decide +kernel
theorem d_X_count_73 : decode prog_7_method_26_code 73 = .ok (.if_icmp .eq 5, 3) := by decide +kernel
theorem d_X_count_76 : decode prog_7_method_26_code 76 = .ok (.iconst (-1), 1) := by decide +kernel
theorem d_X_count_77 : decode prog_7_method_26_code 77 = .ok (.ireturn, 1) := by decide +kernel
theorem d_X_count_78 : decode prog_7_method_26_code 78 = .ok (.iconst 0, 1) := by decide +kernel
theorem d_X_count_79 : decode prog_7_method_26_code 79 = .ok (.istore_n 2, 1) := by decide +kernel
theorem d_X_count_80 : decode prog_7_method_26_code 80 = .ok (.iconst 0, 1) := by decide +kernel
theorem d_X_count_81 : decode prog_7_method_26_code 81 = .ok (.istore_n 3, 1) := by decide +kernel
theorem d_X_count_82 : decode prog_7_method_26_code 82 = .ok (.iload_n 3, 1) := by decide +kernel
theorem d_X_count_83 : decode prog_7_method_26_code 83 = .ok (.iconst 4, 1) := by decide +kernel
theorem d_X_count_84 : decode prog_7_method_26_code 84 = .ok (.if_icmp .ge 21, 3) := by decide +kernel
theorem d_X_count_87 : decode prog_7_method_26_code 87 = .ok (.aload_n 0, 1) := by decide +kernel
theorem d_X_count_88 : decode prog_7_method_26_code 88 = .ok (.getfield 45, 3) := by decide +kernel
theorem d_X_count_91 : decode prog_7_method_26_code 91 = .ok (.iload_n 3, 1) := by decide +kernel
theorem d_X_count_92 : decode prog_7_method_26_code 92 = .ok (.baload, 1) := by decide +kernel
theorem d_X_count_93 : decode prog_7_method_26_code 93 = .ok (.ifCond .eq 6, 3) := by decide +kernel
theorem d_X_count_96 : decode prog_7_method_26_code 96 = .ok (.iinc 2 1, 3) := by decide +kernel
theorem d_X_count_99 : decode prog_7_method_26_code 99 = .ok (.iinc 3 1, 3) := by decide +kernel
theorem d_X_count_102 : decode prog_7_method_26_code 102 = .ok (.goto (-20), 3) := by decide +kernel
theorem d_X_count_105 : decode prog_7_method_26_code 105 = .ok (.iload_n 2, 1) := by decide +kernel
theorem d_X_count_106 : decode prog_7_method_26_code 106 = .ok (.ireturn, 1) := by decide +kernel

theorem d_S_init_0 : decode prog_4_method_1_code 0 = .ok (.aload_n 0, 1) := by decide +kernel
theorem d_S_init_1 : decode prog_4_method_1_code 1 = .ok (.invokespecial 1, 3) := by decide +kernel
theorem d_S_init_4 : decode prog_4_method_1_code 4 = .ok (.aload_n 0, 1) := by decide +kernel
theorem d_S_init_5 : decode prog_4_method_1_code 5 = .ok (.iload_n 1, 1) := by decide +kernel
theorem d_S_init_6 : decode prog_4_method_1_code 6 = .ok (.putfield 7, 3) := by decide +kernel
theorem d_S_init_9 : decode prog_4_method_1_code 9 = .ok (.aload_n 0, 1) := by decide +kernel
theorem d_S_init_10 : decode prog_4_method_1_code 10 = .ok (.iload_n 1, 1) := by decide +kernel
theorem d_S_init_11 : decode prog_4_method_1_code 11 = .ok (.newarray .int, 2) := by decide +kernel
theorem d_S_init_13 : decode prog_4_method_1_code 13 = .ok (.putfield 13, 3) := by decide +kernel
theorem d_S_init_16 : decode prog_4_method_1_code 16 = .ok (.aload_n 0, 1) := by decide +kernel
theorem d_S_init_17 : decode prog_4_method_1_code 17 = .ok (.iload_n 1, 1) := by decide +kernel
theorem d_S_init_18 : decode prog_4_method_1_code 18 = .ok (.newarray .int, 2) := by decide +kernel
theorem d_S_init_20 : decode prog_4_method_1_code 20 = .ok (.putfield 17, 3) := by decide +kernel
theorem d_S_init_23 : decode prog_4_method_1_code 23 = .ok (.aload_n 0, 1) := by decide +kernel
theorem d_S_init_24 : decode prog_4_method_1_code 24 = .ok (.iload_n 1, 1) := by decide +kernel
theorem d_S_init_25 : decode prog_4_method_1_code 25 = .ok (.newarray .int, 2) := by decide +kernel
theorem d_S_init_27 : decode prog_4_method_1_code 27 = .ok (.putfield 20, 3) := by decide +kernel
theorem d_S_init_30 : decode prog_4_method_1_code 30 = .ok (.aload_n 0, 1) := by decide +kernel
theorem d_S_init_31 : decode prog_4_method_1_code 31 = .ok (.iload_n 1, 1) := by decide +kernel
theorem d_S_init_32 : decode prog_4_method_1_code 32 = .ok (.newarray .int, 2) := by decide +kernel
theorem d_S_init_34 : decode prog_4_method_1_code 34 = .ok (.putfield 23, 3) := by decide +kernel
theorem d_S_init_37 : decode prog_4_method_1_code 37 = .ok (.return_, 1) := by decide +kernel
theorem d_M_init_0 : decode prog_3_method_1_code 0 = .ok (.aload_n 0, 1) := by decide +kernel
theorem d_M_init_1 : decode prog_3_method_1_code 1 = .ok (.invokespecial 1, 3) := by decide +kernel
theorem d_M_init_4 : decode prog_3_method_1_code 4 = .ok (.aload_n 0, 1) := by decide +kernel
theorem d_M_init_5 : decode prog_3_method_1_code 5 = .ok (.iload_n 1, 1) := by decide +kernel
theorem d_M_init_6 : decode prog_3_method_1_code 6 = .ok (.newarray .long, 2) := by decide +kernel
theorem d_M_init_8 : decode prog_3_method_1_code 8 = .ok (.putfield 7, 3) := by decide +kernel
theorem d_M_init_11 : decode prog_3_method_1_code 11 = .ok (.aload_n 0, 1) := by decide +kernel
theorem d_M_init_12 : decode prog_3_method_1_code 12 = .ok (.iload_n 1, 1) := by decide +kernel
theorem d_M_init_13 : decode prog_3_method_1_code 13 = .ok (.newarray .long, 2) := by decide +kernel
theorem d_M_init_15 : decode prog_3_method_1_code 15 = .ok (.putfield 13, 3) := by decide +kernel
theorem d_M_init_18 : decode prog_3_method_1_code 18 = .ok (.return_, 1) := by decide +kernel
theorem d_W_init_0 : decode prog_5_method_1_code 0 = .ok (.aload_n 0, 1) := by decide +kernel
theorem d_W_init_1 : decode prog_5_method_1_code 1 = .ok (.invokespecial 3, 3) := by decide +kernel
theorem d_W_init_4 : decode prog_5_method_1_code 4 = .ok (.aload_n 0, 1) := by decide +kernel
theorem d_W_init_5 : decode prog_5_method_1_code 5 = .ok (.iconst (-1), 1) := by decide +kernel
theorem d_W_init_6 : decode prog_5_method_1_code 6 = .ok (.putfield 9, 3) := by decide +kernel
theorem d_W_init_9 : decode prog_5_method_1_code 9 = .ok (.return_, 1) := by decide +kernel
theorem d_H_init_0 : decode prog_2_method_1_code 0 = .ok (.aload_n 0, 1) := by decide +kernel
theorem d_H_init_1 : decode prog_2_method_1_code 1 = .ok (.invokespecial 1, 3) := by decide +kernel
theorem d_H_init_4 : decode prog_2_method_1_code 4 = .ok (.aload_n 0, 1) := by decide +kernel
theorem d_H_init_5 : decode prog_2_method_1_code 5 = .ok (.bipush 40, 2) := by decide +kernel
theorem d_H_init_7 : decode prog_2_method_1_code 7 = .ok (.newarray .int, 2) := by decide +kernel
theorem d_H_init_9 : decode prog_2_method_1_code 9 = .ok (.putfield 9, 3) := by decide +kernel
theorem d_H_init_12 : decode prog_2_method_1_code 12 = .ok (.aload_n 0, 1) := by decide +kernel
theorem d_H_init_13 : decode prog_2_method_1_code 13 = .ok (.bipush 40, 2) := by decide +kernel
theorem d_H_init_15 : decode prog_2_method_1_code 15 = .ok (.newarray .int, 2) := by decide +kernel
theorem d_H_init_17 : decode prog_2_method_1_code 17 = .ok (.putfield 13, 3) := by decide +kernel
theorem d_H_init_20 : decode prog_2_method_1_code 20 = .ok (.aload_n 0, 1) := by decide +kernel
theorem d_H_init_21 : decode prog_2_method_1_code 21 = .ok (.bipush 40, 2) := by decide +kernel
theorem d_H_init_23 : decode prog_2_method_1_code 23 = .ok (.newarray .int, 2) := by decide +kernel
theorem d_H_init_25 : decode prog_2_method_1_code 25 = .ok (.putfield 16, 3) := by decide +kernel
theorem d_H_init_28 : decode prog_2_method_1_code 28 = .ok (.return_, 1) := by decide +kernel
theorem d_M_copyFrom_0 : decode prog_3_method_2_code 0 = .ok (.aload_n 1, 1) := by decide +kernel
theorem d_M_copyFrom_1 : decode prog_3_method_2_code 1 = .ok (.getfield 7, 3) := by decide +kernel
theorem d_M_copyFrom_4 : decode prog_3_method_2_code 4 = .ok (.iconst 0, 1) := by decide +kernel
theorem d_M_copyFrom_5 : decode prog_3_method_2_code 5 = .ok (.aload_n 0, 1) := by decide +kernel
theorem d_M_copyFrom_6 : decode prog_3_method_2_code 6 = .ok (.getfield 7, 3) := by decide +kernel
theorem d_M_copyFrom_9 : decode prog_3_method_2_code 9 = .ok (.iconst 0, 1) := by decide +kernel
theorem d_M_copyFrom_10 : decode prog_3_method_2_code 10 = .ok (.aload_n 0, 1) := by decide +kernel
theorem d_M_copyFrom_11 : decode prog_3_method_2_code 11 = .ok (.getfield 7, 3) := by decide +kernel
theorem d_M_copyFrom_14 : decode prog_3_method_2_code 14 = .ok (.arraylength, 1) := by decide +kernel
theorem d_M_copyFrom_15 : decode prog_3_method_2_code 15 = .ok (.invokestatic 16, 3) := by decide +kernel
theorem d_M_copyFrom_18 : decode prog_3_method_2_code 18 = .ok (.aload_n 1, 1) := by decide +kernel
theorem d_M_copyFrom_19 : decode prog_3_method_2_code 19 = .ok (.getfield 13, 3) := by decide +kernel
theorem d_M_copyFrom_22 : decode prog_3_method_2_code 22 = .ok (.iconst 0, 1) := by decide +kernel
theorem d_M_copyFrom_23 : decode prog_3_method_2_code 23 = .ok (.aload_n 0, 1) := by decide +kernel
theorem d_M_copyFrom_24 : decode prog_3_method_2_code 24 = .ok (.getfield 13, 3) := by decide +kernel
theorem d_M_copyFrom_27 : decode prog_3_method_2_code 27 = .ok (.iconst 0, 1) := by decide +kernel
theorem d_M_copyFrom_28 : decode prog_3_method_2_code 28 = .ok (.aload_n 0, 1) := by decide +kernel
theorem d_M_copyFrom_29 : decode prog_3_method_2_code 29 = .ok (.getfield 13, 3) := by decide +kernel
theorem d_M_copyFrom_32 : decode prog_3_method_2_code 32 = .ok (.arraylength, 1) := by decide +kernel
theorem d_M_copyFrom_33 : decode prog_3_method_2_code 33 = .ok (.invokestatic 16, 3) := by decide +kernel
theorem d_M_copyFrom_36 : decode prog_3_method_2_code 36 = .ok (.return_, 1) := by decide +kernel
theorem d_S_step_0 : decode prog_4_method_3_code 0 = .ok (.aload_n 0, 1) := by decide +kernel
theorem d_S_step_1 : decode prog_4_method_3_code 1 = .ok (.aload_n 1, 1) := by decide +kernel
theorem d_S_step_2 : decode prog_4_method_3_code 2 = .ok (.iload_n 2, 1) := by decide +kernel
theorem d_S_step_3 : decode prog_4_method_3_code 3 = .ok (.invokevirtual 35, 3) := by decide +kernel
theorem d_S_step_6 : decode prog_4_method_3_code 6 = .ok (.ifCond .eq 25, 3) := by decide +kernel
theorem d_S_step_9 : decode prog_4_method_3_code 9 = .ok (.aload_n 0, 1) := by decide +kernel
theorem d_S_step_10 : decode prog_4_method_3_code 10 = .ok (.aload_n 1, 1) := by decide +kernel
theorem d_S_step_11 : decode prog_4_method_3_code 11 = .ok (.iload_n 2, 1) := by decide +kernel
theorem d_S_step_12 : decode prog_4_method_3_code 12 = .ok (.invokevirtual 39, 3) := by decide +kernel
theorem d_S_step_15 : decode prog_4_method_3_code 15 = .ok (.ifCond .eq 16, 3) := by decide +kernel
theorem d_S_step_18 : decode prog_4_method_3_code 18 = .ok (.aload_n 0, 1) := by decide +kernel
theorem d_S_step_19 : decode prog_4_method_3_code 19 = .ok (.aload_n 1, 1) := by decide +kernel
theorem d_S_step_20 : decode prog_4_method_3_code 20 = .ok (.iload_n 2, 1) := by decide +kernel
theorem d_S_step_21 : decode prog_4_method_3_code 21 = .ok (.invokevirtual 35, 3) := by decide +kernel
theorem d_S_step_24 : decode prog_4_method_3_code 24 = .ok (.ifCond .eq 7, 3) := by decide +kernel
theorem d_S_step_27 : decode prog_4_method_3_code 27 = .ok (.iconst 1, 1) := by decide +kernel
theorem d_S_step_28 : decode prog_4_method_3_code 28 = .ok (.goto 4, 3) := by decide +kernel
theorem d_S_step_31 : decode prog_4_method_3_code 31 = .ok (.iconst 0, 1) := by decide +kernel
theorem d_S_step_32 : decode prog_4_method_3_code 32 = .ok (.ireturn, 1) := by decide +kernel
theorem d_S_changeSpeeds_0 : decode prog_4_method_4_code 0 = .ok (.iconst 1, 1) := by decide +kernel
theorem d_S_changeSpeeds_1 : decode prog_4_method_4_code 1 = .ok (.istore_n 3, 1) := by decide +kernel
theorem d_S_changeSpeeds_2 : decode prog_4_method_4_code 2 = .ok (.iconst 0, 1) := by decide +kernel
theorem d_S_changeSpeeds_3 : decode prog_4_method_4_code 3 = .ok (.istore 4, 2) := by decide +kernel
theorem d_S_changeSpeeds_5 : decode prog_4_method_4_code 5 = .ok (.iload 4, 2) := by decide +kernel
theorem d_S_changeSpeeds_7 : decode prog_4_method_4_code 7 = .ok (.aload_n 0, 1) := by decide +kernel
theorem d_S_changeSpeeds_8 : decode prog_4_method_4_code 8 = .ok (.getfield 7, 3) := by decide +kernel
theorem d_S_changeSpeeds_11 : decode prog_4_method_4_code 11 = .ok (.if_icmp .ge 61, 3) := by decide +kernel
theorem d_S_changeSpeeds_14 : decode prog_4_method_4_code 14 = .ok (.aload_n 0, 1) := by decide +kernel
theorem d_S_changeSpeeds_15 : decode prog_4_method_4_code 15 = .ok (.iload 4, 2) := by decide +kernel
theorem d_S_changeSpeeds_17 : decode prog_4_method_4_code 17 = .ok (.aload_n 1, 1) := by decide +kernel
theorem d_S_changeSpeeds_18 : decode prog_4_method_4_code 18 = .ok (.invokevirtual 42, 3) := by decide +kernel
theorem d_S_changeSpeeds_21 : decode prog_4_method_4_code 21 = .ok (.iconst 4, 1) := by decide +kernel
theorem d_S_changeSpeeds_22 : decode prog_4_method_4_code 22 = .ok (.iload_n 2, 1) := by decide +kernel
theorem d_S_changeSpeeds_23 : decode prog_4_method_4_code 23 = .ok (.iadd, 1) := by decide +kernel
theorem d_S_changeSpeeds_24 : decode prog_4_method_4_code 24 = .ok (.iconst 1, 1) := by decide +kernel
theorem d_S_changeSpeeds_25 : decode prog_4_method_4_code 25 = .ok (.iadd, 1) := by decide +kernel
theorem d_S_changeSpeeds_26 : decode prog_4_method_4_code 26 = .ok (.invokestatic 46, 3) := by decide +kernel
theorem d_S_changeSpeeds_29 : decode prog_4_method_4_code 29 = .ok (.lstore 5, 2) := by decide +kernel
theorem d_S_changeSpeeds_31 : decode prog_4_method_4_code 31 = .ok (.aload_n 1, 1) := by decide +kernel
theorem d_S_changeSpeeds_32 : decode prog_4_method_4_code 32 = .ok (.getfield 32, 3) := by decide +kernel
theorem d_S_changeSpeeds_35 : decode prog_4_method_4_code 35 = .ok (.iload 4, 2) := by decide +kernel
theorem d_S_changeSpeeds_37 : decode prog_4_method_4_code 37 = .ok (.dup2, 1) := by decide +kernel
theorem d_S_changeSpeeds_38 : decode prog_4_method_4_code 38 = .ok (.laload, 1) := by decide +kernel
theorem d_S_changeSpeeds_39 : decode prog_4_method_4_code 39 = .ok (.lload 5, 2) := by decide +kernel
theorem d_S_changeSpeeds_41 : decode prog_4_method_4_code 41 = .ok (.ladd, 1) := by decide +kernel
theorem d_S_changeSpeeds_42 : decode prog_4_method_4_code 42 = .ok (.lastore, 1) := by decide +kernel
theorem d_S_changeSpeeds_43 : decode prog_4_method_4_code 43 = .ok (.iload_n 3, 1) := by decide +kernel
theorem d_S_changeSpeeds_44 : decode prog_4_method_4_code 44 = .ok (.ifCond .eq 20, 3) := by decide +kernel
theorem d_S_changeSpeeds_47 : decode prog_4_method_4_code 47 = .ok (.aload_n 1, 1) := by decide +kernel
theorem d_S_changeSpeeds_48 : decode prog_4_method_4_code 48 = .ok (.getfield 32, 3) := by decide +kernel
theorem d_S_changeSpeeds_51 : decode prog_4_method_4_code 51 = .ok (.iload 4, 2) := by decide +kernel
theorem d_S_changeSpeeds_53 : decode prog_4_method_4_code 53 = .ok (.laload, 1) := by decide +kernel
theorem d_S_changeSpeeds_54 : decode prog_4_method_4_code 54 = .ok (.invokestatic 50, 3) := by decide +kernel
theorem d_S_changeSpeeds_57 : decode prog_4_method_4_code 57 = .ok (.ifCond .eq 7, 3) := by decide +kernel
theorem d_S_changeSpeeds_60 : decode prog_4_method_4_code 60 = .ok (.iconst 1, 1) := by decide +kernel
theorem d_S_changeSpeeds_61 : decode prog_4_method_4_code 61 = .ok (.goto 4, 3) := by decide +kernel
theorem d_S_changeSpeeds_64 : decode prog_4_method_4_code 64 = .ok (.iconst 0, 1) := by decide +kernel
theorem d_S_changeSpeeds_65 : decode prog_4_method_4_code 65 = .ok (.istore_n 3, 1) := by decide +kernel
theorem d_S_changeSpeeds_66 : decode prog_4_method_4_code 66 = .ok (.iinc 4 1, 3) := by decide +kernel
theorem d_S_changeSpeeds_69 : decode prog_4_method_4_code 69 = .ok (.goto (-64), 3) := by decide +kernel
theorem d_S_changeSpeeds_72 : decode prog_4_method_4_code 72 = .ok (.iload_n 3, 1) := by decide +kernel
theorem d_S_changeSpeeds_73 : decode prog_4_method_4_code 73 = .ok (.ireturn, 1) := by decide +kernel
theorem d_S_pushOn_0 : decode prog_4_method_2_code 0 = .ok (.aload_n 2, 1) := by decide +kernel
theorem d_S_pushOn_1 : decode prog_4_method_2_code 1 = .ok (.getfield 26, 3) := by decide +kernel
theorem d_S_pushOn_4 : decode prog_4_method_2_code 4 = .ok (.iload_n 1, 1) := by decide +kernel
theorem d_S_pushOn_5 : decode prog_4_method_2_code 5 = .ok (.laload, 1) := by decide +kernel
theorem d_S_pushOn_6 : decode prog_4_method_2_code 6 = .ok (.lstore_n 3, 1) := by decide +kernel
theorem d_S_pushOn_7 : decode prog_4_method_2_code 7 = .ok (.aload_n 0, 1) := by decide +kernel
theorem d_S_pushOn_8 : decode prog_4_method_2_code 8 = .ok (.getfield 23, 3) := by decide +kernel
theorem d_S_pushOn_11 : decode prog_4_method_2_code 11 = .ok (.iload_n 1, 1) := by decide +kernel
theorem d_S_pushOn_12 : decode prog_4_method_2_code 12 = .ok (.iaload, 1) := by decide +kernel
theorem d_S_pushOn_13 : decode prog_4_method_2_code 13 = .ok (.i2l, 1) := by decide +kernel
theorem d_S_pushOn_14 : decode prog_4_method_2_code 14 = .ok (.iconst 4, 1) := by decide +kernel
theorem d_S_pushOn_15 : decode prog_4_method_2_code 15 = .ok (.lshl, 1) := by decide +kernel
theorem d_S_pushOn_16 : decode prog_4_method_2_code 16 = .ok (.aload_n 0, 1) := by decide +kernel
theorem d_S_pushOn_17 : decode prog_4_method_2_code 17 = .ok (.getfield 13, 3) := by decide +kernel
theorem d_S_pushOn_20 : decode prog_4_method_2_code 20 = .ok (.iload_n 1, 1) := by decide +kernel
theorem d_S_pushOn_21 : decode prog_4_method_2_code 21 = .ok (.iaload, 1) := by decide +kernel
theorem d_S_pushOn_22 : decode prog_4_method_2_code 22 = .ok (.i2l, 1) := by decide +kernel
theorem d_S_pushOn_23 : decode prog_4_method_2_code 23 = .ok (.lload_n 3, 1) := by decide +kernel
theorem d_S_pushOn_24 : decode prog_4_method_2_code 24 = .ok (.lmul, 1) := by decide +kernel
theorem d_S_pushOn_25 : decode prog_4_method_2_code 25 = .ok (.lsub, 1) := by decide +kernel
theorem d_S_pushOn_26 : decode prog_4_method_2_code 26 = .ok (.aload_n 0, 1) := by decide +kernel
theorem d_S_pushOn_27 : decode prog_4_method_2_code 27 = .ok (.getfield 17, 3) := by decide +kernel
theorem d_S_pushOn_30 : decode prog_4_method_2_code 30 = .ok (.iload_n 1, 1) := by decide +kernel
theorem d_S_pushOn_31 : decode prog_4_method_2_code 31 = .ok (.iaload, 1) := by decide +kernel
theorem d_S_pushOn_32 : decode prog_4_method_2_code 32 = .ok (.i2l, 1) := by decide +kernel
theorem d_S_pushOn_33 : decode prog_4_method_2_code 33 = .ok (.aload_n 2, 1) := by decide +kernel
theorem d_S_pushOn_34 : decode prog_4_method_2_code 34 = .ok (.getfield 32, 3) := by decide +kernel
theorem d_S_pushOn_37 : decode prog_4_method_2_code 37 = .ok (.iload_n 1, 1) := by decide +kernel
theorem d_S_pushOn_38 : decode prog_4_method_2_code 38 = .ok (.laload, 1) := by decide +kernel
theorem d_S_pushOn_39 : decode prog_4_method_2_code 39 = .ok (.lmul, 1) := by decide +kernel
theorem d_S_pushOn_40 : decode prog_4_method_2_code 40 = .ok (.lsub, 1) := by decide +kernel
theorem d_S_pushOn_41 : decode prog_4_method_2_code 41 = .ok (.lstore 5, 2) := by decide +kernel
theorem d_S_pushOn_43 : decode prog_4_method_2_code 43 = .ok (.iload_n 1, 1) := by decide +kernel
theorem d_S_pushOn_44 : decode prog_4_method_2_code 44 = .ok (.iconst 1, 1) := by decide +kernel
theorem d_S_pushOn_45 : decode prog_4_method_2_code 45 = .ok (.iadd, 1) := by decide +kernel
theorem d_S_pushOn_46 : decode prog_4_method_2_code 46 = .ok (.aload_n 0, 1) := by decide +kernel
theorem d_S_pushOn_47 : decode prog_4_method_2_code 47 = .ok (.getfield 7, 3) := by decide +kernel
theorem d_S_pushOn_50 : decode prog_4_method_2_code 50 = .ok (.if_icmp .ge 26, 3) := by decide +kernel
theorem d_S_pushOn_53 : decode prog_4_method_2_code 53 = .ok (.lload 5, 2) := by decide +kernel
theorem d_S_pushOn_55 : decode prog_4_method_2_code 55 = .ok (.aload_n 0, 1) := by decide +kernel
theorem d_S_pushOn_56 : decode prog_4_method_2_code 56 = .ok (.getfield 20, 3) := by decide +kernel
theorem d_S_pushOn_59 : decode prog_4_method_2_code 59 = .ok (.iload_n 1, 1) := by decide +kernel
theorem d_S_pushOn_60 : decode prog_4_method_2_code 60 = .ok (.iaload, 1) := by decide +kernel
theorem d_S_pushOn_61 : decode prog_4_method_2_code 61 = .ok (.i2l, 1) := by decide +kernel
theorem d_S_pushOn_62 : decode prog_4_method_2_code 62 = .ok (.aload_n 2, 1) := by decide +kernel
theorem d_S_pushOn_63 : decode prog_4_method_2_code 63 = .ok (.getfield 26, 3) := by decide +kernel
theorem d_S_pushOn_66 : decode prog_4_method_2_code 66 = .ok (.iload_n 1, 1) := by decide +kernel
theorem d_S_pushOn_67 : decode prog_4_method_2_code 67 = .ok (.iconst 1, 1) := by decide +kernel
theorem d_S_pushOn_68 : decode prog_4_method_2_code 68 = .ok (.iadd, 1) := by decide +kernel
theorem d_S_pushOn_69 : decode prog_4_method_2_code 69 = .ok (.laload, 1) := by decide +kernel
theorem d_S_pushOn_70 : decode prog_4_method_2_code 70 = .ok (.lload_n 3, 1) := by decide +kernel
theorem d_S_pushOn_71 : decode prog_4_method_2_code 71 = .ok (.lsub, 1) := by decide +kernel
theorem d_S_pushOn_72 : decode prog_4_method_2_code 72 = .ok (.lmul, 1) := by decide +kernel
theorem d_S_pushOn_73 : decode prog_4_method_2_code 73 = .ok (.ladd, 1) := by decide +kernel
theorem d_S_pushOn_74 : decode prog_4_method_2_code 74 = .ok (.lstore 5, 2) := by decide +kernel
theorem d_S_pushOn_76 : decode prog_4_method_2_code 76 = .ok (.iload_n 1, 1) := by decide +kernel
theorem d_S_pushOn_77 : decode prog_4_method_2_code 77 = .ok (.ifCond .le 28, 3) := by decide +kernel
theorem d_S_pushOn_80 : decode prog_4_method_2_code 80 = .ok (.lload 5, 2) := by decide +kernel
theorem d_S_pushOn_82 : decode prog_4_method_2_code 82 = .ok (.aload_n 0, 1) := by decide +kernel
theorem d_S_pushOn_83 : decode prog_4_method_2_code 83 = .ok (.getfield 20, 3) := by decide +kernel
theorem d_S_pushOn_86 : decode prog_4_method_2_code 86 = .ok (.iload_n 1, 1) := by decide +kernel
theorem d_S_pushOn_87 : decode prog_4_method_2_code 87 = .ok (.iconst 1, 1) := by decide +kernel
theorem d_S_pushOn_88 : decode prog_4_method_2_code 88 = .ok (.isub, 1) := by decide +kernel
theorem d_S_pushOn_89 : decode prog_4_method_2_code 89 = .ok (.iaload, 1) := by decide +kernel
theorem d_S_pushOn_90 : decode prog_4_method_2_code 90 = .ok (.i2l, 1) := by decide +kernel
theorem d_S_pushOn_91 : decode prog_4_method_2_code 91 = .ok (.lload_n 3, 1) := by decide +kernel
theorem d_S_pushOn_92 : decode prog_4_method_2_code 92 = .ok (.aload_n 2, 1) := by decide +kernel
theorem d_S_pushOn_93 : decode prog_4_method_2_code 93 = .ok (.getfield 26, 3) := by decide +kernel
theorem d_S_pushOn_96 : decode prog_4_method_2_code 96 = .ok (.iload_n 1, 1) := by decide +kernel
theorem d_S_pushOn_97 : decode prog_4_method_2_code 97 = .ok (.iconst 1, 1) := by decide +kernel
theorem d_S_pushOn_98 : decode prog_4_method_2_code 98 = .ok (.isub, 1) := by decide +kernel
theorem d_S_pushOn_99 : decode prog_4_method_2_code 99 = .ok (.laload, 1) := by decide +kernel
theorem d_S_pushOn_100 : decode prog_4_method_2_code 100 = .ok (.lsub, 1) := by decide +kernel
theorem d_S_pushOn_101 : decode prog_4_method_2_code 101 = .ok (.lmul, 1) := by decide +kernel
theorem d_S_pushOn_102 : decode prog_4_method_2_code 102 = .ok (.lsub, 1) := by decide +kernel
theorem d_S_pushOn_103 : decode prog_4_method_2_code 103 = .ok (.lstore 5, 2) := by decide +kernel
theorem d_S_pushOn_105 : decode prog_4_method_2_code 105 = .ok (.lload 5, 2) := by decide +kernel
theorem d_S_pushOn_107 : decode prog_4_method_2_code 107 = .ok (.lreturn, 1) := by decide +kernel
theorem d_S_roundedPart_0 : decode prog_4_method_6_code 0 = .ok (.lconst 1, 1) := by decide +kernel
theorem d_S_roundedPart_1 : decode prog_4_method_6_code 1 = .ok (.iload_n 2, 1) := by decide +kernel
theorem d_S_roundedPart_2 : decode prog_4_method_6_code 2 = .ok (.lshl, 1) := by decide +kernel
theorem d_S_roundedPart_3 : decode prog_4_method_6_code 3 = .ok (.iconst 1, 1) := by decide +kernel
theorem d_S_roundedPart_4 : decode prog_4_method_6_code 4 = .ok (.lshr, 1) := by decide +kernel
theorem d_S_roundedPart_5 : decode prog_4_method_6_code 5 = .ok (.lstore_n 3, 1) := by decide +kernel
theorem d_S_roundedPart_6 : decode prog_4_method_6_code 6 = .ok (.lload_n 0, 1) := by decide +kernel
theorem d_S_roundedPart_7 : decode prog_4_method_6_code 7 = .ok (.lload_n 3, 1) := by decide +kernel
theorem d_S_roundedPart_8 : decode prog_4_method_6_code 8 = .ok (.ladd, 1) := by decide +kernel
theorem d_S_roundedPart_9 : decode prog_4_method_6_code 9 = .ok (.iload_n 2, 1) := by decide +kernel
theorem d_S_roundedPart_10 : decode prog_4_method_6_code 10 = .ok (.lshr, 1) := by decide +kernel
theorem d_S_roundedPart_11 : decode prog_4_method_6_code 11 = .ok (.lreturn, 1) := by decide +kernel
theorem d_S_isNear_0 : decode prog_4_method_7_code 0 = .ok (.lload_n 0, 1) := by decide +kernel
theorem d_S_isNear_1 : decode prog_4_method_7_code 1 = .ok (.ldc2_w 54, 3) := by decide +kernel
theorem d_S_isNear_4 : decode prog_4_method_7_code 4 = .ok (.lcmp, 1) := by decide +kernel
theorem d_S_isNear_5 : decode prog_4_method_7_code 5 = .ok (.ifCond .lt 15, 3) := by decide +kernel
theorem d_S_isNear_8 : decode prog_4_method_7_code 8 = .ok (.lload_n 0, 1) := by decide +kernel
theorem d_S_isNear_9 : decode prog_4_method_7_code 9 = .ok (.ldc2_w 56, 3) := by decide +kernel
theorem d_S_isNear_12 : decode prog_4_method_7_code 12 = .ok (.lcmp, 1) := by decide +kernel
theorem d_S_isNear_13 : decode prog_4_method_7_code 13 = .ok (.ifCond .gt 7, 3) := by decide +kernel
theorem d_S_isNear_16 : decode prog_4_method_7_code 16 = .ok (.iconst 1, 1) := by decide +kernel
theorem d_S_isNear_17 : decode prog_4_method_7_code 17 = .ok (.goto 4, 3) := by decide +kernel
theorem d_S_isNear_20 : decode prog_4_method_7_code 20 = .ok (.iconst 0, 1) := by decide +kernel
theorem d_S_isNear_21 : decode prog_4_method_7_code 21 = .ok (.ireturn, 1) := by decide +kernel
theorem d_S_changePlaces_0 : decode prog_4_method_5_code 0 = .ok (.iconst 1, 1) := by decide +kernel
theorem d_S_changePlaces_1 : decode prog_4_method_5_code 1 = .ok (.istore_n 3, 1) := by decide +kernel
theorem d_S_changePlaces_2 : decode prog_4_method_5_code 2 = .ok (.iconst 0, 1) := by decide +kernel
theorem d_S_changePlaces_3 : decode prog_4_method_5_code 3 = .ok (.istore 4, 2) := by decide +kernel
theorem d_S_changePlaces_5 : decode prog_4_method_5_code 5 = .ok (.iload 4, 2) := by decide +kernel
theorem d_S_changePlaces_7 : decode prog_4_method_5_code 7 = .ok (.aload_n 0, 1) := by decide +kernel
theorem d_S_changePlaces_8 : decode prog_4_method_5_code 8 = .ok (.getfield 7, 3) := by decide +kernel
theorem d_S_changePlaces_11 : decode prog_4_method_5_code 11 = .ok (.if_icmp .ge 53, 3) := by decide +kernel
theorem d_S_changePlaces_14 : decode prog_4_method_5_code 14 = .ok (.aload_n 1, 1) := by decide +kernel
theorem d_S_changePlaces_15 : decode prog_4_method_5_code 15 = .ok (.getfield 26, 3) := by decide +kernel
theorem d_S_changePlaces_18 : decode prog_4_method_5_code 18 = .ok (.iload 4, 2) := by decide +kernel
theorem d_S_changePlaces_20 : decode prog_4_method_5_code 20 = .ok (.dup2, 1) := by decide +kernel
theorem d_S_changePlaces_21 : decode prog_4_method_5_code 21 = .ok (.laload, 1) := by decide +kernel
theorem d_S_changePlaces_22 : decode prog_4_method_5_code 22 = .ok (.aload_n 1, 1) := by decide +kernel
theorem d_S_changePlaces_23 : decode prog_4_method_5_code 23 = .ok (.getfield 32, 3) := by decide +kernel
theorem d_S_changePlaces_26 : decode prog_4_method_5_code 26 = .ok (.iload 4, 2) := by decide +kernel
theorem d_S_changePlaces_28 : decode prog_4_method_5_code 28 = .ok (.laload, 1) := by decide +kernel
theorem d_S_changePlaces_29 : decode prog_4_method_5_code 29 = .ok (.iload_n 2, 1) := by decide +kernel
theorem d_S_changePlaces_30 : decode prog_4_method_5_code 30 = .ok (.invokestatic 46, 3) := by decide +kernel
theorem d_S_changePlaces_33 : decode prog_4_method_5_code 33 = .ok (.ladd, 1) := by decide +kernel
theorem d_S_changePlaces_34 : decode prog_4_method_5_code 34 = .ok (.lastore, 1) := by decide +kernel
theorem d_S_changePlaces_35 : decode prog_4_method_5_code 35 = .ok (.iload_n 3, 1) := by decide +kernel
theorem d_S_changePlaces_36 : decode prog_4_method_5_code 36 = .ok (.ifCond .eq 20, 3) := by decide +kernel
theorem d_S_changePlaces_39 : decode prog_4_method_5_code 39 = .ok (.aload_n 1, 1) := by decide +kernel
theorem d_S_changePlaces_40 : decode prog_4_method_5_code 40 = .ok (.getfield 26, 3) := by decide +kernel
theorem d_S_changePlaces_43 : decode prog_4_method_5_code 43 = .ok (.iload 4, 2) := by decide +kernel
theorem d_S_changePlaces_45 : decode prog_4_method_5_code 45 = .ok (.laload, 1) := by decide +kernel
theorem d_S_changePlaces_46 : decode prog_4_method_5_code 46 = .ok (.invokestatic 50, 3) := by decide +kernel
theorem d_S_changePlaces_49 : decode prog_4_method_5_code 49 = .ok (.ifCond .eq 7, 3) := by decide +kernel
theorem d_S_changePlaces_52 : decode prog_4_method_5_code 52 = .ok (.iconst 1, 1) := by decide +kernel
theorem d_S_changePlaces_53 : decode prog_4_method_5_code 53 = .ok (.goto 4, 3) := by decide +kernel
theorem d_S_changePlaces_56 : decode prog_4_method_5_code 56 = .ok (.iconst 0, 1) := by decide +kernel
theorem d_S_changePlaces_57 : decode prog_4_method_5_code 57 = .ok (.istore_n 3, 1) := by decide +kernel
theorem d_S_changePlaces_58 : decode prog_4_method_5_code 58 = .ok (.iinc 4 1, 3) := by decide +kernel
theorem d_S_changePlaces_61 : decode prog_4_method_5_code 61 = .ok (.goto (-56), 3) := by decide +kernel
theorem d_S_changePlaces_64 : decode prog_4_method_5_code 64 = .ok (.iload_n 3, 1) := by decide +kernel
theorem d_S_changePlaces_65 : decode prog_4_method_5_code 65 = .ok (.ireturn, 1) := by decide +kernel
theorem d_M_greatestDifference_0 : decode prog_3_method_3_code 0 = .ok (.lconst 0, 1) := by decide +kernel
theorem d_M_greatestDifference_1 : decode prog_3_method_3_code 1 = .ok (.lstore_n 2, 1) := by decide +kernel
theorem d_M_greatestDifference_2 : decode prog_3_method_3_code 2 = .ok (.iconst 0, 1) := by decide +kernel
theorem d_M_greatestDifference_3 : decode prog_3_method_3_code 3 = .ok (.istore 4, 2) := by decide +kernel
theorem d_M_greatestDifference_5 : decode prog_3_method_3_code 5 = .ok (.iload 4, 2) := by decide +kernel
theorem d_M_greatestDifference_7 : decode prog_3_method_3_code 7 = .ok (.aload_n 0, 1) := by decide +kernel
theorem d_M_greatestDifference_8 : decode prog_3_method_3_code 8 = .ok (.getfield 7, 3) := by decide +kernel
theorem d_M_greatestDifference_11 : decode prog_3_method_3_code 11 = .ok (.arraylength, 1) := by decide +kernel
theorem d_M_greatestDifference_12 : decode prog_3_method_3_code 12 = .ok (.if_icmp .ge 55, 3) := by decide +kernel
theorem d_M_greatestDifference_15 : decode prog_3_method_3_code 15 = .ok (.lload_n 2, 1) := by decide +kernel
theorem d_M_greatestDifference_16 : decode prog_3_method_3_code 16 = .ok (.aload_n 0, 1) := by decide +kernel
theorem d_M_greatestDifference_17 : decode prog_3_method_3_code 17 = .ok (.getfield 7, 3) := by decide +kernel
theorem d_M_greatestDifference_20 : decode prog_3_method_3_code 20 = .ok (.iload 4, 2) := by decide +kernel
theorem d_M_greatestDifference_22 : decode prog_3_method_3_code 22 = .ok (.laload, 1) := by decide +kernel
theorem d_M_greatestDifference_23 : decode prog_3_method_3_code 23 = .ok (.aload_n 1, 1) := by decide +kernel
theorem d_M_greatestDifference_24 : decode prog_3_method_3_code 24 = .ok (.getfield 7, 3) := by decide +kernel
theorem d_M_greatestDifference_27 : decode prog_3_method_3_code 27 = .ok (.iload 4, 2) := by decide +kernel
theorem d_M_greatestDifference_29 : decode prog_3_method_3_code 29 = .ok (.laload, 1) := by decide +kernel
theorem d_M_greatestDifference_30 : decode prog_3_method_3_code 30 = .ok (.lsub, 1) := by decide +kernel
theorem d_M_greatestDifference_31 : decode prog_3_method_3_code 31 = .ok (.invokestatic 22, 3) := by decide +kernel
theorem d_M_greatestDifference_34 : decode prog_3_method_3_code 34 = .ok (.invokestatic 28, 3) := by decide +kernel
theorem d_M_greatestDifference_37 : decode prog_3_method_3_code 37 = .ok (.lstore_n 2, 1) := by decide +kernel
theorem d_M_greatestDifference_38 : decode prog_3_method_3_code 38 = .ok (.lload_n 2, 1) := by decide +kernel
theorem d_M_greatestDifference_39 : decode prog_3_method_3_code 39 = .ok (.aload_n 0, 1) := by decide +kernel
theorem d_M_greatestDifference_40 : decode prog_3_method_3_code 40 = .ok (.getfield 13, 3) := by decide +kernel
theorem d_M_greatestDifference_43 : decode prog_3_method_3_code 43 = .ok (.iload 4, 2) := by decide +kernel
theorem d_M_greatestDifference_45 : decode prog_3_method_3_code 45 = .ok (.laload, 1) := by decide +kernel
theorem d_M_greatestDifference_46 : decode prog_3_method_3_code 46 = .ok (.aload_n 1, 1) := by decide +kernel
theorem d_M_greatestDifference_47 : decode prog_3_method_3_code 47 = .ok (.getfield 13, 3) := by decide +kernel
theorem d_M_greatestDifference_50 : decode prog_3_method_3_code 50 = .ok (.iload 4, 2) := by decide +kernel
theorem d_M_greatestDifference_52 : decode prog_3_method_3_code 52 = .ok (.laload, 1) := by decide +kernel
theorem d_M_greatestDifference_53 : decode prog_3_method_3_code 53 = .ok (.lsub, 1) := by decide +kernel
theorem d_M_greatestDifference_54 : decode prog_3_method_3_code 54 = .ok (.invokestatic 22, 3) := by decide +kernel
theorem d_M_greatestDifference_57 : decode prog_3_method_3_code 57 = .ok (.invokestatic 28, 3) := by decide +kernel
theorem d_M_greatestDifference_60 : decode prog_3_method_3_code 60 = .ok (.lstore_n 2, 1) := by decide +kernel
theorem d_M_greatestDifference_61 : decode prog_3_method_3_code 61 = .ok (.iinc 4 1, 3) := by decide +kernel
theorem d_M_greatestDifference_64 : decode prog_3_method_3_code 64 = .ok (.goto (-59), 3) := by decide +kernel
theorem d_M_greatestDifference_67 : decode prog_3_method_3_code 67 = .ok (.lload_n 2, 1) := by decide +kernel
theorem d_M_greatestDifference_68 : decode prog_3_method_3_code 68 = .ok (.lreturn, 1) := by decide +kernel
theorem d_W_isHitBy_0 : decode prog_5_method_3_code 0 = .ok (.aload_n 0, 1) := by decide +kernel
theorem d_W_isHitBy_1 : decode prog_5_method_3_code 1 = .ok (.invokevirtual 15, 3) := by decide +kernel
theorem d_W_isHitBy_4 : decode prog_5_method_3_code 4 = .ok (.ifCond .ne 5, 3) := by decide +kernel
theorem d_W_isHitBy_7 : decode prog_5_method_3_code 7 = .ok (.iconst 0, 1) := by decide +kernel
theorem d_W_isHitBy_8 : decode prog_5_method_3_code 8 = .ok (.ireturn, 1) := by decide +kernel
theorem d_W_isHitBy_9 : decode prog_5_method_3_code 9 = .ok (.aload_n 0, 1) := by decide +kernel
theorem d_W_isHitBy_10 : decode prog_5_method_3_code 10 = .ok (.getfield 19, 3) := by decide +kernel
theorem d_W_isHitBy_13 : decode prog_5_method_3_code 13 = .ok (.ifCond .eq 29, 3) := by decide +kernel
theorem d_W_isHitBy_16 : decode prog_5_method_3_code 16 = .ok (.lload_n 1, 1) := by decide +kernel
theorem d_W_isHitBy_17 : decode prog_5_method_3_code 17 = .ok (.aload_n 0, 1) := by decide +kernel
theorem d_W_isHitBy_18 : decode prog_5_method_3_code 18 = .ok (.getfield 23, 3) := by decide +kernel
theorem d_W_isHitBy_21 : decode prog_5_method_3_code 21 = .ok (.lcmp, 1) := by decide +kernel
theorem d_W_isHitBy_22 : decode prog_5_method_3_code 22 = .ok (.ifCond .ge 16, 3) := by decide +kernel
theorem d_W_isHitBy_25 : decode prog_5_method_3_code 25 = .ok (.lload_n 3, 1) := by decide +kernel
theorem d_W_isHitBy_26 : decode prog_5_method_3_code 26 = .ok (.aload_n 0, 1) := by decide +kernel
theorem d_W_isHitBy_27 : decode prog_5_method_3_code 27 = .ok (.getfield 23, 3) := by decide +kernel
theorem d_W_isHitBy_30 : decode prog_5_method_3_code 30 = .ok (.lcmp, 1) := by decide +kernel
theorem d_W_isHitBy_31 : decode prog_5_method_3_code 31 = .ok (.ifCond .lt 7, 3) := by decide +kernel
theorem d_W_isHitBy_34 : decode prog_5_method_3_code 34 = .ok (.iconst 1, 1) := by decide +kernel
theorem d_W_isHitBy_35 : decode prog_5_method_3_code 35 = .ok (.goto 30, 3) := by decide +kernel
theorem d_W_isHitBy_38 : decode prog_5_method_3_code 38 = .ok (.iconst 0, 1) := by decide +kernel
theorem d_W_isHitBy_39 : decode prog_5_method_3_code 39 = .ok (.goto 26, 3) := by decide +kernel
theorem d_W_isHitBy_42 : decode prog_5_method_3_code 42 = .ok (.lload_n 1, 1) := by decide +kernel
theorem d_W_isHitBy_43 : decode prog_5_method_3_code 43 = .ok (.aload_n 0, 1) := by decide +kernel
theorem d_W_isHitBy_44 : decode prog_5_method_3_code 44 = .ok (.getfield 23, 3) := by decide +kernel
theorem d_W_isHitBy_47 : decode prog_5_method_3_code 47 = .ok (.lcmp, 1) := by decide +kernel
theorem d_W_isHitBy_48 : decode prog_5_method_3_code 48 = .ok (.ifCond .le 16, 3) := by decide +kernel
theorem d_W_isHitBy_51 : decode prog_5_method_3_code 51 = .ok (.lload_n 3, 1) := by decide +kernel
theorem d_W_isHitBy_52 : decode prog_5_method_3_code 52 = .ok (.aload_n 0, 1) := by decide +kernel
theorem d_W_isHitBy_53 : decode prog_5_method_3_code 53 = .ok (.getfield 23, 3) := by decide +kernel
theorem d_W_isHitBy_56 : decode prog_5_method_3_code 56 = .ok (.lcmp, 1) := by decide +kernel
theorem d_W_isHitBy_57 : decode prog_5_method_3_code 57 = .ok (.ifCond .gt 7, 3) := by decide +kernel
theorem d_W_isHitBy_60 : decode prog_5_method_3_code 60 = .ok (.iconst 1, 1) := by decide +kernel
theorem d_W_isHitBy_61 : decode prog_5_method_3_code 61 = .ok (.goto 4, 3) := by decide +kernel
theorem d_W_isHitBy_64 : decode prog_5_method_3_code 64 = .ok (.iconst 0, 1) := by decide +kernel
theorem d_W_isHitBy_65 : decode prog_5_method_3_code 65 = .ok (.ireturn, 1) := by decide +kernel
theorem d_W_isSet_0 : decode prog_5_method_2_code 0 = .ok (.aload_n 0, 1) := by decide +kernel
theorem d_W_isSet_1 : decode prog_5_method_2_code 1 = .ok (.getfield 9, 3) := by decide +kernel
theorem d_W_isSet_4 : decode prog_5_method_2_code 4 = .ok (.iconst (-1), 1) := by decide +kernel
theorem d_W_isSet_5 : decode prog_5_method_2_code 5 = .ok (.if_icmp .eq 7, 3) := by decide +kernel
theorem d_W_isSet_8 : decode prog_5_method_2_code 8 = .ok (.iconst 1, 1) := by decide +kernel
theorem d_W_isSet_9 : decode prog_5_method_2_code 9 = .ok (.goto 4, 3) := by decide +kernel
theorem d_W_isSet_12 : decode prog_5_method_2_code 12 = .ok (.iconst 0, 1) := by decide +kernel
theorem d_W_isSet_13 : decode prog_5_method_2_code 13 = .ok (.ireturn, 1) := by decide +kernel
theorem d_W_ticksUntilLevel_0 : decode prog_5_method_4_code 0 = .ok (.lload_n 3, 1) := by decide +kernel
theorem d_W_ticksUntilLevel_1 : decode prog_5_method_4_code 1 = .ok (.lload_n 1, 1) := by decide +kernel
theorem d_W_ticksUntilLevel_2 : decode prog_5_method_4_code 2 = .ok (.lsub, 1) := by decide +kernel
theorem d_W_ticksUntilLevel_3 : decode prog_5_method_4_code 3 = .ok (.invokestatic 27, 3) := by decide +kernel
theorem d_W_ticksUntilLevel_6 : decode prog_5_method_4_code 6 = .ok (.lstore 6, 2) := by decide +kernel
theorem d_W_ticksUntilLevel_8 : decode prog_5_method_4_code 8 = .ok (.lload 6, 2) := by decide +kernel
theorem d_W_ticksUntilLevel_10 : decode prog_5_method_4_code 10 = .ok (.lconst 0, 1) := by decide +kernel
theorem d_W_ticksUntilLevel_11 : decode prog_5_method_4_code 11 = .ok (.lcmp, 1) := by decide +kernel
theorem d_W_ticksUntilLevel_12 : decode prog_5_method_4_code 12 = .ok (.ifCond .ne 5, 3) := by decide +kernel
theorem d_W_ticksUntilLevel_15 : decode prog_5_method_4_code 15 = .ok (.iconst 0, 1) := by decide +kernel
theorem d_W_ticksUntilLevel_16 : decode prog_5_method_4_code 16 = .ok (.ireturn, 1) := by decide +kernel
theorem d_W_ticksUntilLevel_17 : decode prog_5_method_4_code 17 = .ok (.iload 5, 2) := by decide +kernel
theorem d_W_ticksUntilLevel_19 : decode prog_5_method_4_code 19 = .ok (.i2l, 1) := by decide +kernel
theorem d_W_ticksUntilLevel_20 : decode prog_5_method_4_code 20 = .ok (.aload_n 0, 1) := by decide +kernel
theorem d_W_ticksUntilLevel_21 : decode prog_5_method_4_code 21 = .ok (.getfield 23, 3) := by decide +kernel
theorem d_W_ticksUntilLevel_24 : decode prog_5_method_4_code 24 = .ok (.lload_n 1, 1) := by decide +kernel
theorem d_W_ticksUntilLevel_25 : decode prog_5_method_4_code 25 = .ok (.lsub, 1) := by decide +kernel
theorem d_W_ticksUntilLevel_26 : decode prog_5_method_4_code 26 = .ok (.invokestatic 27, 3) := by decide +kernel
theorem d_W_ticksUntilLevel_29 : decode prog_5_method_4_code 29 = .ok (.lmul, 1) := by decide +kernel
theorem d_W_ticksUntilLevel_30 : decode prog_5_method_4_code 30 = .ok (.lstore 8, 2) := by decide +kernel
theorem d_W_ticksUntilLevel_32 : decode prog_5_method_4_code 32 = .ok (.lload 8, 2) := by decide +kernel
theorem d_W_ticksUntilLevel_34 : decode prog_5_method_4_code 34 = .ok (.lload 6, 2) := by decide +kernel
theorem d_W_ticksUntilLevel_36 : decode prog_5_method_4_code 36 = .ok (.ladd, 1) := by decide +kernel
theorem d_W_ticksUntilLevel_37 : decode prog_5_method_4_code 37 = .ok (.lconst 1, 1) := by decide +kernel
theorem d_W_ticksUntilLevel_38 : decode prog_5_method_4_code 38 = .ok (.lsub, 1) := by decide +kernel
theorem d_W_ticksUntilLevel_39 : decode prog_5_method_4_code 39 = .ok (.lload 6, 2) := by decide +kernel
theorem d_W_ticksUntilLevel_41 : decode prog_5_method_4_code 41 = .ok (.ldiv, 1) := by decide +kernel
theorem d_W_ticksUntilLevel_42 : decode prog_5_method_4_code 42 = .ok (.l2i, 1) := by decide +kernel
theorem d_W_ticksUntilLevel_43 : decode prog_5_method_4_code 43 = .ok (.ireturn, 1) := by decide +kernel
theorem d_H_note_0 : decode prog_2_method_3_code 0 = .ok (.aload_n 0, 1) := by decide +kernel
theorem d_H_note_1 : decode prog_2_method_3_code 1 = .ok (.dup, 1) := by decide +kernel
theorem d_H_note_2 : decode prog_2_method_3_code 2 = .ok (.getfield 23, 3) := by decide +kernel
theorem d_H_note_5 : decode prog_2_method_3_code 5 = .ok (.iconst 1, 1) := by decide +kernel
theorem d_H_note_6 : decode prog_2_method_3_code 6 = .ok (.iadd, 1) := by decide +kernel
theorem d_H_note_7 : decode prog_2_method_3_code 7 = .ok (.putfield 23, 3) := by decide +kernel
theorem d_H_note_10 : decode prog_2_method_3_code 10 = .ok (.aload_n 0, 1) := by decide +kernel
theorem d_H_note_11 : decode prog_2_method_3_code 11 = .ok (.getfield 19, 3) := by decide +kernel
theorem d_H_note_14 : decode prog_2_method_3_code 14 = .ok (.bipush 40, 2) := by decide +kernel
theorem d_H_note_16 : decode prog_2_method_3_code 16 = .ok (.if_icmp .ge 43, 3) := by decide +kernel
theorem d_H_note_19 : decode prog_2_method_3_code 19 = .ok (.aload_n 0, 1) := by decide +kernel
theorem d_H_note_20 : decode prog_2_method_3_code 20 = .ok (.getfield 9, 3) := by decide +kernel
theorem d_H_note_23 : decode prog_2_method_3_code 23 = .ok (.aload_n 0, 1) := by decide +kernel
theorem d_H_note_24 : decode prog_2_method_3_code 24 = .ok (.getfield 19, 3) := by decide +kernel
theorem d_H_note_27 : decode prog_2_method_3_code 27 = .ok (.iload_n 1, 1) := by decide +kernel
theorem d_H_note_28 : decode prog_2_method_3_code 28 = .ok (.iastore, 1) := by decide +kernel
theorem d_H_note_29 : decode prog_2_method_3_code 29 = .ok (.aload_n 0, 1) := by decide +kernel
theorem d_H_note_30 : decode prog_2_method_3_code 30 = .ok (.getfield 13, 3) := by decide +kernel
theorem d_H_note_33 : decode prog_2_method_3_code 33 = .ok (.aload_n 0, 1) := by decide +kernel
theorem d_H_note_34 : decode prog_2_method_3_code 34 = .ok (.getfield 19, 3) := by decide +kernel
theorem d_H_note_37 : decode prog_2_method_3_code 37 = .ok (.iload_n 2, 1) := by decide +kernel
theorem d_H_note_38 : decode prog_2_method_3_code 38 = .ok (.iastore, 1) := by decide +kernel
theorem d_H_note_39 : decode prog_2_method_3_code 39 = .ok (.aload_n 0, 1) := by decide +kernel
theorem d_H_note_40 : decode prog_2_method_3_code 40 = .ok (.getfield 16, 3) := by decide +kernel
theorem d_H_note_43 : decode prog_2_method_3_code 43 = .ok (.aload_n 0, 1) := by decide +kernel
theorem d_H_note_44 : decode prog_2_method_3_code 44 = .ok (.getfield 19, 3) := by decide +kernel
theorem d_H_note_47 : decode prog_2_method_3_code 47 = .ok (.iload_n 3, 1) := by decide +kernel
theorem d_H_note_48 : decode prog_2_method_3_code 48 = .ok (.iastore, 1) := by decide +kernel
theorem d_H_note_49 : decode prog_2_method_3_code 49 = .ok (.aload_n 0, 1) := by decide +kernel
theorem d_H_note_50 : decode prog_2_method_3_code 50 = .ok (.dup, 1) := by decide +kernel
theorem d_H_note_51 : decode prog_2_method_3_code 51 = .ok (.getfield 19, 3) := by decide +kernel
theorem d_H_note_54 : decode prog_2_method_3_code 54 = .ok (.iconst 1, 1) := by decide +kernel
theorem d_H_note_55 : decode prog_2_method_3_code 55 = .ok (.iadd, 1) := by decide +kernel
theorem d_H_note_56 : decode prog_2_method_3_code 56 = .ok (.putfield 19, 3) := by decide +kernel
theorem d_H_note_59 : decode prog_2_method_3_code 59 = .ok (.return_, 1) := by decide +kernel
theorem d_H_keeps_0 : decode prog_2_method_2_code 0 = .ok (.iload_n 1, 1) := by decide +kernel
theorem d_H_keeps_1 : decode prog_2_method_2_code 1 = .ok (.ifCond .lt 15, 3) := by decide +kernel
theorem d_H_keeps_4 : decode prog_2_method_2_code 4 = .ok (.iload_n 1, 1) := by decide +kernel
theorem d_H_keeps_5 : decode prog_2_method_2_code 5 = .ok (.aload_n 0, 1) := by decide +kernel
theorem d_H_keeps_6 : decode prog_2_method_2_code 6 = .ok (.getfield 19, 3) := by decide +kernel
theorem d_H_keeps_9 : decode prog_2_method_2_code 9 = .ok (.if_icmp .ge 7, 3) := by decide +kernel
theorem d_H_keeps_12 : decode prog_2_method_2_code 12 = .ok (.iconst 1, 1) := by decide +kernel
theorem d_H_keeps_13 : decode prog_2_method_2_code 13 = .ok (.goto 4, 3) := by decide +kernel
theorem d_H_keeps_16 : decode prog_2_method_2_code 16 = .ok (.iconst 0, 1) := by decide +kernel
theorem d_H_keeps_17 : decode prog_2_method_2_code 17 = .ok (.ireturn, 1) := by decide +kernel
theorem d_H_forget_0 : decode prog_2_method_4_code 0 = .ok (.aload_n 0, 1) := by decide +kernel
theorem d_H_forget_1 : decode prog_2_method_4_code 1 = .ok (.iconst 0, 1) := by decide +kernel
theorem d_H_forget_2 : decode prog_2_method_4_code 2 = .ok (.putfield 19, 3) := by decide +kernel
theorem d_H_forget_5 : decode prog_2_method_4_code 5 = .ok (.aload_n 0, 1) := by decide +kernel
theorem d_H_forget_6 : decode prog_2_method_4_code 6 = .ok (.iconst 0, 1) := by decide +kernel
theorem d_H_forget_7 : decode prog_2_method_4_code 7 = .ok (.putfield 23, 3) := by decide +kernel
theorem d_H_forget_10 : decode prog_2_method_4_code 10 = .ok (.return_, 1) := by decide +kernel

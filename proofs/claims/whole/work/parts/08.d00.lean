theorem d_J_init_0 : decode c_J_init 0 = .ok (.aload_n 0, 1) := by decide +kernel
theorem d_J_init_1 : decode c_J_init 1 = .ok (.invokespecial 1, 3) := by decide +kernel
theorem d_J_init_4 : decode c_J_init 4 = .ok (.aload_n 0, 1) := by decide +kernel
theorem d_J_init_5 : decode c_J_init 5 = .ok (.bipush 10, 2) := by decide +kernel
theorem d_J_init_7 : decode c_J_init 7 = .ok (.anewarray 9, 3) := by decide +kernel
theorem d_J_init_10 : decode c_J_init 10 = .ok (.putfield 11, 3) := by decide +kernel
theorem d_J_init_13 : decode c_J_init 13 = .ok (.iconst 0, 1) := by decide +kernel
theorem d_J_init_14 : decode c_J_init 14 = .ok (.istore_n 1, 1) := by decide +kernel
theorem d_J_init_15 : decode c_J_init 15 = .ok (.iload_n 1, 1) := by decide +kernel
theorem d_J_init_16 : decode c_J_init 16 = .ok (.bipush 10, 2) := by decide +kernel
theorem d_J_init_18 : decode c_J_init 18 = .ok (.if_icmp .ge 22, 3) := by decide +kernel
theorem d_J_init_21 : decode c_J_init 21 = .ok (.aload_n 0, 1) := by decide +kernel
theorem d_J_init_22 : decode c_J_init 22 = .ok (.getfield 11, 3) := by decide +kernel
theorem d_J_init_25 : decode c_J_init 25 = .ok (.iload_n 1, 1) := by decide +kernel
theorem d_J_init_26 : decode c_J_init 26 = .ok (.new 9, 3) := by decide +kernel
theorem d_J_init_29 : decode c_J_init 29 = .ok (.dup, 1) := by decide +kernel
theorem d_J_init_30 : decode c_J_init 30 = .ok (.invokespecial 15, 3) := by decide +kernel
theorem d_J_init_33 : decode c_J_init 33 = .ok (.aastore, 1) := by decide +kernel
theorem d_J_init_34 : decode c_J_init 34 = .ok (.iinc 1 1, 3) := by decide +kernel
theorem d_J_init_37 : decode c_J_init 37 = .ok (.goto (-22), 3) := by decide +kernel
theorem d_J_init_40 : decode c_J_init 40 = .ok (.aload_n 0, 1) := by decide +kernel
theorem d_J_init_41 : decode c_J_init 41 = .ok (.bipush 24, 2) := by decide +kernel
theorem d_J_init_43 : decode c_J_init 43 = .ok (.anewarray 16, 3) := by decide +kernel
theorem d_J_init_46 : decode c_J_init 46 = .ok (.putfield 18, 3) := by decide +kernel
theorem d_J_init_49 : decode c_J_init 49 = .ok (.aload_n 0, 1) := by decide +kernel
theorem d_J_init_50 : decode c_J_init 50 = .ok (.new 22, 3) := by decide +kernel
theorem d_J_init_53 : decode c_J_init 53 = .ok (.dup, 1) := by decide +kernel
theorem d_J_init_54 : decode c_J_init 54 = .ok (.invokespecial 24, 3) := by decide +kernel
theorem d_J_init_57 : decode c_J_init 57 = .ok (.putfield 25, 3) := by decide +kernel
theorem d_J_init_60 : decode c_J_init 60 = .ok (.aload_n 0, 1) := by decide +kernel
theorem d_J_init_61 : decode c_J_init 61 = .ok (.bipush 60, 2) := by decide +kernel
theorem d_J_init_63 : decode c_J_init 63 = .ok (.newarray .int, 2) := by decide +kernel
theorem d_J_init_65 : decode c_J_init 65 = .ok (.putfield 29, 3) := by decide +kernel
theorem d_J_init_68 : decode c_J_init 68 = .ok (.return_, 1) := by decide +kernel
theorem d_P_init_0 : decode c_P_init 0 = .ok (.aload_n 0, 1) := by decide +kernel
theorem d_P_init_1 : decode c_P_init 1 = .ok (.invokespecial 3, 3) := by decide +kernel
theorem d_P_init_4 : decode c_P_init 4 = .ok (.aload_n 0, 1) := by decide +kernel
theorem d_P_init_5 : decode c_P_init 5 = .ok (.bipush 8, 2) := by decide +kernel
theorem d_P_init_7 : decode c_P_init 7 = .ok (.newarray .int, 2) := by decide +kernel
theorem d_P_init_9 : decode c_P_init 9 = .ok (.putfield 9, 3) := by decide +kernel
theorem d_P_init_12 : decode c_P_init 12 = .ok (.aload_n 0, 1) := by decide +kernel
theorem d_P_init_13 : decode c_P_init 13 = .ok (.bipush 8, 2) := by decide +kernel
theorem d_P_init_15 : decode c_P_init 15 = .ok (.newarray .int, 2) := by decide +kernel
theorem d_P_init_17 : decode c_P_init 17 = .ok (.putfield 15, 3) := by decide +kernel
theorem d_P_init_20 : decode c_P_init 20 = .ok (.aload_n 0, 1) := by decide +kernel
theorem d_P_init_21 : decode c_P_init 21 = .ok (.bipush 8, 2) := by decide +kernel
theorem d_P_init_23 : decode c_P_init 23 = .ok (.newarray .int, 2) := by decide +kernel
theorem d_P_init_25 : decode c_P_init 25 = .ok (.putfield 18, 3) := by decide +kernel
theorem d_P_init_28 : decode c_P_init 28 = .ok (.return_, 1) := by decide +kernel
theorem d_Q_init_0 : decode c_Q_init 0 = .ok (.aload_n 0, 1) := by decide +kernel
theorem d_Q_init_1 : decode c_Q_init 1 = .ok (.invokespecial 3, 3) := by decide +kernel
theorem d_Q_init_4 : decode c_Q_init 4 = .ok (.aload_n 0, 1) := by decide +kernel
theorem d_Q_init_5 : decode c_Q_init 5 = .ok (.bipush 24, 2) := by decide +kernel
theorem d_Q_init_7 : decode c_Q_init 7 = .ok (.anewarray 9, 3) := by decide +kernel
theorem d_Q_init_10 : decode c_Q_init 10 = .ok (.putfield 11, 3) := by decide +kernel
theorem d_Q_init_13 : decode c_Q_init 13 = .ok (.return_, 1) := by decide +kernel
theorem d_J_count_0 : decode c_J_count 0 = .ok (.iload_n 1, 1) := by decide +kernel
theorem d_J_count_1 : decode c_J_count 1 = .ok (.tableswitch 90 0 7 #[47, 52, 57, 62, 67, 75, 80, 85], 47) := by decide +kernel
theorem d_J_count_48 : decode c_J_count 48 = .ok (.aload_n 0, 1) := by decide +kernel
theorem d_J_count_49 : decode c_J_count 49 = .ok (.getfield 57, 3) := by decide +kernel
theorem d_J_count_52 : decode c_J_count 52 = .ok (.ireturn, 1) := by decide +kernel
theorem d_J_count_53 : decode c_J_count 53 = .ok (.aload_n 0, 1) := by decide +kernel
theorem d_J_count_54 : decode c_J_count 54 = .ok (.getfield 132, 3) := by decide +kernel
theorem d_J_count_57 : decode c_J_count 57 = .ok (.ireturn, 1) := by decide +kernel
theorem d_J_count_58 : decode c_J_count 58 = .ok (.aload_n 0, 1) := by decide +kernel
theorem d_J_count_59 : decode c_J_count 59 = .ok (.getfield 129, 3) := by decide +kernel
theorem d_J_count_62 : decode c_J_count 62 = .ok (.ireturn, 1) := by decide +kernel
theorem d_J_count_63 : decode c_J_count 63 = .ok (.aload_n 0, 1) := by decide +kernel
theorem d_J_count_64 : decode c_J_count 64 = .ok (.getfield 135, 3) := by decide +kernel
theorem d_J_count_67 : decode c_J_count 67 = .ok (.ireturn, 1) := by decide +kernel
theorem d_J_count_68 : decode c_J_count 68 = .ok (.aload_n 0, 1) := by decide +kernel
theorem d_J_count_69 : decode c_J_count 69 = .ok (.getfield 25, 3) := by decide +kernel
theorem d_J_count_72 : decode c_J_count 72 = .ok (.getfield 138, 3) := by decide +kernel
theorem d_J_count_75 : decode c_J_count 75 = .ok (.ireturn, 1) := by decide +kernel
theorem d_J_count_76 : decode c_J_count 76 = .ok (.aload_n 0, 1) := by decide +kernel
theorem d_J_count_77 : decode c_J_count 77 = .ok (.getfield 141, 3) := by decide +kernel
theorem d_J_count_80 : decode c_J_count 80 = .ok (.ireturn, 1) := by decide +kernel
theorem d_J_count_81 : decode c_J_count 81 = .ok (.aload_n 0, 1) := by decide +kernel
theorem d_J_count_82 : decode c_J_count 82 = .ok (.invokevirtual 144, 3) := by decide +kernel
theorem d_J_count_85 : decode c_J_count 85 = .ok (.ireturn, 1) := by decide +kernel
theorem d_J_count_86 : decode c_J_count 86 = .ok (.aload_n 0, 1) := by decide +kernel
theorem d_J_count_87 : decode c_J_count 87 = .ok (.getfield 148, 3) := by decide +kernel
theorem d_J_count_90 : decode c_J_count 90 = .ok (.ireturn, 1) := by decide +kernel
theorem d_J_count_91 : decode c_J_count 91 = .ok (.iconst (-1), 1) := by decide +kernel
theorem d_J_count_92 : decode c_J_count 92 = .ok (.ireturn, 1) := by decide +kernel
theorem d_J_runningTimers_0 : decode c_J_runningTimers 0 = .ok (.iconst 0, 1) := by decide +kernel
theorem d_J_runningTimers_1 : decode c_J_runningTimers 1 = .ok (.istore_n 1, 1) := by decide +kernel
theorem d_J_runningTimers_2 : decode c_J_runningTimers 2 = .ok (.iconst 0, 1) := by decide +kernel
theorem d_J_runningTimers_3 : decode c_J_runningTimers 3 = .ok (.istore_n 2, 1) := by decide +kernel
theorem d_J_runningTimers_4 : decode c_J_runningTimers 4 = .ok (.iload_n 2, 1) := by decide +kernel
theorem d_J_runningTimers_5 : decode c_J_runningTimers 5 = .ok (.aload_n 0, 1) := by decide +kernel
theorem d_J_runningTimers_6 : decode c_J_runningTimers 6 = .ok (.getfield 57, 3) := by decide +kernel
theorem d_J_runningTimers_9 : decode c_J_runningTimers 9 = .ok (.if_icmp .ge 55, 3) := by decide +kernel
theorem d_J_runningTimers_12 : decode c_J_runningTimers 12 = .ok (.iload_n 1, 1) := by decide +kernel
theorem d_J_runningTimers_13 : decode c_J_runningTimers 13 = .ok (.aload_n 0, 1) := by decide +kernel
theorem d_J_runningTimers_14 : decode c_J_runningTimers 14 = .ok (.getfield 18, 3) := by decide +kernel
theorem d_J_runningTimers_17 : decode c_J_runningTimers 17 = .ok (.iload_n 2, 1) := by decide +kernel
theorem d_J_runningTimers_18 : decode c_J_runningTimers 18 = .ok (.aaload, 1) := by decide +kernel
theorem d_J_runningTimers_19 : decode c_J_runningTimers 19 = .ok (.getfield 164, 3) := by decide +kernel
theorem d_J_runningTimers_22 : decode c_J_runningTimers 22 = .ok (.invokevirtual 301, 3) := by decide +kernel
theorem d_J_runningTimers_25 : decode c_J_runningTimers 25 = .ok (.ifCond .eq 7, 3) := by decide +kernel
theorem d_J_runningTimers_28 : decode c_J_runningTimers 28 = .ok (.iconst 1, 1) := by decide +kernel
theorem d_J_runningTimers_29 : decode c_J_runningTimers 29 = .ok (.goto 4, 3) := by decide +kernel
theorem d_J_runningTimers_32 : decode c_J_runningTimers 32 = .ok (.iconst 0, 1) := by decide +kernel
theorem d_J_runningTimers_33 : decode c_J_runningTimers 33 = .ok (.iadd, 1) := by decide +kernel
theorem d_J_runningTimers_34 : decode c_J_runningTimers 34 = .ok (.istore_n 1, 1) := by decide +kernel
theorem d_J_runningTimers_35 : decode c_J_runningTimers 35 = .ok (.iload_n 1, 1) := by decide +kernel
theorem d_J_runningTimers_36 : decode c_J_runningTimers 36 = .ok (.aload_n 0, 1) := by decide +kernel
theorem d_J_runningTimers_37 : decode c_J_runningTimers 37 = .ok (.getfield 18, 3) := by decide +kernel
theorem d_J_runningTimers_40 : decode c_J_runningTimers 40 = .ok (.iload_n 2, 1) := by decide +kernel
theorem d_J_runningTimers_41 : decode c_J_runningTimers 41 = .ok (.aaload, 1) := by decide +kernel
theorem d_J_runningTimers_42 : decode c_J_runningTimers 42 = .ok (.getfield 236, 3) := by decide +kernel
theorem d_J_runningTimers_45 : decode c_J_runningTimers 45 = .ok (.invokevirtual 301, 3) := by decide +kernel
theorem d_J_runningTimers_48 : decode c_J_runningTimers 48 = .ok (.ifCond .eq 7, 3) := by decide +kernel
theorem d_J_runningTimers_51 : decode c_J_runningTimers 51 = .ok (.iconst 1, 1) := by decide +kernel
theorem d_J_runningTimers_52 : decode c_J_runningTimers 52 = .ok (.goto 4, 3) := by decide +kernel
theorem d_J_runningTimers_55 : decode c_J_runningTimers 55 = .ok (.iconst 0, 1) := by decide +kernel
theorem d_J_runningTimers_56 : decode c_J_runningTimers 56 = .ok (.iadd, 1) := by decide +kernel
theorem d_J_runningTimers_57 : decode c_J_runningTimers 57 = .ok (.istore_n 1, 1) := by decide +kernel
theorem d_J_runningTimers_58 : decode c_J_runningTimers 58 = .ok (.iinc 2 1, 3) := by decide +kernel
theorem d_J_runningTimers_61 : decode c_J_runningTimers 61 = .ok (.goto (-57), 3) := by decide +kernel
theorem d_J_runningTimers_64 : decode c_J_runningTimers 64 = .ok (.iload_n 1, 1) := by decide +kernel
theorem d_J_runningTimers_65 : decode c_J_runningTimers 65 = .ok (.ireturn, 1) := by decide +kernel
theorem d_T_isRunning_0 : decode c_T_isRunning 0 = .ok (.aload_n 0, 1) := by decide +kernel
theorem d_T_isRunning_1 : decode c_T_isRunning 1 = .ok (.getfield 10, 3) := by decide +kernel
theorem d_T_isRunning_4 : decode c_T_isRunning 4 = .ok (.ldc 9, 2) := by decide +kernel
theorem d_T_isRunning_6 : decode c_T_isRunning 6 = .ok (.if_icmp .eq 7, 3) := by decide +kernel
theorem d_T_isRunning_9 : decode c_T_isRunning 9 = .ok (.iconst 1, 1) := by decide +kernel
theorem d_T_isRunning_10 : decode c_T_isRunning 10 = .ok (.goto 4, 3) := by decide +kernel
theorem d_T_isRunning_13 : decode c_T_isRunning 13 = .ok (.iconst 0, 1) := by decide +kernel
theorem d_T_isRunning_14 : decode c_T_isRunning 14 = .ok (.ireturn, 1) := by decide +kernel
theorem d_L_act_0 : decode c_L_act 0 = .ok (.aload 5, 2) := by decide +kernel
theorem d_L_act_2 : decode c_L_act 2 = .ok (.iconst 0, 1) := by decide +kernel
theorem d_L_act_3 : decode c_L_act 3 = .ok (.aload_n 0, 1) := by decide +kernel
theorem d_L_act_4 : decode c_L_act 4 = .ok (.iload_n 1, 1) := by decide +kernel
theorem d_L_act_5 : decode c_L_act 5 = .ok (.iload_n 2, 1) := by decide +kernel
theorem d_L_act_6 : decode c_L_act 6 = .ok (.iload_n 3, 1) := by decide +kernel
theorem d_L_act_7 : decode c_L_act 7 = .ok (.iload 4, 2) := by decide +kernel
theorem d_L_act_9 : decode c_L_act 9 = .ok (.invokevirtual 7, 3) := by decide +kernel
theorem d_L_act_12 : decode c_L_act 12 = .ok (.i2l, 1) := by decide +kernel
theorem d_L_act_13 : decode c_L_act 13 = .ok (.lastore, 1) := by decide +kernel
theorem d_L_act_14 : decode c_L_act 14 = .ok (.goto 11, 3) := by decide +kernel
theorem d_L_act_17 : decode c_L_act 17 = .ok (.astore 6, 2) := by decide +kernel
theorem d_L_act_19 : decode c_L_act 19 = .ok (.iconst 1, 1) := by decide +kernel
theorem d_L_act_20 : decode c_L_act 20 = .ok (.ireturn, 1) := by decide +kernel
theorem d_L_act_21 : decode c_L_act 21 = .ok (.astore 6, 2) := by decide +kernel
theorem d_L_act_23 : decode c_L_act 23 = .ok (.iconst 2, 1) := by decide +kernel
theorem d_L_act_24 : decode c_L_act 24 = .ok (.ireturn, 1) := by decide +kernel
theorem d_L_act_25 : decode c_L_act 25 = .ok (.iconst 0, 1) := by decide +kernel
theorem d_L_act_26 : decode c_L_act 26 = .ok (.ireturn, 1) := by decide +kernel
theorem d_J_act_0 : decode c_J_act 0 = .ok (.iload_n 1, 1) := by decide +kernel
theorem d_J_act_1 : decode c_J_act 1 = .ok (.invokestatic 33, 3) := by decide +kernel
theorem d_J_act_4 : decode c_J_act 4 = .ok (.ifCond .eq 13, 3) := by decide +kernel
theorem d_J_act_7 : decode c_J_act 7 = .ok (.iload_n 2, 1) := by decide +kernel
theorem d_J_act_8 : decode c_J_act 8 = .ok (.iload_n 3, 1) := by decide +kernel
theorem d_J_act_9 : decode c_J_act 9 = .ok (.iload 4, 2) := by decide +kernel
theorem d_J_act_11 : decode c_J_act 11 = .ok (.invokestatic 37, 3) := by decide +kernel
theorem d_J_act_14 : decode c_J_act 14 = .ok (.ifCond .ne 11, 3) := by decide +kernel
theorem d_J_act_17 : decode c_J_act 17 = .ok (.new 43, 3) := by decide +kernel
theorem d_J_act_20 : decode c_J_act 20 = .ok (.dup, 1) := by decide +kernel
theorem d_J_act_21 : decode c_J_act 21 = .ok (.invokespecial 45, 3) := by decide +kernel
theorem d_J_act_24 : decode c_J_act 24 = .ok (.athrow, 1) := by decide +kernel
theorem d_J_act_25 : decode c_J_act 25 = .ok (.aload_n 0, 1) := by decide +kernel
theorem d_J_act_26 : decode c_J_act 26 = .ok (.getfield 11, 3) := by decide +kernel
theorem d_J_act_29 : decode c_J_act 29 = .ok (.iload_n 1, 1) := by decide +kernel
theorem d_J_act_30 : decode c_J_act 30 = .ok (.aaload, 1) := by decide +kernel
theorem d_J_act_31 : decode c_J_act 31 = .ok (.astore 5, 2) := by decide +kernel
theorem d_J_act_33 : decode c_J_act 33 = .ok (.aload 5, 2) := by decide +kernel
theorem d_J_act_35 : decode c_J_act 35 = .ok (.getfield 46, 3) := by decide +kernel
theorem d_J_act_38 : decode c_J_act 38 = .ok (.bipush 8, 2) := by decide +kernel
theorem d_J_act_40 : decode c_J_act 40 = .ok (.if_icmp .lt 11, 3) := by decide +kernel
theorem d_J_act_43 : decode c_J_act 43 = .ok (.new 50, 3) := by decide +kernel
theorem d_J_act_46 : decode c_J_act 46 = .ok (.dup, 1) := by decide +kernel
theorem d_J_act_47 : decode c_J_act 47 = .ok (.invokespecial 52, 3) := by decide +kernel
theorem d_J_act_50 : decode c_J_act 50 = .ok (.athrow, 1) := by decide +kernel
theorem d_J_act_51 : decode c_J_act 51 = .ok (.aload 5, 2) := by decide +kernel
theorem d_J_act_53 : decode c_J_act 53 = .ok (.iload_n 2, 1) := by decide +kernel
theorem d_J_act_54 : decode c_J_act 54 = .ok (.iload_n 3, 1) := by decide +kernel
theorem d_J_act_55 : decode c_J_act 55 = .ok (.iload 4, 2) := by decide +kernel
theorem d_J_act_57 : decode c_J_act 57 = .ok (.invokevirtual 53, 3) := by decide +kernel
theorem d_J_act_60 : decode c_J_act 60 = .ok (.aload 5, 2) := by decide +kernel
theorem d_J_act_62 : decode c_J_act 62 = .ok (.getfield 46, 3) := by decide +kernel
theorem d_J_act_65 : decode c_J_act 65 = .ok (.ireturn, 1) := by decide +kernel
theorem d_J_isProgram_0 : decode c_J_isProgram 0 = .ok (.iload_n 0, 1) := by decide +kernel
theorem d_J_isProgram_1 : decode c_J_isProgram 1 = .ok (.iconst 0, 1) := by decide +kernel
theorem d_J_isProgram_2 : decode c_J_isProgram 2 = .ok (.bipush 9, 2) := by decide +kernel
theorem d_J_isProgram_4 : decode c_J_isProgram 4 = .ok (.invokestatic 82, 3) := by decide +kernel
theorem d_J_isProgram_7 : decode c_J_isProgram 7 = .ok (.ireturn, 1) := by decide +kernel
theorem d_J_isWithin_0 : decode c_J_isWithin 0 = .ok (.iload_n 0, 1) := by decide +kernel
theorem d_J_isWithin_1 : decode c_J_isWithin 1 = .ok (.iload_n 1, 1) := by decide +kernel
theorem d_J_isWithin_2 : decode c_J_isWithin 2 = .ok (.if_icmp .lt 12, 3) := by decide +kernel
theorem d_J_isWithin_5 : decode c_J_isWithin 5 = .ok (.iload_n 0, 1) := by decide +kernel
theorem d_J_isWithin_6 : decode c_J_isWithin 6 = .ok (.iload_n 2, 1) := by decide +kernel
theorem d_J_isWithin_7 : decode c_J_isWithin 7 = .ok (.if_icmp .gt 7, 3) := by decide +kernel
theorem d_J_isWithin_10 : decode c_J_isWithin 10 = .ok (.iconst 1, 1) := by decide +kernel
theorem d_J_isWithin_11 : decode c_J_isWithin 11 = .ok (.goto 4, 3) := by decide +kernel
theorem d_J_isWithin_14 : decode c_J_isWithin 14 = .ok (.iconst 0, 1) := by decide +kernel
theorem d_J_isWithin_15 : decode c_J_isWithin 15 = .ok (.ireturn, 1) := by decide +kernel
theorem d_A_isOne_0 : decode c_A_isOne 0 = .ok (.iload_n 0, 1) := by decide +kernel
theorem d_A_isOne_1 : decode c_A_isOne 1 = .ok (.tableswitch 174 1 13 #[67, 174, 75, 95, 95, 100, 118, 126, 126, 131, 154, 154, 126], 67) := by decide +kernel
theorem d_A_isOne_68 : decode c_A_isOne 68 = .ok (.iload_n 1, 1) := by decide +kernel
theorem d_A_isOne_69 : decode c_A_isOne 69 = .ok (.iconst 1, 1) := by decide +kernel
theorem d_A_isOne_70 : decode c_A_isOne 70 = .ok (.bipush 50, 2) := by decide +kernel
theorem d_A_isOne_72 : decode c_A_isOne 72 = .ok (.invokestatic 9, 3) := by decide +kernel
theorem d_A_isOne_75 : decode c_A_isOne 75 = .ok (.ireturn, 1) := by decide +kernel
theorem d_A_isOne_76 : decode c_A_isOne 76 = .ok (.iload_n 1, 1) := by decide +kernel
theorem d_A_isOne_77 : decode c_A_isOne 77 = .ok (.invokestatic 13, 3) := by decide +kernel
theorem d_A_isOne_80 : decode c_A_isOne 80 = .ok (.ifCond .eq 14, 3) := by decide +kernel
theorem d_A_isOne_83 : decode c_A_isOne 83 = .ok (.iload_n 2, 1) := by decide +kernel
theorem d_A_isOne_84 : decode c_A_isOne 84 = .ok (.invokestatic 17, 3) := by decide +kernel
theorem d_A_isOne_87 : decode c_A_isOne 87 = .ok (.ifCond .eq 7, 3) := by decide +kernel
theorem d_A_isOne_90 : decode c_A_isOne 90 = .ok (.iconst 1, 1) := by decide +kernel
theorem d_A_isOne_91 : decode c_A_isOne 91 = .ok (.goto 4, 3) := by decide +kernel
theorem d_A_isOne_94 : decode c_A_isOne 94 = .ok (.iconst 0, 1) := by decide +kernel
theorem d_A_isOne_95 : decode c_A_isOne 95 = .ok (.ireturn, 1) := by decide +kernel
theorem d_A_isOne_96 : decode c_A_isOne 96 = .ok (.iload_n 1, 1) := by decide +kernel
theorem d_A_isOne_97 : decode c_A_isOne 97 = .ok (.invokestatic 17, 3) := by decide +kernel
theorem d_A_isOne_100 : decode c_A_isOne 100 = .ok (.ireturn, 1) := by decide +kernel
theorem d_A_isOne_101 : decode c_A_isOne 101 = .ok (.iload_n 1, 1) := by decide +kernel
theorem d_A_isOne_102 : decode c_A_isOne 102 = .ok (.iconst (-1), 1) := by decide +kernel
theorem d_A_isOne_103 : decode c_A_isOne 103 = .ok (.if_icmp .eq 10, 3) := by decide +kernel
theorem d_A_isOne_106 : decode c_A_isOne 106 = .ok (.iload_n 1, 1) := by decide +kernel
theorem d_A_isOne_107 : decode c_A_isOne 107 = .ok (.invokestatic 17, 3) := by decide +kernel
theorem d_A_isOne_110 : decode c_A_isOne 110 = .ok (.ifCond .eq 7, 3) := by decide +kernel
theorem d_A_isOne_113 : decode c_A_isOne 113 = .ok (.iconst 1, 1) := by decide +kernel
theorem d_A_isOne_114 : decode c_A_isOne 114 = .ok (.goto 4, 3) := by decide +kernel
theorem d_A_isOne_117 : decode c_A_isOne 117 = .ok (.iconst 0, 1) := by decide +kernel
theorem d_A_isOne_118 : decode c_A_isOne 118 = .ok (.ireturn, 1) := by decide +kernel
theorem d_A_isOne_119 : decode c_A_isOne 119 = .ok (.iload_n 1, 1) := by decide +kernel
theorem d_A_isOne_120 : decode c_A_isOne 120 = .ok (.iconst 1, 1) := by decide +kernel
theorem d_A_isOne_121 : decode c_A_isOne 121 = .ok (.bipush 89, 2) := by decide +kernel
theorem d_A_isOne_123 : decode c_A_isOne 123 = .ok (.invokestatic 9, 3) := by decide +kernel
theorem d_A_isOne_126 : decode c_A_isOne 126 = .ok (.ireturn, 1) := by decide +kernel
theorem d_A_isOne_127 : decode c_A_isOne 127 = .ok (.iload_n 1, 1) := by decide +kernel
theorem d_A_isOne_128 : decode c_A_isOne 128 = .ok (.invokestatic 13, 3) := by decide +kernel
theorem d_A_isOne_131 : decode c_A_isOne 131 = .ok (.ireturn, 1) := by decide +kernel
theorem d_A_isOne_132 : decode c_A_isOne 132 = .ok (.iload_n 1, 1) := by decide +kernel
theorem d_A_isOne_133 : decode c_A_isOne 133 = .ok (.iconst 1, 1) := by decide +kernel
theorem d_A_isOne_134 : decode c_A_isOne 134 = .ok (.bipush 50, 2) := by decide +kernel
theorem d_A_isOne_136 : decode c_A_isOne 136 = .ok (.invokestatic 9, 3) := by decide +kernel
theorem d_A_isOne_139 : decode c_A_isOne 139 = .ok (.ifCond .eq 14, 3) := by decide +kernel
theorem d_A_isOne_142 : decode c_A_isOne 142 = .ok (.iload_n 2, 1) := by decide +kernel
theorem d_A_isOne_143 : decode c_A_isOne 143 = .ok (.invokestatic 13, 3) := by decide +kernel
theorem d_A_isOne_146 : decode c_A_isOne 146 = .ok (.ifCond .eq 7, 3) := by decide +kernel
theorem d_A_isOne_149 : decode c_A_isOne 149 = .ok (.iconst 1, 1) := by decide +kernel
theorem d_A_isOne_150 : decode c_A_isOne 150 = .ok (.goto 4, 3) := by decide +kernel
theorem d_A_isOne_153 : decode c_A_isOne 153 = .ok (.iconst 0, 1) := by decide +kernel
theorem d_A_isOne_154 : decode c_A_isOne 154 = .ok (.ireturn, 1) := by decide +kernel
theorem d_A_isOne_155 : decode c_A_isOne 155 = .ok (.iload_n 1, 1) := by decide +kernel
theorem d_A_isOne_156 : decode c_A_isOne 156 = .ok (.invokestatic 13, 3) := by decide +kernel
theorem d_A_isOne_159 : decode c_A_isOne 159 = .ok (.ifCond .eq 14, 3) := by decide +kernel
theorem d_A_isOne_162 : decode c_A_isOne 162 = .ok (.iload_n 2, 1) := by decide +kernel
theorem d_A_isOne_163 : decode c_A_isOne 163 = .ok (.invokestatic 13, 3) := by decide +kernel
theorem d_A_isOne_166 : decode c_A_isOne 166 = .ok (.ifCond .eq 7, 3) := by decide +kernel
theorem d_A_isOne_169 : decode c_A_isOne 169 = .ok (.iconst 1, 1) := by decide +kernel
theorem d_A_isOne_170 : decode c_A_isOne 170 = .ok (.goto 4, 3) := by decide +kernel
theorem d_A_isOne_173 : decode c_A_isOne 173 = .ok (.iconst 0, 1) := by decide +kernel
theorem d_A_isOne_174 : decode c_A_isOne 174 = .ok (.ireturn, 1) := by decide +kernel
theorem d_A_isOne_175 : decode c_A_isOne 175 = .ok (.iload_n 0, 1) := by decide +kernel
theorem d_A_isOne_176 : decode c_A_isOne 176 = .ok (.iconst 0, 1) := by decide +kernel
theorem d_A_isOne_177 : decode c_A_isOne 177 = .ok (.bipush 15, 2) := by decide +kernel
theorem d_A_isOne_179 : decode c_A_isOne 179 = .ok (.invokestatic 9, 3) := by decide +kernel
theorem d_A_isOne_182 : decode c_A_isOne 182 = .ok (.ireturn, 1) := by decide +kernel
theorem d_J_isSlot_0 : decode c_J_isSlot 0 = .ok (.iload_n 0, 1) := by decide +kernel
theorem d_J_isSlot_1 : decode c_J_isSlot 1 = .ok (.iconst 0, 1) := by decide +kernel
theorem d_J_isSlot_2 : decode c_J_isSlot 2 = .ok (.iconst 2, 1) := by decide +kernel
theorem d_J_isSlot_3 : decode c_J_isSlot 3 = .ok (.invokestatic 82, 3) := by decide +kernel
theorem d_J_isSlot_6 : decode c_J_isSlot 6 = .ok (.ireturn, 1) := by decide +kernel
theorem d_P_add_0 : decode c_P_add 0 = .ok (.aload_n 0, 1) := by decide +kernel
theorem d_P_add_1 : decode c_P_add 1 = .ok (.getfield 21, 3) := by decide +kernel
theorem d_P_add_4 : decode c_P_add 4 = .ok (.bipush 8, 2) := by decide +kernel
theorem d_P_add_6 : decode c_P_add 6 = .ok (.if_icmp .ge 43, 3) := by decide +kernel
theorem d_P_add_9 : decode c_P_add 9 = .ok (.aload_n 0, 1) := by decide +kernel
theorem d_P_add_10 : decode c_P_add 10 = .ok (.getfield 9, 3) := by decide +kernel
theorem d_P_add_13 : decode c_P_add 13 = .ok (.aload_n 0, 1) := by decide +kernel
theorem d_P_add_14 : decode c_P_add 14 = .ok (.getfield 21, 3) := by decide +kernel
theorem d_P_add_17 : decode c_P_add 17 = .ok (.iload_n 1, 1) := by decide +kernel
theorem d_P_add_18 : decode c_P_add 18 = .ok (.iastore, 1) := by decide +kernel
theorem d_P_add_19 : decode c_P_add 19 = .ok (.aload_n 0, 1) := by decide +kernel
theorem d_P_add_20 : decode c_P_add 20 = .ok (.getfield 15, 3) := by decide +kernel
theorem d_P_add_23 : decode c_P_add 23 = .ok (.aload_n 0, 1) := by decide +kernel
theorem d_P_add_24 : decode c_P_add 24 = .ok (.getfield 21, 3) := by decide +kernel
theorem d_P_add_27 : decode c_P_add 27 = .ok (.iload_n 2, 1) := by decide +kernel
theorem d_P_add_28 : decode c_P_add 28 = .ok (.iastore, 1) := by decide +kernel
theorem d_P_add_29 : decode c_P_add 29 = .ok (.aload_n 0, 1) := by decide +kernel
theorem d_P_add_30 : decode c_P_add 30 = .ok (.getfield 18, 3) := by decide +kernel
theorem d_P_add_33 : decode c_P_add 33 = .ok (.aload_n 0, 1) := by decide +kernel
theorem d_P_add_34 : decode c_P_add 34 = .ok (.getfield 21, 3) := by decide +kernel
theorem d_P_add_37 : decode c_P_add 37 = .ok (.iload_n 3, 1) := by decide +kernel
theorem d_P_add_38 : decode c_P_add 38 = .ok (.iastore, 1) := by decide +kernel
theorem d_P_add_39 : decode c_P_add 39 = .ok (.aload_n 0, 1) := by decide +kernel
theorem d_P_add_40 : decode c_P_add 40 = .ok (.dup, 1) := by decide +kernel
theorem d_P_add_41 : decode c_P_add 41 = .ok (.getfield 21, 3) := by decide +kernel
theorem d_P_add_44 : decode c_P_add 44 = .ok (.iconst 1, 1) := by decide +kernel
theorem d_P_add_45 : decode c_P_add 45 = .ok (.iadd, 1) := by decide +kernel
theorem d_P_add_46 : decode c_P_add 46 = .ok (.putfield 21, 3) := by decide +kernel
theorem d_P_add_49 : decode c_P_add 49 = .ok (.return_, 1) := by decide +kernel
theorem d_L_start_0 : decode c_L_start 0 = .ok (.aload_n 2, 1) := by decide +kernel
theorem d_L_start_1 : decode c_L_start 1 = .ok (.iconst 0, 1) := by decide +kernel
theorem d_L_start_2 : decode c_L_start 2 = .ok (.aload_n 0, 1) := by decide +kernel
theorem d_L_start_3 : decode c_L_start 3 = .ok (.iload_n 1, 1) := by decide +kernel
theorem d_L_start_4 : decode c_L_start 4 = .ok (.invokevirtual 17, 3) := by decide +kernel
theorem d_L_start_7 : decode c_L_start 7 = .ok (.i2l, 1) := by decide +kernel
theorem d_L_start_8 : decode c_L_start 8 = .ok (.lastore, 1) := by decide +kernel
theorem d_L_start_9 : decode c_L_start 9 = .ok (.goto 9, 3) := by decide +kernel
theorem d_L_start_12 : decode c_L_start 12 = .ok (.astore_n 3, 1) := by decide +kernel
theorem d_L_start_13 : decode c_L_start 13 = .ok (.iconst 1, 1) := by decide +kernel
theorem d_L_start_14 : decode c_L_start 14 = .ok (.ireturn, 1) := by decide +kernel
theorem d_L_start_15 : decode c_L_start 15 = .ok (.astore_n 3, 1) := by decide +kernel
theorem d_L_start_16 : decode c_L_start 16 = .ok (.iconst 2, 1) := by decide +kernel
theorem d_L_start_17 : decode c_L_start 17 = .ok (.ireturn, 1) := by decide +kernel
theorem d_L_start_18 : decode c_L_start 18 = .ok (.iconst 0, 1) := by decide +kernel
theorem d_L_start_19 : decode c_L_start 19 = .ok (.ireturn, 1) := by decide +kernel
theorem d_J_start_0 : decode c_J_start 0 = .ok (.iload_n 1, 1) := by decide +kernel
theorem d_J_start_1 : decode c_J_start 1 = .ok (.invokestatic 33, 3) := by decide +kernel
theorem d_J_start_4 : decode c_J_start 4 = .ok (.ifCond .ne 11, 3) := by decide +kernel
theorem d_J_start_7 : decode c_J_start 7 = .ok (.new 43, 3) := by decide +kernel
theorem d_J_start_10 : decode c_J_start 10 = .ok (.dup, 1) := by decide +kernel
theorem d_J_start_11 : decode c_J_start 11 = .ok (.invokespecial 45, 3) := by decide +kernel
theorem d_J_start_14 : decode c_J_start 14 = .ok (.athrow, 1) := by decide +kernel
theorem d_J_start_15 : decode c_J_start 15 = .ok (.aload_n 0, 1) := by decide +kernel
theorem d_J_start_16 : decode c_J_start 16 = .ok (.getfield 57, 3) := by decide +kernel
theorem d_J_start_19 : decode c_J_start 19 = .ok (.bipush 24, 2) := by decide +kernel
theorem d_J_start_21 : decode c_J_start 21 = .ok (.if_icmp .lt 11, 3) := by decide +kernel
theorem d_J_start_24 : decode c_J_start 24 = .ok (.new 50, 3) := by decide +kernel
theorem d_J_start_27 : decode c_J_start 27 = .ok (.dup, 1) := by decide +kernel
theorem d_J_start_28 : decode c_J_start 28 = .ok (.invokespecial 52, 3) := by decide +kernel
theorem d_J_start_31 : decode c_J_start 31 = .ok (.athrow, 1) := by decide +kernel
theorem d_J_start_32 : decode c_J_start 32 = .ok (.aload_n 0, 1) := by decide +kernel
theorem d_J_start_33 : decode c_J_start 33 = .ok (.aconst_null, 1) := by decide +kernel
theorem d_J_start_34 : decode c_J_start 34 = .ok (.iconst 0, 1) := by decide +kernel
theorem d_J_start_35 : decode c_J_start 35 = .ok (.aload_n 0, 1) := by decide +kernel
theorem d_J_start_36 : decode c_J_start 36 = .ok (.getfield 11, 3) := by decide +kernel
theorem d_J_start_39 : decode c_J_start 39 = .ok (.iload_n 1, 1) := by decide +kernel
theorem d_J_start_40 : decode c_J_start 40 = .ok (.aaload, 1) := by decide +kernel
theorem d_J_start_41 : decode c_J_start 41 = .ok (.invokevirtual 60, 3) := by decide +kernel
theorem d_J_start_44 : decode c_J_start 44 = .ok (.getfield 64, 3) := by decide +kernel
theorem d_J_start_47 : decode c_J_start 47 = .ok (.ireturn, 1) := by decide +kernel
theorem d_J_begin_0 : decode c_J_begin 0 = .ok (.new 16, 3) := by decide +kernel
theorem d_J_begin_3 : decode c_J_begin 3 = .ok (.dup, 1) := by decide +kernel
theorem d_J_begin_4 : decode c_J_begin 4 = .ok (.aload_n 0, 1) := by decide +kernel
theorem d_J_begin_5 : decode c_J_begin 5 = .ok (.getfield 57, 3) := by decide +kernel
theorem d_J_begin_8 : decode c_J_begin 8 = .ok (.aload_n 1, 1) := by decide +kernel
theorem d_J_begin_9 : decode c_J_begin 9 = .ok (.iload_n 2, 1) := by decide +kernel
theorem d_J_begin_10 : decode c_J_begin 10 = .ok (.aload_n 3, 1) := by decide +kernel
theorem d_J_begin_11 : decode c_J_begin 11 = .ok (.invokespecial 151, 3) := by decide +kernel
theorem d_J_begin_14 : decode c_J_begin 14 = .ok (.astore 4, 2) := by decide +kernel
theorem d_J_begin_16 : decode c_J_begin 16 = .ok (.aload_n 0, 1) := by decide +kernel
theorem d_J_begin_17 : decode c_J_begin 17 = .ok (.getfield 18, 3) := by decide +kernel
theorem d_J_begin_20 : decode c_J_begin 20 = .ok (.aload_n 0, 1) := by decide +kernel
theorem d_J_begin_21 : decode c_J_begin 21 = .ok (.getfield 57, 3) := by decide +kernel
theorem d_J_begin_24 : decode c_J_begin 24 = .ok (.aload 4, 2) := by decide +kernel
theorem d_J_begin_26 : decode c_J_begin 26 = .ok (.aastore, 1) := by decide +kernel
theorem d_J_begin_27 : decode c_J_begin 27 = .ok (.aload_n 0, 1) := by decide +kernel
theorem d_J_begin_28 : decode c_J_begin 28 = .ok (.dup, 1) := by decide +kernel
theorem d_J_begin_29 : decode c_J_begin 29 = .ok (.getfield 57, 3) := by decide +kernel
theorem d_J_begin_32 : decode c_J_begin 32 = .ok (.iconst 1, 1) := by decide +kernel
theorem d_J_begin_33 : decode c_J_begin 33 = .ok (.iadd, 1) := by decide +kernel
theorem d_J_begin_34 : decode c_J_begin 34 = .ok (.putfield 57, 3) := by decide +kernel
theorem d_J_begin_37 : decode c_J_begin 37 = .ok (.aload_n 1, 1) := by decide +kernel
theorem d_J_begin_38 : decode c_J_begin 38 = .ok (.ifnull 13, 3) := by decide +kernel
theorem d_J_begin_41 : decode c_J_begin 41 = .ok (.aload_n 1, 1) := by decide +kernel
theorem d_J_begin_42 : decode c_J_begin 42 = .ok (.dup, 1) := by decide +kernel
theorem d_J_begin_43 : decode c_J_begin 43 = .ok (.getfield 126, 3) := by decide +kernel
theorem d_J_begin_46 : decode c_J_begin 46 = .ok (.iconst 1, 1) := by decide +kernel
theorem d_J_begin_47 : decode c_J_begin 47 = .ok (.iadd, 1) := by decide +kernel
theorem d_J_begin_48 : decode c_J_begin 48 = .ok (.putfield 126, 3) := by decide +kernel
theorem d_J_begin_51 : decode c_J_begin 51 = .ok (.aload_n 0, 1) := by decide +kernel
theorem d_J_begin_52 : decode c_J_begin 52 = .ok (.aload 4, 2) := by decide +kernel
theorem d_J_begin_54 : decode c_J_begin 54 = .ok (.iconst (-1), 1) := by decide +kernel
theorem d_J_begin_55 : decode c_J_begin 55 = .ok (.invokevirtual 154, 3) := by decide +kernel
theorem d_J_begin_58 : decode c_J_begin 58 = .ok (.aload 4, 2) := by decide +kernel
theorem d_J_begin_60 : decode c_J_begin 60 = .ok (.areturn, 1) := by decide +kernel
theorem d_B_init_0 : decode c_B_init 0 = .ok (.aload_n 0, 1) := by decide +kernel
theorem d_B_init_1 : decode c_B_init 1 = .ok (.invokespecial 3, 3) := by decide +kernel
theorem d_B_init_4 : decode c_B_init 4 = .ok (.aload_n 0, 1) := by decide +kernel
theorem d_B_init_5 : decode c_B_init 5 = .ok (.iload_n 1, 1) := by decide +kernel
theorem d_B_init_6 : decode c_B_init 6 = .ok (.putfield 9, 3) := by decide +kernel
theorem d_B_init_9 : decode c_B_init 9 = .ok (.aload_n 0, 1) := by decide +kernel
theorem d_B_init_10 : decode c_B_init 10 = .ok (.aload_n 2, 1) := by decide +kernel
theorem d_B_init_11 : decode c_B_init 11 = .ok (.putfield 15, 3) := by decide +kernel
theorem d_B_init_14 : decode c_B_init 14 = .ok (.aload_n 0, 1) := by decide +kernel
theorem d_B_init_15 : decode c_B_init 15 = .ok (.iload_n 3, 1) := by decide +kernel
theorem d_B_init_16 : decode c_B_init 16 = .ok (.putfield 19, 3) := by decide +kernel
theorem d_B_init_19 : decode c_B_init 19 = .ok (.aload_n 0, 1) := by decide +kernel
theorem d_B_init_20 : decode c_B_init 20 = .ok (.iconst 3, 1) := by decide +kernel
theorem d_B_init_21 : decode c_B_init 21 = .ok (.anewarray 10, 3) := by decide +kernel
theorem d_B_init_24 : decode c_B_init 24 = .ok (.putfield 22, 3) := by decide +kernel
theorem d_B_init_27 : decode c_B_init 27 = .ok (.aload_n 0, 1) := by decide +kernel
theorem d_B_init_28 : decode c_B_init 28 = .ok (.bipush 6, 2) := by decide +kernel
theorem d_B_init_30 : decode c_B_init 30 = .ok (.anewarray 26, 3) := by decide +kernel
theorem d_B_init_33 : decode c_B_init 33 = .ok (.putfield 28, 3) := by decide +kernel
theorem d_B_init_36 : decode c_B_init 36 = .ok (.iconst 0, 1) := by decide +kernel
theorem d_B_init_37 : decode c_B_init 37 = .ok (.istore 5, 2) := by decide +kernel
theorem d_B_init_39 : decode c_B_init 39 = .ok (.iload 5, 2) := by decide +kernel
theorem d_B_init_41 : decode c_B_init 41 = .ok (.bipush 6, 2) := by decide +kernel
theorem d_B_init_43 : decode c_B_init 43 = .ok (.if_icmp .ge 25, 3) := by decide +kernel
theorem d_B_init_46 : decode c_B_init 46 = .ok (.aload_n 0, 1) := by decide +kernel
theorem d_B_init_47 : decode c_B_init 47 = .ok (.getfield 28, 3) := by decide +kernel
theorem d_B_init_50 : decode c_B_init 50 = .ok (.iload 5, 2) := by decide +kernel
theorem d_B_init_52 : decode c_B_init 52 = .ok (.new 26, 3) := by decide +kernel
theorem d_B_init_55 : decode c_B_init 55 = .ok (.dup, 1) := by decide +kernel
theorem d_B_init_56 : decode c_B_init 56 = .ok (.aload 4, 2) := by decide +kernel
theorem d_B_init_58 : decode c_B_init 58 = .ok (.invokespecial 32, 3) := by decide +kernel
theorem d_B_init_61 : decode c_B_init 61 = .ok (.aastore, 1) := by decide +kernel
theorem d_B_init_62 : decode c_B_init 62 = .ok (.iinc 5 1, 3) := by decide +kernel
theorem d_B_init_65 : decode c_B_init 65 = .ok (.goto (-26), 3) := by decide +kernel
theorem d_B_init_68 : decode c_B_init 68 = .ok (.aload_n 0, 1) := by decide +kernel
theorem d_B_init_69 : decode c_B_init 69 = .ok (.new 35, 3) := by decide +kernel
theorem d_B_init_72 : decode c_B_init 72 = .ok (.dup, 1) := by decide +kernel
theorem d_B_init_73 : decode c_B_init 73 = .ok (.invokespecial 37, 3) := by decide +kernel
theorem d_B_init_76 : decode c_B_init 76 = .ok (.putfield 38, 3) := by decide +kernel
theorem d_B_init_79 : decode c_B_init 79 = .ok (.aload_n 0, 1) := by decide +kernel
theorem d_B_init_80 : decode c_B_init 80 = .ok (.new 35, 3) := by decide +kernel
theorem d_B_init_83 : decode c_B_init 83 = .ok (.dup, 1) := by decide +kernel
theorem d_B_init_84 : decode c_B_init 84 = .ok (.invokespecial 37, 3) := by decide +kernel
theorem d_B_init_87 : decode c_B_init 87 = .ok (.putfield 42, 3) := by decide +kernel
theorem d_B_init_90 : decode c_B_init 90 = .ok (.aload_n 0, 1) := by decide +kernel
theorem d_B_init_91 : decode c_B_init 91 = .ok (.iconst 1, 1) := by decide +kernel
theorem d_B_init_92 : decode c_B_init 92 = .ok (.putfield 45, 3) := by decide +kernel
theorem d_B_init_95 : decode c_B_init 95 = .ok (.aload_n 0, 1) := by decide +kernel
theorem d_B_init_96 : decode c_B_init 96 = .ok (.iconst (-1), 1) := by decide +kernel
theorem d_B_init_97 : decode c_B_init 97 = .ok (.putfield 48, 3) := by decide +kernel
theorem d_B_init_100 : decode c_B_init 100 = .ok (.aload_n 0, 1) := by decide +kernel
theorem d_B_init_101 : decode c_B_init 101 = .ok (.iconst (-1), 1) := by decide +kernel
theorem d_B_init_102 : decode c_B_init 102 = .ok (.putfield 51, 3) := by decide +kernel
theorem d_B_init_105 : decode c_B_init 105 = .ok (.aload_n 0, 1) := by decide +kernel
theorem d_B_init_106 : decode c_B_init 106 = .ok (.iconst (-1), 1) := by decide +kernel
theorem d_B_init_107 : decode c_B_init 107 = .ok (.putfield 54, 3) := by decide +kernel
theorem d_B_init_110 : decode c_B_init 110 = .ok (.return_, 1) := by decide +kernel
theorem d_F_init_0 : decode c_F_init 0 = .ok (.aload_n 0, 1) := by decide +kernel
theorem d_F_init_1 : decode c_F_init 1 = .ok (.invokespecial 3, 3) := by decide +kernel
theorem d_F_init_4 : decode c_F_init 4 = .ok (.aload_n 0, 1) := by decide +kernel
theorem d_F_init_5 : decode c_F_init 5 = .ok (.aload_n 1, 1) := by decide +kernel
theorem d_F_init_6 : decode c_F_init 6 = .ok (.putfield 9, 3) := by decide +kernel
theorem d_F_init_9 : decode c_F_init 9 = .ok (.aload_n 0, 1) := by decide +kernel
theorem d_F_init_10 : decode c_F_init 10 = .ok (.aload_n 1, 1) := by decide +kernel
theorem d_F_init_11 : decode c_F_init 11 = .ok (.putfield 15, 3) := by decide +kernel
theorem d_F_init_14 : decode c_F_init 14 = .ok (.aload_n 0, 1) := by decide +kernel
theorem d_F_init_15 : decode c_F_init 15 = .ok (.iconst (-1), 1) := by decide +kernel
theorem d_F_init_16 : decode c_F_init 16 = .ok (.putfield 18, 3) := by decide +kernel
theorem d_F_init_19 : decode c_F_init 19 = .ok (.return_, 1) := by decide +kernel
theorem d_T_init_0 : decode c_T_init 0 = .ok (.aload_n 0, 1) := by decide +kernel
theorem d_T_init_1 : decode c_T_init 1 = .ok (.invokespecial 3, 3) := by decide +kernel
theorem d_T_init_4 : decode c_T_init 4 = .ok (.aload_n 0, 1) := by decide +kernel
theorem d_T_init_5 : decode c_T_init 5 = .ok (.ldc 9, 2) := by decide +kernel
theorem d_T_init_7 : decode c_T_init 7 = .ok (.putfield 10, 3) := by decide +kernel
theorem d_T_init_10 : decode c_T_init 10 = .ok (.return_, 1) := by decide +kernel
theorem d_J_makeReady_0 : decode c_J_makeReady 0 = .ok (.aload_n 1, 1) := by decide +kernel
theorem d_J_makeReady_1 : decode c_J_makeReady 1 = .ok (.iconst (-1), 1) := by decide +kernel
theorem d_J_makeReady_2 : decode c_J_makeReady 2 = .ok (.putfield 158, 3) := by decide +kernel
theorem d_J_makeReady_5 : decode c_J_makeReady 5 = .ok (.aload_n 1, 1) := by decide +kernel
theorem d_J_makeReady_6 : decode c_J_makeReady 6 = .ok (.aconst_null, 1) := by decide +kernel
theorem d_J_makeReady_7 : decode c_J_makeReady 7 = .ok (.putfield 161, 3) := by decide +kernel
theorem d_J_makeReady_10 : decode c_J_makeReady 10 = .ok (.aload_n 1, 1) := by decide +kernel
theorem d_J_makeReady_11 : decode c_J_makeReady 11 = .ok (.getfield 164, 3) := by decide +kernel
theorem d_J_makeReady_14 : decode c_J_makeReady 14 = .ok (.invokevirtual 168, 3) := by decide +kernel
theorem d_J_makeReady_17 : decode c_J_makeReady 17 = .ok (.aload_n 1, 1) := by decide +kernel
theorem d_J_makeReady_18 : decode c_J_makeReady 18 = .ok (.iload_n 2, 1) := by decide +kernel
theorem d_J_makeReady_19 : decode c_J_makeReady 19 = .ok (.putfield 173, 3) := by decide +kernel
theorem d_J_makeReady_22 : decode c_J_makeReady 22 = .ok (.aload_n 0, 1) := by decide +kernel
theorem d_J_makeReady_23 : decode c_J_makeReady 23 = .ok (.getfield 25, 3) := by decide +kernel
theorem d_J_makeReady_26 : decode c_J_makeReady 26 = .ok (.aload_n 1, 1) := by decide +kernel
theorem d_J_makeReady_27 : decode c_J_makeReady 27 = .ok (.invokevirtual 176, 3) := by decide +kernel
theorem d_J_makeReady_30 : decode c_J_makeReady 30 = .ok (.return_, 1) := by decide +kernel
theorem d_T_stop_0 : decode c_T_stop 0 = .ok (.aload_n 0, 1) := by decide +kernel
theorem d_T_stop_1 : decode c_T_stop 1 = .ok (.ldc 9, 2) := by decide +kernel
theorem d_T_stop_3 : decode c_T_stop 3 = .ok (.putfield 10, 3) := by decide +kernel
theorem d_T_stop_6 : decode c_T_stop 6 = .ok (.return_, 1) := by decide +kernel
theorem d_Q_add_0 : decode c_Q_add 0 = .ok (.aload_n 0, 1) := by decide +kernel
theorem d_Q_add_1 : decode c_Q_add 1 = .ok (.getfield 17, 3) := by decide +kernel
theorem d_Q_add_4 : decode c_Q_add 4 = .ok (.bipush 24, 2) := by decide +kernel
theorem d_Q_add_6 : decode c_Q_add 6 = .ok (.if_icmp .ge 31, 3) := by decide +kernel
theorem d_Q_add_9 : decode c_Q_add 9 = .ok (.aload_n 0, 1) := by decide +kernel
theorem d_Q_add_10 : decode c_Q_add 10 = .ok (.getfield 11, 3) := by decide +kernel
theorem d_Q_add_13 : decode c_Q_add 13 = .ok (.aload_n 0, 1) := by decide +kernel
theorem d_Q_add_14 : decode c_Q_add 14 = .ok (.getfield 21, 3) := by decide +kernel
theorem d_Q_add_17 : decode c_Q_add 17 = .ok (.aload_n 0, 1) := by decide +kernel
theorem d_Q_add_18 : decode c_Q_add 18 = .ok (.getfield 17, 3) := by decide +kernel
theorem d_Q_add_21 : decode c_Q_add 21 = .ok (.iadd, 1) := by decide +kernel
theorem d_Q_add_22 : decode c_Q_add 22 = .ok (.bipush 24, 2) := by decide +kernel
theorem d_Q_add_24 : decode c_Q_add 24 = .ok (.irem, 1) := by decide +kernel
theorem d_Q_add_25 : decode c_Q_add 25 = .ok (.aload_n 1, 1) := by decide +kernel
theorem d_Q_add_26 : decode c_Q_add 26 = .ok (.aastore, 1) := by decide +kernel
theorem d_Q_add_27 : decode c_Q_add 27 = .ok (.aload_n 0, 1) := by decide +kernel
theorem d_Q_add_28 : decode c_Q_add 28 = .ok (.dup, 1) := by decide +kernel
theorem d_Q_add_29 : decode c_Q_add 29 = .ok (.getfield 17, 3) := by decide +kernel
theorem d_Q_add_32 : decode c_Q_add 32 = .ok (.iconst 1, 1) := by decide +kernel
theorem d_Q_add_33 : decode c_Q_add 33 = .ok (.iadd, 1) := by decide +kernel
theorem d_Q_add_34 : decode c_Q_add 34 = .ok (.putfield 17, 3) := by decide +kernel
theorem d_Q_add_37 : decode c_Q_add 37 = .ok (.return_, 1) := by decide +kernel
theorem d_L_cancel_0 : decode c_L_cancel 0 = .ok (.aload_n 2, 1) := by decide +kernel
theorem d_L_cancel_1 : decode c_L_cancel 1 = .ok (.iconst 0, 1) := by decide +kernel
theorem d_L_cancel_2 : decode c_L_cancel 2 = .ok (.aload_n 0, 1) := by decide +kernel
theorem d_L_cancel_3 : decode c_L_cancel 3 = .ok (.iload_n 1, 1) := by decide +kernel
theorem d_L_cancel_4 : decode c_L_cancel 4 = .ok (.invokevirtual 21, 3) := by decide +kernel
theorem d_L_cancel_7 : decode c_L_cancel 7 = .ok (.i2l, 1) := by decide +kernel
theorem d_L_cancel_8 : decode c_L_cancel 8 = .ok (.lastore, 1) := by decide +kernel
theorem d_L_cancel_9 : decode c_L_cancel 9 = .ok (.goto 6, 3) := by decide +kernel
theorem d_L_cancel_12 : decode c_L_cancel 12 = .ok (.astore_n 3, 1) := by decide +kernel
theorem d_L_cancel_13 : decode c_L_cancel 13 = .ok (.iconst 1, 1) := by decide +kernel
theorem d_L_cancel_14 : decode c_L_cancel 14 = .ok (.ireturn, 1) := by decide +kernel
theorem d_L_cancel_15 : decode c_L_cancel 15 = .ok (.iconst 0, 1) := by decide +kernel
theorem d_L_cancel_16 : decode c_L_cancel 16 = .ok (.ireturn, 1) := by decide +kernel
theorem d_J_cancel_0 : decode c_J_cancel 0 = .ok (.aload_n 0, 1) := by decide +kernel
theorem d_J_cancel_1 : decode c_J_cancel 1 = .ok (.iload_n 1, 1) := by decide +kernel
theorem d_J_cancel_2 : decode c_J_cancel 2 = .ok (.invokevirtual 67, 3) := by decide +kernel
theorem d_J_cancel_5 : decode c_J_cancel 5 = .ok (.astore_n 2, 1) := by decide +kernel
theorem d_J_cancel_6 : decode c_J_cancel 6 = .ok (.aload_n 2, 1) := by decide +kernel
theorem d_J_cancel_7 : decode c_J_cancel 7 = .ok (.getfield 71, 3) := by decide +kernel
theorem d_J_cancel_10 : decode c_J_cancel 10 = .ok (.ifCond .ne 11, 3) := by decide +kernel
theorem d_J_cancel_13 : decode c_J_cancel 13 = .ok (.aload_n 2, 1) := by decide +kernel
theorem d_J_cancel_14 : decode c_J_cancel 14 = .ok (.getfield 75, 3) := by decide +kernel
theorem d_J_cancel_17 : decode c_J_cancel 17 = .ok (.iconst (-1), 1) := by decide +kernel
theorem d_J_cancel_18 : decode c_J_cancel 18 = .ok (.if_icmp .eq 5, 3) := by decide +kernel
theorem d_J_cancel_21 : decode c_J_cancel 21 = .ok (.iconst 0, 1) := by decide +kernel
theorem d_J_cancel_22 : decode c_J_cancel 22 = .ok (.ireturn, 1) := by decide +kernel
theorem d_J_cancel_23 : decode c_J_cancel 23 = .ok (.aload_n 0, 1) := by decide +kernel
theorem d_J_cancel_24 : decode c_J_cancel 24 = .ok (.aload_n 2, 1) := by decide +kernel
theorem d_J_cancel_25 : decode c_J_cancel 25 = .ok (.iconst 0, 1) := by decide +kernel
theorem d_J_cancel_26 : decode c_J_cancel 26 = .ok (.iconst 0, 1) := by decide +kernel
theorem d_J_cancel_27 : decode c_J_cancel 27 = .ok (.invokevirtual 78, 3) := by decide +kernel
theorem d_J_cancel_30 : decode c_J_cancel 30 = .ok (.iconst 1, 1) := by decide +kernel
theorem d_J_cancel_31 : decode c_J_cancel 31 = .ok (.ireturn, 1) := by decide +kernel
theorem d_J_jobOfNumber_0 : decode c_J_jobOfNumber 0 = .ok (.iload_n 1, 1) := by decide +kernel
theorem d_J_jobOfNumber_1 : decode c_J_jobOfNumber 1 = .ok (.ifCond .lt 11, 3) := by decide +kernel
theorem d_J_jobOfNumber_4 : decode c_J_jobOfNumber 4 = .ok (.iload_n 1, 1) := by decide +kernel
theorem d_J_jobOfNumber_5 : decode c_J_jobOfNumber 5 = .ok (.aload_n 0, 1) := by decide +kernel
theorem d_J_jobOfNumber_6 : decode c_J_jobOfNumber 6 = .ok (.getfield 57, 3) := by decide +kernel
theorem d_J_jobOfNumber_9 : decode c_J_jobOfNumber 9 = .ok (.if_icmp .lt 11, 3) := by decide +kernel
theorem d_J_jobOfNumber_12 : decode c_J_jobOfNumber 12 = .ok (.new 43, 3) := by decide +kernel
theorem d_J_jobOfNumber_15 : decode c_J_jobOfNumber 15 = .ok (.dup, 1) := by decide +kernel
theorem d_J_jobOfNumber_16 : decode c_J_jobOfNumber 16 = .ok (.invokespecial 45, 3) := by decide +kernel
theorem d_J_jobOfNumber_19 : decode c_J_jobOfNumber 19 = .ok (.athrow, 1) := by decide +kernel
theorem d_J_jobOfNumber_20 : decode c_J_jobOfNumber 20 = .ok (.aload_n 0, 1) := by decide +kernel
theorem d_J_jobOfNumber_21 : decode c_J_jobOfNumber 21 = .ok (.getfield 18, 3) := by decide +kernel
theorem d_J_jobOfNumber_24 : decode c_J_jobOfNumber 24 = .ok (.iload_n 1, 1) := by decide +kernel
theorem d_J_jobOfNumber_25 : decode c_J_jobOfNumber 25 = .ok (.aaload, 1) := by decide +kernel
theorem d_J_jobOfNumber_26 : decode c_J_jobOfNumber 26 = .ok (.areturn, 1) := by decide +kernel
theorem d_J_give_0 : decode c_J_give 0 = .ok (.aload_n 1, 1) := by decide +kernel
theorem d_J_give_1 : decode c_J_give 1 = .ok (.getfield 71, 3) := by decide +kernel
theorem d_J_give_4 : decode c_J_give 4 = .ok (.ifCond .ne 9, 3) := by decide +kernel
theorem d_J_give_7 : decode c_J_give 7 = .ok (.iload_n 3, 1) := by decide +kernel
theorem d_J_give_8 : decode c_J_give 8 = .ok (.bipush 24, 2) := by decide +kernel
theorem d_J_give_10 : decode c_J_give 10 = .ok (.if_icmp .lt 4, 3) := by decide +kernel
theorem d_J_give_13 : decode c_J_give 13 = .ok (.return_, 1) := by decide +kernel
theorem d_J_give_14 : decode c_J_give 14 = .ok (.aload_n 1, 1) := by decide +kernel
theorem d_J_give_15 : decode c_J_give 15 = .ok (.getfield 75, 3) := by decide +kernel
theorem d_J_give_18 : decode c_J_give 18 = .ok (.iconst (-1), 1) := by decide +kernel
theorem d_J_give_19 : decode c_J_give 19 = .ok (.if_icmp .eq 18, 3) := by decide +kernel
theorem d_J_give_22 : decode c_J_give 22 = .ok (.iload_n 2, 1) := by decide +kernel
theorem d_J_give_23 : decode c_J_give 23 = .ok (.ifCond .eq 13, 3) := by decide +kernel
theorem d_J_give_26 : decode c_J_give 26 = .ok (.aload_n 1, 1) := by decide +kernel
theorem d_J_give_27 : decode c_J_give 27 = .ok (.dup, 1) := by decide +kernel
theorem d_J_give_28 : decode c_J_give 28 = .ok (.getfield 120, 3) := by decide +kernel
theorem d_J_give_31 : decode c_J_give 31 = .ok (.iconst 1, 1) := by decide +kernel
theorem d_J_give_32 : decode c_J_give 32 = .ok (.iadd, 1) := by decide +kernel
theorem d_J_give_33 : decode c_J_give 33 = .ok (.putfield 120, 3) := by decide +kernel
theorem d_J_give_36 : decode c_J_give 36 = .ok (.return_, 1) := by decide +kernel
theorem d_J_give_37 : decode c_J_give 37 = .ok (.aload_n 1, 1) := by decide +kernel
theorem d_J_give_38 : decode c_J_give 38 = .ok (.iload_n 2, 1) := by decide +kernel
theorem d_J_give_39 : decode c_J_give 39 = .ok (.putfield 75, 3) := by decide +kernel
theorem d_J_give_42 : decode c_J_give 42 = .ok (.aload_n 1, 1) := by decide +kernel
theorem d_J_give_43 : decode c_J_give 43 = .ok (.getfield 64, 3) := by decide +kernel
theorem d_J_give_46 : decode c_J_give 46 = .ok (.iconst 1, 1) := by decide +kernel
theorem d_J_give_47 : decode c_J_give 47 = .ok (.iadd, 1) := by decide +kernel
theorem d_J_give_48 : decode c_J_give 48 = .ok (.istore 4, 2) := by decide +kernel
theorem d_J_give_50 : decode c_J_give 50 = .ok (.iload 4, 2) := by decide +kernel
theorem d_J_give_52 : decode c_J_give 52 = .ok (.aload_n 0, 1) := by decide +kernel
theorem d_J_give_53 : decode c_J_give 53 = .ok (.getfield 57, 3) := by decide +kernel
theorem d_J_give_56 : decode c_J_give 56 = .ok (.if_icmp .ge 38, 3) := by decide +kernel
theorem d_J_give_59 : decode c_J_give 59 = .ok (.aload_n 0, 1) := by decide +kernel
theorem d_J_give_60 : decode c_J_give 60 = .ok (.getfield 18, 3) := by decide +kernel
theorem d_J_give_63 : decode c_J_give 63 = .ok (.iload 4, 2) := by decide +kernel
theorem d_J_give_65 : decode c_J_give 65 = .ok (.aaload, 1) := by decide +kernel
theorem d_J_give_66 : decode c_J_give 66 = .ok (.getfield 109, 3) := by decide +kernel
theorem d_J_give_69 : decode c_J_give 69 = .ok (.aload_n 1, 1) := by decide +kernel
theorem d_J_give_70 : decode c_J_give 70 = .ok (.if_acmp .ne 18, 3) := by decide +kernel
theorem d_J_give_73 : decode c_J_give 73 = .ok (.aload_n 0, 1) := by decide +kernel
theorem d_J_give_74 : decode c_J_give 74 = .ok (.aload_n 0, 1) := by decide +kernel
theorem d_J_give_75 : decode c_J_give 75 = .ok (.getfield 18, 3) := by decide +kernel
theorem d_J_give_78 : decode c_J_give 78 = .ok (.iload 4, 2) := by decide +kernel
theorem d_J_give_80 : decode c_J_give 80 = .ok (.aaload, 1) := by decide +kernel
theorem d_J_give_81 : decode c_J_give 81 = .ok (.iconst 0, 1) := by decide +kernel
theorem d_J_give_82 : decode c_J_give 82 = .ok (.iload_n 3, 1) := by decide +kernel
theorem d_J_give_83 : decode c_J_give 83 = .ok (.iconst 1, 1) := by decide +kernel
theorem d_J_give_84 : decode c_J_give 84 = .ok (.iadd, 1) := by decide +kernel
theorem d_J_give_85 : decode c_J_give 85 = .ok (.invokevirtual 78, 3) := by decide +kernel
theorem d_J_give_88 : decode c_J_give 88 = .ok (.iinc 4 1, 3) := by decide +kernel
theorem d_J_give_91 : decode c_J_give 91 = .ok (.goto (-41), 3) := by decide +kernel
theorem d_J_give_94 : decode c_J_give 94 = .ok (.aload_n 1, 1) := by decide +kernel
theorem d_J_give_95 : decode c_J_give 95 = .ok (.invokevirtual 223, 3) := by decide +kernel
theorem d_J_give_98 : decode c_J_give 98 = .ok (.ifCond .eq 9, 3) := by decide +kernel
theorem d_J_give_101 : decode c_J_give 101 = .ok (.aload_n 0, 1) := by decide +kernel
theorem d_J_give_102 : decode c_J_give 102 = .ok (.aload_n 1, 1) := by decide +kernel
theorem d_J_give_103 : decode c_J_give 103 = .ok (.iconst 0, 1) := by decide +kernel
theorem d_J_give_104 : decode c_J_give 104 = .ok (.invokevirtual 154, 3) := by decide +kernel
theorem d_J_give_107 : decode c_J_give 107 = .ok (.return_, 1) := by decide +kernel
theorem d_B_canBeWoken_0 : decode c_B_canBeWoken 0 = .ok (.aload_n 0, 1) := by decide +kernel
theorem d_B_canBeWoken_1 : decode c_B_canBeWoken 1 = .ok (.getfield 51, 3) := by decide +kernel

theorem d_B_canBeWoken_4 : decode c_B_canBeWoken 4 = .ok (.iconst 1, 1) := by decide +kernel
theorem d_B_canBeWoken_5 : decode c_B_canBeWoken 5 = .ok (.if_icmp .eq 19, 3) := by decide +kernel
theorem d_B_canBeWoken_8 : decode c_B_canBeWoken 8 = .ok (.aload_n 0, 1) := by decide +kernel
theorem d_B_canBeWoken_9 : decode c_B_canBeWoken 9 = .ok (.getfield 51, 3) := by decide +kernel
theorem d_B_canBeWoken_12 : decode c_B_canBeWoken 12 = .ok (.iconst 4, 1) := by decide +kernel
theorem d_B_canBeWoken_13 : decode c_B_canBeWoken 13 = .ok (.if_icmp .eq 11, 3) := by decide +kernel
theorem d_B_canBeWoken_16 : decode c_B_canBeWoken 16 = .ok (.aload_n 0, 1) := by decide +kernel
theorem d_B_canBeWoken_17 : decode c_B_canBeWoken 17 = .ok (.getfield 51, 3) := by decide +kernel
theorem d_B_canBeWoken_20 : decode c_B_canBeWoken 20 = .ok (.iconst 5, 1) := by decide +kernel
theorem d_B_canBeWoken_21 : decode c_B_canBeWoken 21 = .ok (.if_icmp .ne 7, 3) := by decide +kernel
theorem d_B_canBeWoken_24 : decode c_B_canBeWoken 24 = .ok (.iconst 1, 1) := by decide +kernel
theorem d_B_canBeWoken_25 : decode c_B_canBeWoken 25 = .ok (.goto 4, 3) := by decide +kernel
theorem d_B_canBeWoken_28 : decode c_B_canBeWoken 28 = .ok (.iconst 0, 1) := by decide +kernel
theorem d_B_canBeWoken_29 : decode c_B_canBeWoken 29 = .ok (.istore_n 1, 1) := by decide +kernel
theorem d_B_canBeWoken_30 : decode c_B_canBeWoken 30 = .ok (.iload_n 1, 1) := by decide +kernel
theorem d_B_canBeWoken_31 : decode c_B_canBeWoken 31 = .ok (.ifCond .eq 14, 3) := by decide +kernel
theorem d_B_canBeWoken_34 : decode c_B_canBeWoken 34 = .ok (.aload_n 0, 1) := by decide +kernel
theorem d_B_canBeWoken_35 : decode c_B_canBeWoken 35 = .ok (.invokevirtual 80, 3) := by decide +kernel
theorem d_B_canBeWoken_38 : decode c_B_canBeWoken 38 = .ok (.ifCond .ne 7, 3) := by decide +kernel
theorem d_B_canBeWoken_41 : decode c_B_canBeWoken 41 = .ok (.iconst 1, 1) := by decide +kernel
theorem d_B_canBeWoken_42 : decode c_B_canBeWoken 42 = .ok (.goto 4, 3) := by decide +kernel
theorem d_B_canBeWoken_45 : decode c_B_canBeWoken 45 = .ok (.iconst 0, 1) := by decide +kernel
theorem d_B_canBeWoken_46 : decode c_B_canBeWoken 46 = .ok (.ireturn, 1) := by decide +kernel
theorem d_B_isShielded_0 : decode c_B_isShielded 0 = .ok (.iconst 0, 1) := by decide +kernel
theorem d_B_isShielded_1 : decode c_B_isShielded 1 = .ok (.istore_n 1, 1) := by decide +kernel
theorem d_B_isShielded_2 : decode c_B_isShielded 2 = .ok (.iload_n 1, 1) := by decide +kernel
theorem d_B_isShielded_3 : decode c_B_isShielded 3 = .ok (.aload_n 0, 1) := by decide +kernel
theorem d_B_isShielded_4 : decode c_B_isShielded 4 = .ok (.getfield 45, 3) := by decide +kernel
theorem d_B_isShielded_7 : decode c_B_isShielded 7 = .ok (.if_icmp .ge 24, 3) := by decide +kernel
theorem d_B_isShielded_10 : decode c_B_isShielded 10 = .ok (.aload_n 0, 1) := by decide +kernel
theorem d_B_isShielded_11 : decode c_B_isShielded 11 = .ok (.getfield 28, 3) := by decide +kernel
theorem d_B_isShielded_14 : decode c_B_isShielded 14 = .ok (.iload_n 1, 1) := by decide +kernel
theorem d_B_isShielded_15 : decode c_B_isShielded 15 = .ok (.aaload, 1) := by decide +kernel
theorem d_B_isShielded_16 : decode c_B_isShielded 16 = .ok (.getfield 57, 3) := by decide +kernel
theorem d_B_isShielded_19 : decode c_B_isShielded 19 = .ok (.iconst 4, 1) := by decide +kernel
theorem d_B_isShielded_20 : decode c_B_isShielded 20 = .ok (.if_icmp .ne 5, 3) := by decide +kernel
theorem d_B_isShielded_23 : decode c_B_isShielded 23 = .ok (.iconst 1, 1) := by decide +kernel
theorem d_B_isShielded_24 : decode c_B_isShielded 24 = .ok (.ireturn, 1) := by decide +kernel
theorem d_B_isShielded_25 : decode c_B_isShielded 25 = .ok (.iinc 1 1, 3) := by decide +kernel
theorem d_B_isShielded_28 : decode c_B_isShielded 28 = .ok (.goto (-26), 3) := by decide +kernel
theorem d_B_isShielded_31 : decode c_B_isShielded 31 = .ok (.iconst 0, 1) := by decide +kernel
theorem d_B_isShielded_32 : decode c_B_isShielded 32 = .ok (.ireturn, 1) := by decide +kernel
theorem d_L_run_0 : decode c_L_run 0 = .ok (.aload_n 2, 1) := by decide +kernel
theorem d_L_run_1 : decode c_L_run 1 = .ok (.iconst 0, 1) := by decide +kernel
theorem d_L_run_2 : decode c_L_run 2 = .ok (.aload_n 0, 1) := by decide +kernel
theorem d_L_run_3 : decode c_L_run 3 = .ok (.iload_n 1, 1) := by decide +kernel
theorem d_L_run_4 : decode c_L_run 4 = .ok (.invokevirtual 24, 3) := by decide +kernel
theorem d_L_run_7 : decode c_L_run 7 = .ok (.i2l, 1) := by decide +kernel
theorem d_L_run_8 : decode c_L_run 8 = .ok (.lastore, 1) := by decide +kernel
theorem d_L_run_9 : decode c_L_run 9 = .ok (.goto 6, 3) := by decide +kernel
theorem d_L_run_12 : decode c_L_run 12 = .ok (.astore_n 3, 1) := by decide +kernel
theorem d_L_run_13 : decode c_L_run 13 = .ok (.iconst 1, 1) := by decide +kernel
theorem d_L_run_14 : decode c_L_run 14 = .ok (.ireturn, 1) := by decide +kernel
theorem d_L_run_15 : decode c_L_run 15 = .ok (.iconst 0, 1) := by decide +kernel
theorem d_L_run_16 : decode c_L_run 16 = .ok (.ireturn, 1) := by decide +kernel
theorem d_J_run_0 : decode c_J_run 0 = .ok (.iload_n 1, 1) := by decide +kernel
theorem d_J_run_1 : decode c_J_run 1 = .ok (.iconst 0, 1) := by decide +kernel
theorem d_J_run_2 : decode c_J_run 2 = .ok (.bipush 100, 2) := by decide +kernel
theorem d_J_run_4 : decode c_J_run 4 = .ok (.invokestatic 82, 3) := by decide +kernel
theorem d_J_run_7 : decode c_J_run 7 = .ok (.ifCond .ne 11, 3) := by decide +kernel
theorem d_J_run_10 : decode c_J_run 10 = .ok (.new 43, 3) := by decide +kernel
theorem d_J_run_13 : decode c_J_run 13 = .ok (.dup, 1) := by decide +kernel
theorem d_J_run_14 : decode c_J_run 14 = .ok (.invokespecial 45, 3) := by decide +kernel
theorem d_J_run_17 : decode c_J_run 17 = .ok (.athrow, 1) := by decide +kernel
theorem d_J_run_18 : decode c_J_run 18 = .ok (.iconst 0, 1) := by decide +kernel
theorem d_J_run_19 : decode c_J_run 19 = .ok (.istore_n 2, 1) := by decide +kernel
theorem d_J_run_20 : decode c_J_run 20 = .ok (.iconst 0, 1) := by decide +kernel
theorem d_J_run_21 : decode c_J_run 21 = .ok (.istore_n 3, 1) := by decide +kernel
theorem d_J_run_22 : decode c_J_run 22 = .ok (.iload_n 3, 1) := by decide +kernel
theorem d_J_run_23 : decode c_J_run 23 = .ok (.sipush 1000, 3) := by decide +kernel
theorem d_J_run_26 : decode c_J_run 26 = .ok (.if_icmp .ge 50, 3) := by decide +kernel
theorem d_J_run_29 : decode c_J_run 29 = .ok (.iload_n 2, 1) := by decide +kernel
theorem d_J_run_30 : decode c_J_run 30 = .ok (.iload_n 1, 1) := by decide +kernel
theorem d_J_run_31 : decode c_J_run 31 = .ok (.if_icmp .ge 45, 3) := by decide +kernel
theorem d_J_run_34 : decode c_J_run 34 = .ok (.aload_n 0, 1) := by decide +kernel
theorem d_J_run_35 : decode c_J_run 35 = .ok (.getfield 25, 3) := by decide +kernel
theorem d_J_run_38 : decode c_J_run 38 = .ok (.invokevirtual 85, 3) := by decide +kernel
theorem d_J_run_41 : decode c_J_run 41 = .ok (.astore 4, 2) := by decide +kernel
theorem d_J_run_43 : decode c_J_run 43 = .ok (.aload 4, 2) := by decide +kernel
theorem d_J_run_45 : decode c_J_run 45 = .ok (.ifnull 15, 3) := by decide +kernel
theorem d_J_run_48 : decode c_J_run 48 = .ok (.aload_n 0, 1) := by decide +kernel
theorem d_J_run_49 : decode c_J_run 49 = .ok (.aload 4, 2) := by decide +kernel
theorem d_J_run_51 : decode c_J_run 51 = .ok (.invokevirtual 89, 3) := by decide +kernel
theorem d_J_run_54 : decode c_J_run 54 = .ok (.iinc 2 1, 3) := by decide +kernel
theorem d_J_run_57 : decode c_J_run 57 = .ok (.goto 13, 3) := by decide +kernel
theorem d_J_run_60 : decode c_J_run 60 = .ok (.aload_n 0, 1) := by decide +kernel
theorem d_J_run_61 : decode c_J_run 61 = .ok (.invokevirtual 93, 3) := by decide +kernel
theorem d_J_run_64 : decode c_J_run 64 = .ok (.ifCond .ne 6, 3) := by decide +kernel
theorem d_J_run_67 : decode c_J_run 67 = .ok (.goto 9, 3) := by decide +kernel
theorem d_J_run_70 : decode c_J_run 70 = .ok (.iinc 3 1, 3) := by decide +kernel
theorem d_J_run_73 : decode c_J_run 73 = .ok (.goto (-51), 3) := by decide +kernel
theorem d_J_run_76 : decode c_J_run 76 = .ok (.iload_n 2, 1) := by decide +kernel
theorem d_J_run_77 : decode c_J_run 77 = .ok (.ireturn, 1) := by decide +kernel
theorem d_Q_takeFirst_0 : decode c_Q_takeFirst 0 = .ok (.aload_n 0, 1) := by decide +kernel
theorem d_Q_takeFirst_1 : decode c_Q_takeFirst 1 = .ok (.getfield 17, 3) := by decide +kernel
theorem d_Q_takeFirst_4 : decode c_Q_takeFirst 4 = .ok (.ifCond .ne 5, 3) := by decide +kernel
theorem d_Q_takeFirst_7 : decode c_Q_takeFirst 7 = .ok (.aconst_null, 1) := by decide +kernel
theorem d_Q_takeFirst_8 : decode c_Q_takeFirst 8 = .ok (.areturn, 1) := by decide +kernel
theorem d_Q_takeFirst_9 : decode c_Q_takeFirst 9 = .ok (.aload_n 0, 1) := by decide +kernel
theorem d_Q_takeFirst_10 : decode c_Q_takeFirst 10 = .ok (.getfield 11, 3) := by decide +kernel
theorem d_Q_takeFirst_13 : decode c_Q_takeFirst 13 = .ok (.aload_n 0, 1) := by decide +kernel
theorem d_Q_takeFirst_14 : decode c_Q_takeFirst 14 = .ok (.getfield 21, 3) := by decide +kernel
theorem d_Q_takeFirst_17 : decode c_Q_takeFirst 17 = .ok (.aaload, 1) := by decide +kernel
theorem d_Q_takeFirst_18 : decode c_Q_takeFirst 18 = .ok (.astore_n 1, 1) := by decide +kernel
theorem d_Q_takeFirst_19 : decode c_Q_takeFirst 19 = .ok (.aload_n 0, 1) := by decide +kernel
theorem d_Q_takeFirst_20 : decode c_Q_takeFirst 20 = .ok (.aload_n 0, 1) := by decide +kernel
theorem d_Q_takeFirst_21 : decode c_Q_takeFirst 21 = .ok (.getfield 21, 3) := by decide +kernel
theorem d_Q_takeFirst_24 : decode c_Q_takeFirst 24 = .ok (.iconst 1, 1) := by decide +kernel
theorem d_Q_takeFirst_25 : decode c_Q_takeFirst 25 = .ok (.iadd, 1) := by decide +kernel
theorem d_Q_takeFirst_26 : decode c_Q_takeFirst 26 = .ok (.bipush 24, 2) := by decide +kernel
theorem d_Q_takeFirst_28 : decode c_Q_takeFirst 28 = .ok (.irem, 1) := by decide +kernel
theorem d_Q_takeFirst_29 : decode c_Q_takeFirst 29 = .ok (.putfield 21, 3) := by decide +kernel
theorem d_Q_takeFirst_32 : decode c_Q_takeFirst 32 = .ok (.aload_n 0, 1) := by decide +kernel
theorem d_Q_takeFirst_33 : decode c_Q_takeFirst 33 = .ok (.dup, 1) := by decide +kernel
theorem d_Q_takeFirst_34 : decode c_Q_takeFirst 34 = .ok (.getfield 17, 3) := by decide +kernel
theorem d_Q_takeFirst_37 : decode c_Q_takeFirst 37 = .ok (.iconst 1, 1) := by decide +kernel
theorem d_Q_takeFirst_38 : decode c_Q_takeFirst 38 = .ok (.isub, 1) := by decide +kernel
theorem d_Q_takeFirst_39 : decode c_Q_takeFirst 39 = .ok (.putfield 17, 3) := by decide +kernel
theorem d_Q_takeFirst_42 : decode c_Q_takeFirst 42 = .ok (.aload_n 1, 1) := by decide +kernel
theorem d_Q_takeFirst_43 : decode c_Q_takeFirst 43 = .ok (.areturn, 1) := by decide +kernel
theorem d_J_resume_0 : decode c_J_resume 0 = .ok (.aload_n 0, 1) := by decide +kernel
theorem d_J_resume_1 : decode c_J_resume 1 = .ok (.dup, 1) := by decide +kernel
theorem d_J_resume_2 : decode c_J_resume 2 = .ok (.getfield 141, 3) := by decide +kernel
theorem d_J_resume_5 : decode c_J_resume 5 = .ok (.iconst 1, 1) := by decide +kernel
theorem d_J_resume_6 : decode c_J_resume 6 = .ok (.iadd, 1) := by decide +kernel
theorem d_J_resume_7 : decode c_J_resume 7 = .ok (.putfield 141, 3) := by decide +kernel
theorem d_J_resume_10 : decode c_J_resume 10 = .ok (.aload_n 1, 1) := by decide +kernel
theorem d_J_resume_11 : decode c_J_resume 11 = .ok (.getfield 173, 3) := by decide +kernel
theorem d_J_resume_14 : decode c_J_resume 14 = .ok (.istore_n 2, 1) := by decide +kernel
theorem d_J_resume_15 : decode c_J_resume 15 = .ok (.iconst 0, 1) := by decide +kernel
theorem d_J_resume_16 : decode c_J_resume 16 = .ok (.istore_n 3, 1) := by decide +kernel
theorem d_J_resume_17 : decode c_J_resume 17 = .ok (.iload_n 3, 1) := by decide +kernel
theorem d_J_resume_18 : decode c_J_resume 18 = .ok (.bipush 60, 2) := by decide +kernel
theorem d_J_resume_20 : decode c_J_resume 20 = .ok (.if_icmp .gt 67, 3) := by decide +kernel
theorem d_J_resume_23 : decode c_J_resume 23 = .ok (.iload_n 2, 1) := by decide +kernel
theorem d_J_resume_24 : decode c_J_resume 24 = .ok (.ifCond .lt 9, 3) := by decide +kernel
theorem d_J_resume_27 : decode c_J_resume 27 = .ok (.aload_n 0, 1) := by decide +kernel
theorem d_J_resume_28 : decode c_J_resume 28 = .ok (.aload_n 1, 1) := by decide +kernel
theorem d_J_resume_29 : decode c_J_resume 29 = .ok (.iload_n 2, 1) := by decide +kernel
theorem d_J_resume_30 : decode c_J_resume 30 = .ok (.invokevirtual 178, 3) := by decide +kernel
theorem d_J_resume_33 : decode c_J_resume 33 = .ok (.aload_n 0, 1) := by decide +kernel
theorem d_J_resume_34 : decode c_J_resume 34 = .ok (.aload_n 1, 1) := by decide +kernel
theorem d_J_resume_35 : decode c_J_resume 35 = .ok (.invokevirtual 181, 3) := by decide +kernel
theorem d_J_resume_38 : decode c_J_resume 38 = .ok (.aload_n 1, 1) := by decide +kernel
theorem d_J_resume_39 : decode c_J_resume 39 = .ok (.getfield 106, 3) := by decide +kernel
theorem d_J_resume_42 : decode c_J_resume 42 = .ok (.ifCond .ne 9, 3) := by decide +kernel
theorem d_J_resume_45 : decode c_J_resume 45 = .ok (.aload_n 0, 1) := by decide +kernel
theorem d_J_resume_46 : decode c_J_resume 46 = .ok (.aload_n 1, 1) := by decide +kernel
theorem d_J_resume_47 : decode c_J_resume 47 = .ok (.invokevirtual 184, 3) := by decide +kernel
theorem d_J_resume_50 : decode c_J_resume 50 = .ok (.return_, 1) := by decide +kernel
theorem d_J_resume_51 : decode c_J_resume 51 = .ok (.iload_n 3, 1) := by decide +kernel
theorem d_J_resume_52 : decode c_J_resume 52 = .ok (.bipush 60, 2) := by decide +kernel
theorem d_J_resume_54 : decode c_J_resume 54 = .ok (.if_icmp .ne 10, 3) := by decide +kernel
theorem d_J_resume_57 : decode c_J_resume 57 = .ok (.aload_n 0, 1) := by decide +kernel
theorem d_J_resume_58 : decode c_J_resume 58 = .ok (.aload_n 1, 1) := by decide +kernel
theorem d_J_resume_59 : decode c_J_resume 59 = .ok (.iconst (-1), 1) := by decide +kernel
theorem d_J_resume_60 : decode c_J_resume 60 = .ok (.invokevirtual 154, 3) := by decide +kernel
theorem d_J_resume_63 : decode c_J_resume 63 = .ok (.return_, 1) := by decide +kernel
theorem d_J_resume_64 : decode c_J_resume 64 = .ok (.aload_n 0, 1) := by decide +kernel
theorem d_J_resume_65 : decode c_J_resume 65 = .ok (.aload_n 1, 1) := by decide +kernel
theorem d_J_resume_66 : decode c_J_resume 66 = .ok (.aload_n 1, 1) := by decide +kernel
theorem d_J_resume_67 : decode c_J_resume 67 = .ok (.invokevirtual 187, 3) := by decide +kernel
theorem d_J_resume_70 : decode c_J_resume 70 = .ok (.invokevirtual 191, 3) := by decide +kernel
theorem d_J_resume_73 : decode c_J_resume 73 = .ok (.istore_n 2, 1) := by decide +kernel
theorem d_J_resume_74 : decode c_J_resume 74 = .ok (.iload_n 2, 1) := by decide +kernel
theorem d_J_resume_75 : decode c_J_resume 75 = .ok (.bipush (-2), 2) := by decide +kernel
theorem d_J_resume_77 : decode c_J_resume 77 = .ok (.if_icmp .ne 4, 3) := by decide +kernel
theorem d_J_resume_80 : decode c_J_resume 80 = .ok (.return_, 1) := by decide +kernel
theorem d_J_resume_81 : decode c_J_resume 81 = .ok (.iinc 3 1, 3) := by decide +kernel
theorem d_J_resume_84 : decode c_J_resume 84 = .ok (.goto (-67), 3) := by decide +kernel
theorem d_J_resume_87 : decode c_J_resume 87 = .ok (.return_, 1) := by decide +kernel
theorem d_J_throwAtLastFrame_0 : decode c_J_throwAtLastFrame 0 = .ok (.aload_n 1, 1) := by decide +kernel
theorem d_J_throwAtLastFrame_1 : decode c_J_throwAtLastFrame 1 = .ok (.getfield 106, 3) := by decide +kernel
theorem d_J_throwAtLastFrame_4 : decode c_J_throwAtLastFrame 4 = .ok (.iconst 1, 1) := by decide +kernel
theorem d_J_throwAtLastFrame_5 : decode c_J_throwAtLastFrame 5 = .ok (.isub, 1) := by decide +kernel
theorem d_J_throwAtLastFrame_6 : decode c_J_throwAtLastFrame 6 = .ok (.istore_n 3, 1) := by decide +kernel
theorem d_J_throwAtLastFrame_7 : decode c_J_throwAtLastFrame 7 = .ok (.iload_n 3, 1) := by decide +kernel
theorem d_J_throwAtLastFrame_8 : decode c_J_throwAtLastFrame 8 = .ok (.ifCond .lt 102, 3) := by decide +kernel
theorem d_J_throwAtLastFrame_11 : decode c_J_throwAtLastFrame 11 = .ok (.aload_n 1, 1) := by decide +kernel
theorem d_J_throwAtLastFrame_12 : decode c_J_throwAtLastFrame 12 = .ok (.getfield 215, 3) := by decide +kernel
theorem d_J_throwAtLastFrame_15 : decode c_J_throwAtLastFrame 15 = .ok (.iload_n 3, 1) := by decide +kernel
theorem d_J_throwAtLastFrame_16 : decode c_J_throwAtLastFrame 16 = .ok (.aaload, 1) := by decide +kernel
theorem d_J_throwAtLastFrame_17 : decode c_J_throwAtLastFrame 17 = .ok (.astore 4, 2) := by decide +kernel
theorem d_J_throwAtLastFrame_19 : decode c_J_throwAtLastFrame 19 = .ok (.aload_n 1, 1) := by decide +kernel
theorem d_J_throwAtLastFrame_20 : decode c_J_throwAtLastFrame 20 = .ok (.iload_n 3, 1) := by decide +kernel
theorem d_J_throwAtLastFrame_21 : decode c_J_throwAtLastFrame 21 = .ok (.putfield 106, 3) := by decide +kernel
theorem d_J_throwAtLastFrame_24 : decode c_J_throwAtLastFrame 24 = .ok (.aload 4, 2) := by decide +kernel
theorem d_J_throwAtLastFrame_26 : decode c_J_throwAtLastFrame 26 = .ok (.getfield 204, 3) := by decide +kernel
theorem d_J_throwAtLastFrame_29 : decode c_J_throwAtLastFrame 29 = .ok (.ifCond .ne 11, 3) := by decide +kernel
theorem d_J_throwAtLastFrame_32 : decode c_J_throwAtLastFrame 32 = .ok (.aload_n 0, 1) := by decide +kernel
theorem d_J_throwAtLastFrame_33 : decode c_J_throwAtLastFrame 33 = .ok (.aload_n 1, 1) := by decide +kernel
theorem d_J_throwAtLastFrame_34 : decode c_J_throwAtLastFrame 34 = .ok (.iload_n 2, 1) := by decide +kernel
theorem d_J_throwAtLastFrame_35 : decode c_J_throwAtLastFrame 35 = .ok (.iconst 0, 1) := by decide +kernel
theorem d_J_throwAtLastFrame_36 : decode c_J_throwAtLastFrame 36 = .ok (.invokevirtual 78, 3) := by decide +kernel
theorem d_J_throwAtLastFrame_39 : decode c_J_throwAtLastFrame 39 = .ok (.return_, 1) := by decide +kernel
theorem d_J_throwAtLastFrame_40 : decode c_J_throwAtLastFrame 40 = .ok (.aload 4, 2) := by decide +kernel
theorem d_J_throwAtLastFrame_42 : decode c_J_throwAtLastFrame 42 = .ok (.getfield 204, 3) := by decide +kernel
theorem d_J_throwAtLastFrame_45 : decode c_J_throwAtLastFrame 45 = .ok (.iconst 1, 1) := by decide +kernel
theorem d_J_throwAtLastFrame_46 : decode c_J_throwAtLastFrame 46 = .ok (.if_icmp .ne 32, 3) := by decide +kernel
theorem d_J_throwAtLastFrame_49 : decode c_J_throwAtLastFrame 49 = .ok (.iload_n 2, 1) := by decide +kernel
theorem d_J_throwAtLastFrame_50 : decode c_J_throwAtLastFrame 50 = .ok (.ifCond .eq 28, 3) := by decide +kernel
theorem d_J_throwAtLastFrame_53 : decode c_J_throwAtLastFrame 53 = .ok (.aload_n 0, 1) := by decide +kernel
theorem d_J_throwAtLastFrame_54 : decode c_J_throwAtLastFrame 54 = .ok (.bipush 100, 2) := by decide +kernel
theorem d_J_throwAtLastFrame_56 : decode c_J_throwAtLastFrame 56 = .ok (.iload_n 2, 1) := by decide +kernel
theorem d_J_throwAtLastFrame_57 : decode c_J_throwAtLastFrame 57 = .ok (.iadd, 1) := by decide +kernel
theorem d_J_throwAtLastFrame_58 : decode c_J_throwAtLastFrame 58 = .ok (.invokevirtual 219, 3) := by decide +kernel
theorem d_J_throwAtLastFrame_61 : decode c_J_throwAtLastFrame 61 = .ok (.aload_n 1, 1) := by decide +kernel
theorem d_J_throwAtLastFrame_62 : decode c_J_throwAtLastFrame 62 = .ok (.iconst 5, 1) := by decide +kernel
theorem d_J_throwAtLastFrame_63 : decode c_J_throwAtLastFrame 63 = .ok (.aload 4, 2) := by decide +kernel
theorem d_J_throwAtLastFrame_65 : decode c_J_throwAtLastFrame 65 = .ok (.getfield 205, 3) := by decide +kernel
theorem d_J_throwAtLastFrame_68 : decode c_J_throwAtLastFrame 68 = .ok (.aload 4, 2) := by decide +kernel
theorem d_J_throwAtLastFrame_70 : decode c_J_throwAtLastFrame 70 = .ok (.getfield 205, 3) := by decide +kernel
theorem d_J_throwAtLastFrame_73 : decode c_J_throwAtLastFrame 73 = .ok (.iconst (-1), 1) := by decide +kernel
theorem d_J_throwAtLastFrame_74 : decode c_J_throwAtLastFrame 74 = .ok (.invokevirtual 208, 3) := by decide +kernel
theorem d_J_throwAtLastFrame_77 : decode c_J_throwAtLastFrame 77 = .ok (.return_, 1) := by decide +kernel
theorem d_J_throwAtLastFrame_78 : decode c_J_throwAtLastFrame 78 = .ok (.aload 4, 2) := by decide +kernel
theorem d_J_throwAtLastFrame_80 : decode c_J_throwAtLastFrame 80 = .ok (.getfield 204, 3) := by decide +kernel
theorem d_J_throwAtLastFrame_83 : decode c_J_throwAtLastFrame 83 = .ok (.iconst 2, 1) := by decide +kernel
theorem d_J_throwAtLastFrame_84 : decode c_J_throwAtLastFrame 84 = .ok (.if_icmp .ne 20, 3) := by decide +kernel
theorem d_J_throwAtLastFrame_87 : decode c_J_throwAtLastFrame 87 = .ok (.aload_n 1, 1) := by decide +kernel
theorem d_J_throwAtLastFrame_88 : decode c_J_throwAtLastFrame 88 = .ok (.iconst 3, 1) := by decide +kernel
theorem d_J_throwAtLastFrame_89 : decode c_J_throwAtLastFrame 89 = .ok (.aload 4, 2) := by decide +kernel
theorem d_J_throwAtLastFrame_91 : decode c_J_throwAtLastFrame 91 = .ok (.getfield 205, 3) := by decide +kernel
theorem d_J_throwAtLastFrame_94 : decode c_J_throwAtLastFrame 94 = .ok (.aload 4, 2) := by decide +kernel
theorem d_J_throwAtLastFrame_96 : decode c_J_throwAtLastFrame 96 = .ok (.getfield 205, 3) := by decide +kernel
theorem d_J_throwAtLastFrame_99 : decode c_J_throwAtLastFrame 99 = .ok (.iload_n 2, 1) := by decide +kernel
theorem d_J_throwAtLastFrame_100 : decode c_J_throwAtLastFrame 100 = .ok (.invokevirtual 208, 3) := by decide +kernel
theorem d_J_throwAtLastFrame_103 : decode c_J_throwAtLastFrame 103 = .ok (.return_, 1) := by decide +kernel
theorem d_J_throwAtLastFrame_104 : decode c_J_throwAtLastFrame 104 = .ok (.iinc 3 (-1), 3) := by decide +kernel
theorem d_J_throwAtLastFrame_107 : decode c_J_throwAtLastFrame 107 = .ok (.goto (-100), 3) := by decide +kernel
theorem d_J_throwAtLastFrame_110 : decode c_J_throwAtLastFrame 110 = .ok (.return_, 1) := by decide +kernel
theorem d_J_note_0 : decode c_J_note 0 = .ok (.aload_n 0, 1) := by decide +kernel
theorem d_J_note_1 : decode c_J_note 1 = .ok (.getfield 129, 3) := by decide +kernel
theorem d_J_note_4 : decode c_J_note 4 = .ok (.bipush 60, 2) := by decide +kernel
theorem d_J_note_6 : decode c_J_note 6 = .ok (.if_icmp .ge 13, 3) := by decide +kernel
theorem d_J_note_9 : decode c_J_note 9 = .ok (.aload_n 0, 1) := by decide +kernel
theorem d_J_note_10 : decode c_J_note 10 = .ok (.getfield 29, 3) := by decide +kernel
theorem d_J_note_13 : decode c_J_note 13 = .ok (.aload_n 0, 1) := by decide +kernel
theorem d_J_note_14 : decode c_J_note 14 = .ok (.getfield 129, 3) := by decide +kernel
theorem d_J_note_17 : decode c_J_note 17 = .ok (.iload_n 1, 1) := by decide +kernel
theorem d_J_note_18 : decode c_J_note 18 = .ok (.iastore, 1) := by decide +kernel
theorem d_J_note_19 : decode c_J_note 19 = .ok (.aload_n 0, 1) := by decide +kernel
theorem d_J_note_20 : decode c_J_note 20 = .ok (.dup, 1) := by decide +kernel
theorem d_J_note_21 : decode c_J_note 21 = .ok (.getfield 129, 3) := by decide +kernel
theorem d_J_note_24 : decode c_J_note 24 = .ok (.iconst 1, 1) := by decide +kernel
theorem d_J_note_25 : decode c_J_note 25 = .ok (.iadd, 1) := by decide +kernel
theorem d_J_note_26 : decode c_J_note 26 = .ok (.putfield 129, 3) := by decide +kernel
theorem d_J_note_29 : decode c_J_note 29 = .ok (.return_, 1) := by decide +kernel
theorem d_B_pushFrame_0 : decode c_B_pushFrame 0 = .ok (.aload_n 0, 1) := by decide +kernel
theorem d_B_pushFrame_1 : decode c_B_pushFrame 1 = .ok (.getfield 45, 3) := by decide +kernel
theorem d_B_pushFrame_4 : decode c_B_pushFrame 4 = .ok (.bipush 6, 2) := by decide +kernel
theorem d_B_pushFrame_6 : decode c_B_pushFrame 6 = .ok (.if_icmp .ge 55, 3) := by decide +kernel
theorem d_B_pushFrame_9 : decode c_B_pushFrame 9 = .ok (.aload_n 0, 1) := by decide +kernel
theorem d_B_pushFrame_10 : decode c_B_pushFrame 10 = .ok (.getfield 28, 3) := by decide +kernel
theorem d_B_pushFrame_13 : decode c_B_pushFrame 13 = .ok (.aload_n 0, 1) := by decide +kernel
theorem d_B_pushFrame_14 : decode c_B_pushFrame 14 = .ok (.getfield 45, 3) := by decide +kernel
theorem d_B_pushFrame_17 : decode c_B_pushFrame 17 = .ok (.aaload, 1) := by decide +kernel
theorem d_B_pushFrame_18 : decode c_B_pushFrame 18 = .ok (.astore 5, 2) := by decide +kernel
theorem d_B_pushFrame_20 : decode c_B_pushFrame 20 = .ok (.aload 5, 2) := by decide +kernel
theorem d_B_pushFrame_22 : decode c_B_pushFrame 22 = .ok (.iload_n 1, 1) := by decide +kernel
theorem d_B_pushFrame_23 : decode c_B_pushFrame 23 = .ok (.putfield 57, 3) := by decide +kernel
theorem d_B_pushFrame_26 : decode c_B_pushFrame 26 = .ok (.aload 5, 2) := by decide +kernel
theorem d_B_pushFrame_28 : decode c_B_pushFrame 28 = .ok (.aload_n 2, 1) := by decide +kernel
theorem d_B_pushFrame_29 : decode c_B_pushFrame 29 = .ok (.putfield 58, 3) := by decide +kernel
theorem d_B_pushFrame_32 : decode c_B_pushFrame 32 = .ok (.aload 5, 2) := by decide +kernel
theorem d_B_pushFrame_34 : decode c_B_pushFrame 34 = .ok (.iconst 0, 1) := by decide +kernel
theorem d_B_pushFrame_35 : decode c_B_pushFrame 35 = .ok (.putfield 62, 3) := by decide +kernel
theorem d_B_pushFrame_38 : decode c_B_pushFrame 38 = .ok (.aload 5, 2) := by decide +kernel
theorem d_B_pushFrame_40 : decode c_B_pushFrame 40 = .ok (.aload_n 3, 1) := by decide +kernel
theorem d_B_pushFrame_41 : decode c_B_pushFrame 41 = .ok (.putfield 65, 3) := by decide +kernel
theorem d_B_pushFrame_44 : decode c_B_pushFrame 44 = .ok (.aload 5, 2) := by decide +kernel
theorem d_B_pushFrame_46 : decode c_B_pushFrame 46 = .ok (.iload 4, 2) := by decide +kernel
theorem d_B_pushFrame_48 : decode c_B_pushFrame 48 = .ok (.putfield 68, 3) := by decide +kernel
theorem d_B_pushFrame_51 : decode c_B_pushFrame 51 = .ok (.aload_n 0, 1) := by decide +kernel
theorem d_B_pushFrame_52 : decode c_B_pushFrame 52 = .ok (.dup, 1) := by decide +kernel
theorem d_B_pushFrame_53 : decode c_B_pushFrame 53 = .ok (.getfield 45, 3) := by decide +kernel
theorem d_B_pushFrame_56 : decode c_B_pushFrame 56 = .ok (.iconst 1, 1) := by decide +kernel
theorem d_B_pushFrame_57 : decode c_B_pushFrame 57 = .ok (.iadd, 1) := by decide +kernel
theorem d_B_pushFrame_58 : decode c_B_pushFrame 58 = .ok (.putfield 45, 3) := by decide +kernel
theorem d_B_pushFrame_61 : decode c_B_pushFrame 61 = .ok (.return_, 1) := by decide +kernel
theorem d_J_leaveFramesAtTheirEnd_0 : decode c_J_leaveFramesAtTheirEnd 0 = .ok (.iconst 0, 1) := by decide +kernel
theorem d_J_leaveFramesAtTheirEnd_1 : decode c_J_leaveFramesAtTheirEnd 1 = .ok (.istore_n 2, 1) := by decide +kernel
theorem d_J_leaveFramesAtTheirEnd_2 : decode c_J_leaveFramesAtTheirEnd 2 = .ok (.iload_n 2, 1) := by decide +kernel
theorem d_J_leaveFramesAtTheirEnd_3 : decode c_J_leaveFramesAtTheirEnd 3 = .ok (.sipush 1000, 3) := by decide +kernel
theorem d_J_leaveFramesAtTheirEnd_6 : decode c_J_leaveFramesAtTheirEnd 6 = .ok (.if_icmp .ge 96, 3) := by decide +kernel
theorem d_J_leaveFramesAtTheirEnd_9 : decode c_J_leaveFramesAtTheirEnd 9 = .ok (.aload_n 1, 1) := by decide +kernel
theorem d_J_leaveFramesAtTheirEnd_10 : decode c_J_leaveFramesAtTheirEnd 10 = .ok (.getfield 106, 3) := by decide +kernel
theorem d_J_leaveFramesAtTheirEnd_13 : decode c_J_leaveFramesAtTheirEnd 13 = .ok (.ifCond .le 89, 3) := by decide +kernel
theorem d_J_leaveFramesAtTheirEnd_16 : decode c_J_leaveFramesAtTheirEnd 16 = .ok (.aload_n 1, 1) := by decide +kernel
theorem d_J_leaveFramesAtTheirEnd_17 : decode c_J_leaveFramesAtTheirEnd 17 = .ok (.invokevirtual 187, 3) := by decide +kernel
theorem d_J_leaveFramesAtTheirEnd_20 : decode c_J_leaveFramesAtTheirEnd 20 = .ok (.astore_n 3, 1) := by decide +kernel
theorem d_J_leaveFramesAtTheirEnd_21 : decode c_J_leaveFramesAtTheirEnd 21 = .ok (.aload_n 3, 1) := by decide +kernel
theorem d_J_leaveFramesAtTheirEnd_22 : decode c_J_leaveFramesAtTheirEnd 22 = .ok (.getfield 195, 3) := by decide +kernel
theorem d_J_leaveFramesAtTheirEnd_25 : decode c_J_leaveFramesAtTheirEnd 25 = .ok (.aload_n 3, 1) := by decide +kernel
theorem d_J_leaveFramesAtTheirEnd_26 : decode c_J_leaveFramesAtTheirEnd 26 = .ok (.getfield 200, 3) := by decide +kernel
theorem d_J_leaveFramesAtTheirEnd_29 : decode c_J_leaveFramesAtTheirEnd 29 = .ok (.getfield 46, 3) := by decide +kernel
theorem d_J_leaveFramesAtTheirEnd_32 : decode c_J_leaveFramesAtTheirEnd 32 = .ok (.if_icmp .ge 4, 3) := by decide +kernel
theorem d_J_leaveFramesAtTheirEnd_35 : decode c_J_leaveFramesAtTheirEnd 35 = .ok (.return_, 1) := by decide +kernel
theorem d_J_leaveFramesAtTheirEnd_36 : decode c_J_leaveFramesAtTheirEnd 36 = .ok (.aload_n 1, 1) := by decide +kernel
theorem d_J_leaveFramesAtTheirEnd_37 : decode c_J_leaveFramesAtTheirEnd 37 = .ok (.dup, 1) := by decide +kernel
theorem d_J_leaveFramesAtTheirEnd_38 : decode c_J_leaveFramesAtTheirEnd 38 = .ok (.getfield 106, 3) := by decide +kernel
theorem d_J_leaveFramesAtTheirEnd_41 : decode c_J_leaveFramesAtTheirEnd 41 = .ok (.iconst 1, 1) := by decide +kernel
theorem d_J_leaveFramesAtTheirEnd_42 : decode c_J_leaveFramesAtTheirEnd 42 = .ok (.isub, 1) := by decide +kernel
theorem d_J_leaveFramesAtTheirEnd_43 : decode c_J_leaveFramesAtTheirEnd 43 = .ok (.putfield 106, 3) := by decide +kernel
theorem d_J_leaveFramesAtTheirEnd_46 : decode c_J_leaveFramesAtTheirEnd 46 = .ok (.aload_n 3, 1) := by decide +kernel
theorem d_J_leaveFramesAtTheirEnd_47 : decode c_J_leaveFramesAtTheirEnd 47 = .ok (.getfield 204, 3) := by decide +kernel
theorem d_J_leaveFramesAtTheirEnd_50 : decode c_J_leaveFramesAtTheirEnd 50 = .ok (.iconst 2, 1) := by decide +kernel
theorem d_J_leaveFramesAtTheirEnd_51 : decode c_J_leaveFramesAtTheirEnd 51 = .ok (.if_icmp .ne 20, 3) := by decide +kernel
theorem d_J_leaveFramesAtTheirEnd_54 : decode c_J_leaveFramesAtTheirEnd 54 = .ok (.aload_n 1, 1) := by decide +kernel
theorem d_J_leaveFramesAtTheirEnd_55 : decode c_J_leaveFramesAtTheirEnd 55 = .ok (.iconst 3, 1) := by decide +kernel
theorem d_J_leaveFramesAtTheirEnd_56 : decode c_J_leaveFramesAtTheirEnd 56 = .ok (.aload_n 3, 1) := by decide +kernel
theorem d_J_leaveFramesAtTheirEnd_57 : decode c_J_leaveFramesAtTheirEnd 57 = .ok (.getfield 205, 3) := by decide +kernel
theorem d_J_leaveFramesAtTheirEnd_60 : decode c_J_leaveFramesAtTheirEnd 60 = .ok (.aload_n 3, 1) := by decide +kernel
theorem d_J_leaveFramesAtTheirEnd_61 : decode c_J_leaveFramesAtTheirEnd 61 = .ok (.getfield 205, 3) := by decide +kernel
theorem d_J_leaveFramesAtTheirEnd_64 : decode c_J_leaveFramesAtTheirEnd 64 = .ok (.iconst (-1), 1) := by decide +kernel
theorem d_J_leaveFramesAtTheirEnd_65 : decode c_J_leaveFramesAtTheirEnd 65 = .ok (.invokevirtual 208, 3) := by decide +kernel
theorem d_J_leaveFramesAtTheirEnd_68 : decode c_J_leaveFramesAtTheirEnd 68 = .ok (.goto 28, 3) := by decide +kernel
theorem d_J_leaveFramesAtTheirEnd_71 : decode c_J_leaveFramesAtTheirEnd 71 = .ok (.aload_n 3, 1) := by decide +kernel
theorem d_J_leaveFramesAtTheirEnd_72 : decode c_J_leaveFramesAtTheirEnd 72 = .ok (.getfield 204, 3) := by decide +kernel
theorem d_J_leaveFramesAtTheirEnd_75 : decode c_J_leaveFramesAtTheirEnd 75 = .ok (.iconst 3, 1) := by decide +kernel
theorem d_J_leaveFramesAtTheirEnd_76 : decode c_J_leaveFramesAtTheirEnd 76 = .ok (.if_icmp .ne 20, 3) := by decide +kernel
theorem d_J_leaveFramesAtTheirEnd_79 : decode c_J_leaveFramesAtTheirEnd 79 = .ok (.aload_n 3, 1) := by decide +kernel
theorem d_J_leaveFramesAtTheirEnd_80 : decode c_J_leaveFramesAtTheirEnd 80 = .ok (.getfield 212, 3) := by decide +kernel
theorem d_J_leaveFramesAtTheirEnd_83 : decode c_J_leaveFramesAtTheirEnd 83 = .ok (.iconst (-1), 1) := by decide +kernel
theorem d_J_leaveFramesAtTheirEnd_84 : decode c_J_leaveFramesAtTheirEnd 84 = .ok (.if_icmp .eq 12, 3) := by decide +kernel
theorem d_J_leaveFramesAtTheirEnd_87 : decode c_J_leaveFramesAtTheirEnd 87 = .ok (.aload_n 0, 1) := by decide +kernel
theorem d_J_leaveFramesAtTheirEnd_88 : decode c_J_leaveFramesAtTheirEnd 88 = .ok (.aload_n 1, 1) := by decide +kernel
theorem d_J_leaveFramesAtTheirEnd_89 : decode c_J_leaveFramesAtTheirEnd 89 = .ok (.aload_n 3, 1) := by decide +kernel
theorem d_J_leaveFramesAtTheirEnd_90 : decode c_J_leaveFramesAtTheirEnd 90 = .ok (.getfield 212, 3) := by decide +kernel
theorem d_J_leaveFramesAtTheirEnd_93 : decode c_J_leaveFramesAtTheirEnd 93 = .ok (.invokevirtual 178, 3) := by decide +kernel
theorem d_J_leaveFramesAtTheirEnd_96 : decode c_J_leaveFramesAtTheirEnd 96 = .ok (.iinc 2 1, 3) := by decide +kernel
theorem d_J_leaveFramesAtTheirEnd_99 : decode c_J_leaveFramesAtTheirEnd 99 = .ok (.goto (-97), 3) := by decide +kernel
theorem d_J_leaveFramesAtTheirEnd_102 : decode c_J_leaveFramesAtTheirEnd 102 = .ok (.return_, 1) := by decide +kernel
theorem d_B_lastFrame_0 : decode c_B_lastFrame 0 = .ok (.aload_n 0, 1) := by decide +kernel
theorem d_B_lastFrame_1 : decode c_B_lastFrame 1 = .ok (.getfield 28, 3) := by decide +kernel
theorem d_B_lastFrame_4 : decode c_B_lastFrame 4 = .ok (.aload_n 0, 1) := by decide +kernel
theorem d_B_lastFrame_5 : decode c_B_lastFrame 5 = .ok (.getfield 45, 3) := by decide +kernel
theorem d_B_lastFrame_8 : decode c_B_lastFrame 8 = .ok (.ifCond .le 12, 3) := by decide +kernel
theorem d_B_lastFrame_11 : decode c_B_lastFrame 11 = .ok (.aload_n 0, 1) := by decide +kernel
theorem d_B_lastFrame_12 : decode c_B_lastFrame 12 = .ok (.getfield 45, 3) := by decide +kernel
theorem d_B_lastFrame_15 : decode c_B_lastFrame 15 = .ok (.iconst 1, 1) := by decide +kernel
theorem d_B_lastFrame_16 : decode c_B_lastFrame 16 = .ok (.isub, 1) := by decide +kernel
theorem d_B_lastFrame_17 : decode c_B_lastFrame 17 = .ok (.goto 4, 3) := by decide +kernel
theorem d_B_lastFrame_20 : decode c_B_lastFrame 20 = .ok (.iconst 0, 1) := by decide +kernel
theorem d_B_lastFrame_21 : decode c_B_lastFrame 21 = .ok (.aaload, 1) := by decide +kernel
theorem d_B_lastFrame_22 : decode c_B_lastFrame 22 = .ok (.areturn, 1) := by decide +kernel
theorem d_J_finishUpwards_0 : decode c_J_finishUpwards 0 = .ok (.aload_n 1, 1) := by decide +kernel
theorem d_J_finishUpwards_1 : decode c_J_finishUpwards 1 = .ok (.astore_n 2, 1) := by decide +kernel
theorem d_J_finishUpwards_2 : decode c_J_finishUpwards 2 = .ok (.iconst 0, 1) := by decide +kernel
theorem d_J_finishUpwards_3 : decode c_J_finishUpwards 3 = .ok (.istore_n 3, 1) := by decide +kernel
theorem d_J_finishUpwards_4 : decode c_J_finishUpwards 4 = .ok (.iload_n 3, 1) := by decide +kernel
theorem d_J_finishUpwards_5 : decode c_J_finishUpwards 5 = .ok (.bipush 24, 2) := by decide +kernel
theorem d_J_finishUpwards_7 : decode c_J_finishUpwards 7 = .ok (.if_icmp .ge 40, 3) := by decide +kernel
theorem d_J_finishUpwards_10 : decode c_J_finishUpwards 10 = .ok (.aload_n 2, 1) := by decide +kernel
theorem d_J_finishUpwards_11 : decode c_J_finishUpwards 11 = .ok (.ifnull 10, 3) := by decide +kernel
theorem d_J_finishUpwards_14 : decode c_J_finishUpwards 14 = .ok (.aload_n 2, 1) := by decide +kernel
theorem d_J_finishUpwards_15 : decode c_J_finishUpwards 15 = .ok (.invokevirtual 226, 3) := by decide +kernel
theorem d_J_finishUpwards_18 : decode c_J_finishUpwards 18 = .ok (.ifCond .ne 4, 3) := by decide +kernel
theorem d_J_finishUpwards_21 : decode c_J_finishUpwards 21 = .ok (.return_, 1) := by decide +kernel
theorem d_J_finishUpwards_22 : decode c_J_finishUpwards 22 = .ok (.aload_n 0, 1) := by decide +kernel
theorem d_J_finishUpwards_23 : decode c_J_finishUpwards 23 = .ok (.aload_n 2, 1) := by decide +kernel
theorem d_J_finishUpwards_24 : decode c_J_finishUpwards 24 = .ok (.invokevirtual 229, 3) := by decide +kernel
theorem d_J_finishUpwards_27 : decode c_J_finishUpwards 27 = .ok (.aload_n 0, 1) := by decide +kernel
theorem d_J_finishUpwards_28 : decode c_J_finishUpwards 28 = .ok (.aload_n 2, 1) := by decide +kernel
theorem d_J_finishUpwards_29 : decode c_J_finishUpwards 29 = .ok (.aload_n 2, 1) := by decide +kernel
theorem d_J_finishUpwards_30 : decode c_J_finishUpwards 30 = .ok (.getfield 109, 3) := by decide +kernel
theorem d_J_finishUpwards_33 : decode c_J_finishUpwards 33 = .ok (.invokevirtual 232, 3) := by decide +kernel
theorem d_J_finishUpwards_36 : decode c_J_finishUpwards 36 = .ok (.aload_n 2, 1) := by decide +kernel
theorem d_J_finishUpwards_37 : decode c_J_finishUpwards 37 = .ok (.getfield 109, 3) := by decide +kernel
theorem d_J_finishUpwards_40 : decode c_J_finishUpwards 40 = .ok (.astore_n 2, 1) := by decide +kernel
theorem d_J_finishUpwards_41 : decode c_J_finishUpwards 41 = .ok (.iinc 3 1, 3) := by decide +kernel
theorem d_J_finishUpwards_44 : decode c_J_finishUpwards 44 = .ok (.goto (-40), 3) := by decide +kernel
theorem d_J_finishUpwards_47 : decode c_J_finishUpwards 47 = .ok (.return_, 1) := by decide +kernel
theorem d_B_isAtItsEnd_0 : decode c_B_isAtItsEnd 0 = .ok (.aload_n 0, 1) := by decide +kernel
theorem d_B_isAtItsEnd_1 : decode c_B_isAtItsEnd 1 = .ok (.getfield 71, 3) := by decide +kernel
theorem d_B_isAtItsEnd_4 : decode c_B_isAtItsEnd 4 = .ok (.ifCond .ne 21, 3) := by decide +kernel
theorem d_B_isAtItsEnd_7 : decode c_B_isAtItsEnd 7 = .ok (.aload_n 0, 1) := by decide +kernel
theorem d_B_isAtItsEnd_8 : decode c_B_isAtItsEnd 8 = .ok (.getfield 45, 3) := by decide +kernel
theorem d_B_isAtItsEnd_11 : decode c_B_isAtItsEnd 11 = .ok (.ifCond .ne 14, 3) := by decide +kernel
theorem d_B_isAtItsEnd_14 : decode c_B_isAtItsEnd 14 = .ok (.aload_n 0, 1) := by decide +kernel
theorem d_B_isAtItsEnd_15 : decode c_B_isAtItsEnd 15 = .ok (.getfield 75, 3) := by decide +kernel
theorem d_B_isAtItsEnd_18 : decode c_B_isAtItsEnd 18 = .ok (.ifCond .ne 7, 3) := by decide +kernel
theorem d_B_isAtItsEnd_21 : decode c_B_isAtItsEnd 21 = .ok (.iconst 1, 1) := by decide +kernel
theorem d_B_isAtItsEnd_22 : decode c_B_isAtItsEnd 22 = .ok (.goto 4, 3) := by decide +kernel
theorem d_B_isAtItsEnd_25 : decode c_B_isAtItsEnd 25 = .ok (.iconst 0, 1) := by decide +kernel
theorem d_B_isAtItsEnd_26 : decode c_B_isAtItsEnd 26 = .ok (.ireturn, 1) := by decide +kernel
theorem d_J_finish_0 : decode c_J_finish 0 = .ok (.aload_n 1, 1) := by decide +kernel
theorem d_J_finish_1 : decode c_J_finish 1 = .ok (.iconst 1, 1) := by decide +kernel
theorem d_J_finish_2 : decode c_J_finish 2 = .ok (.putfield 71, 3) := by decide +kernel
theorem d_J_finish_5 : decode c_J_finish 5 = .ok (.aload_n 1, 1) := by decide +kernel
theorem d_J_finish_6 : decode c_J_finish 6 = .ok (.getfield 236, 3) := by decide +kernel
theorem d_J_finish_9 : decode c_J_finish 9 = .ok (.invokevirtual 168, 3) := by decide +kernel
theorem d_J_finish_12 : decode c_J_finish 12 = .ok (.aload_n 0, 1) := by decide +kernel
theorem d_J_finish_13 : decode c_J_finish 13 = .ok (.dup, 1) := by decide +kernel
theorem d_J_finish_14 : decode c_J_finish 14 = .ok (.getfield 132, 3) := by decide +kernel
theorem d_J_finish_17 : decode c_J_finish 17 = .ok (.iconst 1, 1) := by decide +kernel
theorem d_J_finish_18 : decode c_J_finish 18 = .ok (.iadd, 1) := by decide +kernel
theorem d_J_finish_19 : decode c_J_finish 19 = .ok (.putfield 132, 3) := by decide +kernel
theorem d_J_finish_22 : decode c_J_finish 22 = .ok (.aload_n 1, 1) := by decide +kernel
theorem d_J_finish_23 : decode c_J_finish 23 = .ok (.getfield 109, 3) := by decide +kernel
theorem d_J_finish_26 : decode c_J_finish 26 = .ok (.astore_n 2, 1) := by decide +kernel
theorem d_J_finish_27 : decode c_J_finish 27 = .ok (.aload_n 2, 1) := by decide +kernel
theorem d_J_finish_28 : decode c_J_finish 28 = .ok (.ifnull 43, 3) := by decide +kernel
theorem d_J_finish_31 : decode c_J_finish 31 = .ok (.aload_n 2, 1) := by decide +kernel
theorem d_J_finish_32 : decode c_J_finish 32 = .ok (.dup, 1) := by decide +kernel
theorem d_J_finish_33 : decode c_J_finish 33 = .ok (.getfield 126, 3) := by decide +kernel
theorem d_J_finish_36 : decode c_J_finish 36 = .ok (.iconst 1, 1) := by decide +kernel
theorem d_J_finish_37 : decode c_J_finish 37 = .ok (.isub, 1) := by decide +kernel
theorem d_J_finish_38 : decode c_J_finish 38 = .ok (.putfield 126, 3) := by decide +kernel
theorem d_J_finish_41 : decode c_J_finish 41 = .ok (.aload_n 2, 1) := by decide +kernel
theorem d_J_finish_42 : decode c_J_finish 42 = .ok (.getfield 161, 3) := by decide +kernel
theorem d_J_finish_45 : decode c_J_finish 45 = .ok (.aload_n 1, 1) := by decide +kernel
theorem d_J_finish_46 : decode c_J_finish 46 = .ok (.if_acmp .ne 25, 3) := by decide +kernel
theorem d_J_finish_49 : decode c_J_finish 49 = .ok (.aload_n 0, 1) := by decide +kernel
theorem d_J_finish_50 : decode c_J_finish 50 = .ok (.aload_n 2, 1) := by decide +kernel
theorem d_J_finish_51 : decode c_J_finish 51 = .ok (.aload_n 2, 1) := by decide +kernel
theorem d_J_finish_52 : decode c_J_finish 52 = .ok (.getfield 158, 3) := by decide +kernel
theorem d_J_finish_55 : decode c_J_finish 55 = .ok (.iconst 5, 1) := by decide +kernel
theorem d_J_finish_56 : decode c_J_finish 56 = .ok (.if_icmp .ne 7, 3) := by decide +kernel
theorem d_J_finish_59 : decode c_J_finish 59 = .ok (.iconst (-1), 1) := by decide +kernel
theorem d_J_finish_60 : decode c_J_finish 60 = .ok (.goto 8, 3) := by decide +kernel
theorem d_J_finish_63 : decode c_J_finish 63 = .ok (.aload_n 2, 1) := by decide +kernel
theorem d_J_finish_64 : decode c_J_finish 64 = .ok (.aload_n 1, 1) := by decide +kernel
theorem d_J_finish_65 : decode c_J_finish 65 = .ok (.invokestatic 239, 3) := by decide +kernel
theorem d_J_finish_68 : decode c_J_finish 68 = .ok (.invokevirtual 154, 3) := by decide +kernel
theorem d_J_finish_71 : decode c_J_finish 71 = .ok (.return_, 1) := by decide +kernel
theorem d_J_takeOutcome_0 : decode c_J_takeOutcome 0 = .ok (.aload_n 1, 1) := by decide +kernel
theorem d_J_takeOutcome_1 : decode c_J_takeOutcome 1 = .ok (.getfield 75, 3) := by decide +kernel
theorem d_J_takeOutcome_4 : decode c_J_takeOutcome 4 = .ok (.iconst (-1), 1) := by decide +kernel
theorem d_J_takeOutcome_5 : decode c_J_takeOutcome 5 = .ok (.if_icmp .ne 18, 3) := by decide +kernel
theorem d_J_takeOutcome_8 : decode c_J_takeOutcome 8 = .ok (.aload_n 0, 1) := by decide +kernel
theorem d_J_takeOutcome_9 : decode c_J_takeOutcome 9 = .ok (.dup, 1) := by decide +kernel
theorem d_J_takeOutcome_10 : decode c_J_takeOutcome 10 = .ok (.getfield 103, 3) := by decide +kernel
theorem d_J_takeOutcome_13 : decode c_J_takeOutcome 13 = .ok (.aload_n 1, 1) := by decide +kernel
theorem d_J_takeOutcome_14 : decode c_J_takeOutcome 14 = .ok (.getfield 103, 3) := by decide +kernel
theorem d_J_takeOutcome_17 : decode c_J_takeOutcome 17 = .ok (.iadd, 1) := by decide +kernel
theorem d_J_takeOutcome_18 : decode c_J_takeOutcome 18 = .ok (.putfield 103, 3) := by decide +kernel
theorem d_J_takeOutcome_21 : decode c_J_takeOutcome 21 = .ok (.iconst (-1), 1) := by decide +kernel
theorem d_J_takeOutcome_22 : decode c_J_takeOutcome 22 = .ok (.ireturn, 1) := by decide +kernel
theorem d_J_takeOutcome_23 : decode c_J_takeOutcome 23 = .ok (.aload_n 1, 1) := by decide +kernel
theorem d_J_takeOutcome_24 : decode c_J_takeOutcome 24 = .ok (.getfield 75, 3) := by decide +kernel
theorem d_J_takeOutcome_27 : decode c_J_takeOutcome 27 = .ok (.ireturn, 1) := by decide +kernel
theorem d_J_passFailureOn_0 : decode c_J_passFailureOn 0 = .ok (.aload_n 1, 1) := by decide +kernel
theorem d_J_passFailureOn_1 : decode c_J_passFailureOn 1 = .ok (.getfield 75, 3) := by decide +kernel
theorem d_J_passFailureOn_4 : decode c_J_passFailureOn 4 = .ok (.ifCond .gt 4, 3) := by decide +kernel
theorem d_J_passFailureOn_7 : decode c_J_passFailureOn 7 = .ok (.return_, 1) := by decide +kernel
theorem d_J_passFailureOn_8 : decode c_J_passFailureOn 8 = .ok (.aload_n 2, 1) := by decide +kernel
theorem d_J_passFailureOn_9 : decode c_J_passFailureOn 9 = .ok (.ifnull 19, 3) := by decide +kernel
theorem d_J_passFailureOn_12 : decode c_J_passFailureOn 12 = .ok (.aload_n 1, 1) := by decide +kernel
theorem d_J_passFailureOn_13 : decode c_J_passFailureOn 13 = .ok (.getfield 117, 3) := by decide +kernel
theorem d_J_passFailureOn_16 : decode c_J_passFailureOn 16 = .ok (.iconst 1, 1) := by decide +kernel
theorem d_J_passFailureOn_17 : decode c_J_passFailureOn 17 = .ok (.if_icmp .ne 26, 3) := by decide +kernel
theorem d_J_passFailureOn_20 : decode c_J_passFailureOn 20 = .ok (.aload_n 2, 1) := by decide +kernel
theorem d_J_passFailureOn_21 : decode c_J_passFailureOn 21 = .ok (.getfield 117, 3) := by decide +kernel
theorem d_J_passFailureOn_24 : decode c_J_passFailureOn 24 = .ok (.iconst 3, 1) := by decide +kernel
theorem d_J_passFailureOn_25 : decode c_J_passFailureOn 25 = .ok (.if_icmp .ne 18, 3) := by decide +kernel
theorem d_J_passFailureOn_28 : decode c_J_passFailureOn 28 = .ok (.aload_n 0, 1) := by decide +kernel
theorem d_J_passFailureOn_29 : decode c_J_passFailureOn 29 = .ok (.sipush 200, 3) := by decide +kernel
theorem d_J_passFailureOn_32 : decode c_J_passFailureOn 32 = .ok (.aload_n 1, 1) := by decide +kernel
theorem d_J_passFailureOn_33 : decode c_J_passFailureOn 33 = .ok (.getfield 75, 3) := by decide +kernel
theorem d_J_passFailureOn_36 : decode c_J_passFailureOn 36 = .ok (.iadd, 1) := by decide +kernel
theorem d_J_passFailureOn_37 : decode c_J_passFailureOn 37 = .ok (.invokevirtual 219, 3) := by decide +kernel
theorem d_J_passFailureOn_40 : decode c_J_passFailureOn 40 = .ok (.goto 21, 3) := by decide +kernel
theorem d_J_passFailureOn_43 : decode c_J_passFailureOn 43 = .ok (.aload_n 1, 1) := by decide +kernel
theorem d_J_passFailureOn_44 : decode c_J_passFailureOn 44 = .ok (.getfield 117, 3) := by decide +kernel
theorem d_J_passFailureOn_47 : decode c_J_passFailureOn 47 = .ok (.iconst 1, 1) := by decide +kernel
theorem d_J_passFailureOn_48 : decode c_J_passFailureOn 48 = .ok (.if_icmp .ne 13, 3) := by decide +kernel
theorem d_J_passFailureOn_51 : decode c_J_passFailureOn 51 = .ok (.aload_n 0, 1) := by decide +kernel
theorem d_J_passFailureOn_52 : decode c_J_passFailureOn 52 = .ok (.aload_n 2, 1) := by decide +kernel
theorem d_J_passFailureOn_53 : decode c_J_passFailureOn 53 = .ok (.aload_n 1, 1) := by decide +kernel
theorem d_J_passFailureOn_54 : decode c_J_passFailureOn 54 = .ok (.getfield 75, 3) := by decide +kernel
theorem d_J_passFailureOn_57 : decode c_J_passFailureOn 57 = .ok (.iconst 0, 1) := by decide +kernel
theorem d_J_passFailureOn_58 : decode c_J_passFailureOn 58 = .ok (.invokevirtual 78, 3) := by decide +kernel
theorem d_J_passFailureOn_61 : decode c_J_passFailureOn 61 = .ok (.return_, 1) := by decide +kernel
theorem d_J_perform_0 : decode c_J_perform 0 = .ok (.aload_n 2, 1) := by decide +kernel
theorem d_J_perform_1 : decode c_J_perform 1 = .ok (.getfield 200, 3) := by decide +kernel
theorem d_J_perform_4 : decode c_J_perform 4 = .ok (.astore_n 3, 1) := by decide +kernel
theorem d_J_perform_5 : decode c_J_perform 5 = .ok (.aload_n 2, 1) := by decide +kernel
theorem d_J_perform_6 : decode c_J_perform 6 = .ok (.getfield 195, 3) := by decide +kernel
theorem d_J_perform_9 : decode c_J_perform 9 = .ok (.istore 4, 2) := by decide +kernel
theorem d_J_perform_11 : decode c_J_perform 11 = .ok (.aload_n 3, 1) := by decide +kernel
theorem d_J_perform_12 : decode c_J_perform 12 = .ok (.getfield 243, 3) := by decide +kernel
theorem d_J_perform_15 : decode c_J_perform 15 = .ok (.iload 4, 2) := by decide +kernel
theorem d_J_perform_17 : decode c_J_perform 17 = .ok (.iaload, 1) := by decide +kernel
theorem d_J_perform_18 : decode c_J_perform 18 = .ok (.istore 5, 2) := by decide +kernel
theorem d_J_perform_20 : decode c_J_perform 20 = .ok (.aload_n 3, 1) := by decide +kernel
theorem d_J_perform_21 : decode c_J_perform 21 = .ok (.getfield 246, 3) := by decide +kernel
theorem d_J_perform_24 : decode c_J_perform 24 = .ok (.iload 4, 2) := by decide +kernel
theorem d_J_perform_26 : decode c_J_perform 26 = .ok (.iaload, 1) := by decide +kernel
theorem d_J_perform_27 : decode c_J_perform 27 = .ok (.istore 6, 2) := by decide +kernel
theorem d_J_perform_29 : decode c_J_perform 29 = .ok (.aload_n 3, 1) := by decide +kernel
theorem d_J_perform_30 : decode c_J_perform 30 = .ok (.getfield 249, 3) := by decide +kernel
theorem d_J_perform_33 : decode c_J_perform 33 = .ok (.iload 4, 2) := by decide +kernel
theorem d_J_perform_35 : decode c_J_perform 35 = .ok (.iaload, 1) := by decide +kernel
theorem d_J_perform_36 : decode c_J_perform 36 = .ok (.istore 7, 2) := by decide +kernel
theorem d_J_perform_38 : decode c_J_perform 38 = .ok (.aload_n 2, 1) := by decide +kernel
theorem d_J_perform_39 : decode c_J_perform 39 = .ok (.dup, 1) := by decide +kernel
theorem d_J_perform_40 : decode c_J_perform 40 = .ok (.getfield 195, 3) := by decide +kernel
theorem d_J_perform_43 : decode c_J_perform 43 = .ok (.iconst 1, 1) := by decide +kernel
theorem d_J_perform_44 : decode c_J_perform 44 = .ok (.iadd, 1) := by decide +kernel
theorem d_J_perform_45 : decode c_J_perform 45 = .ok (.putfield 195, 3) := by decide +kernel
theorem d_J_perform_48 : decode c_J_perform 48 = .ok (.aload_n 0, 1) := by decide +kernel
theorem d_J_perform_49 : decode c_J_perform 49 = .ok (.dup, 1) := by decide +kernel
theorem d_J_perform_50 : decode c_J_perform 50 = .ok (.getfield 148, 3) := by decide +kernel
theorem d_J_perform_53 : decode c_J_perform 53 = .ok (.iconst 1, 1) := by decide +kernel
theorem d_J_perform_54 : decode c_J_perform 54 = .ok (.iadd, 1) := by decide +kernel
theorem d_J_perform_55 : decode c_J_perform 55 = .ok (.putfield 148, 3) := by decide +kernel
theorem d_J_perform_58 : decode c_J_perform 58 = .ok (.iload 5, 2) := by decide +kernel
theorem d_J_perform_60 : decode c_J_perform 60 = .ok (.invokestatic 252, 3) := by decide +kernel
theorem d_J_perform_63 : decode c_J_perform 63 = .ok (.ifCond .eq 20, 3) := by decide +kernel
theorem d_J_perform_66 : decode c_J_perform 66 = .ok (.aload_n 1, 1) := by decide +kernel
theorem d_J_perform_67 : decode c_J_perform 67 = .ok (.getfield 75, 3) := by decide +kernel
theorem d_J_perform_70 : decode c_J_perform 70 = .ok (.iconst (-1), 1) := by decide +kernel
theorem d_J_perform_71 : decode c_J_perform 71 = .ok (.if_icmp .eq 12, 3) := by decide +kernel
theorem d_J_perform_74 : decode c_J_perform 74 = .ok (.aload_n 1, 1) := by decide +kernel
theorem d_J_perform_75 : decode c_J_perform 75 = .ok (.invokevirtual 255, 3) := by decide +kernel
theorem d_J_perform_78 : decode c_J_perform 78 = .ok (.ifCond .ne 5, 3) := by decide +kernel
theorem d_J_perform_81 : decode c_J_perform 81 = .ok (.iconst 0, 1) := by decide +kernel
theorem d_J_perform_82 : decode c_J_perform 82 = .ok (.ireturn, 1) := by decide +kernel
theorem d_J_perform_83 : decode c_J_perform 83 = .ok (.iload 5, 2) := by decide +kernel
theorem d_J_perform_85 : decode c_J_perform 85 = .ok (.tableswitch 311 0 15 #[79, 87, 105, 114, 129, 129, 143, 152, 155, 174, 193, 211, 231, 251, 271, 292], 79) := by decide +kernel
theorem d_J_perform_164 : decode c_J_perform 164 = .ok (.aload_n 0, 1) := by decide +kernel
theorem d_J_perform_165 : decode c_J_perform 165 = .ok (.iload 6, 2) := by decide +kernel
theorem d_J_perform_167 : decode c_J_perform 167 = .ok (.invokevirtual 219, 3) := by decide +kernel
theorem d_J_perform_170 : decode c_J_perform 170 = .ok (.iconst (-1), 1) := by decide +kernel
theorem d_J_perform_171 : decode c_J_perform 171 = .ok (.ireturn, 1) := by decide +kernel
theorem d_J_perform_172 : decode c_J_perform 172 = .ok (.aload_n 1, 1) := by decide +kernel
theorem d_J_perform_173 : decode c_J_perform 173 = .ok (.iconst 1, 1) := by decide +kernel
theorem d_J_perform_174 : decode c_J_perform 174 = .ok (.putfield 158, 3) := by decide +kernel
theorem d_J_perform_177 : decode c_J_perform 177 = .ok (.aload_n 0, 1) := by decide +kernel
theorem d_J_perform_178 : decode c_J_perform 178 = .ok (.aload_n 1, 1) := by decide +kernel
theorem d_J_perform_179 : decode c_J_perform 179 = .ok (.getfield 164, 3) := by decide +kernel
theorem d_J_perform_182 : decode c_J_perform 182 = .ok (.iload 6, 2) := by decide +kernel
theorem d_J_perform_184 : decode c_J_perform 184 = .ok (.invokevirtual 258, 3) := by decide +kernel
theorem d_J_perform_187 : decode c_J_perform 187 = .ok (.bipush (-2), 2) := by decide +kernel
theorem d_J_perform_189 : decode c_J_perform 189 = .ok (.ireturn, 1) := by decide +kernel
theorem d_J_perform_190 : decode c_J_perform 190 = .ok (.aload_n 0, 1) := by decide +kernel
theorem d_J_perform_191 : decode c_J_perform 191 = .ok (.aload_n 1, 1) := by decide +kernel
theorem d_J_perform_192 : decode c_J_perform 192 = .ok (.iconst (-1), 1) := by decide +kernel
theorem d_J_perform_193 : decode c_J_perform 193 = .ok (.invokevirtual 154, 3) := by decide +kernel
theorem d_J_perform_196 : decode c_J_perform 196 = .ok (.bipush (-2), 2) := by decide +kernel
theorem d_J_perform_198 : decode c_J_perform 198 = .ok (.ireturn, 1) := by decide +kernel
theorem d_J_perform_199 : decode c_J_perform 199 = .ok (.aload_n 0, 1) := by decide +kernel
theorem d_J_perform_200 : decode c_J_perform 200 = .ok (.aload_n 1, 1) := by decide +kernel
theorem d_J_perform_201 : decode c_J_perform 201 = .ok (.aload_n 0, 1) := by decide +kernel
theorem d_J_perform_202 : decode c_J_perform 202 = .ok (.getfield 11, 3) := by decide +kernel
theorem d_J_perform_205 : decode c_J_perform 205 = .ok (.iload 6, 2) := by decide +kernel
theorem d_J_perform_207 : decode c_J_perform 207 = .ok (.aaload, 1) := by decide +kernel
theorem d_J_perform_208 : decode c_J_perform 208 = .ok (.iload 7, 2) := by decide +kernel
theorem d_J_perform_210 : decode c_J_perform 210 = .ok (.invokevirtual 262, 3) := by decide +kernel
theorem d_J_perform_213 : decode c_J_perform 213 = .ok (.ireturn, 1) := by decide +kernel
theorem d_J_perform_214 : decode c_J_perform 214 = .ok (.aload_n 1, 1) := by decide +kernel
theorem d_J_perform_215 : decode c_J_perform 215 = .ok (.iload 5, 2) := by decide +kernel
theorem d_J_perform_217 : decode c_J_perform 217 = .ok (.aload_n 1, 1) := by decide +kernel
theorem d_J_perform_218 : decode c_J_perform 218 = .ok (.getfield 123, 3) := by decide +kernel
theorem d_J_perform_221 : decode c_J_perform 221 = .ok (.iload 6, 2) := by decide +kernel
theorem d_J_perform_223 : decode c_J_perform 223 = .ok (.aaload, 1) := by decide +kernel
theorem d_J_perform_224 : decode c_J_perform 224 = .ok (.invokestatic 266, 3) := by decide +kernel
theorem d_J_perform_227 : decode c_J_perform 227 = .ok (.ireturn, 1) := by decide +kernel
theorem d_J_perform_228 : decode c_J_perform 228 = .ok (.aload_n 0, 1) := by decide +kernel
theorem d_J_perform_229 : decode c_J_perform 229 = .ok (.aload_n 1, 1) := by decide +kernel
theorem d_J_perform_230 : decode c_J_perform 230 = .ok (.iload 6, 2) := by decide +kernel
theorem d_J_perform_232 : decode c_J_perform 232 = .ok (.invokevirtual 270, 3) := by decide +kernel
theorem d_J_perform_235 : decode c_J_perform 235 = .ok (.iconst (-1), 1) := by decide +kernel
theorem d_J_perform_236 : decode c_J_perform 236 = .ok (.ireturn, 1) := by decide +kernel
theorem d_J_perform_237 : decode c_J_perform 237 = .ok (.iload 6, 2) := by decide +kernel
theorem d_J_perform_239 : decode c_J_perform 239 = .ok (.ireturn, 1) := by decide +kernel
theorem d_J_perform_240 : decode c_J_perform 240 = .ok (.aload_n 0, 1) := by decide +kernel
theorem d_J_perform_241 : decode c_J_perform 241 = .ok (.aload_n 1, 1) := by decide +kernel
theorem d_J_perform_242 : decode c_J_perform 242 = .ok (.iload 5, 2) := by decide +kernel
theorem d_J_perform_244 : decode c_J_perform 244 = .ok (.iconst 2, 1) := by decide +kernel
theorem d_J_perform_245 : decode c_J_perform 245 = .ok (.aload_n 0, 1) := by decide +kernel
theorem d_J_perform_246 : decode c_J_perform 246 = .ok (.getfield 11, 3) := by decide +kernel
theorem d_J_perform_249 : decode c_J_perform 249 = .ok (.iload 6, 2) := by decide +kernel
theorem d_J_perform_251 : decode c_J_perform 251 = .ok (.aaload, 1) := by decide +kernel
theorem d_J_perform_252 : decode c_J_perform 252 = .ok (.ldc_w 273, 3) := by decide +kernel
theorem d_J_perform_255 : decode c_J_perform 255 = .ok (.invokevirtual 274, 3) := by decide +kernel
theorem d_J_perform_258 : decode c_J_perform 258 = .ok (.ireturn, 1) := by decide +kernel
theorem d_J_perform_259 : decode c_J_perform 259 = .ok (.aload_n 0, 1) := by decide +kernel
theorem d_J_perform_260 : decode c_J_perform 260 = .ok (.aload_n 1, 1) := by decide +kernel
theorem d_J_perform_261 : decode c_J_perform 261 = .ok (.iload 5, 2) := by decide +kernel
theorem d_J_perform_263 : decode c_J_perform 263 = .ok (.iconst 3, 1) := by decide +kernel
theorem d_J_perform_264 : decode c_J_perform 264 = .ok (.aload_n 0, 1) := by decide +kernel
theorem d_J_perform_265 : decode c_J_perform 265 = .ok (.getfield 11, 3) := by decide +kernel
theorem d_J_perform_268 : decode c_J_perform 268 = .ok (.iload 6, 2) := by decide +kernel
theorem d_J_perform_270 : decode c_J_perform 270 = .ok (.aaload, 1) := by decide +kernel
theorem d_J_perform_271 : decode c_J_perform 271 = .ok (.ldc_w 273, 3) := by decide +kernel
theorem d_J_perform_274 : decode c_J_perform 274 = .ok (.invokevirtual 274, 3) := by decide +kernel
theorem d_J_perform_277 : decode c_J_perform 277 = .ok (.ireturn, 1) := by decide +kernel
theorem d_J_perform_278 : decode c_J_perform 278 = .ok (.aload_n 0, 1) := by decide +kernel
theorem d_J_perform_279 : decode c_J_perform 279 = .ok (.aload_n 1, 1) := by decide +kernel
theorem d_J_perform_280 : decode c_J_perform 280 = .ok (.iload 5, 2) := by decide +kernel
theorem d_J_perform_282 : decode c_J_perform 282 = .ok (.iconst 4, 1) := by decide +kernel
theorem d_J_perform_283 : decode c_J_perform 283 = .ok (.aload_n 0, 1) := by decide +kernel
theorem d_J_perform_284 : decode c_J_perform 284 = .ok (.getfield 11, 3) := by decide +kernel
theorem d_J_perform_287 : decode c_J_perform 287 = .ok (.iload 7, 2) := by decide +kernel
theorem d_J_perform_289 : decode c_J_perform 289 = .ok (.aaload, 1) := by decide +kernel
theorem d_J_perform_290 : decode c_J_perform 290 = .ok (.iload 6, 2) := by decide +kernel
theorem d_J_perform_292 : decode c_J_perform 292 = .ok (.invokevirtual 274, 3) := by decide +kernel
theorem d_J_perform_295 : decode c_J_perform 295 = .ok (.ireturn, 1) := by decide +kernel

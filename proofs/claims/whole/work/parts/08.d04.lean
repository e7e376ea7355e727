theorem d_R_nextChild_24 : decode c_R_nextChild 24 = .ok (.iload_n 3, 1) := by decide +kernel
theorem d_R_nextChild_25 : decode c_R_nextChild 25 = .ok (.baload, 1) := by decide +kernel
theorem d_R_nextChild_26 : decode c_R_nextChild 26 = .ok (.ifCond .ne 5, 3) := by decide +kernel
theorem d_R_nextChild_29 : decode c_R_nextChild 29 = .ok (.iload_n 3, 1) := by decide +kernel
theorem d_R_nextChild_30 : decode c_R_nextChild 30 = .ok (.ireturn, 1) := by decide +kernel
theorem d_R_nextChild_31 : decode c_R_nextChild 31 = .ok (.iinc 3 1, 3) := by decide +kernel
theorem d_R_nextChild_34 : decode c_R_nextChild 34 = .ok (.goto (-32), 3) := by decide +kernel
theorem d_R_nextChild_37 : decode c_R_nextChild 37 = .ok (.iconst (-1), 1) := by decide +kernel
theorem d_R_nextChild_38 : decode c_R_nextChild 38 = .ok (.ireturn, 1) := by decide +kernel
theorem d_R_shielded_0 : decode c_R_shielded 0 = .ok (.iload_n 1, 1) := by decide +kernel
theorem d_R_shielded_1 : decode c_R_shielded 1 = .ok (.bipush 6, 2) := by decide +kernel
theorem d_R_shielded_3 : decode c_R_shielded 3 = .ok (.imul, 1) := by decide +kernel
theorem d_R_shielded_4 : decode c_R_shielded 4 = .ok (.istore_n 2, 1) := by decide +kernel
theorem d_R_shielded_5 : decode c_R_shielded 5 = .ok (.iload_n 2, 1) := by decide +kernel
theorem d_R_shielded_6 : decode c_R_shielded 6 = .ok (.iload_n 1, 1) := by decide +kernel
theorem d_R_shielded_7 : decode c_R_shielded 7 = .ok (.bipush 6, 2) := by decide +kernel
theorem d_R_shielded_9 : decode c_R_shielded 9 = .ok (.imul, 1) := by decide +kernel
theorem d_R_shielded_10 : decode c_R_shielded 10 = .ok (.aload_n 0, 1) := by decide +kernel
theorem d_R_shielded_11 : decode c_R_shielded 11 = .ok (.getfield 75, 3) := by decide +kernel
theorem d_R_shielded_14 : decode c_R_shielded 14 = .ok (.iload_n 1, 1) := by decide +kernel
theorem d_R_shielded_15 : decode c_R_shielded 15 = .ok (.iaload, 1) := by decide +kernel
theorem d_R_shielded_16 : decode c_R_shielded 16 = .ok (.iadd, 1) := by decide +kernel
theorem d_R_shielded_17 : decode c_R_shielded 17 = .ok (.if_icmp .ge 21, 3) := by decide +kernel
theorem d_R_shielded_20 : decode c_R_shielded 20 = .ok (.aload_n 0, 1) := by decide +kernel
theorem d_R_shielded_21 : decode c_R_shielded 21 = .ok (.getfield 118, 3) := by decide +kernel
theorem d_R_shielded_24 : decode c_R_shielded 24 = .ok (.iload_n 2, 1) := by decide +kernel
theorem d_R_shielded_25 : decode c_R_shielded 25 = .ok (.iaload, 1) := by decide +kernel
theorem d_R_shielded_26 : decode c_R_shielded 26 = .ok (.iconst 4, 1) := by decide +kernel
theorem d_R_shielded_27 : decode c_R_shielded 27 = .ok (.if_icmp .ne 5, 3) := by decide +kernel
theorem d_R_shielded_30 : decode c_R_shielded 30 = .ok (.iconst 1, 1) := by decide +kernel
theorem d_R_shielded_31 : decode c_R_shielded 31 = .ok (.ireturn, 1) := by decide +kernel
theorem d_R_shielded_32 : decode c_R_shielded 32 = .ok (.iinc 2 1, 3) := by decide +kernel
theorem d_R_shielded_35 : decode c_R_shielded 35 = .ok (.goto (-30), 3) := by decide +kernel
theorem d_R_shielded_38 : decode c_R_shielded 38 = .ok (.iconst 0, 1) := by decide +kernel
theorem d_R_shielded_39 : decode c_R_shielded 39 = .ok (.ireturn, 1) := by decide +kernel
theorem d_R_run_0 : decode c_R_run 0 = .ok (.aload_n 0, 1) := by decide +kernel
theorem d_R_run_1 : decode c_R_run 1 = .ok (.iload_n 1, 1) := by decide +kernel
theorem d_R_run_2 : decode c_R_run 2 = .ok (.iconst 0, 1) := by decide +kernel
theorem d_R_run_3 : decode c_R_run 3 = .ok (.bipush 100, 2) := by decide +kernel
theorem d_R_run_5 : decode c_R_run 5 = .ok (.invokevirtual 136, 3) := by decide +kernel
theorem d_R_run_8 : decode c_R_run 8 = .ok (.ifCond .eq 9, 3) := by decide +kernel
theorem d_R_run_11 : decode c_R_run 11 = .ok (.aload_n 0, 1) := by decide +kernel
theorem d_R_run_12 : decode c_R_run 12 = .ok (.iconst 1, 1) := by decide +kernel
theorem d_R_run_13 : decode c_R_run 13 = .ok (.invokevirtual 143, 3) := by decide +kernel
theorem d_R_run_16 : decode c_R_run 16 = .ok (.ireturn, 1) := by decide +kernel
theorem d_R_run_17 : decode c_R_run 17 = .ok (.iconst 0, 1) := by decide +kernel
theorem d_R_run_18 : decode c_R_run 18 = .ok (.istore_n 2, 1) := by decide +kernel
theorem d_R_run_19 : decode c_R_run 19 = .ok (.iconst 1, 1) := by decide +kernel
theorem d_R_run_20 : decode c_R_run 20 = .ok (.istore_n 3, 1) := by decide +kernel
theorem d_R_run_21 : decode c_R_run 21 = .ok (.iload_n 2, 1) := by decide +kernel
theorem d_R_run_22 : decode c_R_run 22 = .ok (.iload_n 1, 1) := by decide +kernel
theorem d_R_run_23 : decode c_R_run 23 = .ok (.if_icmp .ge 96, 3) := by decide +kernel
theorem d_R_run_26 : decode c_R_run 26 = .ok (.iload_n 3, 1) := by decide +kernel
theorem d_R_run_27 : decode c_R_run 27 = .ok (.ifCond .eq 92, 3) := by decide +kernel
theorem d_R_run_30 : decode c_R_run 30 = .ok (.aload_n 0, 1) := by decide +kernel
theorem d_R_run_31 : decode c_R_run 31 = .ok (.getfield 31, 3) := by decide +kernel
theorem d_R_run_34 : decode c_R_run 34 = .ok (.ifCond .ne 11, 3) := by decide +kernel
theorem d_R_run_37 : decode c_R_run 37 = .ok (.aload_n 0, 1) := by decide +kernel
theorem d_R_run_38 : decode c_R_run 38 = .ok (.invokevirtual 221, 3) := by decide +kernel
theorem d_R_run_41 : decode c_R_run 41 = .ok (.istore_n 3, 1) := by decide +kernel
theorem d_R_run_42 : decode c_R_run 42 = .ok (.goto (-21), 3) := by decide +kernel
theorem d_R_run_45 : decode c_R_run 45 = .ok (.aload_n 0, 1) := by decide +kernel
theorem d_R_run_46 : decode c_R_run 46 = .ok (.getfield 127, 3) := by decide +kernel
theorem d_R_run_49 : decode c_R_run 49 = .ok (.iconst 0, 1) := by decide +kernel
theorem d_R_run_50 : decode c_R_run 50 = .ok (.iaload, 1) := by decide +kernel
theorem d_R_run_51 : decode c_R_run 51 = .ok (.istore 4, 2) := by decide +kernel
theorem d_R_run_53 : decode c_R_run 53 = .ok (.aload_n 0, 1) := by decide +kernel
theorem d_R_run_54 : decode c_R_run 54 = .ok (.dup, 1) := by decide +kernel
theorem d_R_run_55 : decode c_R_run 55 = .ok (.getfield 31, 3) := by decide +kernel
theorem d_R_run_58 : decode c_R_run 58 = .ok (.iconst 1, 1) := by decide +kernel
theorem d_R_run_59 : decode c_R_run 59 = .ok (.isub, 1) := by decide +kernel
theorem d_R_run_60 : decode c_R_run 60 = .ok (.putfield 31, 3) := by decide +kernel
theorem d_R_run_63 : decode c_R_run 63 = .ok (.iconst 0, 1) := by decide +kernel
theorem d_R_run_64 : decode c_R_run 64 = .ok (.istore 5, 2) := by decide +kernel
theorem d_R_run_66 : decode c_R_run 66 = .ok (.iload 5, 2) := by decide +kernel
theorem d_R_run_68 : decode c_R_run 68 = .ok (.aload_n 0, 1) := by decide +kernel
theorem d_R_run_69 : decode c_R_run 69 = .ok (.getfield 31, 3) := by decide +kernel
theorem d_R_run_72 : decode c_R_run 72 = .ok (.if_icmp .ge 25, 3) := by decide +kernel
theorem d_R_run_75 : decode c_R_run 75 = .ok (.aload_n 0, 1) := by decide +kernel
theorem d_R_run_76 : decode c_R_run 76 = .ok (.getfield 127, 3) := by decide +kernel
theorem d_R_run_79 : decode c_R_run 79 = .ok (.iload 5, 2) := by decide +kernel
theorem d_R_run_81 : decode c_R_run 81 = .ok (.aload_n 0, 1) := by decide +kernel
theorem d_R_run_82 : decode c_R_run 82 = .ok (.getfield 127, 3) := by decide +kernel
theorem d_R_run_85 : decode c_R_run 85 = .ok (.iload 5, 2) := by decide +kernel
theorem d_R_run_87 : decode c_R_run 87 = .ok (.iconst 1, 1) := by decide +kernel
theorem d_R_run_88 : decode c_R_run 88 = .ok (.iadd, 1) := by decide +kernel
theorem d_R_run_89 : decode c_R_run 89 = .ok (.iaload, 1) := by decide +kernel
theorem d_R_run_90 : decode c_R_run 90 = .ok (.iastore, 1) := by decide +kernel
theorem d_R_run_91 : decode c_R_run 91 = .ok (.iinc 5 1, 3) := by decide +kernel
theorem d_R_run_94 : decode c_R_run 94 = .ok (.goto (-28), 3) := by decide +kernel
theorem d_R_run_97 : decode c_R_run 97 = .ok (.iinc 2 1, 3) := by decide +kernel
theorem d_R_run_100 : decode c_R_run 100 = .ok (.aload_n 0, 1) := by decide +kernel
theorem d_R_run_101 : decode c_R_run 101 = .ok (.dup, 1) := by decide +kernel
theorem d_R_run_102 : decode c_R_run 102 = .ok (.getfield 22, 3) := by decide +kernel
theorem d_R_run_105 : decode c_R_run 105 = .ok (.iconst 1, 1) := by decide +kernel
theorem d_R_run_106 : decode c_R_run 106 = .ok (.iadd, 1) := by decide +kernel
theorem d_R_run_107 : decode c_R_run 107 = .ok (.putfield 22, 3) := by decide +kernel
theorem d_R_run_110 : decode c_R_run 110 = .ok (.aload_n 0, 1) := by decide +kernel
theorem d_R_run_111 : decode c_R_run 111 = .ok (.iload 4, 2) := by decide +kernel
theorem d_R_run_113 : decode c_R_run 113 = .ok (.invokevirtual 224, 3) := by decide +kernel
theorem d_R_run_116 : decode c_R_run 116 = .ok (.goto (-95), 3) := by decide +kernel
theorem d_R_run_119 : decode c_R_run 119 = .ok (.aload_n 0, 1) := by decide +kernel
theorem d_R_run_120 : decode c_R_run 120 = .ok (.iload_n 2, 1) := by decide +kernel
theorem d_R_run_121 : decode c_R_run 121 = .ok (.invokevirtual 147, 3) := by decide +kernel
theorem d_R_run_124 : decode c_R_run 124 = .ok (.ireturn, 1) := by decide +kernel
theorem d_R_timeGoesOn_0 : decode c_R_timeGoesOn 0 = .ok (.aload_n 0, 1) := by decide +kernel
theorem d_R_timeGoesOn_1 : decode c_R_timeGoesOn 1 = .ok (.invokevirtual 213, 3) := by decide +kernel
theorem d_R_timeGoesOn_4 : decode c_R_timeGoesOn 4 = .ok (.istore_n 1, 1) := by decide +kernel
theorem d_R_timeGoesOn_5 : decode c_R_timeGoesOn 5 = .ok (.iload_n 1, 1) := by decide +kernel
theorem d_R_timeGoesOn_6 : decode c_R_timeGoesOn 6 = .ok (.ifCond .ge 5, 3) := by decide +kernel
theorem d_R_timeGoesOn_9 : decode c_R_timeGoesOn 9 = .ok (.iconst 0, 1) := by decide +kernel
theorem d_R_timeGoesOn_10 : decode c_R_timeGoesOn 10 = .ok (.ireturn, 1) := by decide +kernel
theorem d_R_timeGoesOn_11 : decode c_R_timeGoesOn 11 = .ok (.aload_n 0, 1) := by decide +kernel
theorem d_R_timeGoesOn_12 : decode c_R_timeGoesOn 12 = .ok (.iload_n 1, 1) := by decide +kernel
theorem d_R_timeGoesOn_13 : decode c_R_timeGoesOn 13 = .ok (.putfield 16, 3) := by decide +kernel
theorem d_R_timeGoesOn_16 : decode c_R_timeGoesOn 16 = .ok (.iconst 1, 1) := by decide +kernel
theorem d_R_timeGoesOn_17 : decode c_R_timeGoesOn 17 = .ok (.istore_n 2, 1) := by decide +kernel
theorem d_R_timeGoesOn_18 : decode c_R_timeGoesOn 18 = .ok (.iload_n 2, 1) := by decide +kernel
theorem d_R_timeGoesOn_19 : decode c_R_timeGoesOn 19 = .ok (.ifCond .eq 11, 3) := by decide +kernel
theorem d_R_timeGoesOn_22 : decode c_R_timeGoesOn 22 = .ok (.aload_n 0, 1) := by decide +kernel
theorem d_R_timeGoesOn_23 : decode c_R_timeGoesOn 23 = .ok (.invokevirtual 217, 3) := by decide +kernel
theorem d_R_timeGoesOn_26 : decode c_R_timeGoesOn 26 = .ok (.istore_n 2, 1) := by decide +kernel
theorem d_R_timeGoesOn_27 : decode c_R_timeGoesOn 27 = .ok (.goto (-9), 3) := by decide +kernel
theorem d_R_timeGoesOn_30 : decode c_R_timeGoesOn 30 = .ok (.iconst 1, 1) := by decide +kernel
theorem d_R_timeGoesOn_31 : decode c_R_timeGoesOn 31 = .ok (.ireturn, 1) := by decide +kernel
theorem d_R_earliest_0 : decode c_R_earliest 0 = .ok (.iconst (-1), 1) := by decide +kernel
theorem d_R_earliest_1 : decode c_R_earliest 1 = .ok (.istore_n 1, 1) := by decide +kernel
theorem d_R_earliest_2 : decode c_R_earliest 2 = .ok (.iconst 0, 1) := by decide +kernel
theorem d_R_earliest_3 : decode c_R_earliest 3 = .ok (.istore_n 2, 1) := by decide +kernel
theorem d_R_earliest_4 : decode c_R_earliest 4 = .ok (.iload_n 2, 1) := by decide +kernel
theorem d_R_earliest_5 : decode c_R_earliest 5 = .ok (.aload_n 0, 1) := by decide +kernel
theorem d_R_earliest_6 : decode c_R_earliest 6 = .ok (.getfield 13, 3) := by decide +kernel
theorem d_R_earliest_9 : decode c_R_earliest 9 = .ok (.if_icmp .ge 78, 3) := by decide +kernel
theorem d_R_earliest_12 : decode c_R_earliest 12 = .ok (.aload_n 0, 1) := by decide +kernel
theorem d_R_earliest_13 : decode c_R_earliest 13 = .ok (.getfield 100, 3) := by decide +kernel
theorem d_R_earliest_16 : decode c_R_earliest 16 = .ok (.iload_n 2, 1) := by decide +kernel
theorem d_R_earliest_17 : decode c_R_earliest 17 = .ok (.iaload, 1) := by decide +kernel
theorem d_R_earliest_18 : decode c_R_earliest 18 = .ok (.ifCond .lt 24, 3) := by decide +kernel
theorem d_R_earliest_21 : decode c_R_earliest 21 = .ok (.iload_n 1, 1) := by decide +kernel
theorem d_R_earliest_22 : decode c_R_earliest 22 = .ok (.ifCond .lt 13, 3) := by decide +kernel
theorem d_R_earliest_25 : decode c_R_earliest 25 = .ok (.aload_n 0, 1) := by decide +kernel
theorem d_R_earliest_26 : decode c_R_earliest 26 = .ok (.getfield 100, 3) := by decide +kernel
theorem d_R_earliest_29 : decode c_R_earliest 29 = .ok (.iload_n 2, 1) := by decide +kernel
theorem d_R_earliest_30 : decode c_R_earliest 30 = .ok (.iaload, 1) := by decide +kernel
theorem d_R_earliest_31 : decode c_R_earliest 31 = .ok (.iload_n 1, 1) := by decide +kernel
theorem d_R_earliest_32 : decode c_R_earliest 32 = .ok (.if_icmp .ge 10, 3) := by decide +kernel
theorem d_R_earliest_35 : decode c_R_earliest 35 = .ok (.aload_n 0, 1) := by decide +kernel
theorem d_R_earliest_36 : decode c_R_earliest 36 = .ok (.getfield 100, 3) := by decide +kernel
theorem d_R_earliest_39 : decode c_R_earliest 39 = .ok (.iload_n 2, 1) := by decide +kernel
theorem d_R_earliest_40 : decode c_R_earliest 40 = .ok (.iaload, 1) := by decide +kernel
theorem d_R_earliest_41 : decode c_R_earliest 41 = .ok (.istore_n 1, 1) := by decide +kernel
theorem d_R_earliest_42 : decode c_R_earliest 42 = .ok (.aload_n 0, 1) := by decide +kernel
theorem d_R_earliest_43 : decode c_R_earliest 43 = .ok (.getfield 106, 3) := by decide +kernel
theorem d_R_earliest_46 : decode c_R_earliest 46 = .ok (.iload_n 2, 1) := by decide +kernel
theorem d_R_earliest_47 : decode c_R_earliest 47 = .ok (.iaload, 1) := by decide +kernel
theorem d_R_earliest_48 : decode c_R_earliest 48 = .ok (.ifCond .lt 33, 3) := by decide +kernel
theorem d_R_earliest_51 : decode c_R_earliest 51 = .ok (.aload_n 0, 1) := by decide +kernel
theorem d_R_earliest_52 : decode c_R_earliest 52 = .ok (.getfield 88, 3) := by decide +kernel
theorem d_R_earliest_55 : decode c_R_earliest 55 = .ok (.iload_n 2, 1) := by decide +kernel
theorem d_R_earliest_56 : decode c_R_earliest 56 = .ok (.baload, 1) := by decide +kernel
theorem d_R_earliest_57 : decode c_R_earliest 57 = .ok (.ifCond .ne 24, 3) := by decide +kernel
theorem d_R_earliest_60 : decode c_R_earliest 60 = .ok (.iload_n 1, 1) := by decide +kernel
theorem d_R_earliest_61 : decode c_R_earliest 61 = .ok (.ifCond .lt 13, 3) := by decide +kernel
theorem d_R_earliest_64 : decode c_R_earliest 64 = .ok (.aload_n 0, 1) := by decide +kernel
theorem d_R_earliest_65 : decode c_R_earliest 65 = .ok (.getfield 106, 3) := by decide +kernel
theorem d_R_earliest_68 : decode c_R_earliest 68 = .ok (.iload_n 2, 1) := by decide +kernel
theorem d_R_earliest_69 : decode c_R_earliest 69 = .ok (.iaload, 1) := by decide +kernel
theorem d_R_earliest_70 : decode c_R_earliest 70 = .ok (.iload_n 1, 1) := by decide +kernel
theorem d_R_earliest_71 : decode c_R_earliest 71 = .ok (.if_icmp .ge 10, 3) := by decide +kernel
theorem d_R_earliest_74 : decode c_R_earliest 74 = .ok (.aload_n 0, 1) := by decide +kernel
theorem d_R_earliest_75 : decode c_R_earliest 75 = .ok (.getfield 106, 3) := by decide +kernel
theorem d_R_earliest_78 : decode c_R_earliest 78 = .ok (.iload_n 2, 1) := by decide +kernel
theorem d_R_earliest_79 : decode c_R_earliest 79 = .ok (.iaload, 1) := by decide +kernel
theorem d_R_earliest_80 : decode c_R_earliest 80 = .ok (.istore_n 1, 1) := by decide +kernel
theorem d_R_earliest_81 : decode c_R_earliest 81 = .ok (.iinc 2 1, 3) := by decide +kernel
theorem d_R_earliest_84 : decode c_R_earliest 84 = .ok (.goto (-80), 3) := by decide +kernel
theorem d_R_earliest_87 : decode c_R_earliest 87 = .ok (.iload_n 1, 1) := by decide +kernel
theorem d_R_earliest_88 : decode c_R_earliest 88 = .ok (.ireturn, 1) := by decide +kernel
theorem d_R_oneDue_0 : decode c_R_oneDue 0 = .ok (.iconst (-1), 1) := by decide +kernel
theorem d_R_oneDue_1 : decode c_R_oneDue 1 = .ok (.istore_n 1, 1) := by decide +kernel
theorem d_R_oneDue_2 : decode c_R_oneDue 2 = .ok (.iconst 0, 1) := by decide +kernel
theorem d_R_oneDue_3 : decode c_R_oneDue 3 = .ok (.istore_n 2, 1) := by decide +kernel
theorem d_R_oneDue_4 : decode c_R_oneDue 4 = .ok (.iconst 0, 1) := by decide +kernel
theorem d_R_oneDue_5 : decode c_R_oneDue 5 = .ok (.istore_n 3, 1) := by decide +kernel
theorem d_R_oneDue_6 : decode c_R_oneDue 6 = .ok (.iconst 0, 1) := by decide +kernel
theorem d_R_oneDue_7 : decode c_R_oneDue 7 = .ok (.istore 4, 2) := by decide +kernel
theorem d_R_oneDue_9 : decode c_R_oneDue 9 = .ok (.iload 4, 2) := by decide +kernel
theorem d_R_oneDue_11 : decode c_R_oneDue 11 = .ok (.aload_n 0, 1) := by decide +kernel
theorem d_R_oneDue_12 : decode c_R_oneDue 12 = .ok (.getfield 13, 3) := by decide +kernel
theorem d_R_oneDue_15 : decode c_R_oneDue 15 = .ok (.if_icmp .ge 103, 3) := by decide +kernel
theorem d_R_oneDue_18 : decode c_R_oneDue 18 = .ok (.aload_n 0, 1) := by decide +kernel
theorem d_R_oneDue_19 : decode c_R_oneDue 19 = .ok (.getfield 100, 3) := by decide +kernel
theorem d_R_oneDue_22 : decode c_R_oneDue 22 = .ok (.iload 4, 2) := by decide +kernel
theorem d_R_oneDue_24 : decode c_R_oneDue 24 = .ok (.iaload, 1) := by decide +kernel
theorem d_R_oneDue_25 : decode c_R_oneDue 25 = .ok (.aload_n 0, 1) := by decide +kernel
theorem d_R_oneDue_26 : decode c_R_oneDue 26 = .ok (.getfield 16, 3) := by decide +kernel
theorem d_R_oneDue_29 : decode c_R_oneDue 29 = .ok (.if_icmp .ne 31, 3) := by decide +kernel
theorem d_R_oneDue_32 : decode c_R_oneDue 32 = .ok (.iload_n 1, 1) := by decide +kernel
theorem d_R_oneDue_33 : decode c_R_oneDue 33 = .ok (.ifCond .lt 14, 3) := by decide +kernel
theorem d_R_oneDue_36 : decode c_R_oneDue 36 = .ok (.aload_n 0, 1) := by decide +kernel
theorem d_R_oneDue_37 : decode c_R_oneDue 37 = .ok (.getfield 103, 3) := by decide +kernel
theorem d_R_oneDue_40 : decode c_R_oneDue 40 = .ok (.iload 4, 2) := by decide +kernel
theorem d_R_oneDue_42 : decode c_R_oneDue 42 = .ok (.iaload, 1) := by decide +kernel
theorem d_R_oneDue_43 : decode c_R_oneDue 43 = .ok (.iload_n 2, 1) := by decide +kernel
theorem d_R_oneDue_44 : decode c_R_oneDue 44 = .ok (.if_icmp .ge 16, 3) := by decide +kernel
theorem d_R_oneDue_47 : decode c_R_oneDue 47 = .ok (.iload 4, 2) := by decide +kernel
theorem d_R_oneDue_49 : decode c_R_oneDue 49 = .ok (.istore_n 1, 1) := by decide +kernel
theorem d_R_oneDue_50 : decode c_R_oneDue 50 = .ok (.aload_n 0, 1) := by decide +kernel
theorem d_R_oneDue_51 : decode c_R_oneDue 51 = .ok (.getfield 103, 3) := by decide +kernel
theorem d_R_oneDue_54 : decode c_R_oneDue 54 = .ok (.iload 4, 2) := by decide +kernel
theorem d_R_oneDue_56 : decode c_R_oneDue 56 = .ok (.iaload, 1) := by decide +kernel
theorem d_R_oneDue_57 : decode c_R_oneDue 57 = .ok (.istore_n 2, 1) := by decide +kernel
theorem d_R_oneDue_58 : decode c_R_oneDue 58 = .ok (.iconst 0, 1) := by decide +kernel
theorem d_R_oneDue_59 : decode c_R_oneDue 59 = .ok (.istore_n 3, 1) := by decide +kernel
theorem d_R_oneDue_60 : decode c_R_oneDue 60 = .ok (.aload_n 0, 1) := by decide +kernel
theorem d_R_oneDue_61 : decode c_R_oneDue 61 = .ok (.getfield 106, 3) := by decide +kernel
theorem d_R_oneDue_64 : decode c_R_oneDue 64 = .ok (.iload 4, 2) := by decide +kernel
theorem d_R_oneDue_66 : decode c_R_oneDue 66 = .ok (.iaload, 1) := by decide +kernel
theorem d_R_oneDue_67 : decode c_R_oneDue 67 = .ok (.aload_n 0, 1) := by decide +kernel
theorem d_R_oneDue_68 : decode c_R_oneDue 68 = .ok (.getfield 16, 3) := by decide +kernel
theorem d_R_oneDue_71 : decode c_R_oneDue 71 = .ok (.if_icmp .ne 41, 3) := by decide +kernel
theorem d_R_oneDue_74 : decode c_R_oneDue 74 = .ok (.aload_n 0, 1) := by decide +kernel
theorem d_R_oneDue_75 : decode c_R_oneDue 75 = .ok (.getfield 88, 3) := by decide +kernel
theorem d_R_oneDue_78 : decode c_R_oneDue 78 = .ok (.iload 4, 2) := by decide +kernel
theorem d_R_oneDue_80 : decode c_R_oneDue 80 = .ok (.baload, 1) := by decide +kernel
theorem d_R_oneDue_81 : decode c_R_oneDue 81 = .ok (.ifCond .ne 31, 3) := by decide +kernel
theorem d_R_oneDue_84 : decode c_R_oneDue 84 = .ok (.iload_n 1, 1) := by decide +kernel
theorem d_R_oneDue_85 : decode c_R_oneDue 85 = .ok (.ifCond .lt 14, 3) := by decide +kernel
theorem d_R_oneDue_88 : decode c_R_oneDue 88 = .ok (.aload_n 0, 1) := by decide +kernel
theorem d_R_oneDue_89 : decode c_R_oneDue 89 = .ok (.getfield 109, 3) := by decide +kernel
theorem d_R_oneDue_92 : decode c_R_oneDue 92 = .ok (.iload 4, 2) := by decide +kernel
theorem d_R_oneDue_94 : decode c_R_oneDue 94 = .ok (.iaload, 1) := by decide +kernel
theorem d_R_oneDue_95 : decode c_R_oneDue 95 = .ok (.iload_n 2, 1) := by decide +kernel
theorem d_R_oneDue_96 : decode c_R_oneDue 96 = .ok (.if_icmp .ge 16, 3) := by decide +kernel
theorem d_R_oneDue_99 : decode c_R_oneDue 99 = .ok (.iload 4, 2) := by decide +kernel
theorem d_R_oneDue_101 : decode c_R_oneDue 101 = .ok (.istore_n 1, 1) := by decide +kernel
theorem d_R_oneDue_102 : decode c_R_oneDue 102 = .ok (.aload_n 0, 1) := by decide +kernel
theorem d_R_oneDue_103 : decode c_R_oneDue 103 = .ok (.getfield 109, 3) := by decide +kernel
theorem d_R_oneDue_106 : decode c_R_oneDue 106 = .ok (.iload 4, 2) := by decide +kernel
theorem d_R_oneDue_108 : decode c_R_oneDue 108 = .ok (.iaload, 1) := by decide +kernel
theorem d_R_oneDue_109 : decode c_R_oneDue 109 = .ok (.istore_n 2, 1) := by decide +kernel
theorem d_R_oneDue_110 : decode c_R_oneDue 110 = .ok (.iconst 1, 1) := by decide +kernel
theorem d_R_oneDue_111 : decode c_R_oneDue 111 = .ok (.istore_n 3, 1) := by decide +kernel
theorem d_R_oneDue_112 : decode c_R_oneDue 112 = .ok (.iinc 4 1, 3) := by decide +kernel
theorem d_R_oneDue_115 : decode c_R_oneDue 115 = .ok (.goto (-106), 3) := by decide +kernel
theorem d_R_oneDue_118 : decode c_R_oneDue 118 = .ok (.iload_n 1, 1) := by decide +kernel
theorem d_R_oneDue_119 : decode c_R_oneDue 119 = .ok (.ifCond .ge 5, 3) := by decide +kernel
theorem d_R_oneDue_122 : decode c_R_oneDue 122 = .ok (.iconst 0, 1) := by decide +kernel
theorem d_R_oneDue_123 : decode c_R_oneDue 123 = .ok (.ireturn, 1) := by decide +kernel
theorem d_R_oneDue_124 : decode c_R_oneDue 124 = .ok (.iload_n 3, 1) := by decide +kernel
theorem d_R_oneDue_125 : decode c_R_oneDue 125 = .ok (.ifCond .ne 12, 3) := by decide +kernel
theorem d_R_oneDue_128 : decode c_R_oneDue 128 = .ok (.aload_n 0, 1) := by decide +kernel
theorem d_R_oneDue_129 : decode c_R_oneDue 129 = .ok (.iload_n 1, 1) := by decide +kernel
theorem d_R_oneDue_130 : decode c_R_oneDue 130 = .ok (.iconst (-1), 1) := by decide +kernel
theorem d_R_oneDue_131 : decode c_R_oneDue 131 = .ok (.invokevirtual 154, 3) := by decide +kernel
theorem d_R_oneDue_134 : decode c_R_oneDue 134 = .ok (.goto 27, 3) := by decide +kernel
theorem d_R_oneDue_137 : decode c_R_oneDue 137 = .ok (.aload_n 0, 1) := by decide +kernel
theorem d_R_oneDue_138 : decode c_R_oneDue 138 = .ok (.getfield 106, 3) := by decide +kernel
theorem d_R_oneDue_141 : decode c_R_oneDue 141 = .ok (.iload_n 1, 1) := by decide +kernel
theorem d_R_oneDue_142 : decode c_R_oneDue 142 = .ok (.iconst (-1), 1) := by decide +kernel
theorem d_R_oneDue_143 : decode c_R_oneDue 143 = .ok (.iastore, 1) := by decide +kernel
theorem d_R_oneDue_144 : decode c_R_oneDue 144 = .ok (.aload_n 0, 1) := by decide +kernel
theorem d_R_oneDue_145 : decode c_R_oneDue 145 = .ok (.getfield 69, 3) := by decide +kernel
theorem d_R_oneDue_148 : decode c_R_oneDue 148 = .ok (.iload_n 1, 1) := by decide +kernel
theorem d_R_oneDue_149 : decode c_R_oneDue 149 = .ok (.iaload, 1) := by decide +kernel
theorem d_R_oneDue_150 : decode c_R_oneDue 150 = .ok (.ifCond .ge 11, 3) := by decide +kernel
theorem d_R_oneDue_153 : decode c_R_oneDue 153 = .ok (.aload_n 0, 1) := by decide +kernel
theorem d_R_oneDue_154 : decode c_R_oneDue 154 = .ok (.iload_n 1, 1) := by decide +kernel
theorem d_R_oneDue_155 : decode c_R_oneDue 155 = .ok (.bipush 98, 2) := by decide +kernel
theorem d_R_oneDue_157 : decode c_R_oneDue 157 = .ok (.invokevirtual 170, 3) := by decide +kernel
theorem d_R_oneDue_160 : decode c_R_oneDue 160 = .ok (.pop, 1) := by decide +kernel
theorem d_R_oneDue_161 : decode c_R_oneDue 161 = .ok (.iconst 1, 1) := by decide +kernel
theorem d_R_oneDue_162 : decode c_R_oneDue 162 = .ok (.ireturn, 1) := by decide +kernel
theorem d_R_resume_0 : decode c_R_resume 0 = .ok (.aload_n 0, 1) := by decide +kernel
theorem d_R_resume_1 : decode c_R_resume 1 = .ok (.aload_n 0, 1) := by decide +kernel
theorem d_R_resume_2 : decode c_R_resume 2 = .ok (.getfield 81, 3) := by decide +kernel
theorem d_R_resume_5 : decode c_R_resume 5 = .ok (.iload_n 1, 1) := by decide +kernel
theorem d_R_resume_6 : decode c_R_resume 6 = .ok (.iaload, 1) := by decide +kernel
theorem d_R_resume_7 : decode c_R_resume 7 = .ok (.putfield 34, 3) := by decide +kernel
theorem d_R_resume_10 : decode c_R_resume 10 = .ok (.aload_n 0, 1) := by decide +kernel
theorem d_R_resume_11 : decode c_R_resume 11 = .ok (.iconst 0, 1) := by decide +kernel
theorem d_R_resume_12 : decode c_R_resume 12 = .ok (.putfield 37, 3) := by decide +kernel
theorem d_R_resume_15 : decode c_R_resume 15 = .ok (.aload_n 0, 1) := by decide +kernel
theorem d_R_resume_16 : decode c_R_resume 16 = .ok (.iconst 0, 1) := by decide +kernel
theorem d_R_resume_17 : decode c_R_resume 17 = .ok (.putfield 40, 3) := by decide +kernel
theorem d_R_resume_20 : decode c_R_resume 20 = .ok (.aload_n 0, 1) := by decide +kernel
theorem d_R_resume_21 : decode c_R_resume 21 = .ok (.getfield 40, 3) := by decide +kernel
theorem d_R_resume_24 : decode c_R_resume 24 = .ok (.ifCond .ne 95, 3) := by decide +kernel
theorem d_R_resume_27 : decode c_R_resume 27 = .ok (.iload_n 1, 1) := by decide +kernel
theorem d_R_resume_28 : decode c_R_resume 28 = .ok (.bipush 6, 2) := by decide +kernel
theorem d_R_resume_30 : decode c_R_resume 30 = .ok (.imul, 1) := by decide +kernel
theorem d_R_resume_31 : decode c_R_resume 31 = .ok (.aload_n 0, 1) := by decide +kernel
theorem d_R_resume_32 : decode c_R_resume 32 = .ok (.getfield 75, 3) := by decide +kernel
theorem d_R_resume_35 : decode c_R_resume 35 = .ok (.iload_n 1, 1) := by decide +kernel
theorem d_R_resume_36 : decode c_R_resume 36 = .ok (.iaload, 1) := by decide +kernel
theorem d_R_resume_37 : decode c_R_resume 37 = .ok (.iadd, 1) := by decide +kernel
theorem d_R_resume_38 : decode c_R_resume 38 = .ok (.iconst 1, 1) := by decide +kernel
theorem d_R_resume_39 : decode c_R_resume 39 = .ok (.isub, 1) := by decide +kernel
theorem d_R_resume_40 : decode c_R_resume 40 = .ok (.istore_n 2, 1) := by decide +kernel
theorem d_R_resume_41 : decode c_R_resume 41 = .ok (.aload_n 0, 1) := by decide +kernel
theorem d_R_resume_42 : decode c_R_resume 42 = .ok (.getfield 34, 3) := by decide +kernel
theorem d_R_resume_45 : decode c_R_resume 45 = .ok (.ifCond .lt 15, 3) := by decide +kernel
theorem d_R_resume_48 : decode c_R_resume 48 = .ok (.aload_n 0, 1) := by decide +kernel
theorem d_R_resume_49 : decode c_R_resume 49 = .ok (.iload_n 1, 1) := by decide +kernel
theorem d_R_resume_50 : decode c_R_resume 50 = .ok (.aload_n 0, 1) := by decide +kernel
theorem d_R_resume_51 : decode c_R_resume 51 = .ok (.getfield 34, 3) := by decide +kernel
theorem d_R_resume_54 : decode c_R_resume 54 = .ok (.invokevirtual 204, 3) := by decide +kernel
theorem d_R_resume_57 : decode c_R_resume 57 = .ok (.goto 59, 3) := by decide +kernel
theorem d_R_resume_60 : decode c_R_resume 60 = .ok (.aload_n 0, 1) := by decide +kernel
theorem d_R_resume_61 : decode c_R_resume 61 = .ok (.getfield 115, 3) := by decide +kernel
theorem d_R_resume_64 : decode c_R_resume 64 = .ok (.iload_n 2, 1) := by decide +kernel
theorem d_R_resume_65 : decode c_R_resume 65 = .ok (.iaload, 1) := by decide +kernel
theorem d_R_resume_66 : decode c_R_resume 66 = .ok (.aload_n 0, 1) := by decide +kernel
theorem d_R_resume_67 : decode c_R_resume 67 = .ok (.getfield 44, 3) := by decide +kernel
theorem d_R_resume_70 : decode c_R_resume 70 = .ok (.aload_n 0, 1) := by decide +kernel
theorem d_R_resume_71 : decode c_R_resume 71 = .ok (.getfield 112, 3) := by decide +kernel
theorem d_R_resume_74 : decode c_R_resume 74 = .ok (.iload_n 2, 1) := by decide +kernel
theorem d_R_resume_75 : decode c_R_resume 75 = .ok (.iaload, 1) := by decide +kernel
theorem d_R_resume_76 : decode c_R_resume 76 = .ok (.iaload, 1) := by decide +kernel
theorem d_R_resume_77 : decode c_R_resume 77 = .ok (.if_icmp .lt 11, 3) := by decide +kernel
theorem d_R_resume_80 : decode c_R_resume 80 = .ok (.aload_n 0, 1) := by decide +kernel
theorem d_R_resume_81 : decode c_R_resume 81 = .ok (.iload_n 1, 1) := by decide +kernel
theorem d_R_resume_82 : decode c_R_resume 82 = .ok (.invokevirtual 207, 3) := by decide +kernel
theorem d_R_resume_85 : decode c_R_resume 85 = .ok (.goto 31, 3) := by decide +kernel
theorem d_R_resume_88 : decode c_R_resume 88 = .ok (.aload_n 0, 1) := by decide +kernel
theorem d_R_resume_89 : decode c_R_resume 89 = .ok (.getfield 37, 3) := by decide +kernel
theorem d_R_resume_92 : decode c_R_resume 92 = .ok (.bipush 60, 2) := by decide +kernel
theorem d_R_resume_94 : decode c_R_resume 94 = .ok (.if_icmp .ge 11, 3) := by decide +kernel
theorem d_R_resume_97 : decode c_R_resume 97 = .ok (.aload_n 0, 1) := by decide +kernel
theorem d_R_resume_98 : decode c_R_resume 98 = .ok (.iload_n 1, 1) := by decide +kernel
theorem d_R_resume_99 : decode c_R_resume 99 = .ok (.invokevirtual 210, 3) := by decide +kernel
theorem d_R_resume_102 : decode c_R_resume 102 = .ok (.goto 14, 3) := by decide +kernel
theorem d_R_resume_105 : decode c_R_resume 105 = .ok (.aload_n 0, 1) := by decide +kernel
theorem d_R_resume_106 : decode c_R_resume 106 = .ok (.iload_n 1, 1) := by decide +kernel
theorem d_R_resume_107 : decode c_R_resume 107 = .ok (.iconst (-1), 1) := by decide +kernel
theorem d_R_resume_108 : decode c_R_resume 108 = .ok (.invokevirtual 154, 3) := by decide +kernel
theorem d_R_resume_111 : decode c_R_resume 111 = .ok (.aload_n 0, 1) := by decide +kernel
theorem d_R_resume_112 : decode c_R_resume 112 = .ok (.iconst 1, 1) := by decide +kernel
theorem d_R_resume_113 : decode c_R_resume 113 = .ok (.putfield 40, 3) := by decide +kernel
theorem d_R_resume_116 : decode c_R_resume 116 = .ok (.goto (-96), 3) := by decide +kernel
theorem d_R_resume_119 : decode c_R_resume 119 = .ok (.return_, 1) := by decide +kernel
theorem d_R_throwAt_0 : decode c_R_throwAt 0 = .ok (.iload_n 1, 1) := by decide +kernel
theorem d_R_throwAt_1 : decode c_R_throwAt 1 = .ok (.bipush 6, 2) := by decide +kernel
theorem d_R_throwAt_3 : decode c_R_throwAt 3 = .ok (.imul, 1) := by decide +kernel
theorem d_R_throwAt_4 : decode c_R_throwAt 4 = .ok (.aload_n 0, 1) := by decide +kernel
theorem d_R_throwAt_5 : decode c_R_throwAt 5 = .ok (.getfield 75, 3) := by decide +kernel
theorem d_R_throwAt_8 : decode c_R_throwAt 8 = .ok (.iload_n 1, 1) := by decide +kernel
theorem d_R_throwAt_9 : decode c_R_throwAt 9 = .ok (.iaload, 1) := by decide +kernel
theorem d_R_throwAt_10 : decode c_R_throwAt 10 = .ok (.iadd, 1) := by decide +kernel
theorem d_R_throwAt_11 : decode c_R_throwAt 11 = .ok (.iconst 1, 1) := by decide +kernel
theorem d_R_throwAt_12 : decode c_R_throwAt 12 = .ok (.isub, 1) := by decide +kernel
theorem d_R_throwAt_13 : decode c_R_throwAt 13 = .ok (.istore_n 3, 1) := by decide +kernel
theorem d_R_throwAt_14 : decode c_R_throwAt 14 = .ok (.aload_n 0, 1) := by decide +kernel
theorem d_R_throwAt_15 : decode c_R_throwAt 15 = .ok (.getfield 118, 3) := by decide +kernel
theorem d_R_throwAt_18 : decode c_R_throwAt 18 = .ok (.iload_n 3, 1) := by decide +kernel
theorem d_R_throwAt_19 : decode c_R_throwAt 19 = .ok (.iaload, 1) := by decide +kernel
theorem d_R_throwAt_20 : decode c_R_throwAt 20 = .ok (.istore 4, 2) := by decide +kernel
theorem d_R_throwAt_22 : decode c_R_throwAt 22 = .ok (.aload_n 0, 1) := by decide +kernel
theorem d_R_throwAt_23 : decode c_R_throwAt 23 = .ok (.iload_n 2, 1) := by decide +kernel
theorem d_R_throwAt_24 : decode c_R_throwAt 24 = .ok (.putfield 34, 3) := by decide +kernel
theorem d_R_throwAt_27 : decode c_R_throwAt 27 = .ok (.aload_n 0, 1) := by decide +kernel
theorem d_R_throwAt_28 : decode c_R_throwAt 28 = .ok (.getfield 75, 3) := by decide +kernel
theorem d_R_throwAt_31 : decode c_R_throwAt 31 = .ok (.iload_n 1, 1) := by decide +kernel
theorem d_R_throwAt_32 : decode c_R_throwAt 32 = .ok (.dup2, 1) := by decide +kernel
theorem d_R_throwAt_33 : decode c_R_throwAt 33 = .ok (.iaload, 1) := by decide +kernel
theorem d_R_throwAt_34 : decode c_R_throwAt 34 = .ok (.iconst 1, 1) := by decide +kernel
theorem d_R_throwAt_35 : decode c_R_throwAt 35 = .ok (.isub, 1) := by decide +kernel
theorem d_R_throwAt_36 : decode c_R_throwAt 36 = .ok (.iastore, 1) := by decide +kernel
theorem d_R_throwAt_37 : decode c_R_throwAt 37 = .ok (.iload 4, 2) := by decide +kernel
theorem d_R_throwAt_39 : decode c_R_throwAt 39 = .ok (.ifCond .ne 23, 3) := by decide +kernel
theorem d_R_throwAt_42 : decode c_R_throwAt 42 = .ok (.aload_n 0, 1) := by decide +kernel
theorem d_R_throwAt_43 : decode c_R_throwAt 43 = .ok (.iconst (-1), 1) := by decide +kernel
theorem d_R_throwAt_44 : decode c_R_throwAt 44 = .ok (.putfield 34, 3) := by decide +kernel
theorem d_R_throwAt_47 : decode c_R_throwAt 47 = .ok (.aload_n 0, 1) := by decide +kernel
theorem d_R_throwAt_48 : decode c_R_throwAt 48 = .ok (.iload_n 1, 1) := by decide +kernel
theorem d_R_throwAt_49 : decode c_R_throwAt 49 = .ok (.iload_n 2, 1) := by decide +kernel
theorem d_R_throwAt_50 : decode c_R_throwAt 50 = .ok (.invokevirtual 170, 3) := by decide +kernel
theorem d_R_throwAt_53 : decode c_R_throwAt 53 = .ok (.pop, 1) := by decide +kernel
theorem d_R_throwAt_54 : decode c_R_throwAt 54 = .ok (.aload_n 0, 1) := by decide +kernel
theorem d_R_throwAt_55 : decode c_R_throwAt 55 = .ok (.iload_n 1, 1) := by decide +kernel
theorem d_R_throwAt_56 : decode c_R_throwAt 56 = .ok (.invokevirtual 187, 3) := by decide +kernel
theorem d_R_throwAt_59 : decode c_R_throwAt 59 = .ok (.goto 68, 3) := by decide +kernel
theorem d_R_throwAt_62 : decode c_R_throwAt 62 = .ok (.iload 4, 2) := by decide +kernel
theorem d_R_throwAt_64 : decode c_R_throwAt 64 = .ok (.iconst 1, 1) := by decide +kernel
theorem d_R_throwAt_65 : decode c_R_throwAt 65 = .ok (.if_icmp .ne 37, 3) := by decide +kernel
theorem d_R_throwAt_68 : decode c_R_throwAt 68 = .ok (.iload_n 2, 1) := by decide +kernel
theorem d_R_throwAt_69 : decode c_R_throwAt 69 = .ok (.ifCond .le 33, 3) := by decide +kernel
theorem d_R_throwAt_72 : decode c_R_throwAt 72 = .ok (.aload_n 0, 1) := by decide +kernel
theorem d_R_throwAt_73 : decode c_R_throwAt 73 = .ok (.iconst (-1), 1) := by decide +kernel
theorem d_R_throwAt_74 : decode c_R_throwAt 74 = .ok (.putfield 34, 3) := by decide +kernel
theorem d_R_throwAt_77 : decode c_R_throwAt 77 = .ok (.aload_n 0, 1) := by decide +kernel
theorem d_R_throwAt_78 : decode c_R_throwAt 78 = .ok (.bipush 100, 2) := by decide +kernel
theorem d_R_throwAt_80 : decode c_R_throwAt 80 = .ok (.iload_n 2, 1) := by decide +kernel
theorem d_R_throwAt_81 : decode c_R_throwAt 81 = .ok (.iadd, 1) := by decide +kernel
theorem d_R_throwAt_82 : decode c_R_throwAt 82 = .ok (.invokevirtual 180, 3) := by decide +kernel
theorem d_R_throwAt_85 : decode c_R_throwAt 85 = .ok (.aload_n 0, 1) := by decide +kernel
theorem d_R_throwAt_86 : decode c_R_throwAt 86 = .ok (.iload_n 1, 1) := by decide +kernel
theorem d_R_throwAt_87 : decode c_R_throwAt 87 = .ok (.aload_n 0, 1) := by decide +kernel
theorem d_R_throwAt_88 : decode c_R_throwAt 88 = .ok (.getfield 121, 3) := by decide +kernel
theorem d_R_throwAt_91 : decode c_R_throwAt 91 = .ok (.iload_n 3, 1) := by decide +kernel
theorem d_R_throwAt_92 : decode c_R_throwAt 92 = .ok (.iaload, 1) := by decide +kernel
theorem d_R_throwAt_93 : decode c_R_throwAt 93 = .ok (.iconst 5, 1) := by decide +kernel
theorem d_R_throwAt_94 : decode c_R_throwAt 94 = .ok (.iconst 0, 1) := by decide +kernel
theorem d_R_throwAt_95 : decode c_R_throwAt 95 = .ok (.iconst (-1), 1) := by decide +kernel
theorem d_R_throwAt_96 : decode c_R_throwAt 96 = .ok (.invokevirtual 150, 3) := by decide +kernel
theorem d_R_throwAt_99 : decode c_R_throwAt 99 = .ok (.goto 28, 3) := by decide +kernel
theorem d_R_throwAt_102 : decode c_R_throwAt 102 = .ok (.iload 4, 2) := by decide +kernel
theorem d_R_throwAt_104 : decode c_R_throwAt 104 = .ok (.iconst 2, 1) := by decide +kernel
theorem d_R_throwAt_105 : decode c_R_throwAt 105 = .ok (.if_icmp .ne 22, 3) := by decide +kernel
theorem d_R_throwAt_108 : decode c_R_throwAt 108 = .ok (.aload_n 0, 1) := by decide +kernel
theorem d_R_throwAt_109 : decode c_R_throwAt 109 = .ok (.iconst (-1), 1) := by decide +kernel
theorem d_R_throwAt_110 : decode c_R_throwAt 110 = .ok (.putfield 34, 3) := by decide +kernel
theorem d_R_throwAt_113 : decode c_R_throwAt 113 = .ok (.aload_n 0, 1) := by decide +kernel
theorem d_R_throwAt_114 : decode c_R_throwAt 114 = .ok (.iload_n 1, 1) := by decide +kernel
theorem d_R_throwAt_115 : decode c_R_throwAt 115 = .ok (.aload_n 0, 1) := by decide +kernel
theorem d_R_throwAt_116 : decode c_R_throwAt 116 = .ok (.getfield 121, 3) := by decide +kernel
theorem d_R_throwAt_119 : decode c_R_throwAt 119 = .ok (.iload_n 3, 1) := by decide +kernel
theorem d_R_throwAt_120 : decode c_R_throwAt 120 = .ok (.iaload, 1) := by decide +kernel
theorem d_R_throwAt_121 : decode c_R_throwAt 121 = .ok (.iconst 3, 1) := by decide +kernel
theorem d_R_throwAt_122 : decode c_R_throwAt 122 = .ok (.iconst 0, 1) := by decide +kernel
theorem d_R_throwAt_123 : decode c_R_throwAt 123 = .ok (.iload_n 2, 1) := by decide +kernel
theorem d_R_throwAt_124 : decode c_R_throwAt 124 = .ok (.invokevirtual 150, 3) := by decide +kernel
theorem d_R_throwAt_127 : decode c_R_throwAt 127 = .ok (.return_, 1) := by decide +kernel
theorem d_R_bodyEnds_0 : decode c_R_bodyEnds 0 = .ok (.aload_n 0, 1) := by decide +kernel
theorem d_R_bodyEnds_1 : decode c_R_bodyEnds 1 = .ok (.getfield 75, 3) := by decide +kernel
theorem d_R_bodyEnds_4 : decode c_R_bodyEnds 4 = .ok (.iload_n 1, 1) := by decide +kernel
theorem d_R_bodyEnds_5 : decode c_R_bodyEnds 5 = .ok (.iconst 0, 1) := by decide +kernel
theorem d_R_bodyEnds_6 : decode c_R_bodyEnds 6 = .ok (.iastore, 1) := by decide +kernel
theorem d_R_bodyEnds_7 : decode c_R_bodyEnds 7 = .ok (.aload_n 0, 1) := by decide +kernel
theorem d_R_bodyEnds_8 : decode c_R_bodyEnds 8 = .ok (.getfield 84, 3) := by decide +kernel
theorem d_R_bodyEnds_11 : decode c_R_bodyEnds 11 = .ok (.iload_n 1, 1) := by decide +kernel
theorem d_R_bodyEnds_12 : decode c_R_bodyEnds 12 = .ok (.iconst 1, 1) := by decide +kernel
theorem d_R_bodyEnds_13 : decode c_R_bodyEnds 13 = .ok (.bastore, 1) := by decide +kernel
theorem d_R_bodyEnds_14 : decode c_R_bodyEnds 14 = .ok (.aload_n 0, 1) := by decide +kernel
theorem d_R_bodyEnds_15 : decode c_R_bodyEnds 15 = .ok (.iconst 1, 1) := by decide +kernel
theorem d_R_bodyEnds_16 : decode c_R_bodyEnds 16 = .ok (.putfield 40, 3) := by decide +kernel
theorem d_R_bodyEnds_19 : decode c_R_bodyEnds 19 = .ok (.aload_n 0, 1) := by decide +kernel
theorem d_R_bodyEnds_20 : decode c_R_bodyEnds 20 = .ok (.iload_n 1, 1) := by decide +kernel
theorem d_R_bodyEnds_21 : decode c_R_bodyEnds 21 = .ok (.invokevirtual 184, 3) := by decide +kernel
theorem d_R_bodyEnds_24 : decode c_R_bodyEnds 24 = .ok (.return_, 1) := by decide +kernel
theorem d_R_finish_0 : decode c_R_finish 0 = .ok (.iload_n 1, 1) := by decide +kernel
theorem d_R_finish_1 : decode c_R_finish 1 = .ok (.istore_n 2, 1) := by decide +kernel
theorem d_R_finish_2 : decode c_R_finish 2 = .ok (.iload_n 2, 1) := by decide +kernel
theorem d_R_finish_3 : decode c_R_finish 3 = .ok (.ifCond .lt 180, 3) := by decide +kernel
theorem d_R_finish_6 : decode c_R_finish 6 = .ok (.aload_n 0, 1) := by decide +kernel
theorem d_R_finish_7 : decode c_R_finish 7 = .ok (.getfield 88, 3) := by decide +kernel
theorem d_R_finish_10 : decode c_R_finish 10 = .ok (.iload_n 2, 1) := by decide +kernel
theorem d_R_finish_11 : decode c_R_finish 11 = .ok (.baload, 1) := by decide +kernel
theorem d_R_finish_12 : decode c_R_finish 12 = .ok (.ifCond .ne 171, 3) := by decide +kernel
theorem d_R_finish_15 : decode c_R_finish 15 = .ok (.aload_n 0, 1) := by decide +kernel
theorem d_R_finish_16 : decode c_R_finish 16 = .ok (.getfield 84, 3) := by decide +kernel
theorem d_R_finish_19 : decode c_R_finish 19 = .ok (.iload_n 2, 1) := by decide +kernel
theorem d_R_finish_20 : decode c_R_finish 20 = .ok (.baload, 1) := by decide +kernel
theorem d_R_finish_21 : decode c_R_finish 21 = .ok (.ifCond .eq 162, 3) := by decide +kernel
theorem d_R_finish_24 : decode c_R_finish 24 = .ok (.aload_n 0, 1) := by decide +kernel
theorem d_R_finish_25 : decode c_R_finish 25 = .ok (.iload_n 2, 1) := by decide +kernel
theorem d_R_finish_26 : decode c_R_finish 26 = .ok (.iconst 0, 1) := by decide +kernel
theorem d_R_finish_27 : decode c_R_finish 27 = .ok (.invokevirtual 162, 3) := by decide +kernel
theorem d_R_finish_30 : decode c_R_finish 30 = .ok (.ifCond .ge 153, 3) := by decide +kernel
theorem d_R_finish_33 : decode c_R_finish 33 = .ok (.aload_n 0, 1) := by decide +kernel
theorem d_R_finish_34 : decode c_R_finish 34 = .ok (.getfield 88, 3) := by decide +kernel
theorem d_R_finish_37 : decode c_R_finish 37 = .ok (.iload_n 2, 1) := by decide +kernel
theorem d_R_finish_38 : decode c_R_finish 38 = .ok (.iconst 1, 1) := by decide +kernel
theorem d_R_finish_39 : decode c_R_finish 39 = .ok (.bastore, 1) := by decide +kernel
theorem d_R_finish_40 : decode c_R_finish 40 = .ok (.aload_n 0, 1) := by decide +kernel
theorem d_R_finish_41 : decode c_R_finish 41 = .ok (.getfield 60, 3) := by decide +kernel
theorem d_R_finish_44 : decode c_R_finish 44 = .ok (.iload_n 2, 1) := by decide +kernel
theorem d_R_finish_45 : decode c_R_finish 45 = .ok (.iaload, 1) := by decide +kernel
theorem d_R_finish_46 : decode c_R_finish 46 = .ok (.istore_n 3, 1) := by decide +kernel
theorem d_R_finish_47 : decode c_R_finish 47 = .ok (.aload_n 0, 1) := by decide +kernel
theorem d_R_finish_48 : decode c_R_finish 48 = .ok (.iload_n 2, 1) := by decide +kernel
theorem d_R_finish_49 : decode c_R_finish 49 = .ok (.invokevirtual 174, 3) := by decide +kernel
theorem d_R_finish_52 : decode c_R_finish 52 = .ok (.istore 4, 2) := by decide +kernel
theorem d_R_finish_54 : decode c_R_finish 54 = .ok (.iload 4, 2) := by decide +kernel
theorem d_R_finish_56 : decode c_R_finish 56 = .ok (.ifCond .lt 20, 3) := by decide +kernel
theorem d_R_finish_59 : decode c_R_finish 59 = .ok (.aload_n 0, 1) := by decide +kernel
theorem d_R_finish_60 : decode c_R_finish 60 = .ok (.iload 4, 2) := by decide +kernel
theorem d_R_finish_62 : decode c_R_finish 62 = .ok (.iload_n 2, 1) := by decide +kernel
theorem d_R_finish_63 : decode c_R_finish 63 = .ok (.invokevirtual 177, 3) := by decide +kernel
theorem d_R_finish_66 : decode c_R_finish 66 = .ok (.aload_n 0, 1) := by decide +kernel
theorem d_R_finish_67 : decode c_R_finish 67 = .ok (.iload_n 2, 1) := by decide +kernel
theorem d_R_finish_68 : decode c_R_finish 68 = .ok (.invokevirtual 174, 3) := by decide +kernel
theorem d_R_finish_71 : decode c_R_finish 71 = .ok (.istore 4, 2) := by decide +kernel
theorem d_R_finish_73 : decode c_R_finish 73 = .ok (.goto (-19), 3) := by decide +kernel
theorem d_R_finish_76 : decode c_R_finish 76 = .ok (.aload_n 0, 1) := by decide +kernel
theorem d_R_finish_77 : decode c_R_finish 77 = .ok (.getfield 63, 3) := by decide +kernel
theorem d_R_finish_80 : decode c_R_finish 80 = .ok (.iload_n 2, 1) := by decide +kernel
theorem d_R_finish_81 : decode c_R_finish 81 = .ok (.iaload, 1) := by decide +kernel
theorem d_R_finish_82 : decode c_R_finish 82 = .ok (.iconst 1, 1) := by decide +kernel
theorem d_R_finish_83 : decode c_R_finish 83 = .ok (.if_icmp .le 9, 3) := by decide +kernel
theorem d_R_finish_86 : decode c_R_finish 86 = .ok (.aload_n 0, 1) := by decide +kernel
theorem d_R_finish_87 : decode c_R_finish 87 = .ok (.iload_n 3, 1) := by decide +kernel
theorem d_R_finish_88 : decode c_R_finish 88 = .ok (.iload_n 2, 1) := by decide +kernel
theorem d_R_finish_89 : decode c_R_finish 89 = .ok (.invokevirtual 177, 3) := by decide +kernel
theorem d_R_finish_92 : decode c_R_finish 92 = .ok (.aload_n 0, 1) := by decide +kernel
theorem d_R_finish_93 : decode c_R_finish 93 = .ok (.getfield 69, 3) := by decide +kernel
theorem d_R_finish_96 : decode c_R_finish 96 = .ok (.iload_n 2, 1) := by decide +kernel
theorem d_R_finish_97 : decode c_R_finish 97 = .ok (.iaload, 1) := by decide +kernel
theorem d_R_finish_98 : decode c_R_finish 98 = .ok (.ifCond .le 49, 3) := by decide +kernel
theorem d_R_finish_101 : decode c_R_finish 101 = .ok (.aload_n 0, 1) := by decide +kernel
theorem d_R_finish_102 : decode c_R_finish 102 = .ok (.getfield 63, 3) := by decide +kernel
theorem d_R_finish_105 : decode c_R_finish 105 = .ok (.iload_n 2, 1) := by decide +kernel
theorem d_R_finish_106 : decode c_R_finish 106 = .ok (.iaload, 1) := by decide +kernel
theorem d_R_finish_107 : decode c_R_finish 107 = .ok (.ifCond .eq 23, 3) := by decide +kernel
theorem d_R_finish_110 : decode c_R_finish 110 = .ok (.aload_n 0, 1) := by decide +kernel
theorem d_R_finish_111 : decode c_R_finish 111 = .ok (.getfield 63, 3) := by decide +kernel
theorem d_R_finish_114 : decode c_R_finish 114 = .ok (.iload_n 2, 1) := by decide +kernel
theorem d_R_finish_115 : decode c_R_finish 115 = .ok (.iaload, 1) := by decide +kernel
theorem d_R_finish_116 : decode c_R_finish 116 = .ok (.iconst 1, 1) := by decide +kernel
theorem d_R_finish_117 : decode c_R_finish 117 = .ok (.if_icmp .ne 30, 3) := by decide +kernel
theorem d_R_finish_120 : decode c_R_finish 120 = .ok (.aload_n 0, 1) := by decide +kernel
theorem d_R_finish_121 : decode c_R_finish 121 = .ok (.getfield 63, 3) := by decide +kernel
theorem d_R_finish_124 : decode c_R_finish 124 = .ok (.iload_n 3, 1) := by decide +kernel
theorem d_R_finish_125 : decode c_R_finish 125 = .ok (.iaload, 1) := by decide +kernel
theorem d_R_finish_126 : decode c_R_finish 126 = .ok (.iconst 3, 1) := by decide +kernel
theorem d_R_finish_127 : decode c_R_finish 127 = .ok (.if_icmp .ne 20, 3) := by decide +kernel
theorem d_R_finish_130 : decode c_R_finish 130 = .ok (.aload_n 0, 1) := by decide +kernel
theorem d_R_finish_131 : decode c_R_finish 131 = .ok (.sipush 200, 3) := by decide +kernel
theorem d_R_finish_134 : decode c_R_finish 134 = .ok (.aload_n 0, 1) := by decide +kernel
theorem d_R_finish_135 : decode c_R_finish 135 = .ok (.getfield 69, 3) := by decide +kernel
theorem d_R_finish_138 : decode c_R_finish 138 = .ok (.iload_n 2, 1) := by decide +kernel
theorem d_R_finish_139 : decode c_R_finish 139 = .ok (.iaload, 1) := by decide +kernel
theorem d_R_finish_140 : decode c_R_finish 140 = .ok (.iadd, 1) := by decide +kernel
theorem d_R_finish_141 : decode c_R_finish 141 = .ok (.invokevirtual 180, 3) := by decide +kernel
theorem d_R_finish_144 : decode c_R_finish 144 = .ok (.goto 34, 3) := by decide +kernel
theorem d_R_finish_147 : decode c_R_finish 147 = .ok (.aload_n 0, 1) := by decide +kernel
theorem d_R_finish_148 : decode c_R_finish 148 = .ok (.getfield 69, 3) := by decide +kernel
theorem d_R_finish_151 : decode c_R_finish 151 = .ok (.iload_n 2, 1) := by decide +kernel
theorem d_R_finish_152 : decode c_R_finish 152 = .ok (.iaload, 1) := by decide +kernel
theorem d_R_finish_153 : decode c_R_finish 153 = .ok (.ifCond .le 25, 3) := by decide +kernel
theorem d_R_finish_156 : decode c_R_finish 156 = .ok (.aload_n 0, 1) := by decide +kernel
theorem d_R_finish_157 : decode c_R_finish 157 = .ok (.getfield 63, 3) := by decide +kernel
theorem d_R_finish_160 : decode c_R_finish 160 = .ok (.iload_n 2, 1) := by decide +kernel
theorem d_R_finish_161 : decode c_R_finish 161 = .ok (.iaload, 1) := by decide +kernel
theorem d_R_finish_162 : decode c_R_finish 162 = .ok (.iconst 1, 1) := by decide +kernel
theorem d_R_finish_163 : decode c_R_finish 163 = .ok (.if_icmp .ne 15, 3) := by decide +kernel
theorem d_R_finish_166 : decode c_R_finish 166 = .ok (.aload_n 0, 1) := by decide +kernel
theorem d_R_finish_167 : decode c_R_finish 167 = .ok (.iload_n 3, 1) := by decide +kernel
theorem d_R_finish_168 : decode c_R_finish 168 = .ok (.aload_n 0, 1) := by decide +kernel
theorem d_R_finish_169 : decode c_R_finish 169 = .ok (.getfield 69, 3) := by decide +kernel
theorem d_R_finish_172 : decode c_R_finish 172 = .ok (.iload_n 2, 1) := by decide +kernel
theorem d_R_finish_173 : decode c_R_finish 173 = .ok (.iaload, 1) := by decide +kernel
theorem d_R_finish_174 : decode c_R_finish 174 = .ok (.invokevirtual 170, 3) := by decide +kernel
theorem d_R_finish_177 : decode c_R_finish 177 = .ok (.pop, 1) := by decide +kernel
theorem d_R_finish_178 : decode c_R_finish 178 = .ok (.iload_n 3, 1) := by decide +kernel
theorem d_R_finish_179 : decode c_R_finish 179 = .ok (.istore_n 2, 1) := by decide +kernel
theorem d_R_finish_180 : decode c_R_finish 180 = .ok (.goto (-178), 3) := by decide +kernel
theorem d_R_finish_183 : decode c_R_finish 183 = .ok (.return_, 1) := by decide +kernel
theorem d_R_firstWaiter_0 : decode c_R_firstWaiter 0 = .ok (.iconst (-1), 1) := by decide +kernel
theorem d_R_firstWaiter_1 : decode c_R_firstWaiter 1 = .ok (.istore_n 2, 1) := by decide +kernel
theorem d_R_firstWaiter_2 : decode c_R_firstWaiter 2 = .ok (.iconst 0, 1) := by decide +kernel
theorem d_R_firstWaiter_3 : decode c_R_firstWaiter 3 = .ok (.istore_n 3, 1) := by decide +kernel
theorem d_R_firstWaiter_4 : decode c_R_firstWaiter 4 = .ok (.iload_n 3, 1) := by decide +kernel
theorem d_R_firstWaiter_5 : decode c_R_firstWaiter 5 = .ok (.aload_n 0, 1) := by decide +kernel
theorem d_R_firstWaiter_6 : decode c_R_firstWaiter 6 = .ok (.getfield 13, 3) := by decide +kernel
theorem d_R_firstWaiter_9 : decode c_R_firstWaiter 9 = .ok (.if_icmp .ge 60, 3) := by decide +kernel
theorem d_R_firstWaiter_12 : decode c_R_firstWaiter 12 = .ok (.aload_n 0, 1) := by decide +kernel
theorem d_R_firstWaiter_13 : decode c_R_firstWaiter 13 = .ok (.getfield 91, 3) := by decide +kernel
theorem d_R_firstWaiter_16 : decode c_R_firstWaiter 16 = .ok (.iload_n 3, 1) := by decide +kernel
theorem d_R_firstWaiter_17 : decode c_R_firstWaiter 17 = .ok (.iaload, 1) := by decide +kernel
theorem d_R_firstWaiter_18 : decode c_R_firstWaiter 18 = .ok (.iconst 4, 1) := by decide +kernel
theorem d_R_firstWaiter_19 : decode c_R_firstWaiter 19 = .ok (.if_icmp .eq 13, 3) := by decide +kernel
theorem d_R_firstWaiter_22 : decode c_R_firstWaiter 22 = .ok (.aload_n 0, 1) := by decide +kernel
theorem d_R_firstWaiter_23 : decode c_R_firstWaiter 23 = .ok (.getfield 91, 3) := by decide +kernel
theorem d_R_firstWaiter_26 : decode c_R_firstWaiter 26 = .ok (.iload_n 3, 1) := by decide +kernel
theorem d_R_firstWaiter_27 : decode c_R_firstWaiter 27 = .ok (.iaload, 1) := by decide +kernel
theorem d_R_firstWaiter_28 : decode c_R_firstWaiter 28 = .ok (.iconst 5, 1) := by decide +kernel
theorem d_R_firstWaiter_29 : decode c_R_firstWaiter 29 = .ok (.if_icmp .ne 34, 3) := by decide +kernel
theorem d_R_firstWaiter_32 : decode c_R_firstWaiter 32 = .ok (.aload_n 0, 1) := by decide +kernel
theorem d_R_firstWaiter_33 : decode c_R_firstWaiter 33 = .ok (.getfield 94, 3) := by decide +kernel
theorem d_R_firstWaiter_36 : decode c_R_firstWaiter 36 = .ok (.iload_n 3, 1) := by decide +kernel
theorem d_R_firstWaiter_37 : decode c_R_firstWaiter 37 = .ok (.iaload, 1) := by decide +kernel
theorem d_R_firstWaiter_38 : decode c_R_firstWaiter 38 = .ok (.iload_n 1, 1) := by decide +kernel
theorem d_R_firstWaiter_39 : decode c_R_firstWaiter 39 = .ok (.if_icmp .ne 24, 3) := by decide +kernel
theorem d_R_firstWaiter_42 : decode c_R_firstWaiter 42 = .ok (.iload_n 2, 1) := by decide +kernel
theorem d_R_firstWaiter_43 : decode c_R_firstWaiter 43 = .ok (.ifCond .lt 18, 3) := by decide +kernel
theorem d_R_firstWaiter_46 : decode c_R_firstWaiter 46 = .ok (.aload_n 0, 1) := by decide +kernel
theorem d_R_firstWaiter_47 : decode c_R_firstWaiter 47 = .ok (.getfield 97, 3) := by decide +kernel
theorem d_R_firstWaiter_50 : decode c_R_firstWaiter 50 = .ok (.iload_n 3, 1) := by decide +kernel
theorem d_R_firstWaiter_51 : decode c_R_firstWaiter 51 = .ok (.iaload, 1) := by decide +kernel
theorem d_R_firstWaiter_52 : decode c_R_firstWaiter 52 = .ok (.aload_n 0, 1) := by decide +kernel
theorem d_R_firstWaiter_53 : decode c_R_firstWaiter 53 = .ok (.getfield 97, 3) := by decide +kernel
theorem d_R_firstWaiter_56 : decode c_R_firstWaiter 56 = .ok (.iload_n 2, 1) := by decide +kernel
theorem d_R_firstWaiter_57 : decode c_R_firstWaiter 57 = .ok (.iaload, 1) := by decide +kernel
theorem d_R_firstWaiter_58 : decode c_R_firstWaiter 58 = .ok (.if_icmp .ge 5, 3) := by decide +kernel
theorem d_R_firstWaiter_61 : decode c_R_firstWaiter 61 = .ok (.iload_n 3, 1) := by decide +kernel
theorem d_R_firstWaiter_62 : decode c_R_firstWaiter 62 = .ok (.istore_n 2, 1) := by decide +kernel
theorem d_R_firstWaiter_63 : decode c_R_firstWaiter 63 = .ok (.iinc 3 1, 3) := by decide +kernel
theorem d_R_firstWaiter_66 : decode c_R_firstWaiter 66 = .ok (.goto (-62), 3) := by decide +kernel
theorem d_R_firstWaiter_69 : decode c_R_firstWaiter 69 = .ok (.iload_n 2, 1) := by decide +kernel
theorem d_R_firstWaiter_70 : decode c_R_firstWaiter 70 = .ok (.ireturn, 1) := by decide +kernel
theorem d_R_wake_0 : decode c_R_wake 0 = .ok (.aload_n 0, 1) := by decide +kernel
theorem d_R_wake_1 : decode c_R_wake 1 = .ok (.getfield 91, 3) := by decide +kernel
theorem d_R_wake_4 : decode c_R_wake 4 = .ok (.iload_n 1, 1) := by decide +kernel
theorem d_R_wake_5 : decode c_R_wake 5 = .ok (.iaload, 1) := by decide +kernel
theorem d_R_wake_6 : decode c_R_wake 6 = .ok (.iconst 5, 1) := by decide +kernel
theorem d_R_wake_7 : decode c_R_wake 7 = .ok (.if_icmp .ne 12, 3) := by decide +kernel
theorem d_R_wake_10 : decode c_R_wake 10 = .ok (.aload_n 0, 1) := by decide +kernel
theorem d_R_wake_11 : decode c_R_wake 11 = .ok (.iload_n 1, 1) := by decide +kernel
theorem d_R_wake_12 : decode c_R_wake 12 = .ok (.iconst (-1), 1) := by decide +kernel

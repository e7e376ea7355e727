theorem d_R_state_65 : decode c_R_state 65 = .ok (.ifCond .ge 7, 3) := by decide +kernel
theorem d_R_state_68 : decode c_R_state 68 = .ok (.iconst 4, 1) := by decide +kernel
theorem d_R_state_69 : decode c_R_state 69 = .ok (.goto 4, 3) := by decide +kernel
theorem d_R_state_72 : decode c_R_state 72 = .ok (.iconst 5, 1) := by decide +kernel
theorem d_R_state_73 : decode c_R_state 73 = .ok (.aload_n 0, 1) := by decide +kernel
theorem d_R_state_74 : decode c_R_state 74 = .ok (.getfield 84, 3) := by decide +kernel
theorem d_R_state_77 : decode c_R_state 77 = .ok (.iload_n 1, 1) := by decide +kernel
theorem d_R_state_78 : decode c_R_state 78 = .ok (.baload, 1) := by decide +kernel
theorem d_R_state_79 : decode c_R_state 79 = .ok (.ifCond .eq 8, 3) := by decide +kernel
theorem d_R_state_82 : decode c_R_state 82 = .ok (.bipush 8, 2) := by decide +kernel
theorem d_R_state_84 : decode c_R_state 84 = .ok (.goto 4, 3) := by decide +kernel
theorem d_R_state_87 : decode c_R_state 87 = .ok (.iconst 0, 1) := by decide +kernel
theorem d_R_state_88 : decode c_R_state 88 = .ok (.iadd, 1) := by decide +kernel
theorem d_R_state_89 : decode c_R_state 89 = .ok (.invokevirtual 147, 3) := by decide +kernel
theorem d_R_state_92 : decode c_R_state 92 = .ok (.ireturn, 1) := by decide +kernel
theorem d_R_cause_0 : decode c_R_cause 0 = .ok (.aload_n 0, 1) := by decide +kernel
theorem d_R_cause_1 : decode c_R_cause 1 = .ok (.iload_n 1, 1) := by decide +kernel
theorem d_R_cause_2 : decode c_R_cause 2 = .ok (.invokevirtual 227, 3) := by decide +kernel
theorem d_R_cause_5 : decode c_R_cause 5 = .ok (.ifCond .eq 9, 3) := by decide +kernel
theorem d_R_cause_8 : decode c_R_cause 8 = .ok (.aload_n 0, 1) := by decide +kernel
theorem d_R_cause_9 : decode c_R_cause 9 = .ok (.iconst 1, 1) := by decide +kernel
theorem d_R_cause_10 : decode c_R_cause 10 = .ok (.invokevirtual 143, 3) := by decide +kernel
theorem d_R_cause_13 : decode c_R_cause 13 = .ok (.ireturn, 1) := by decide +kernel
theorem d_R_cause_14 : decode c_R_cause 14 = .ok (.aload_n 0, 1) := by decide +kernel
theorem d_R_cause_15 : decode c_R_cause 15 = .ok (.getfield 69, 3) := by decide +kernel
theorem d_R_cause_18 : decode c_R_cause 18 = .ok (.iload_n 1, 1) := by decide +kernel
theorem d_R_cause_19 : decode c_R_cause 19 = .ok (.iaload, 1) := by decide +kernel
theorem d_R_cause_20 : decode c_R_cause 20 = .ok (.ifCond .ge 11, 3) := by decide +kernel
theorem d_R_cause_23 : decode c_R_cause 23 = .ok (.aload_n 0, 1) := by decide +kernel
theorem d_R_cause_24 : decode c_R_cause 24 = .ok (.iconst 2, 1) := by decide +kernel
theorem d_R_cause_25 : decode c_R_cause 25 = .ok (.invokevirtual 143, 3) := by decide +kernel
theorem d_R_cause_28 : decode c_R_cause 28 = .ok (.goto 13, 3) := by decide +kernel
theorem d_R_cause_31 : decode c_R_cause 31 = .ok (.aload_n 0, 1) := by decide +kernel
theorem d_R_cause_32 : decode c_R_cause 32 = .ok (.aload_n 0, 1) := by decide +kernel
theorem d_R_cause_33 : decode c_R_cause 33 = .ok (.getfield 69, 3) := by decide +kernel
theorem d_R_cause_36 : decode c_R_cause 36 = .ok (.iload_n 1, 1) := by decide +kernel
theorem d_R_cause_37 : decode c_R_cause 37 = .ok (.iaload, 1) := by decide +kernel
theorem d_R_cause_38 : decode c_R_cause 38 = .ok (.invokevirtual 147, 3) := by decide +kernel
theorem d_R_cause_41 : decode c_R_cause 41 = .ok (.ireturn, 1) := by decide +kernel
theorem d_R_about_0 : decode c_R_about 0 = .ok (.aload_n 0, 1) := by decide +kernel
theorem d_R_about_1 : decode c_R_about 1 = .ok (.iload_n 1, 1) := by decide +kernel
theorem d_R_about_2 : decode c_R_about 2 = .ok (.invokevirtual 227, 3) := by decide +kernel
theorem d_R_about_5 : decode c_R_about 5 = .ok (.ifCond .ne 14, 3) := by decide +kernel
theorem d_R_about_8 : decode c_R_about 8 = .ok (.aload_n 0, 1) := by decide +kernel
theorem d_R_about_9 : decode c_R_about 9 = .ok (.iload_n 2, 1) := by decide +kernel
theorem d_R_about_10 : decode c_R_about 10 = .ok (.iconst 0, 1) := by decide +kernel
theorem d_R_about_11 : decode c_R_about 11 = .ok (.bipush 8, 2) := by decide +kernel
theorem d_R_about_13 : decode c_R_about 13 = .ok (.invokevirtual 136, 3) := by decide +kernel
theorem d_R_about_16 : decode c_R_about 16 = .ok (.ifCond .eq 9, 3) := by decide +kernel
theorem d_R_about_19 : decode c_R_about 19 = .ok (.aload_n 0, 1) := by decide +kernel
theorem d_R_about_20 : decode c_R_about 20 = .ok (.iconst 1, 1) := by decide +kernel
theorem d_R_about_21 : decode c_R_about 21 = .ok (.invokevirtual 143, 3) := by decide +kernel
theorem d_R_about_24 : decode c_R_about 24 = .ok (.ireturn, 1) := by decide +kernel
theorem d_R_about_25 : decode c_R_about 25 = .ok (.iload_n 2, 1) := by decide +kernel
theorem d_R_about_26 : decode c_R_about 26 = .ok (.ifCond .ne 14, 3) := by decide +kernel
theorem d_R_about_29 : decode c_R_about 29 = .ok (.aload_n 0, 1) := by decide +kernel
theorem d_R_about_30 : decode c_R_about 30 = .ok (.aload_n 0, 1) := by decide +kernel
theorem d_R_about_31 : decode c_R_about 31 = .ok (.getfield 60, 3) := by decide +kernel
theorem d_R_about_34 : decode c_R_about 34 = .ok (.iload_n 1, 1) := by decide +kernel
theorem d_R_about_35 : decode c_R_about 35 = .ok (.iaload, 1) := by decide +kernel
theorem d_R_about_36 : decode c_R_about 36 = .ok (.invokevirtual 147, 3) := by decide +kernel
theorem d_R_about_39 : decode c_R_about 39 = .ok (.ireturn, 1) := by decide +kernel
theorem d_R_about_40 : decode c_R_about 40 = .ok (.iload_n 2, 1) := by decide +kernel
theorem d_R_about_41 : decode c_R_about 41 = .ok (.iconst 1, 1) := by decide +kernel
theorem d_R_about_42 : decode c_R_about 42 = .ok (.if_icmp .ne 14, 3) := by decide +kernel
theorem d_R_about_45 : decode c_R_about 45 = .ok (.aload_n 0, 1) := by decide +kernel
theorem d_R_about_46 : decode c_R_about 46 = .ok (.aload_n 0, 1) := by decide +kernel
theorem d_R_about_47 : decode c_R_about 47 = .ok (.getfield 63, 3) := by decide +kernel
theorem d_R_about_50 : decode c_R_about 50 = .ok (.iload_n 1, 1) := by decide +kernel
theorem d_R_about_51 : decode c_R_about 51 = .ok (.iaload, 1) := by decide +kernel
theorem d_R_about_52 : decode c_R_about 52 = .ok (.invokevirtual 147, 3) := by decide +kernel
theorem d_R_about_55 : decode c_R_about 55 = .ok (.ireturn, 1) := by decide +kernel
theorem d_R_about_56 : decode c_R_about 56 = .ok (.iload_n 2, 1) := by decide +kernel
theorem d_R_about_57 : decode c_R_about 57 = .ok (.iconst 2, 1) := by decide +kernel
theorem d_R_about_58 : decode c_R_about 58 = .ok (.if_icmp .ne 14, 3) := by decide +kernel
theorem d_R_about_61 : decode c_R_about 61 = .ok (.aload_n 0, 1) := by decide +kernel
theorem d_R_about_62 : decode c_R_about 62 = .ok (.aload_n 0, 1) := by decide +kernel
theorem d_R_about_63 : decode c_R_about 63 = .ok (.getfield 72, 3) := by decide +kernel
theorem d_R_about_66 : decode c_R_about 66 = .ok (.iload_n 1, 1) := by decide +kernel
theorem d_R_about_67 : decode c_R_about 67 = .ok (.iaload, 1) := by decide +kernel
theorem d_R_about_68 : decode c_R_about 68 = .ok (.invokevirtual 147, 3) := by decide +kernel
theorem d_R_about_71 : decode c_R_about 71 = .ok (.ireturn, 1) := by decide +kernel
theorem d_R_about_72 : decode c_R_about 72 = .ok (.iload_n 2, 1) := by decide +kernel
theorem d_R_about_73 : decode c_R_about 73 = .ok (.iconst 3, 1) := by decide +kernel
theorem d_R_about_74 : decode c_R_about 74 = .ok (.if_icmp .ne 14, 3) := by decide +kernel
theorem d_R_about_77 : decode c_R_about 77 = .ok (.aload_n 0, 1) := by decide +kernel
theorem d_R_about_78 : decode c_R_about 78 = .ok (.aload_n 0, 1) := by decide +kernel
theorem d_R_about_79 : decode c_R_about 79 = .ok (.getfield 66, 3) := by decide +kernel
theorem d_R_about_82 : decode c_R_about 82 = .ok (.iload_n 1, 1) := by decide +kernel
theorem d_R_about_83 : decode c_R_about 83 = .ok (.iaload, 1) := by decide +kernel
theorem d_R_about_84 : decode c_R_about 84 = .ok (.invokevirtual 147, 3) := by decide +kernel
theorem d_R_about_87 : decode c_R_about 87 = .ok (.ireturn, 1) := by decide +kernel
theorem d_R_about_88 : decode c_R_about 88 = .ok (.iload_n 2, 1) := by decide +kernel
theorem d_R_about_89 : decode c_R_about 89 = .ok (.iconst 4, 1) := by decide +kernel
theorem d_R_about_90 : decode c_R_about 90 = .ok (.if_icmp .ne 14, 3) := by decide +kernel
theorem d_R_about_93 : decode c_R_about 93 = .ok (.aload_n 0, 1) := by decide +kernel
theorem d_R_about_94 : decode c_R_about 94 = .ok (.aload_n 0, 1) := by decide +kernel
theorem d_R_about_95 : decode c_R_about 95 = .ok (.getfield 75, 3) := by decide +kernel
theorem d_R_about_98 : decode c_R_about 98 = .ok (.iload_n 1, 1) := by decide +kernel
theorem d_R_about_99 : decode c_R_about 99 = .ok (.iaload, 1) := by decide +kernel
theorem d_R_about_100 : decode c_R_about 100 = .ok (.invokevirtual 147, 3) := by decide +kernel
theorem d_R_about_103 : decode c_R_about 103 = .ok (.ireturn, 1) := by decide +kernel
theorem d_R_about_104 : decode c_R_about 104 = .ok (.aload_n 0, 1) := by decide +kernel
theorem d_R_about_105 : decode c_R_about 105 = .ok (.iload_n 2, 1) := by decide +kernel
theorem d_R_about_106 : decode c_R_about 106 = .ok (.bipush 8, 2) := by decide +kernel
theorem d_R_about_108 : decode c_R_about 108 = .ok (.if_icmp .ge 18, 3) := by decide +kernel
theorem d_R_about_111 : decode c_R_about 111 = .ok (.aload_n 0, 1) := by decide +kernel
theorem d_R_about_112 : decode c_R_about 112 = .ok (.getfield 78, 3) := by decide +kernel
theorem d_R_about_115 : decode c_R_about 115 = .ok (.iload_n 1, 1) := by decide +kernel
theorem d_R_about_116 : decode c_R_about 116 = .ok (.iconst 3, 1) := by decide +kernel
theorem d_R_about_117 : decode c_R_about 117 = .ok (.imul, 1) := by decide +kernel
theorem d_R_about_118 : decode c_R_about 118 = .ok (.iload_n 2, 1) := by decide +kernel
theorem d_R_about_119 : decode c_R_about 119 = .ok (.iadd, 1) := by decide +kernel
theorem d_R_about_120 : decode c_R_about 120 = .ok (.iconst 5, 1) := by decide +kernel
theorem d_R_about_121 : decode c_R_about 121 = .ok (.isub, 1) := by decide +kernel
theorem d_R_about_122 : decode c_R_about 122 = .ok (.iaload, 1) := by decide +kernel
theorem d_R_about_123 : decode c_R_about 123 = .ok (.goto 8, 3) := by decide +kernel
theorem d_R_about_126 : decode c_R_about 126 = .ok (.aload_n 0, 1) := by decide +kernel
theorem d_R_about_127 : decode c_R_about 127 = .ok (.iload_n 1, 1) := by decide +kernel
theorem d_R_about_128 : decode c_R_about 128 = .ok (.invokevirtual 230, 3) := by decide +kernel
theorem d_R_about_131 : decode c_R_about 131 = .ok (.invokevirtual 147, 3) := by decide +kernel
theorem d_R_about_134 : decode c_R_about 134 = .ok (.ireturn, 1) := by decide +kernel
theorem d_R_open_0 : decode c_R_open 0 = .ok (.iconst 0, 1) := by decide +kernel
theorem d_R_open_1 : decode c_R_open 1 = .ok (.istore_n 2, 1) := by decide +kernel
theorem d_R_open_2 : decode c_R_open 2 = .ok (.iconst 0, 1) := by decide +kernel
theorem d_R_open_3 : decode c_R_open 3 = .ok (.istore_n 3, 1) := by decide +kernel
theorem d_R_open_4 : decode c_R_open 4 = .ok (.iload_n 3, 1) := by decide +kernel
theorem d_R_open_5 : decode c_R_open 5 = .ok (.aload_n 0, 1) := by decide +kernel
theorem d_R_open_6 : decode c_R_open 6 = .ok (.getfield 13, 3) := by decide +kernel
theorem d_R_open_9 : decode c_R_open 9 = .ok (.if_icmp .ge 31, 3) := by decide +kernel
theorem d_R_open_12 : decode c_R_open 12 = .ok (.aload_n 0, 1) := by decide +kernel
theorem d_R_open_13 : decode c_R_open 13 = .ok (.getfield 60, 3) := by decide +kernel
theorem d_R_open_16 : decode c_R_open 16 = .ok (.iload_n 3, 1) := by decide +kernel
theorem d_R_open_17 : decode c_R_open 17 = .ok (.iaload, 1) := by decide +kernel
theorem d_R_open_18 : decode c_R_open 18 = .ok (.iload_n 1, 1) := by decide +kernel
theorem d_R_open_19 : decode c_R_open 19 = .ok (.if_icmp .ne 15, 3) := by decide +kernel
theorem d_R_open_22 : decode c_R_open 22 = .ok (.aload_n 0, 1) := by decide +kernel
theorem d_R_open_23 : decode c_R_open 23 = .ok (.getfield 88, 3) := by decide +kernel
theorem d_R_open_26 : decode c_R_open 26 = .ok (.iload_n 3, 1) := by decide +kernel
theorem d_R_open_27 : decode c_R_open 27 = .ok (.baload, 1) := by decide +kernel
theorem d_R_open_28 : decode c_R_open 28 = .ok (.ifCond .ne 6, 3) := by decide +kernel
theorem d_R_open_31 : decode c_R_open 31 = .ok (.iinc 2 1, 3) := by decide +kernel
theorem d_R_open_34 : decode c_R_open 34 = .ok (.iinc 3 1, 3) := by decide +kernel
theorem d_R_open_37 : decode c_R_open 37 = .ok (.goto (-33), 3) := by decide +kernel
theorem d_R_open_40 : decode c_R_open 40 = .ok (.iload_n 2, 1) := by decide +kernel
theorem d_R_open_41 : decode c_R_open 41 = .ok (.ireturn, 1) := by decide +kernel
theorem d_R_noted_0 : decode c_R_noted 0 = .ok (.iload_n 1, 1) := by decide +kernel
theorem d_R_noted_1 : decode c_R_noted 1 = .ok (.ifCond .lt 17, 3) := by decide +kernel
theorem d_R_noted_4 : decode c_R_noted 4 = .ok (.iload_n 1, 1) := by decide +kernel
theorem d_R_noted_5 : decode c_R_noted 5 = .ok (.bipush 59, 2) := by decide +kernel
theorem d_R_noted_7 : decode c_R_noted 7 = .ok (.if_icmp .gt 11, 3) := by decide +kernel
theorem d_R_noted_10 : decode c_R_noted 10 = .ok (.iload_n 1, 1) := by decide +kernel
theorem d_R_noted_11 : decode c_R_noted 11 = .ok (.aload_n 0, 1) := by decide +kernel
theorem d_R_noted_12 : decode c_R_noted 12 = .ok (.getfield 19, 3) := by decide +kernel
theorem d_R_noted_15 : decode c_R_noted 15 = .ok (.if_icmp .lt 11, 3) := by decide +kernel
theorem d_R_noted_18 : decode c_R_noted 18 = .ok (.aload_n 0, 1) := by decide +kernel
theorem d_R_noted_19 : decode c_R_noted 19 = .ok (.iconst 1, 1) := by decide +kernel
theorem d_R_noted_20 : decode c_R_noted 20 = .ok (.invokevirtual 143, 3) := by decide +kernel
theorem d_R_noted_23 : decode c_R_noted 23 = .ok (.goto 13, 3) := by decide +kernel
theorem d_R_noted_26 : decode c_R_noted 26 = .ok (.aload_n 0, 1) := by decide +kernel
theorem d_R_noted_27 : decode c_R_noted 27 = .ok (.aload_n 0, 1) := by decide +kernel
theorem d_R_noted_28 : decode c_R_noted 28 = .ok (.getfield 57, 3) := by decide +kernel
theorem d_R_noted_31 : decode c_R_noted 31 = .ok (.iload_n 1, 1) := by decide +kernel
theorem d_R_noted_32 : decode c_R_noted 32 = .ok (.iaload, 1) := by decide +kernel
theorem d_R_noted_33 : decode c_R_noted 33 = .ok (.invokevirtual 147, 3) := by decide +kernel
theorem d_R_noted_36 : decode c_R_noted 36 = .ok (.ireturn, 1) := by decide +kernel
theorem d_R_count_0 : decode c_R_count 0 = .ok (.aload_n 0, 1) := by decide +kernel
theorem d_R_count_1 : decode c_R_count 1 = .ok (.iconst 0, 1) := by decide +kernel
theorem d_R_count_2 : decode c_R_count 2 = .ok (.putfield 7, 3) := by decide +kernel
theorem d_R_count_5 : decode c_R_count 5 = .ok (.iconst 0, 1) := by decide +kernel
theorem d_R_count_6 : decode c_R_count 6 = .ok (.istore_n 2, 1) := by decide +kernel
theorem d_R_count_7 : decode c_R_count 7 = .ok (.iconst 0, 1) := by decide +kernel
theorem d_R_count_8 : decode c_R_count 8 = .ok (.istore_n 3, 1) := by decide +kernel
theorem d_R_count_9 : decode c_R_count 9 = .ok (.iconst 0, 1) := by decide +kernel
theorem d_R_count_10 : decode c_R_count 10 = .ok (.istore 4, 2) := by decide +kernel
theorem d_R_count_12 : decode c_R_count 12 = .ok (.iload 4, 2) := by decide +kernel
theorem d_R_count_14 : decode c_R_count 14 = .ok (.aload_n 0, 1) := by decide +kernel
theorem d_R_count_15 : decode c_R_count 15 = .ok (.getfield 13, 3) := by decide +kernel
theorem d_R_count_18 : decode c_R_count 18 = .ok (.if_icmp .ge 58, 3) := by decide +kernel
theorem d_R_count_21 : decode c_R_count 21 = .ok (.aload_n 0, 1) := by decide +kernel
theorem d_R_count_22 : decode c_R_count 22 = .ok (.getfield 88, 3) := by decide +kernel
theorem d_R_count_25 : decode c_R_count 25 = .ok (.iload 4, 2) := by decide +kernel
theorem d_R_count_27 : decode c_R_count 27 = .ok (.baload, 1) := by decide +kernel
theorem d_R_count_28 : decode c_R_count 28 = .ok (.ifCond .eq 6, 3) := by decide +kernel
theorem d_R_count_31 : decode c_R_count 31 = .ok (.iinc 2 1, 3) := by decide +kernel
theorem d_R_count_34 : decode c_R_count 34 = .ok (.aload_n 0, 1) := by decide +kernel
theorem d_R_count_35 : decode c_R_count 35 = .ok (.getfield 100, 3) := by decide +kernel
theorem d_R_count_38 : decode c_R_count 38 = .ok (.iload 4, 2) := by decide +kernel
theorem d_R_count_40 : decode c_R_count 40 = .ok (.iaload, 1) := by decide +kernel
theorem d_R_count_41 : decode c_R_count 41 = .ok (.ifCond .lt 6, 3) := by decide +kernel
theorem d_R_count_44 : decode c_R_count 44 = .ok (.iinc 3 1, 3) := by decide +kernel
theorem d_R_count_47 : decode c_R_count 47 = .ok (.aload_n 0, 1) := by decide +kernel
theorem d_R_count_48 : decode c_R_count 48 = .ok (.getfield 106, 3) := by decide +kernel
theorem d_R_count_51 : decode c_R_count 51 = .ok (.iload 4, 2) := by decide +kernel
theorem d_R_count_53 : decode c_R_count 53 = .ok (.iaload, 1) := by decide +kernel
theorem d_R_count_54 : decode c_R_count 54 = .ok (.ifCond .lt 16, 3) := by decide +kernel
theorem d_R_count_57 : decode c_R_count 57 = .ok (.aload_n 0, 1) := by decide +kernel
theorem d_R_count_58 : decode c_R_count 58 = .ok (.getfield 88, 3) := by decide +kernel
theorem d_R_count_61 : decode c_R_count 61 = .ok (.iload 4, 2) := by decide +kernel
theorem d_R_count_63 : decode c_R_count 63 = .ok (.baload, 1) := by decide +kernel
theorem d_R_count_64 : decode c_R_count 64 = .ok (.ifCond .ne 6, 3) := by decide +kernel
theorem d_R_count_67 : decode c_R_count 67 = .ok (.iinc 3 1, 3) := by decide +kernel
theorem d_R_count_70 : decode c_R_count 70 = .ok (.iinc 4 1, 3) := by decide +kernel
theorem d_R_count_73 : decode c_R_count 73 = .ok (.goto (-61), 3) := by decide +kernel
theorem d_R_count_76 : decode c_R_count 76 = .ok (.iload_n 1, 1) := by decide +kernel
theorem d_R_count_77 : decode c_R_count 77 = .ok (.ifCond .ne 10, 3) := by decide +kernel
theorem d_R_count_80 : decode c_R_count 80 = .ok (.aload_n 0, 1) := by decide +kernel
theorem d_R_count_81 : decode c_R_count 81 = .ok (.getfield 13, 3) := by decide +kernel
theorem d_R_count_84 : decode c_R_count 84 = .ok (.goto 84, 3) := by decide +kernel
theorem d_R_count_87 : decode c_R_count 87 = .ok (.iload_n 1, 1) := by decide +kernel
theorem d_R_count_88 : decode c_R_count 88 = .ok (.iconst 1, 1) := by decide +kernel
theorem d_R_count_89 : decode c_R_count 89 = .ok (.if_icmp .ne 7, 3) := by decide +kernel
theorem d_R_count_92 : decode c_R_count 92 = .ok (.iload_n 2, 1) := by decide +kernel
theorem d_R_count_93 : decode c_R_count 93 = .ok (.goto 75, 3) := by decide +kernel
theorem d_R_count_96 : decode c_R_count 96 = .ok (.iload_n 1, 1) := by decide +kernel
theorem d_R_count_97 : decode c_R_count 97 = .ok (.iconst 2, 1) := by decide +kernel
theorem d_R_count_98 : decode c_R_count 98 = .ok (.if_icmp .ne 10, 3) := by decide +kernel
theorem d_R_count_101 : decode c_R_count 101 = .ok (.aload_n 0, 1) := by decide +kernel
theorem d_R_count_102 : decode c_R_count 102 = .ok (.getfield 19, 3) := by decide +kernel
theorem d_R_count_105 : decode c_R_count 105 = .ok (.goto 63, 3) := by decide +kernel
theorem d_R_count_108 : decode c_R_count 108 = .ok (.iload_n 1, 1) := by decide +kernel
theorem d_R_count_109 : decode c_R_count 109 = .ok (.iconst 3, 1) := by decide +kernel
theorem d_R_count_110 : decode c_R_count 110 = .ok (.if_icmp .ne 10, 3) := by decide +kernel
theorem d_R_count_113 : decode c_R_count 113 = .ok (.aload_n 0, 1) := by decide +kernel
theorem d_R_count_114 : decode c_R_count 114 = .ok (.getfield 16, 3) := by decide +kernel
theorem d_R_count_117 : decode c_R_count 117 = .ok (.goto 51, 3) := by decide +kernel
theorem d_R_count_120 : decode c_R_count 120 = .ok (.iload_n 1, 1) := by decide +kernel
theorem d_R_count_121 : decode c_R_count 121 = .ok (.iconst 4, 1) := by decide +kernel
theorem d_R_count_122 : decode c_R_count 122 = .ok (.if_icmp .ne 10, 3) := by decide +kernel
theorem d_R_count_125 : decode c_R_count 125 = .ok (.aload_n 0, 1) := by decide +kernel
theorem d_R_count_126 : decode c_R_count 126 = .ok (.getfield 31, 3) := by decide +kernel
theorem d_R_count_129 : decode c_R_count 129 = .ok (.goto 39, 3) := by decide +kernel
theorem d_R_count_132 : decode c_R_count 132 = .ok (.iload_n 1, 1) := by decide +kernel
theorem d_R_count_133 : decode c_R_count 133 = .ok (.iconst 5, 1) := by decide +kernel
theorem d_R_count_134 : decode c_R_count 134 = .ok (.if_icmp .ne 10, 3) := by decide +kernel
theorem d_R_count_137 : decode c_R_count 137 = .ok (.aload_n 0, 1) := by decide +kernel
theorem d_R_count_138 : decode c_R_count 138 = .ok (.getfield 22, 3) := by decide +kernel
theorem d_R_count_141 : decode c_R_count 141 = .ok (.goto 27, 3) := by decide +kernel
theorem d_R_count_144 : decode c_R_count 144 = .ok (.iload_n 1, 1) := by decide +kernel
theorem d_R_count_145 : decode c_R_count 145 = .ok (.bipush 6, 2) := by decide +kernel
theorem d_R_count_147 : decode c_R_count 147 = .ok (.if_icmp .ne 7, 3) := by decide +kernel
theorem d_R_count_150 : decode c_R_count 150 = .ok (.iload_n 3, 1) := by decide +kernel
theorem d_R_count_151 : decode c_R_count 151 = .ok (.goto 17, 3) := by decide +kernel
theorem d_R_count_154 : decode c_R_count 154 = .ok (.iload_n 1, 1) := by decide +kernel
theorem d_R_count_155 : decode c_R_count 155 = .ok (.bipush 7, 2) := by decide +kernel
theorem d_R_count_157 : decode c_R_count 157 = .ok (.if_icmp .ne 10, 3) := by decide +kernel
theorem d_R_count_160 : decode c_R_count 160 = .ok (.aload_n 0, 1) := by decide +kernel
theorem d_R_count_161 : decode c_R_count 161 = .ok (.getfield 25, 3) := by decide +kernel
theorem d_R_count_164 : decode c_R_count 164 = .ok (.goto 4, 3) := by decide +kernel
theorem d_R_count_167 : decode c_R_count 167 = .ok (.iconst (-1), 1) := by decide +kernel
theorem d_R_count_168 : decode c_R_count 168 = .ok (.ireturn, 1) := by decide +kernel
theorem d_L_law_0 : decode c_L_law 0 = .ok (.new 8, 3) := by decide +kernel
theorem d_L_law_3 : decode c_L_law 3 = .ok (.dup, 1) := by decide +kernel
theorem d_L_law_4 : decode c_L_law 4 = .ok (.invokespecial 47, 3) := by decide +kernel
theorem d_L_law_7 : decode c_L_law 7 = .ok (.astore_n 1, 1) := by decide +kernel
theorem d_L_law_8 : decode c_L_law 8 = .ok (.new 48, 3) := by decide +kernel
theorem d_L_law_11 : decode c_L_law 11 = .ok (.dup, 1) := by decide +kernel
theorem d_L_law_12 : decode c_L_law 12 = .ok (.invokespecial 50, 3) := by decide +kernel
theorem d_L_law_15 : decode c_L_law 15 = .ok (.astore_n 2, 1) := by decide +kernel
theorem d_L_law_16 : decode c_L_law 16 = .ok (.iconst 1, 1) := by decide +kernel
theorem d_L_law_17 : decode c_L_law 17 = .ok (.newarray .long, 2) := by decide +kernel
theorem d_L_law_19 : decode c_L_law 19 = .ok (.astore_n 3, 1) := by decide +kernel
theorem d_L_law_20 : decode c_L_law 20 = .ok (.iconst 0, 1) := by decide +kernel
theorem d_L_law_21 : decode c_L_law 21 = .ok (.istore 4, 2) := by decide +kernel
theorem d_L_law_23 : decode c_L_law 23 = .ok (.iload 4, 2) := by decide +kernel
theorem d_L_law_25 : decode c_L_law 25 = .ok (.aload_n 0, 1) := by decide +kernel
theorem d_L_law_26 : decode c_L_law 26 = .ok (.arraylength, 1) := by decide +kernel
theorem d_L_law_27 : decode c_L_law 27 = .ok (.iconst 5, 1) := by decide +kernel
theorem d_L_law_28 : decode c_L_law 28 = .ok (.isub, 1) := by decide +kernel
theorem d_L_law_29 : decode c_L_law 29 = .ok (.if_icmp .gt 646, 3) := by decide +kernel
theorem d_L_law_32 : decode c_L_law 32 = .ok (.aload_n 0, 1) := by decide +kernel
theorem d_L_law_33 : decode c_L_law 33 = .ok (.iload 4, 2) := by decide +kernel
theorem d_L_law_35 : decode c_L_law 35 = .ok (.iaload, 1) := by decide +kernel
theorem d_L_law_36 : decode c_L_law 36 = .ok (.bipush 15, 2) := by decide +kernel
theorem d_L_law_38 : decode c_L_law 38 = .ok (.iand, 1) := by decide +kernel
theorem d_L_law_39 : decode c_L_law 39 = .ok (.tableswitch 630 0 9 #[53, 145, 201, 257, 313, 369, 425, 481, 549, 605], 53) := by decide +kernel
theorem d_L_law_92 : decode c_L_law 92 = .ok (.aload_n 1, 1) := by decide +kernel
theorem d_L_law_93 : decode c_L_law 93 = .ok (.aload_n 0, 1) := by decide +kernel
theorem d_L_law_94 : decode c_L_law 94 = .ok (.iload 4, 2) := by decide +kernel
theorem d_L_law_96 : decode c_L_law 96 = .ok (.iconst 1, 1) := by decide +kernel
theorem d_L_law_97 : decode c_L_law 97 = .ok (.iadd, 1) := by decide +kernel
theorem d_L_law_98 : decode c_L_law 98 = .ok (.iaload, 1) := by decide +kernel
theorem d_L_law_99 : decode c_L_law 99 = .ok (.aload_n 0, 1) := by decide +kernel
theorem d_L_law_100 : decode c_L_law 100 = .ok (.iload 4, 2) := by decide +kernel
theorem d_L_law_102 : decode c_L_law 102 = .ok (.iconst 2, 1) := by decide +kernel
theorem d_L_law_103 : decode c_L_law 103 = .ok (.iadd, 1) := by decide +kernel
theorem d_L_law_104 : decode c_L_law 104 = .ok (.iaload, 1) := by decide +kernel
theorem d_L_law_105 : decode c_L_law 105 = .ok (.aload_n 0, 1) := by decide +kernel
theorem d_L_law_106 : decode c_L_law 106 = .ok (.iload 4, 2) := by decide +kernel
theorem d_L_law_108 : decode c_L_law 108 = .ok (.iconst 3, 1) := by decide +kernel
theorem d_L_law_109 : decode c_L_law 109 = .ok (.iadd, 1) := by decide +kernel
theorem d_L_law_110 : decode c_L_law 110 = .ok (.iaload, 1) := by decide +kernel
theorem d_L_law_111 : decode c_L_law 111 = .ok (.aload_n 0, 1) := by decide +kernel
theorem d_L_law_112 : decode c_L_law 112 = .ok (.iload 4, 2) := by decide +kernel
theorem d_L_law_114 : decode c_L_law 114 = .ok (.iconst 4, 1) := by decide +kernel
theorem d_L_law_115 : decode c_L_law 115 = .ok (.iadd, 1) := by decide +kernel
theorem d_L_law_116 : decode c_L_law 116 = .ok (.iaload, 1) := by decide +kernel
theorem d_L_law_117 : decode c_L_law 117 = .ok (.aload_n 3, 1) := by decide +kernel
theorem d_L_law_118 : decode c_L_law 118 = .ok (.invokestatic 51, 3) := by decide +kernel
theorem d_L_law_121 : decode c_L_law 121 = .ok (.istore 5, 2) := by decide +kernel
theorem d_L_law_123 : decode c_L_law 123 = .ok (.aload_n 2, 1) := by decide +kernel
theorem d_L_law_124 : decode c_L_law 124 = .ok (.aload_n 0, 1) := by decide +kernel
theorem d_L_law_125 : decode c_L_law 125 = .ok (.iload 4, 2) := by decide +kernel
theorem d_L_law_127 : decode c_L_law 127 = .ok (.iconst 1, 1) := by decide +kernel
theorem d_L_law_128 : decode c_L_law 128 = .ok (.iadd, 1) := by decide +kernel
theorem d_L_law_129 : decode c_L_law 129 = .ok (.iaload, 1) := by decide +kernel
theorem d_L_law_130 : decode c_L_law 130 = .ok (.aload_n 0, 1) := by decide +kernel
theorem d_L_law_131 : decode c_L_law 131 = .ok (.iload 4, 2) := by decide +kernel
theorem d_L_law_133 : decode c_L_law 133 = .ok (.iconst 2, 1) := by decide +kernel
theorem d_L_law_134 : decode c_L_law 134 = .ok (.iadd, 1) := by decide +kernel
theorem d_L_law_135 : decode c_L_law 135 = .ok (.iaload, 1) := by decide +kernel
theorem d_L_law_136 : decode c_L_law 136 = .ok (.aload_n 0, 1) := by decide +kernel
theorem d_L_law_137 : decode c_L_law 137 = .ok (.iload 4, 2) := by decide +kernel
theorem d_L_law_139 : decode c_L_law 139 = .ok (.iconst 3, 1) := by decide +kernel
theorem d_L_law_140 : decode c_L_law 140 = .ok (.iadd, 1) := by decide +kernel
theorem d_L_law_141 : decode c_L_law 141 = .ok (.iaload, 1) := by decide +kernel
theorem d_L_law_142 : decode c_L_law 142 = .ok (.aload_n 0, 1) := by decide +kernel
theorem d_L_law_143 : decode c_L_law 143 = .ok (.iload 4, 2) := by decide +kernel
theorem d_L_law_145 : decode c_L_law 145 = .ok (.iconst 4, 1) := by decide +kernel
theorem d_L_law_146 : decode c_L_law 146 = .ok (.iadd, 1) := by decide +kernel
theorem d_L_law_147 : decode c_L_law 147 = .ok (.iaload, 1) := by decide +kernel
theorem d_L_law_148 : decode c_L_law 148 = .ok (.invokevirtual 56, 3) := by decide +kernel
theorem d_L_law_151 : decode c_L_law 151 = .ok (.istore 6, 2) := by decide +kernel
theorem d_L_law_153 : decode c_L_law 153 = .ok (.aload_n 2, 1) := by decide +kernel
theorem d_L_law_154 : decode c_L_law 154 = .ok (.invokevirtual 57, 3) := by decide +kernel
theorem d_L_law_157 : decode c_L_law 157 = .ok (.iload 5, 2) := by decide +kernel
theorem d_L_law_159 : decode c_L_law 159 = .ok (.if_icmp .eq 5, 3) := by decide +kernel
theorem d_L_law_162 : decode c_L_law 162 = .ok (.iconst 0, 1) := by decide +kernel
theorem d_L_law_163 : decode c_L_law 163 = .ok (.ireturn, 1) := by decide +kernel
theorem d_L_law_164 : decode c_L_law 164 = .ok (.iload 5, 2) := by decide +kernel
theorem d_L_law_166 : decode c_L_law 166 = .ok (.ifCond .ne 15, 3) := by decide +kernel
theorem d_L_law_169 : decode c_L_law 169 = .ok (.aload_n 3, 1) := by decide +kernel
theorem d_L_law_170 : decode c_L_law 170 = .ok (.iconst 0, 1) := by decide +kernel
theorem d_L_law_171 : decode c_L_law 171 = .ok (.laload, 1) := by decide +kernel
theorem d_L_law_172 : decode c_L_law 172 = .ok (.iload 6, 2) := by decide +kernel
theorem d_L_law_174 : decode c_L_law 174 = .ok (.i2l, 1) := by decide +kernel
theorem d_L_law_175 : decode c_L_law 175 = .ok (.lcmp, 1) := by decide +kernel
theorem d_L_law_176 : decode c_L_law 176 = .ok (.ifCond .eq 5, 3) := by decide +kernel
theorem d_L_law_179 : decode c_L_law 179 = .ok (.iconst 0, 1) := by decide +kernel
theorem d_L_law_180 : decode c_L_law 180 = .ok (.ireturn, 1) := by decide +kernel
theorem d_L_law_181 : decode c_L_law 181 = .ok (.goto 488, 3) := by decide +kernel
theorem d_L_law_184 : decode c_L_law 184 = .ok (.aload_n 1, 1) := by decide +kernel
theorem d_L_law_185 : decode c_L_law 185 = .ok (.aload_n 0, 1) := by decide +kernel
theorem d_L_law_186 : decode c_L_law 186 = .ok (.iload 4, 2) := by decide +kernel
theorem d_L_law_188 : decode c_L_law 188 = .ok (.iconst 1, 1) := by decide +kernel
theorem d_L_law_189 : decode c_L_law 189 = .ok (.iadd, 1) := by decide +kernel
theorem d_L_law_190 : decode c_L_law 190 = .ok (.iaload, 1) := by decide +kernel
theorem d_L_law_191 : decode c_L_law 191 = .ok (.aload_n 3, 1) := by decide +kernel
theorem d_L_law_192 : decode c_L_law 192 = .ok (.invokestatic 61, 3) := by decide +kernel
theorem d_L_law_195 : decode c_L_law 195 = .ok (.istore 5, 2) := by decide +kernel
theorem d_L_law_197 : decode c_L_law 197 = .ok (.aload_n 2, 1) := by decide +kernel
theorem d_L_law_198 : decode c_L_law 198 = .ok (.aload_n 0, 1) := by decide +kernel
theorem d_L_law_199 : decode c_L_law 199 = .ok (.iload 4, 2) := by decide +kernel
theorem d_L_law_201 : decode c_L_law 201 = .ok (.iconst 1, 1) := by decide +kernel
theorem d_L_law_202 : decode c_L_law 202 = .ok (.iadd, 1) := by decide +kernel
theorem d_L_law_203 : decode c_L_law 203 = .ok (.iaload, 1) := by decide +kernel
theorem d_L_law_204 : decode c_L_law 204 = .ok (.invokevirtual 64, 3) := by decide +kernel
theorem d_L_law_207 : decode c_L_law 207 = .ok (.istore 6, 2) := by decide +kernel
theorem d_L_law_209 : decode c_L_law 209 = .ok (.aload_n 2, 1) := by decide +kernel
theorem d_L_law_210 : decode c_L_law 210 = .ok (.invokevirtual 57, 3) := by decide +kernel
theorem d_L_law_213 : decode c_L_law 213 = .ok (.iload 5, 2) := by decide +kernel
theorem d_L_law_215 : decode c_L_law 215 = .ok (.if_icmp .eq 5, 3) := by decide +kernel
theorem d_L_law_218 : decode c_L_law 218 = .ok (.iconst 0, 1) := by decide +kernel
theorem d_L_law_219 : decode c_L_law 219 = .ok (.ireturn, 1) := by decide +kernel
theorem d_L_law_220 : decode c_L_law 220 = .ok (.iload 5, 2) := by decide +kernel
theorem d_L_law_222 : decode c_L_law 222 = .ok (.ifCond .ne 15, 3) := by decide +kernel
theorem d_L_law_225 : decode c_L_law 225 = .ok (.aload_n 3, 1) := by decide +kernel
theorem d_L_law_226 : decode c_L_law 226 = .ok (.iconst 0, 1) := by decide +kernel
theorem d_L_law_227 : decode c_L_law 227 = .ok (.laload, 1) := by decide +kernel
theorem d_L_law_228 : decode c_L_law 228 = .ok (.iload 6, 2) := by decide +kernel
theorem d_L_law_230 : decode c_L_law 230 = .ok (.i2l, 1) := by decide +kernel
theorem d_L_law_231 : decode c_L_law 231 = .ok (.lcmp, 1) := by decide +kernel
theorem d_L_law_232 : decode c_L_law 232 = .ok (.ifCond .eq 5, 3) := by decide +kernel
theorem d_L_law_235 : decode c_L_law 235 = .ok (.iconst 0, 1) := by decide +kernel
theorem d_L_law_236 : decode c_L_law 236 = .ok (.ireturn, 1) := by decide +kernel
theorem d_L_law_237 : decode c_L_law 237 = .ok (.goto 432, 3) := by decide +kernel
theorem d_L_law_240 : decode c_L_law 240 = .ok (.aload_n 1, 1) := by decide +kernel
theorem d_L_law_241 : decode c_L_law 241 = .ok (.aload_n 0, 1) := by decide +kernel
theorem d_L_law_242 : decode c_L_law 242 = .ok (.iload 4, 2) := by decide +kernel
theorem d_L_law_244 : decode c_L_law 244 = .ok (.iconst 1, 1) := by decide +kernel
theorem d_L_law_245 : decode c_L_law 245 = .ok (.iadd, 1) := by decide +kernel
theorem d_L_law_246 : decode c_L_law 246 = .ok (.iaload, 1) := by decide +kernel
theorem d_L_law_247 : decode c_L_law 247 = .ok (.aload_n 3, 1) := by decide +kernel
theorem d_L_law_248 : decode c_L_law 248 = .ok (.invokestatic 65, 3) := by decide +kernel
theorem d_L_law_251 : decode c_L_law 251 = .ok (.istore 5, 2) := by decide +kernel
theorem d_L_law_253 : decode c_L_law 253 = .ok (.aload_n 2, 1) := by decide +kernel
theorem d_L_law_254 : decode c_L_law 254 = .ok (.aload_n 0, 1) := by decide +kernel
theorem d_L_law_255 : decode c_L_law 255 = .ok (.iload 4, 2) := by decide +kernel
theorem d_L_law_257 : decode c_L_law 257 = .ok (.iconst 1, 1) := by decide +kernel
theorem d_L_law_258 : decode c_L_law 258 = .ok (.iadd, 1) := by decide +kernel
theorem d_L_law_259 : decode c_L_law 259 = .ok (.iaload, 1) := by decide +kernel
theorem d_L_law_260 : decode c_L_law 260 = .ok (.invokevirtual 67, 3) := by decide +kernel
theorem d_L_law_263 : decode c_L_law 263 = .ok (.istore 6, 2) := by decide +kernel
theorem d_L_law_265 : decode c_L_law 265 = .ok (.aload_n 2, 1) := by decide +kernel
theorem d_L_law_266 : decode c_L_law 266 = .ok (.invokevirtual 57, 3) := by decide +kernel
theorem d_L_law_269 : decode c_L_law 269 = .ok (.iload 5, 2) := by decide +kernel
theorem d_L_law_271 : decode c_L_law 271 = .ok (.if_icmp .eq 5, 3) := by decide +kernel
theorem d_L_law_274 : decode c_L_law 274 = .ok (.iconst 0, 1) := by decide +kernel
theorem d_L_law_275 : decode c_L_law 275 = .ok (.ireturn, 1) := by decide +kernel
theorem d_L_law_276 : decode c_L_law 276 = .ok (.iload 5, 2) := by decide +kernel
theorem d_L_law_278 : decode c_L_law 278 = .ok (.ifCond .ne 15, 3) := by decide +kernel
theorem d_L_law_281 : decode c_L_law 281 = .ok (.aload_n 3, 1) := by decide +kernel
theorem d_L_law_282 : decode c_L_law 282 = .ok (.iconst 0, 1) := by decide +kernel
theorem d_L_law_283 : decode c_L_law 283 = .ok (.laload, 1) := by decide +kernel
theorem d_L_law_284 : decode c_L_law 284 = .ok (.iload 6, 2) := by decide +kernel
theorem d_L_law_286 : decode c_L_law 286 = .ok (.i2l, 1) := by decide +kernel
theorem d_L_law_287 : decode c_L_law 287 = .ok (.lcmp, 1) := by decide +kernel
theorem d_L_law_288 : decode c_L_law 288 = .ok (.ifCond .eq 5, 3) := by decide +kernel
theorem d_L_law_291 : decode c_L_law 291 = .ok (.iconst 0, 1) := by decide +kernel
theorem d_L_law_292 : decode c_L_law 292 = .ok (.ireturn, 1) := by decide +kernel
theorem d_L_law_293 : decode c_L_law 293 = .ok (.goto 376, 3) := by decide +kernel
theorem d_L_law_296 : decode c_L_law 296 = .ok (.aload_n 1, 1) := by decide +kernel
theorem d_L_law_297 : decode c_L_law 297 = .ok (.aload_n 0, 1) := by decide +kernel
theorem d_L_law_298 : decode c_L_law 298 = .ok (.iload 4, 2) := by decide +kernel
theorem d_L_law_300 : decode c_L_law 300 = .ok (.iconst 1, 1) := by decide +kernel
theorem d_L_law_301 : decode c_L_law 301 = .ok (.iadd, 1) := by decide +kernel
theorem d_L_law_302 : decode c_L_law 302 = .ok (.iaload, 1) := by decide +kernel
theorem d_L_law_303 : decode c_L_law 303 = .ok (.aload_n 3, 1) := by decide +kernel
theorem d_L_law_304 : decode c_L_law 304 = .ok (.invokestatic 68, 3) := by decide +kernel
theorem d_L_law_307 : decode c_L_law 307 = .ok (.istore 5, 2) := by decide +kernel
theorem d_L_law_309 : decode c_L_law 309 = .ok (.aload_n 2, 1) := by decide +kernel
theorem d_L_law_310 : decode c_L_law 310 = .ok (.aload_n 0, 1) := by decide +kernel
theorem d_L_law_311 : decode c_L_law 311 = .ok (.iload 4, 2) := by decide +kernel
theorem d_L_law_313 : decode c_L_law 313 = .ok (.iconst 1, 1) := by decide +kernel
theorem d_L_law_314 : decode c_L_law 314 = .ok (.iadd, 1) := by decide +kernel
theorem d_L_law_315 : decode c_L_law 315 = .ok (.iaload, 1) := by decide +kernel
theorem d_L_law_316 : decode c_L_law 316 = .ok (.invokevirtual 70, 3) := by decide +kernel
theorem d_L_law_319 : decode c_L_law 319 = .ok (.istore 6, 2) := by decide +kernel
theorem d_L_law_321 : decode c_L_law 321 = .ok (.aload_n 2, 1) := by decide +kernel
theorem d_L_law_322 : decode c_L_law 322 = .ok (.invokevirtual 57, 3) := by decide +kernel
theorem d_L_law_325 : decode c_L_law 325 = .ok (.iload 5, 2) := by decide +kernel
theorem d_L_law_327 : decode c_L_law 327 = .ok (.if_icmp .eq 5, 3) := by decide +kernel
theorem d_L_law_330 : decode c_L_law 330 = .ok (.iconst 0, 1) := by decide +kernel
theorem d_L_law_331 : decode c_L_law 331 = .ok (.ireturn, 1) := by decide +kernel
theorem d_L_law_332 : decode c_L_law 332 = .ok (.iload 5, 2) := by decide +kernel
theorem d_L_law_334 : decode c_L_law 334 = .ok (.ifCond .ne 15, 3) := by decide +kernel
theorem d_L_law_337 : decode c_L_law 337 = .ok (.aload_n 3, 1) := by decide +kernel
theorem d_L_law_338 : decode c_L_law 338 = .ok (.iconst 0, 1) := by decide +kernel
theorem d_L_law_339 : decode c_L_law 339 = .ok (.laload, 1) := by decide +kernel
theorem d_L_law_340 : decode c_L_law 340 = .ok (.iload 6, 2) := by decide +kernel
theorem d_L_law_342 : decode c_L_law 342 = .ok (.i2l, 1) := by decide +kernel
theorem d_L_law_343 : decode c_L_law 343 = .ok (.lcmp, 1) := by decide +kernel
theorem d_L_law_344 : decode c_L_law 344 = .ok (.ifCond .eq 5, 3) := by decide +kernel
theorem d_L_law_347 : decode c_L_law 347 = .ok (.iconst 0, 1) := by decide +kernel
theorem d_L_law_348 : decode c_L_law 348 = .ok (.ireturn, 1) := by decide +kernel
theorem d_L_law_349 : decode c_L_law 349 = .ok (.goto 320, 3) := by decide +kernel
theorem d_L_law_352 : decode c_L_law 352 = .ok (.aload_n 1, 1) := by decide +kernel
theorem d_L_law_353 : decode c_L_law 353 = .ok (.aload_n 0, 1) := by decide +kernel
theorem d_L_law_354 : decode c_L_law 354 = .ok (.iload 4, 2) := by decide +kernel
theorem d_L_law_356 : decode c_L_law 356 = .ok (.iconst 1, 1) := by decide +kernel
theorem d_L_law_357 : decode c_L_law 357 = .ok (.iadd, 1) := by decide +kernel
theorem d_L_law_358 : decode c_L_law 358 = .ok (.iaload, 1) := by decide +kernel
theorem d_L_law_359 : decode c_L_law 359 = .ok (.aload_n 3, 1) := by decide +kernel
theorem d_L_law_360 : decode c_L_law 360 = .ok (.invokestatic 71, 3) := by decide +kernel
theorem d_L_law_363 : decode c_L_law 363 = .ok (.istore 5, 2) := by decide +kernel
theorem d_L_law_365 : decode c_L_law 365 = .ok (.aload_n 2, 1) := by decide +kernel
theorem d_L_law_366 : decode c_L_law 366 = .ok (.aload_n 0, 1) := by decide +kernel
theorem d_L_law_367 : decode c_L_law 367 = .ok (.iload 4, 2) := by decide +kernel
theorem d_L_law_369 : decode c_L_law 369 = .ok (.iconst 1, 1) := by decide +kernel
theorem d_L_law_370 : decode c_L_law 370 = .ok (.iadd, 1) := by decide +kernel
theorem d_L_law_371 : decode c_L_law 371 = .ok (.iaload, 1) := by decide +kernel
theorem d_L_law_372 : decode c_L_law 372 = .ok (.invokevirtual 73, 3) := by decide +kernel
theorem d_L_law_375 : decode c_L_law 375 = .ok (.istore 6, 2) := by decide +kernel
theorem d_L_law_377 : decode c_L_law 377 = .ok (.aload_n 2, 1) := by decide +kernel
theorem d_L_law_378 : decode c_L_law 378 = .ok (.invokevirtual 57, 3) := by decide +kernel
theorem d_L_law_381 : decode c_L_law 381 = .ok (.iload 5, 2) := by decide +kernel
theorem d_L_law_383 : decode c_L_law 383 = .ok (.if_icmp .eq 5, 3) := by decide +kernel
theorem d_L_law_386 : decode c_L_law 386 = .ok (.iconst 0, 1) := by decide +kernel
theorem d_L_law_387 : decode c_L_law 387 = .ok (.ireturn, 1) := by decide +kernel
theorem d_L_law_388 : decode c_L_law 388 = .ok (.iload 5, 2) := by decide +kernel
theorem d_L_law_390 : decode c_L_law 390 = .ok (.ifCond .ne 15, 3) := by decide +kernel
theorem d_L_law_393 : decode c_L_law 393 = .ok (.aload_n 3, 1) := by decide +kernel
theorem d_L_law_394 : decode c_L_law 394 = .ok (.iconst 0, 1) := by decide +kernel
theorem d_L_law_395 : decode c_L_law 395 = .ok (.laload, 1) := by decide +kernel
theorem d_L_law_396 : decode c_L_law 396 = .ok (.iload 6, 2) := by decide +kernel
theorem d_L_law_398 : decode c_L_law 398 = .ok (.i2l, 1) := by decide +kernel
theorem d_L_law_399 : decode c_L_law 399 = .ok (.lcmp, 1) := by decide +kernel
theorem d_L_law_400 : decode c_L_law 400 = .ok (.ifCond .eq 5, 3) := by decide +kernel
theorem d_L_law_403 : decode c_L_law 403 = .ok (.iconst 0, 1) := by decide +kernel
theorem d_L_law_404 : decode c_L_law 404 = .ok (.ireturn, 1) := by decide +kernel
theorem d_L_law_405 : decode c_L_law 405 = .ok (.goto 264, 3) := by decide +kernel
theorem d_L_law_408 : decode c_L_law 408 = .ok (.aload_n 1, 1) := by decide +kernel
theorem d_L_law_409 : decode c_L_law 409 = .ok (.aload_n 0, 1) := by decide +kernel
theorem d_L_law_410 : decode c_L_law 410 = .ok (.iload 4, 2) := by decide +kernel
theorem d_L_law_412 : decode c_L_law 412 = .ok (.iconst 1, 1) := by decide +kernel
theorem d_L_law_413 : decode c_L_law 413 = .ok (.iadd, 1) := by decide +kernel
theorem d_L_law_414 : decode c_L_law 414 = .ok (.iaload, 1) := by decide +kernel
theorem d_L_law_415 : decode c_L_law 415 = .ok (.aload_n 3, 1) := by decide +kernel
theorem d_L_law_416 : decode c_L_law 416 = .ok (.invokestatic 74, 3) := by decide +kernel
theorem d_L_law_419 : decode c_L_law 419 = .ok (.istore 5, 2) := by decide +kernel
theorem d_L_law_421 : decode c_L_law 421 = .ok (.aload_n 2, 1) := by decide +kernel
theorem d_L_law_422 : decode c_L_law 422 = .ok (.aload_n 0, 1) := by decide +kernel
theorem d_L_law_423 : decode c_L_law 423 = .ok (.iload 4, 2) := by decide +kernel
theorem d_L_law_425 : decode c_L_law 425 = .ok (.iconst 1, 1) := by decide +kernel
theorem d_L_law_426 : decode c_L_law 426 = .ok (.iadd, 1) := by decide +kernel
theorem d_L_law_427 : decode c_L_law 427 = .ok (.iaload, 1) := by decide +kernel
theorem d_L_law_428 : decode c_L_law 428 = .ok (.invokevirtual 76, 3) := by decide +kernel
theorem d_L_law_431 : decode c_L_law 431 = .ok (.istore 6, 2) := by decide +kernel
theorem d_L_law_433 : decode c_L_law 433 = .ok (.aload_n 2, 1) := by decide +kernel
theorem d_L_law_434 : decode c_L_law 434 = .ok (.invokevirtual 57, 3) := by decide +kernel
theorem d_L_law_437 : decode c_L_law 437 = .ok (.iload 5, 2) := by decide +kernel
theorem d_L_law_439 : decode c_L_law 439 = .ok (.if_icmp .eq 5, 3) := by decide +kernel
theorem d_L_law_442 : decode c_L_law 442 = .ok (.iconst 0, 1) := by decide +kernel
theorem d_L_law_443 : decode c_L_law 443 = .ok (.ireturn, 1) := by decide +kernel
theorem d_L_law_444 : decode c_L_law 444 = .ok (.iload 5, 2) := by decide +kernel
theorem d_L_law_446 : decode c_L_law 446 = .ok (.ifCond .ne 15, 3) := by decide +kernel
theorem d_L_law_449 : decode c_L_law 449 = .ok (.aload_n 3, 1) := by decide +kernel
theorem d_L_law_450 : decode c_L_law 450 = .ok (.iconst 0, 1) := by decide +kernel
theorem d_L_law_451 : decode c_L_law 451 = .ok (.laload, 1) := by decide +kernel
theorem d_L_law_452 : decode c_L_law 452 = .ok (.iload 6, 2) := by decide +kernel
theorem d_L_law_454 : decode c_L_law 454 = .ok (.i2l, 1) := by decide +kernel
theorem d_L_law_455 : decode c_L_law 455 = .ok (.lcmp, 1) := by decide +kernel
theorem d_L_law_456 : decode c_L_law 456 = .ok (.ifCond .eq 5, 3) := by decide +kernel
theorem d_L_law_459 : decode c_L_law 459 = .ok (.iconst 0, 1) := by decide +kernel
theorem d_L_law_460 : decode c_L_law 460 = .ok (.ireturn, 1) := by decide +kernel
theorem d_L_law_461 : decode c_L_law 461 = .ok (.goto 208, 3) := by decide +kernel
theorem d_L_law_464 : decode c_L_law 464 = .ok (.aload_n 1, 1) := by decide +kernel
theorem d_L_law_465 : decode c_L_law 465 = .ok (.aload_n 0, 1) := by decide +kernel
theorem d_L_law_466 : decode c_L_law 466 = .ok (.iload 4, 2) := by decide +kernel
theorem d_L_law_468 : decode c_L_law 468 = .ok (.iconst 1, 1) := by decide +kernel
theorem d_L_law_469 : decode c_L_law 469 = .ok (.iadd, 1) := by decide +kernel
theorem d_L_law_470 : decode c_L_law 470 = .ok (.iaload, 1) := by decide +kernel
theorem d_L_law_471 : decode c_L_law 471 = .ok (.aload_n 3, 1) := by decide +kernel
theorem d_L_law_472 : decode c_L_law 472 = .ok (.invokestatic 77, 3) := by decide +kernel
theorem d_L_law_475 : decode c_L_law 475 = .ok (.istore 5, 2) := by decide +kernel
theorem d_L_law_477 : decode c_L_law 477 = .ok (.aload_n 2, 1) := by decide +kernel
theorem d_L_law_478 : decode c_L_law 478 = .ok (.aload_n 0, 1) := by decide +kernel
theorem d_L_law_479 : decode c_L_law 479 = .ok (.iload 4, 2) := by decide +kernel
theorem d_L_law_481 : decode c_L_law 481 = .ok (.iconst 1, 1) := by decide +kernel
theorem d_L_law_482 : decode c_L_law 482 = .ok (.iadd, 1) := by decide +kernel
theorem d_L_law_483 : decode c_L_law 483 = .ok (.iaload, 1) := by decide +kernel
theorem d_L_law_484 : decode c_L_law 484 = .ok (.invokevirtual 79, 3) := by decide +kernel
theorem d_L_law_487 : decode c_L_law 487 = .ok (.istore 6, 2) := by decide +kernel
theorem d_L_law_489 : decode c_L_law 489 = .ok (.aload_n 2, 1) := by decide +kernel
theorem d_L_law_490 : decode c_L_law 490 = .ok (.invokevirtual 57, 3) := by decide +kernel
theorem d_L_law_493 : decode c_L_law 493 = .ok (.iload 5, 2) := by decide +kernel
theorem d_L_law_495 : decode c_L_law 495 = .ok (.if_icmp .eq 5, 3) := by decide +kernel
theorem d_L_law_498 : decode c_L_law 498 = .ok (.iconst 0, 1) := by decide +kernel
theorem d_L_law_499 : decode c_L_law 499 = .ok (.ireturn, 1) := by decide +kernel
theorem d_L_law_500 : decode c_L_law 500 = .ok (.iload 5, 2) := by decide +kernel
theorem d_L_law_502 : decode c_L_law 502 = .ok (.ifCond .ne 15, 3) := by decide +kernel
theorem d_L_law_505 : decode c_L_law 505 = .ok (.aload_n 3, 1) := by decide +kernel
theorem d_L_law_506 : decode c_L_law 506 = .ok (.iconst 0, 1) := by decide +kernel
theorem d_L_law_507 : decode c_L_law 507 = .ok (.laload, 1) := by decide +kernel
theorem d_L_law_508 : decode c_L_law 508 = .ok (.iload 6, 2) := by decide +kernel
theorem d_L_law_510 : decode c_L_law 510 = .ok (.i2l, 1) := by decide +kernel
theorem d_L_law_511 : decode c_L_law 511 = .ok (.lcmp, 1) := by decide +kernel
theorem d_L_law_512 : decode c_L_law 512 = .ok (.ifCond .eq 5, 3) := by decide +kernel
theorem d_L_law_515 : decode c_L_law 515 = .ok (.iconst 0, 1) := by decide +kernel
theorem d_L_law_516 : decode c_L_law 516 = .ok (.ireturn, 1) := by decide +kernel
theorem d_L_law_517 : decode c_L_law 517 = .ok (.goto 152, 3) := by decide +kernel
theorem d_L_law_520 : decode c_L_law 520 = .ok (.aload_n 1, 1) := by decide +kernel
theorem d_L_law_521 : decode c_L_law 521 = .ok (.aload_n 0, 1) := by decide +kernel
theorem d_L_law_522 : decode c_L_law 522 = .ok (.iload 4, 2) := by decide +kernel
theorem d_L_law_524 : decode c_L_law 524 = .ok (.iconst 1, 1) := by decide +kernel
theorem d_L_law_525 : decode c_L_law 525 = .ok (.iadd, 1) := by decide +kernel
theorem d_L_law_526 : decode c_L_law 526 = .ok (.iaload, 1) := by decide +kernel
theorem d_L_law_527 : decode c_L_law 527 = .ok (.aload_n 0, 1) := by decide +kernel
theorem d_L_law_528 : decode c_L_law 528 = .ok (.iload 4, 2) := by decide +kernel
theorem d_L_law_530 : decode c_L_law 530 = .ok (.iconst 2, 1) := by decide +kernel
theorem d_L_law_531 : decode c_L_law 531 = .ok (.iadd, 1) := by decide +kernel
theorem d_L_law_532 : decode c_L_law 532 = .ok (.iaload, 1) := by decide +kernel
theorem d_L_law_533 : decode c_L_law 533 = .ok (.aload_n 3, 1) := by decide +kernel
theorem d_L_law_534 : decode c_L_law 534 = .ok (.invokestatic 80, 3) := by decide +kernel
theorem d_L_law_537 : decode c_L_law 537 = .ok (.istore 5, 2) := by decide +kernel
theorem d_L_law_539 : decode c_L_law 539 = .ok (.aload_n 2, 1) := by decide +kernel
theorem d_L_law_540 : decode c_L_law 540 = .ok (.aload_n 0, 1) := by decide +kernel
theorem d_L_law_541 : decode c_L_law 541 = .ok (.iload 4, 2) := by decide +kernel
theorem d_L_law_543 : decode c_L_law 543 = .ok (.iconst 1, 1) := by decide +kernel
theorem d_L_law_544 : decode c_L_law 544 = .ok (.iadd, 1) := by decide +kernel
theorem d_L_law_545 : decode c_L_law 545 = .ok (.iaload, 1) := by decide +kernel
theorem d_L_law_546 : decode c_L_law 546 = .ok (.aload_n 0, 1) := by decide +kernel
theorem d_L_law_547 : decode c_L_law 547 = .ok (.iload 4, 2) := by decide +kernel
theorem d_L_law_549 : decode c_L_law 549 = .ok (.iconst 2, 1) := by decide +kernel
theorem d_L_law_550 : decode c_L_law 550 = .ok (.iadd, 1) := by decide +kernel
theorem d_L_law_551 : decode c_L_law 551 = .ok (.iaload, 1) := by decide +kernel
theorem d_L_law_552 : decode c_L_law 552 = .ok (.invokevirtual 83, 3) := by decide +kernel
theorem d_L_law_555 : decode c_L_law 555 = .ok (.istore 6, 2) := by decide +kernel
theorem d_L_law_557 : decode c_L_law 557 = .ok (.aload_n 2, 1) := by decide +kernel
theorem d_L_law_558 : decode c_L_law 558 = .ok (.invokevirtual 57, 3) := by decide +kernel
theorem d_L_law_561 : decode c_L_law 561 = .ok (.iload 5, 2) := by decide +kernel
theorem d_L_law_563 : decode c_L_law 563 = .ok (.if_icmp .eq 5, 3) := by decide +kernel
theorem d_L_law_566 : decode c_L_law 566 = .ok (.iconst 0, 1) := by decide +kernel
theorem d_L_law_567 : decode c_L_law 567 = .ok (.ireturn, 1) := by decide +kernel
theorem d_L_law_568 : decode c_L_law 568 = .ok (.iload 5, 2) := by decide +kernel
theorem d_L_law_570 : decode c_L_law 570 = .ok (.ifCond .ne 15, 3) := by decide +kernel
theorem d_L_law_573 : decode c_L_law 573 = .ok (.aload_n 3, 1) := by decide +kernel
theorem d_L_law_574 : decode c_L_law 574 = .ok (.iconst 0, 1) := by decide +kernel
theorem d_L_law_575 : decode c_L_law 575 = .ok (.laload, 1) := by decide +kernel
theorem d_L_law_576 : decode c_L_law 576 = .ok (.iload 6, 2) := by decide +kernel
theorem d_L_law_578 : decode c_L_law 578 = .ok (.i2l, 1) := by decide +kernel
theorem d_L_law_579 : decode c_L_law 579 = .ok (.lcmp, 1) := by decide +kernel
theorem d_L_law_580 : decode c_L_law 580 = .ok (.ifCond .eq 5, 3) := by decide +kernel
theorem d_L_law_583 : decode c_L_law 583 = .ok (.iconst 0, 1) := by decide +kernel
theorem d_L_law_584 : decode c_L_law 584 = .ok (.ireturn, 1) := by decide +kernel
theorem d_L_law_585 : decode c_L_law 585 = .ok (.goto 84, 3) := by decide +kernel
theorem d_L_law_588 : decode c_L_law 588 = .ok (.aload_n 1, 1) := by decide +kernel
theorem d_L_law_589 : decode c_L_law 589 = .ok (.aload_n 0, 1) := by decide +kernel
theorem d_L_law_590 : decode c_L_law 590 = .ok (.iload 4, 2) := by decide +kernel
theorem d_L_law_592 : decode c_L_law 592 = .ok (.iconst 1, 1) := by decide +kernel

theorem d_R_wake_13 : decode c_R_wake 13 = .ok (.invokevirtual 154, 3) := by decide +kernel
theorem d_R_wake_16 : decode c_R_wake 16 = .ok (.goto 38, 3) := by decide +kernel
theorem d_R_wake_19 : decode c_R_wake 19 = .ok (.aload_n 0, 1) := by decide +kernel
theorem d_R_wake_20 : decode c_R_wake 20 = .ok (.getfield 69, 3) := by decide +kernel
theorem d_R_wake_23 : decode c_R_wake 23 = .ok (.iload_n 2, 1) := by decide +kernel
theorem d_R_wake_24 : decode c_R_wake 24 = .ok (.iaload, 1) := by decide +kernel
theorem d_R_wake_25 : decode c_R_wake 25 = .ok (.ifCond .ge 18, 3) := by decide +kernel
theorem d_R_wake_28 : decode c_R_wake 28 = .ok (.aload_n 0, 1) := by decide +kernel
theorem d_R_wake_29 : decode c_R_wake 29 = .ok (.getfield 66, 3) := by decide +kernel
theorem d_R_wake_32 : decode c_R_wake 32 = .ok (.iload_n 1, 1) := by decide +kernel
theorem d_R_wake_33 : decode c_R_wake 33 = .ok (.dup2, 1) := by decide +kernel
theorem d_R_wake_34 : decode c_R_wake 34 = .ok (.iaload, 1) := by decide +kernel
theorem d_R_wake_35 : decode c_R_wake 35 = .ok (.aload_n 0, 1) := by decide +kernel
theorem d_R_wake_36 : decode c_R_wake 36 = .ok (.getfield 66, 3) := by decide +kernel
theorem d_R_wake_39 : decode c_R_wake 39 = .ok (.iload_n 2, 1) := by decide +kernel
theorem d_R_wake_40 : decode c_R_wake 40 = .ok (.iaload, 1) := by decide +kernel
theorem d_R_wake_41 : decode c_R_wake 41 = .ok (.iadd, 1) := by decide +kernel
theorem d_R_wake_42 : decode c_R_wake 42 = .ok (.iastore, 1) := by decide +kernel
theorem d_R_wake_43 : decode c_R_wake 43 = .ok (.aload_n 0, 1) := by decide +kernel
theorem d_R_wake_44 : decode c_R_wake 44 = .ok (.iload_n 1, 1) := by decide +kernel
theorem d_R_wake_45 : decode c_R_wake 45 = .ok (.aload_n 0, 1) := by decide +kernel
theorem d_R_wake_46 : decode c_R_wake 46 = .ok (.getfield 69, 3) := by decide +kernel
theorem d_R_wake_49 : decode c_R_wake 49 = .ok (.iload_n 2, 1) := by decide +kernel
theorem d_R_wake_50 : decode c_R_wake 50 = .ok (.iaload, 1) := by decide +kernel
theorem d_R_wake_51 : decode c_R_wake 51 = .ok (.invokevirtual 154, 3) := by decide +kernel
theorem d_R_wake_54 : decode c_R_wake 54 = .ok (.return_, 1) := by decide +kernel
theorem d_R_write_0 : decode c_R_write 0 = .ok (.aload_n 0, 1) := by decide +kernel
theorem d_R_write_1 : decode c_R_write 1 = .ok (.getfield 19, 3) := by decide +kernel
theorem d_R_write_4 : decode c_R_write 4 = .ok (.bipush 60, 2) := by decide +kernel
theorem d_R_write_6 : decode c_R_write 6 = .ok (.if_icmp .ge 13, 3) := by decide +kernel
theorem d_R_write_9 : decode c_R_write 9 = .ok (.aload_n 0, 1) := by decide +kernel
theorem d_R_write_10 : decode c_R_write 10 = .ok (.getfield 57, 3) := by decide +kernel
theorem d_R_write_13 : decode c_R_write 13 = .ok (.aload_n 0, 1) := by decide +kernel
theorem d_R_write_14 : decode c_R_write 14 = .ok (.getfield 19, 3) := by decide +kernel
theorem d_R_write_17 : decode c_R_write 17 = .ok (.iload_n 1, 1) := by decide +kernel
theorem d_R_write_18 : decode c_R_write 18 = .ok (.iastore, 1) := by decide +kernel
theorem d_R_write_19 : decode c_R_write 19 = .ok (.aload_n 0, 1) := by decide +kernel
theorem d_R_write_20 : decode c_R_write 20 = .ok (.dup, 1) := by decide +kernel
theorem d_R_write_21 : decode c_R_write 21 = .ok (.getfield 19, 3) := by decide +kernel
theorem d_R_write_24 : decode c_R_write 24 = .ok (.iconst 1, 1) := by decide +kernel
theorem d_R_write_25 : decode c_R_write 25 = .ok (.iadd, 1) := by decide +kernel
theorem d_R_write_26 : decode c_R_write 26 = .ok (.putfield 19, 3) := by decide +kernel
theorem d_R_write_29 : decode c_R_write 29 = .ok (.return_, 1) := by decide +kernel
theorem d_R_frameEnds_0 : decode c_R_frameEnds 0 = .ok (.iload_n 1, 1) := by decide +kernel
theorem d_R_frameEnds_1 : decode c_R_frameEnds 1 = .ok (.bipush 6, 2) := by decide +kernel
theorem d_R_frameEnds_3 : decode c_R_frameEnds 3 = .ok (.imul, 1) := by decide +kernel
theorem d_R_frameEnds_4 : decode c_R_frameEnds 4 = .ok (.aload_n 0, 1) := by decide +kernel
theorem d_R_frameEnds_5 : decode c_R_frameEnds 5 = .ok (.getfield 75, 3) := by decide +kernel
theorem d_R_frameEnds_8 : decode c_R_frameEnds 8 = .ok (.iload_n 1, 1) := by decide +kernel
theorem d_R_frameEnds_9 : decode c_R_frameEnds 9 = .ok (.iaload, 1) := by decide +kernel
theorem d_R_frameEnds_10 : decode c_R_frameEnds 10 = .ok (.iadd, 1) := by decide +kernel
theorem d_R_frameEnds_11 : decode c_R_frameEnds 11 = .ok (.iconst 1, 1) := by decide +kernel
theorem d_R_frameEnds_12 : decode c_R_frameEnds 12 = .ok (.isub, 1) := by decide +kernel
theorem d_R_frameEnds_13 : decode c_R_frameEnds 13 = .ok (.istore_n 2, 1) := by decide +kernel
theorem d_R_frameEnds_14 : decode c_R_frameEnds 14 = .ok (.aload_n 0, 1) := by decide +kernel
theorem d_R_frameEnds_15 : decode c_R_frameEnds 15 = .ok (.getfield 118, 3) := by decide +kernel
theorem d_R_frameEnds_18 : decode c_R_frameEnds 18 = .ok (.iload_n 2, 1) := by decide +kernel
theorem d_R_frameEnds_19 : decode c_R_frameEnds 19 = .ok (.iaload, 1) := by decide +kernel
theorem d_R_frameEnds_20 : decode c_R_frameEnds 20 = .ok (.istore_n 3, 1) := by decide +kernel
theorem d_R_frameEnds_21 : decode c_R_frameEnds 21 = .ok (.aload_n 0, 1) := by decide +kernel
theorem d_R_frameEnds_22 : decode c_R_frameEnds 22 = .ok (.getfield 75, 3) := by decide +kernel
theorem d_R_frameEnds_25 : decode c_R_frameEnds 25 = .ok (.iload_n 1, 1) := by decide +kernel
theorem d_R_frameEnds_26 : decode c_R_frameEnds 26 = .ok (.dup2, 1) := by decide +kernel
theorem d_R_frameEnds_27 : decode c_R_frameEnds 27 = .ok (.iaload, 1) := by decide +kernel
theorem d_R_frameEnds_28 : decode c_R_frameEnds 28 = .ok (.iconst 1, 1) := by decide +kernel
theorem d_R_frameEnds_29 : decode c_R_frameEnds 29 = .ok (.isub, 1) := by decide +kernel
theorem d_R_frameEnds_30 : decode c_R_frameEnds 30 = .ok (.iastore, 1) := by decide +kernel
theorem d_R_frameEnds_31 : decode c_R_frameEnds 31 = .ok (.iload_n 3, 1) := by decide +kernel
theorem d_R_frameEnds_32 : decode c_R_frameEnds 32 = .ok (.ifCond .ne 11, 3) := by decide +kernel
theorem d_R_frameEnds_35 : decode c_R_frameEnds 35 = .ok (.aload_n 0, 1) := by decide +kernel
theorem d_R_frameEnds_36 : decode c_R_frameEnds 36 = .ok (.iload_n 1, 1) := by decide +kernel
theorem d_R_frameEnds_37 : decode c_R_frameEnds 37 = .ok (.invokevirtual 187, 3) := by decide +kernel
theorem d_R_frameEnds_40 : decode c_R_frameEnds 40 = .ok (.goto 40, 3) := by decide +kernel
theorem d_R_frameEnds_43 : decode c_R_frameEnds 43 = .ok (.iload_n 3, 1) := by decide +kernel
theorem d_R_frameEnds_44 : decode c_R_frameEnds 44 = .ok (.iconst 2, 1) := by decide +kernel
theorem d_R_frameEnds_45 : decode c_R_frameEnds 45 = .ok (.if_icmp .ne 20, 3) := by decide +kernel
theorem d_R_frameEnds_48 : decode c_R_frameEnds 48 = .ok (.aload_n 0, 1) := by decide +kernel
theorem d_R_frameEnds_49 : decode c_R_frameEnds 49 = .ok (.iload_n 1, 1) := by decide +kernel
theorem d_R_frameEnds_50 : decode c_R_frameEnds 50 = .ok (.aload_n 0, 1) := by decide +kernel
theorem d_R_frameEnds_51 : decode c_R_frameEnds 51 = .ok (.getfield 121, 3) := by decide +kernel
theorem d_R_frameEnds_54 : decode c_R_frameEnds 54 = .ok (.iload_n 2, 1) := by decide +kernel
theorem d_R_frameEnds_55 : decode c_R_frameEnds 55 = .ok (.iaload, 1) := by decide +kernel
theorem d_R_frameEnds_56 : decode c_R_frameEnds 56 = .ok (.iconst 3, 1) := by decide +kernel
theorem d_R_frameEnds_57 : decode c_R_frameEnds 57 = .ok (.iconst 0, 1) := by decide +kernel
theorem d_R_frameEnds_58 : decode c_R_frameEnds 58 = .ok (.iconst (-1), 1) := by decide +kernel
theorem d_R_frameEnds_59 : decode c_R_frameEnds 59 = .ok (.invokevirtual 150, 3) := by decide +kernel
theorem d_R_frameEnds_62 : decode c_R_frameEnds 62 = .ok (.goto 18, 3) := by decide +kernel
theorem d_R_frameEnds_65 : decode c_R_frameEnds 65 = .ok (.iload_n 3, 1) := by decide +kernel
theorem d_R_frameEnds_66 : decode c_R_frameEnds 66 = .ok (.iconst 3, 1) := by decide +kernel
theorem d_R_frameEnds_67 : decode c_R_frameEnds 67 = .ok (.if_icmp .ne 13, 3) := by decide +kernel
theorem d_R_frameEnds_70 : decode c_R_frameEnds 70 = .ok (.aload_n 0, 1) := by decide +kernel
theorem d_R_frameEnds_71 : decode c_R_frameEnds 71 = .ok (.aload_n 0, 1) := by decide +kernel
theorem d_R_frameEnds_72 : decode c_R_frameEnds 72 = .ok (.getfield 124, 3) := by decide +kernel
theorem d_R_frameEnds_75 : decode c_R_frameEnds 75 = .ok (.iload_n 2, 1) := by decide +kernel
theorem d_R_frameEnds_76 : decode c_R_frameEnds 76 = .ok (.iaload, 1) := by decide +kernel
theorem d_R_frameEnds_77 : decode c_R_frameEnds 77 = .ok (.putfield 34, 3) := by decide +kernel
theorem d_R_frameEnds_80 : decode c_R_frameEnds 80 = .ok (.return_, 1) := by decide +kernel
theorem d_R_doAction_0 : decode c_R_doAction 0 = .ok (.iload_n 1, 1) := by decide +kernel
theorem d_R_doAction_1 : decode c_R_doAction 1 = .ok (.bipush 6, 2) := by decide +kernel
theorem d_R_doAction_3 : decode c_R_doAction 3 = .ok (.imul, 1) := by decide +kernel
theorem d_R_doAction_4 : decode c_R_doAction 4 = .ok (.aload_n 0, 1) := by decide +kernel
theorem d_R_doAction_5 : decode c_R_doAction 5 = .ok (.getfield 75, 3) := by decide +kernel
theorem d_R_doAction_8 : decode c_R_doAction 8 = .ok (.iload_n 1, 1) := by decide +kernel
theorem d_R_doAction_9 : decode c_R_doAction 9 = .ok (.iaload, 1) := by decide +kernel
theorem d_R_doAction_10 : decode c_R_doAction 10 = .ok (.iadd, 1) := by decide +kernel
theorem d_R_doAction_11 : decode c_R_doAction 11 = .ok (.iconst 1, 1) := by decide +kernel
theorem d_R_doAction_12 : decode c_R_doAction 12 = .ok (.isub, 1) := by decide +kernel
theorem d_R_doAction_13 : decode c_R_doAction 13 = .ok (.istore_n 2, 1) := by decide +kernel
theorem d_R_doAction_14 : decode c_R_doAction 14 = .ok (.aload_n 0, 1) := by decide +kernel
theorem d_R_doAction_15 : decode c_R_doAction 15 = .ok (.getfield 112, 3) := by decide +kernel
theorem d_R_doAction_18 : decode c_R_doAction 18 = .ok (.iload_n 2, 1) := by decide +kernel
theorem d_R_doAction_19 : decode c_R_doAction 19 = .ok (.iaload, 1) := by decide +kernel
theorem d_R_doAction_20 : decode c_R_doAction 20 = .ok (.bipush 8, 2) := by decide +kernel
theorem d_R_doAction_22 : decode c_R_doAction 22 = .ok (.imul, 1) := by decide +kernel
theorem d_R_doAction_23 : decode c_R_doAction 23 = .ok (.aload_n 0, 1) := by decide +kernel
theorem d_R_doAction_24 : decode c_R_doAction 24 = .ok (.getfield 115, 3) := by decide +kernel
theorem d_R_doAction_27 : decode c_R_doAction 27 = .ok (.iload_n 2, 1) := by decide +kernel
theorem d_R_doAction_28 : decode c_R_doAction 28 = .ok (.iaload, 1) := by decide +kernel
theorem d_R_doAction_29 : decode c_R_doAction 29 = .ok (.iadd, 1) := by decide +kernel
theorem d_R_doAction_30 : decode c_R_doAction 30 = .ok (.istore_n 3, 1) := by decide +kernel
theorem d_R_doAction_31 : decode c_R_doAction 31 = .ok (.aload_n 0, 1) := by decide +kernel
theorem d_R_doAction_32 : decode c_R_doAction 32 = .ok (.getfield 48, 3) := by decide +kernel
theorem d_R_doAction_35 : decode c_R_doAction 35 = .ok (.iload_n 3, 1) := by decide +kernel
theorem d_R_doAction_36 : decode c_R_doAction 36 = .ok (.iaload, 1) := by decide +kernel
theorem d_R_doAction_37 : decode c_R_doAction 37 = .ok (.istore 4, 2) := by decide +kernel
theorem d_R_doAction_39 : decode c_R_doAction 39 = .ok (.aload_n 0, 1) := by decide +kernel
theorem d_R_doAction_40 : decode c_R_doAction 40 = .ok (.getfield 51, 3) := by decide +kernel
theorem d_R_doAction_43 : decode c_R_doAction 43 = .ok (.iload_n 3, 1) := by decide +kernel
theorem d_R_doAction_44 : decode c_R_doAction 44 = .ok (.iaload, 1) := by decide +kernel
theorem d_R_doAction_45 : decode c_R_doAction 45 = .ok (.istore 5, 2) := by decide +kernel
theorem d_R_doAction_47 : decode c_R_doAction 47 = .ok (.aload_n 0, 1) := by decide +kernel
theorem d_R_doAction_48 : decode c_R_doAction 48 = .ok (.getfield 54, 3) := by decide +kernel
theorem d_R_doAction_51 : decode c_R_doAction 51 = .ok (.iload_n 3, 1) := by decide +kernel
theorem d_R_doAction_52 : decode c_R_doAction 52 = .ok (.iaload, 1) := by decide +kernel
theorem d_R_doAction_53 : decode c_R_doAction 53 = .ok (.istore 6, 2) := by decide +kernel
theorem d_R_doAction_55 : decode c_R_doAction 55 = .ok (.aload_n 0, 1) := by decide +kernel
theorem d_R_doAction_56 : decode c_R_doAction 56 = .ok (.getfield 115, 3) := by decide +kernel
theorem d_R_doAction_59 : decode c_R_doAction 59 = .ok (.iload_n 2, 1) := by decide +kernel
theorem d_R_doAction_60 : decode c_R_doAction 60 = .ok (.dup2, 1) := by decide +kernel
theorem d_R_doAction_61 : decode c_R_doAction 61 = .ok (.iaload, 1) := by decide +kernel
theorem d_R_doAction_62 : decode c_R_doAction 62 = .ok (.iconst 1, 1) := by decide +kernel
theorem d_R_doAction_63 : decode c_R_doAction 63 = .ok (.iadd, 1) := by decide +kernel
theorem d_R_doAction_64 : decode c_R_doAction 64 = .ok (.iastore, 1) := by decide +kernel
theorem d_R_doAction_65 : decode c_R_doAction 65 = .ok (.aload_n 0, 1) := by decide +kernel
theorem d_R_doAction_66 : decode c_R_doAction 66 = .ok (.dup, 1) := by decide +kernel
theorem d_R_doAction_67 : decode c_R_doAction 67 = .ok (.getfield 37, 3) := by decide +kernel
theorem d_R_doAction_70 : decode c_R_doAction 70 = .ok (.iconst 1, 1) := by decide +kernel
theorem d_R_doAction_71 : decode c_R_doAction 71 = .ok (.iadd, 1) := by decide +kernel
theorem d_R_doAction_72 : decode c_R_doAction 72 = .ok (.putfield 37, 3) := by decide +kernel
theorem d_R_doAction_75 : decode c_R_doAction 75 = .ok (.aload_n 0, 1) := by decide +kernel
theorem d_R_doAction_76 : decode c_R_doAction 76 = .ok (.dup, 1) := by decide +kernel
theorem d_R_doAction_77 : decode c_R_doAction 77 = .ok (.getfield 25, 3) := by decide +kernel
theorem d_R_doAction_80 : decode c_R_doAction 80 = .ok (.iconst 1, 1) := by decide +kernel
theorem d_R_doAction_81 : decode c_R_doAction 81 = .ok (.iadd, 1) := by decide +kernel
theorem d_R_doAction_82 : decode c_R_doAction 82 = .ok (.putfield 25, 3) := by decide +kernel
theorem d_R_doAction_85 : decode c_R_doAction 85 = .ok (.iload 4, 2) := by decide +kernel
theorem d_R_doAction_87 : decode c_R_doAction 87 = .ok (.iconst 1, 1) := by decide +kernel
theorem d_R_doAction_88 : decode c_R_doAction 88 = .ok (.if_icmp .eq 35, 3) := by decide +kernel
theorem d_R_doAction_91 : decode c_R_doAction 91 = .ok (.iload 4, 2) := by decide +kernel
theorem d_R_doAction_93 : decode c_R_doAction 93 = .ok (.iconst 2, 1) := by decide +kernel
theorem d_R_doAction_94 : decode c_R_doAction 94 = .ok (.if_icmp .eq 29, 3) := by decide +kernel
theorem d_R_doAction_97 : decode c_R_doAction 97 = .ok (.iload 4, 2) := by decide +kernel
theorem d_R_doAction_99 : decode c_R_doAction 99 = .ok (.iconst 4, 1) := by decide +kernel
theorem d_R_doAction_100 : decode c_R_doAction 100 = .ok (.if_icmp .eq 23, 3) := by decide +kernel
theorem d_R_doAction_103 : decode c_R_doAction 103 = .ok (.iload 4, 2) := by decide +kernel
theorem d_R_doAction_105 : decode c_R_doAction 105 = .ok (.iconst 5, 1) := by decide +kernel
theorem d_R_doAction_106 : decode c_R_doAction 106 = .ok (.if_icmp .eq 17, 3) := by decide +kernel
theorem d_R_doAction_109 : decode c_R_doAction 109 = .ok (.iload 4, 2) := by decide +kernel
theorem d_R_doAction_111 : decode c_R_doAction 111 = .ok (.bipush 7, 2) := by decide +kernel
theorem d_R_doAction_113 : decode c_R_doAction 113 = .ok (.if_icmp .le 14, 3) := by decide +kernel
theorem d_R_doAction_116 : decode c_R_doAction 116 = .ok (.iload 4, 2) := by decide +kernel
theorem d_R_doAction_118 : decode c_R_doAction 118 = .ok (.bipush 11, 2) := by decide +kernel
theorem d_R_doAction_120 : decode c_R_doAction 120 = .ok (.if_icmp .ge 7, 3) := by decide +kernel
theorem d_R_doAction_123 : decode c_R_doAction 123 = .ok (.iconst 1, 1) := by decide +kernel
theorem d_R_doAction_124 : decode c_R_doAction 124 = .ok (.goto 4, 3) := by decide +kernel
theorem d_R_doAction_127 : decode c_R_doAction 127 = .ok (.iconst 0, 1) := by decide +kernel
theorem d_R_doAction_128 : decode c_R_doAction 128 = .ok (.istore 7, 2) := by decide +kernel
theorem d_R_doAction_130 : decode c_R_doAction 130 = .ok (.iload 4, 2) := by decide +kernel
theorem d_R_doAction_132 : decode c_R_doAction 132 = .ok (.iconst 3, 1) := by decide +kernel
theorem d_R_doAction_133 : decode c_R_doAction 133 = .ok (.if_icmp .eq 17, 3) := by decide +kernel
theorem d_R_doAction_136 : decode c_R_doAction 136 = .ok (.iload 4, 2) := by decide +kernel
theorem d_R_doAction_138 : decode c_R_doAction 138 = .ok (.bipush 7, 2) := by decide +kernel
theorem d_R_doAction_140 : decode c_R_doAction 140 = .ok (.if_icmp .le 14, 3) := by decide +kernel
theorem d_R_doAction_143 : decode c_R_doAction 143 = .ok (.iload 4, 2) := by decide +kernel
theorem d_R_doAction_145 : decode c_R_doAction 145 = .ok (.bipush 11, 2) := by decide +kernel
theorem d_R_doAction_147 : decode c_R_doAction 147 = .ok (.if_icmp .ge 7, 3) := by decide +kernel
theorem d_R_doAction_150 : decode c_R_doAction 150 = .ok (.iconst 1, 1) := by decide +kernel
theorem d_R_doAction_151 : decode c_R_doAction 151 = .ok (.goto 4, 3) := by decide +kernel
theorem d_R_doAction_154 : decode c_R_doAction 154 = .ok (.iconst 0, 1) := by decide +kernel
theorem d_R_doAction_155 : decode c_R_doAction 155 = .ok (.istore 8, 2) := by decide +kernel
theorem d_R_doAction_157 : decode c_R_doAction 157 = .ok (.iload 7, 2) := by decide +kernel
theorem d_R_doAction_159 : decode c_R_doAction 159 = .ok (.ifCond .eq 28, 3) := by decide +kernel
theorem d_R_doAction_162 : decode c_R_doAction 162 = .ok (.aload_n 0, 1) := by decide +kernel
theorem d_R_doAction_163 : decode c_R_doAction 163 = .ok (.getfield 69, 3) := by decide +kernel
theorem d_R_doAction_166 : decode c_R_doAction 166 = .ok (.iload_n 1, 1) := by decide +kernel
theorem d_R_doAction_167 : decode c_R_doAction 167 = .ok (.iaload, 1) := by decide +kernel
theorem d_R_doAction_168 : decode c_R_doAction 168 = .ok (.ifCond .lt 19, 3) := by decide +kernel
theorem d_R_doAction_171 : decode c_R_doAction 171 = .ok (.aload_n 0, 1) := by decide +kernel
theorem d_R_doAction_172 : decode c_R_doAction 172 = .ok (.iload_n 1, 1) := by decide +kernel
theorem d_R_doAction_173 : decode c_R_doAction 173 = .ok (.invokevirtual 166, 3) := by decide +kernel
theorem d_R_doAction_176 : decode c_R_doAction 176 = .ok (.ifCond .ne 11, 3) := by decide +kernel
theorem d_R_doAction_179 : decode c_R_doAction 179 = .ok (.aload_n 0, 1) := by decide +kernel
theorem d_R_doAction_180 : decode c_R_doAction 180 = .ok (.iconst 0, 1) := by decide +kernel
theorem d_R_doAction_181 : decode c_R_doAction 181 = .ok (.putfield 34, 3) := by decide +kernel
theorem d_R_doAction_184 : decode c_R_doAction 184 = .ok (.goto 319, 3) := by decide +kernel
theorem d_R_doAction_187 : decode c_R_doAction 187 = .ok (.iload 8, 2) := by decide +kernel
theorem d_R_doAction_189 : decode c_R_doAction 189 = .ok (.ifCond .eq 21, 3) := by decide +kernel
theorem d_R_doAction_192 : decode c_R_doAction 192 = .ok (.aload_n 0, 1) := by decide +kernel
theorem d_R_doAction_193 : decode c_R_doAction 193 = .ok (.getfield 13, 3) := by decide +kernel
theorem d_R_doAction_196 : decode c_R_doAction 196 = .ok (.bipush 24, 2) := by decide +kernel
theorem d_R_doAction_198 : decode c_R_doAction 198 = .ok (.if_icmp .ne 12, 3) := by decide +kernel
theorem d_R_doAction_201 : decode c_R_doAction 201 = .ok (.aload_n 0, 1) := by decide +kernel
theorem d_R_doAction_202 : decode c_R_doAction 202 = .ok (.bipush 96, 2) := by decide +kernel
theorem d_R_doAction_204 : decode c_R_doAction 204 = .ok (.putfield 34, 3) := by decide +kernel
theorem d_R_doAction_207 : decode c_R_doAction 207 = .ok (.goto 296, 3) := by decide +kernel
theorem d_R_doAction_210 : decode c_R_doAction 210 = .ok (.iload 4, 2) := by decide +kernel
theorem d_R_doAction_212 : decode c_R_doAction 212 = .ok (.ifCond .ne 12, 3) := by decide +kernel
theorem d_R_doAction_215 : decode c_R_doAction 215 = .ok (.aload_n 0, 1) := by decide +kernel
theorem d_R_doAction_216 : decode c_R_doAction 216 = .ok (.iload 5, 2) := by decide +kernel
theorem d_R_doAction_218 : decode c_R_doAction 218 = .ok (.invokevirtual 180, 3) := by decide +kernel
theorem d_R_doAction_221 : decode c_R_doAction 221 = .ok (.goto 282, 3) := by decide +kernel
theorem d_R_doAction_224 : decode c_R_doAction 224 = .ok (.iload 4, 2) := by decide +kernel
theorem d_R_doAction_226 : decode c_R_doAction 226 = .ok (.iconst 1, 1) := by decide +kernel
theorem d_R_doAction_227 : decode c_R_doAction 227 = .ok (.if_icmp .ne 36, 3) := by decide +kernel
theorem d_R_doAction_230 : decode c_R_doAction 230 = .ok (.aload_n 0, 1) := by decide +kernel
theorem d_R_doAction_231 : decode c_R_doAction 231 = .ok (.getfield 100, 3) := by decide +kernel
theorem d_R_doAction_234 : decode c_R_doAction 234 = .ok (.iload_n 1, 1) := by decide +kernel
theorem d_R_doAction_235 : decode c_R_doAction 235 = .ok (.aload_n 0, 1) := by decide +kernel
theorem d_R_doAction_236 : decode c_R_doAction 236 = .ok (.getfield 16, 3) := by decide +kernel
theorem d_R_doAction_239 : decode c_R_doAction 239 = .ok (.iload 5, 2) := by decide +kernel
theorem d_R_doAction_241 : decode c_R_doAction 241 = .ok (.iadd, 1) := by decide +kernel
theorem d_R_doAction_242 : decode c_R_doAction 242 = .ok (.iastore, 1) := by decide +kernel
theorem d_R_doAction_243 : decode c_R_doAction 243 = .ok (.aload_n 0, 1) := by decide +kernel
theorem d_R_doAction_244 : decode c_R_doAction 244 = .ok (.getfield 103, 3) := by decide +kernel
theorem d_R_doAction_247 : decode c_R_doAction 247 = .ok (.iload_n 1, 1) := by decide +kernel
theorem d_R_doAction_248 : decode c_R_doAction 248 = .ok (.aload_n 0, 1) := by decide +kernel
theorem d_R_doAction_249 : decode c_R_doAction 249 = .ok (.getfield 28, 3) := by decide +kernel
theorem d_R_doAction_252 : decode c_R_doAction 252 = .ok (.iastore, 1) := by decide +kernel
theorem d_R_doAction_253 : decode c_R_doAction 253 = .ok (.aload_n 0, 1) := by decide +kernel
theorem d_R_doAction_254 : decode c_R_doAction 254 = .ok (.iload_n 1, 1) := by decide +kernel
theorem d_R_doAction_255 : decode c_R_doAction 255 = .ok (.iconst 1, 1) := by decide +kernel
theorem d_R_doAction_256 : decode c_R_doAction 256 = .ok (.iconst (-1), 1) := by decide +kernel
theorem d_R_doAction_257 : decode c_R_doAction 257 = .ok (.invokevirtual 190, 3) := by decide +kernel
theorem d_R_doAction_260 : decode c_R_doAction 260 = .ok (.goto 243, 3) := by decide +kernel
theorem d_R_doAction_263 : decode c_R_doAction 263 = .ok (.iload 4, 2) := by decide +kernel
theorem d_R_doAction_265 : decode c_R_doAction 265 = .ok (.iconst 2, 1) := by decide +kernel
theorem d_R_doAction_266 : decode c_R_doAction 266 = .ok (.if_icmp .ne 17, 3) := by decide +kernel
theorem d_R_doAction_269 : decode c_R_doAction 269 = .ok (.aload_n 0, 1) := by decide +kernel
theorem d_R_doAction_270 : decode c_R_doAction 270 = .ok (.iload_n 1, 1) := by decide +kernel
theorem d_R_doAction_271 : decode c_R_doAction 271 = .ok (.iconst (-1), 1) := by decide +kernel
theorem d_R_doAction_272 : decode c_R_doAction 272 = .ok (.invokevirtual 154, 3) := by decide +kernel
theorem d_R_doAction_275 : decode c_R_doAction 275 = .ok (.aload_n 0, 1) := by decide +kernel
theorem d_R_doAction_276 : decode c_R_doAction 276 = .ok (.iconst 1, 1) := by decide +kernel
theorem d_R_doAction_277 : decode c_R_doAction 277 = .ok (.putfield 40, 3) := by decide +kernel
theorem d_R_doAction_280 : decode c_R_doAction 280 = .ok (.goto 223, 3) := by decide +kernel
theorem d_R_doAction_283 : decode c_R_doAction 283 = .ok (.iload 4, 2) := by decide +kernel
theorem d_R_doAction_285 : decode c_R_doAction 285 = .ok (.iconst 3, 1) := by decide +kernel
theorem d_R_doAction_286 : decode c_R_doAction 286 = .ok (.if_icmp .ne 25, 3) := by decide +kernel
theorem d_R_doAction_289 : decode c_R_doAction 289 = .ok (.aload_n 0, 1) := by decide +kernel
theorem d_R_doAction_290 : decode c_R_doAction 290 = .ok (.getfield 78, 3) := by decide +kernel
theorem d_R_doAction_293 : decode c_R_doAction 293 = .ok (.iload_n 1, 1) := by decide +kernel
theorem d_R_doAction_294 : decode c_R_doAction 294 = .ok (.iconst 3, 1) := by decide +kernel
theorem d_R_doAction_295 : decode c_R_doAction 295 = .ok (.imul, 1) := by decide +kernel
theorem d_R_doAction_296 : decode c_R_doAction 296 = .ok (.iload 6, 2) := by decide +kernel
theorem d_R_doAction_298 : decode c_R_doAction 298 = .ok (.iadd, 1) := by decide +kernel
theorem d_R_doAction_299 : decode c_R_doAction 299 = .ok (.aload_n 0, 1) := by decide +kernel
theorem d_R_doAction_300 : decode c_R_doAction 300 = .ok (.iload 5, 2) := by decide +kernel
theorem d_R_doAction_302 : decode c_R_doAction 302 = .ok (.iload_n 1, 1) := by decide +kernel
theorem d_R_doAction_303 : decode c_R_doAction 303 = .ok (.iconst 1, 1) := by decide +kernel
theorem d_R_doAction_304 : decode c_R_doAction 304 = .ok (.invokevirtual 158, 3) := by decide +kernel
theorem d_R_doAction_307 : decode c_R_doAction 307 = .ok (.iastore, 1) := by decide +kernel
theorem d_R_doAction_308 : decode c_R_doAction 308 = .ok (.goto 195, 3) := by decide +kernel
theorem d_R_doAction_311 : decode c_R_doAction 311 = .ok (.iload 4, 2) := by decide +kernel
theorem d_R_doAction_313 : decode c_R_doAction 313 = .ok (.iconst 4, 1) := by decide +kernel
theorem d_R_doAction_314 : decode c_R_doAction 314 = .ok (.if_icmp .eq 9, 3) := by decide +kernel
theorem d_R_doAction_317 : decode c_R_doAction 317 = .ok (.iload 4, 2) := by decide +kernel
theorem d_R_doAction_319 : decode c_R_doAction 319 = .ok (.iconst 5, 1) := by decide +kernel
theorem d_R_doAction_320 : decode c_R_doAction 320 = .ok (.if_icmp .ne 24, 3) := by decide +kernel
theorem d_R_doAction_323 : decode c_R_doAction 323 = .ok (.aload_n 0, 1) := by decide +kernel
theorem d_R_doAction_324 : decode c_R_doAction 324 = .ok (.iload_n 1, 1) := by decide +kernel
theorem d_R_doAction_325 : decode c_R_doAction 325 = .ok (.iload 4, 2) := by decide +kernel
theorem d_R_doAction_327 : decode c_R_doAction 327 = .ok (.aload_n 0, 1) := by decide +kernel
theorem d_R_doAction_328 : decode c_R_doAction 328 = .ok (.getfield 78, 3) := by decide +kernel
theorem d_R_doAction_331 : decode c_R_doAction 331 = .ok (.iload_n 1, 1) := by decide +kernel
theorem d_R_doAction_332 : decode c_R_doAction 332 = .ok (.iconst 3, 1) := by decide +kernel
theorem d_R_doAction_333 : decode c_R_doAction 333 = .ok (.imul, 1) := by decide +kernel
theorem d_R_doAction_334 : decode c_R_doAction 334 = .ok (.iload 5, 2) := by decide +kernel
theorem d_R_doAction_336 : decode c_R_doAction 336 = .ok (.iadd, 1) := by decide +kernel
theorem d_R_doAction_337 : decode c_R_doAction 337 = .ok (.iaload, 1) := by decide +kernel
theorem d_R_doAction_338 : decode c_R_doAction 338 = .ok (.invokevirtual 194, 3) := by decide +kernel
theorem d_R_doAction_341 : decode c_R_doAction 341 = .ok (.goto 162, 3) := by decide +kernel
theorem d_R_doAction_344 : decode c_R_doAction 344 = .ok (.iload 4, 2) := by decide +kernel
theorem d_R_doAction_346 : decode c_R_doAction 346 = .ok (.bipush 6, 2) := by decide +kernel
theorem d_R_doAction_348 : decode c_R_doAction 348 = .ok (.if_icmp .ne 41, 3) := by decide +kernel
theorem d_R_doAction_351 : decode c_R_doAction 351 = .ok (.iload 5, 2) := by decide +kernel
theorem d_R_doAction_353 : decode c_R_doAction 353 = .ok (.ifCond .ge 7, 3) := by decide +kernel
theorem d_R_doAction_356 : decode c_R_doAction 356 = .ok (.iload_n 1, 1) := by decide +kernel
theorem d_R_doAction_357 : decode c_R_doAction 357 = .ok (.goto 14, 3) := by decide +kernel
theorem d_R_doAction_360 : decode c_R_doAction 360 = .ok (.aload_n 0, 1) := by decide +kernel
theorem d_R_doAction_361 : decode c_R_doAction 361 = .ok (.getfield 78, 3) := by decide +kernel
theorem d_R_doAction_364 : decode c_R_doAction 364 = .ok (.iload_n 1, 1) := by decide +kernel
theorem d_R_doAction_365 : decode c_R_doAction 365 = .ok (.iconst 3, 1) := by decide +kernel
theorem d_R_doAction_366 : decode c_R_doAction 366 = .ok (.imul, 1) := by decide +kernel
theorem d_R_doAction_367 : decode c_R_doAction 367 = .ok (.iload 5, 2) := by decide +kernel
theorem d_R_doAction_369 : decode c_R_doAction 369 = .ok (.iadd, 1) := by decide +kernel
theorem d_R_doAction_370 : decode c_R_doAction 370 = .ok (.iaload, 1) := by decide +kernel
theorem d_R_doAction_371 : decode c_R_doAction 371 = .ok (.istore 9, 2) := by decide +kernel
theorem d_R_doAction_373 : decode c_R_doAction 373 = .ok (.iload 9, 2) := by decide +kernel
theorem d_R_doAction_375 : decode c_R_doAction 375 = .ok (.ifCond .lt 11, 3) := by decide +kernel
theorem d_R_doAction_378 : decode c_R_doAction 378 = .ok (.aload_n 0, 1) := by decide +kernel
theorem d_R_doAction_379 : decode c_R_doAction 379 = .ok (.iload 9, 2) := by decide +kernel
theorem d_R_doAction_381 : decode c_R_doAction 381 = .ok (.iconst 0, 1) := by decide +kernel
theorem d_R_doAction_382 : decode c_R_doAction 382 = .ok (.invokevirtual 170, 3) := by decide +kernel
theorem d_R_doAction_385 : decode c_R_doAction 385 = .ok (.pop, 1) := by decide +kernel
theorem d_R_doAction_386 : decode c_R_doAction 386 = .ok (.goto 117, 3) := by decide +kernel
theorem d_R_doAction_389 : decode c_R_doAction 389 = .ok (.iload 4, 2) := by decide +kernel
theorem d_R_doAction_391 : decode c_R_doAction 391 = .ok (.bipush 7, 2) := by decide +kernel
theorem d_R_doAction_393 : decode c_R_doAction 393 = .ok (.if_icmp .ne 12, 3) := by decide +kernel
theorem d_R_doAction_396 : decode c_R_doAction 396 = .ok (.aload_n 0, 1) := by decide +kernel
theorem d_R_doAction_397 : decode c_R_doAction 397 = .ok (.iload 5, 2) := by decide +kernel
theorem d_R_doAction_399 : decode c_R_doAction 399 = .ok (.putfield 34, 3) := by decide +kernel
theorem d_R_doAction_402 : decode c_R_doAction 402 = .ok (.goto 101, 3) := by decide +kernel
theorem d_R_doAction_405 : decode c_R_doAction 405 = .ok (.iload 4, 2) := by decide +kernel
theorem d_R_doAction_407 : decode c_R_doAction 407 = .ok (.bipush 11, 2) := by decide +kernel
theorem d_R_doAction_409 : decode c_R_doAction 409 = .ok (.if_icmp .ge 17, 3) := by decide +kernel
theorem d_R_doAction_412 : decode c_R_doAction 412 = .ok (.aload_n 0, 1) := by decide +kernel
theorem d_R_doAction_413 : decode c_R_doAction 413 = .ok (.iload_n 1, 1) := by decide +kernel
theorem d_R_doAction_414 : decode c_R_doAction 414 = .ok (.iload 4, 2) := by decide +kernel
theorem d_R_doAction_416 : decode c_R_doAction 416 = .ok (.iload 5, 2) := by decide +kernel
theorem d_R_doAction_418 : decode c_R_doAction 418 = .ok (.iload 6, 2) := by decide +kernel
theorem d_R_doAction_420 : decode c_R_doAction 420 = .ok (.invokevirtual 197, 3) := by decide +kernel
theorem d_R_doAction_423 : decode c_R_doAction 423 = .ok (.goto 80, 3) := by decide +kernel
theorem d_R_doAction_426 : decode c_R_doAction 426 = .ok (.iload 4, 2) := by decide +kernel
theorem d_R_doAction_428 : decode c_R_doAction 428 = .ok (.bipush 14, 2) := by decide +kernel
theorem d_R_doAction_430 : decode c_R_doAction 430 = .ok (.if_icmp .ge 17, 3) := by decide +kernel
theorem d_R_doAction_433 : decode c_R_doAction 433 = .ok (.aload_n 0, 1) := by decide +kernel
theorem d_R_doAction_434 : decode c_R_doAction 434 = .ok (.iload_n 1, 1) := by decide +kernel
theorem d_R_doAction_435 : decode c_R_doAction 435 = .ok (.iload 4, 2) := by decide +kernel
theorem d_R_doAction_437 : decode c_R_doAction 437 = .ok (.iload 5, 2) := by decide +kernel
theorem d_R_doAction_439 : decode c_R_doAction 439 = .ok (.iload 6, 2) := by decide +kernel
theorem d_R_doAction_441 : decode c_R_doAction 441 = .ok (.invokevirtual 201, 3) := by decide +kernel
theorem d_R_doAction_444 : decode c_R_doAction 444 = .ok (.goto 59, 3) := by decide +kernel
theorem d_R_doAction_447 : decode c_R_doAction 447 = .ok (.iload 4, 2) := by decide +kernel
theorem d_R_doAction_449 : decode c_R_doAction 449 = .ok (.bipush 14, 2) := by decide +kernel
theorem d_R_doAction_451 : decode c_R_doAction 451 = .ok (.if_icmp .ne 34, 3) := by decide +kernel
theorem d_R_doAction_454 : decode c_R_doAction 454 = .ok (.aload_n 0, 1) := by decide +kernel
theorem d_R_doAction_455 : decode c_R_doAction 455 = .ok (.getfield 66, 3) := by decide +kernel
theorem d_R_doAction_458 : decode c_R_doAction 458 = .ok (.iload_n 1, 1) := by decide +kernel
theorem d_R_doAction_459 : decode c_R_doAction 459 = .ok (.dup2, 1) := by decide +kernel
theorem d_R_doAction_460 : decode c_R_doAction 460 = .ok (.iaload, 1) := by decide +kernel
theorem d_R_doAction_461 : decode c_R_doAction 461 = .ok (.iload 5, 2) := by decide +kernel
theorem d_R_doAction_463 : decode c_R_doAction 463 = .ok (.iadd, 1) := by decide +kernel
theorem d_R_doAction_464 : decode c_R_doAction 464 = .ok (.iastore, 1) := by decide +kernel
theorem d_R_doAction_465 : decode c_R_doAction 465 = .ok (.aload_n 0, 1) := by decide +kernel
theorem d_R_doAction_466 : decode c_R_doAction 466 = .ok (.getfield 115, 3) := by decide +kernel
theorem d_R_doAction_469 : decode c_R_doAction 469 = .ok (.iload_n 2, 1) := by decide +kernel
theorem d_R_doAction_470 : decode c_R_doAction 470 = .ok (.aload_n 0, 1) := by decide +kernel
theorem d_R_doAction_471 : decode c_R_doAction 471 = .ok (.getfield 44, 3) := by decide +kernel
theorem d_R_doAction_474 : decode c_R_doAction 474 = .ok (.aload_n 0, 1) := by decide +kernel
theorem d_R_doAction_475 : decode c_R_doAction 475 = .ok (.getfield 112, 3) := by decide +kernel
theorem d_R_doAction_478 : decode c_R_doAction 478 = .ok (.iload_n 2, 1) := by decide +kernel
theorem d_R_doAction_479 : decode c_R_doAction 479 = .ok (.iaload, 1) := by decide +kernel
theorem d_R_doAction_480 : decode c_R_doAction 480 = .ok (.iaload, 1) := by decide +kernel
theorem d_R_doAction_481 : decode c_R_doAction 481 = .ok (.iastore, 1) := by decide +kernel
theorem d_R_doAction_482 : decode c_R_doAction 482 = .ok (.goto 21, 3) := by decide +kernel
theorem d_R_doAction_485 : decode c_R_doAction 485 = .ok (.aload_n 0, 1) := by decide +kernel
theorem d_R_doAction_486 : decode c_R_doAction 486 = .ok (.aload_n 0, 1) := by decide +kernel
theorem d_R_doAction_487 : decode c_R_doAction 487 = .ok (.getfield 69, 3) := by decide +kernel
theorem d_R_doAction_490 : decode c_R_doAction 490 = .ok (.iload_n 1, 1) := by decide +kernel
theorem d_R_doAction_491 : decode c_R_doAction 491 = .ok (.iaload, 1) := by decide +kernel
theorem d_R_doAction_492 : decode c_R_doAction 492 = .ok (.ifCond .ge 7, 3) := by decide +kernel
theorem d_R_doAction_495 : decode c_R_doAction 495 = .ok (.iconst 1, 1) := by decide +kernel
theorem d_R_doAction_496 : decode c_R_doAction 496 = .ok (.goto 4, 3) := by decide +kernel
theorem d_R_doAction_499 : decode c_R_doAction 499 = .ok (.iconst 0, 1) := by decide +kernel
theorem d_R_doAction_500 : decode c_R_doAction 500 = .ok (.invokevirtual 180, 3) := by decide +kernel
theorem d_R_doAction_503 : decode c_R_doAction 503 = .ok (.return_, 1) := by decide +kernel
theorem d_R_waitIn_0 : decode c_R_waitIn 0 = .ok (.aload_n 0, 1) := by decide +kernel
theorem d_R_waitIn_1 : decode c_R_waitIn 1 = .ok (.getfield 91, 3) := by decide +kernel
theorem d_R_waitIn_4 : decode c_R_waitIn 4 = .ok (.iload_n 1, 1) := by decide +kernel
theorem d_R_waitIn_5 : decode c_R_waitIn 5 = .ok (.iload_n 2, 1) := by decide +kernel
theorem d_R_waitIn_6 : decode c_R_waitIn 6 = .ok (.iastore, 1) := by decide +kernel
theorem d_R_waitIn_7 : decode c_R_waitIn 7 = .ok (.aload_n 0, 1) := by decide +kernel
theorem d_R_waitIn_8 : decode c_R_waitIn 8 = .ok (.getfield 94, 3) := by decide +kernel
theorem d_R_waitIn_11 : decode c_R_waitIn 11 = .ok (.iload_n 1, 1) := by decide +kernel
theorem d_R_waitIn_12 : decode c_R_waitIn 12 = .ok (.iload_n 3, 1) := by decide +kernel
theorem d_R_waitIn_13 : decode c_R_waitIn 13 = .ok (.iastore, 1) := by decide +kernel
theorem d_R_waitIn_14 : decode c_R_waitIn 14 = .ok (.aload_n 0, 1) := by decide +kernel
theorem d_R_waitIn_15 : decode c_R_waitIn 15 = .ok (.getfield 97, 3) := by decide +kernel
theorem d_R_waitIn_18 : decode c_R_waitIn 18 = .ok (.iload_n 1, 1) := by decide +kernel
theorem d_R_waitIn_19 : decode c_R_waitIn 19 = .ok (.aload_n 0, 1) := by decide +kernel
theorem d_R_waitIn_20 : decode c_R_waitIn 20 = .ok (.getfield 28, 3) := by decide +kernel
theorem d_R_waitIn_23 : decode c_R_waitIn 23 = .ok (.iastore, 1) := by decide +kernel
theorem d_R_waitIn_24 : decode c_R_waitIn 24 = .ok (.aload_n 0, 1) := by decide +kernel
theorem d_R_waitIn_25 : decode c_R_waitIn 25 = .ok (.dup, 1) := by decide +kernel
theorem d_R_waitIn_26 : decode c_R_waitIn 26 = .ok (.getfield 28, 3) := by decide +kernel
theorem d_R_waitIn_29 : decode c_R_waitIn 29 = .ok (.iconst 1, 1) := by decide +kernel
theorem d_R_waitIn_30 : decode c_R_waitIn 30 = .ok (.iadd, 1) := by decide +kernel
theorem d_R_waitIn_31 : decode c_R_waitIn 31 = .ok (.putfield 28, 3) := by decide +kernel
theorem d_R_waitIn_34 : decode c_R_waitIn 34 = .ok (.aload_n 0, 1) := by decide +kernel
theorem d_R_waitIn_35 : decode c_R_waitIn 35 = .ok (.iconst 1, 1) := by decide +kernel
theorem d_R_waitIn_36 : decode c_R_waitIn 36 = .ok (.putfield 40, 3) := by decide +kernel
theorem d_R_waitIn_39 : decode c_R_waitIn 39 = .ok (.return_, 1) := by decide +kernel
theorem d_R_awaits_0 : decode c_R_awaits 0 = .ok (.iload_n 3, 1) := by decide +kernel
theorem d_R_awaits_1 : decode c_R_awaits 1 = .ok (.ifCond .ge 4, 3) := by decide +kernel
theorem d_R_awaits_4 : decode c_R_awaits 4 = .ok (.return_, 1) := by decide +kernel
theorem d_R_awaits_5 : decode c_R_awaits 5 = .ok (.aload_n 0, 1) := by decide +kernel
theorem d_R_awaits_6 : decode c_R_awaits 6 = .ok (.getfield 88, 3) := by decide +kernel
theorem d_R_awaits_9 : decode c_R_awaits 9 = .ok (.iload_n 3, 1) := by decide +kernel
theorem d_R_awaits_10 : decode c_R_awaits 10 = .ok (.baload, 1) := by decide +kernel
theorem d_R_awaits_11 : decode c_R_awaits 11 = .ok (.ifCond .ne 13, 3) := by decide +kernel
theorem d_R_awaits_14 : decode c_R_awaits 14 = .ok (.aload_n 0, 1) := by decide +kernel
theorem d_R_awaits_15 : decode c_R_awaits 15 = .ok (.iload_n 1, 1) := by decide +kernel
theorem d_R_awaits_16 : decode c_R_awaits 16 = .ok (.iload_n 2, 1) := by decide +kernel
theorem d_R_awaits_17 : decode c_R_awaits 17 = .ok (.iload_n 3, 1) := by decide +kernel
theorem d_R_awaits_18 : decode c_R_awaits 18 = .ok (.invokevirtual 190, 3) := by decide +kernel
theorem d_R_awaits_21 : decode c_R_awaits 21 = .ok (.goto 50, 3) := by decide +kernel
theorem d_R_awaits_24 : decode c_R_awaits 24 = .ok (.iload_n 2, 1) := by decide +kernel
theorem d_R_awaits_25 : decode c_R_awaits 25 = .ok (.iconst 4, 1) := by decide +kernel
theorem d_R_awaits_26 : decode c_R_awaits 26 = .ok (.if_icmp .ne 30, 3) := by decide +kernel
theorem d_R_awaits_29 : decode c_R_awaits 29 = .ok (.aload_n 0, 1) := by decide +kernel
theorem d_R_awaits_30 : decode c_R_awaits 30 = .ok (.getfield 69, 3) := by decide +kernel
theorem d_R_awaits_33 : decode c_R_awaits 33 = .ok (.iload_n 3, 1) := by decide +kernel
theorem d_R_awaits_34 : decode c_R_awaits 34 = .ok (.iaload, 1) := by decide +kernel
theorem d_R_awaits_35 : decode c_R_awaits 35 = .ok (.ifCond .ge 21, 3) := by decide +kernel
theorem d_R_awaits_38 : decode c_R_awaits 38 = .ok (.aload_n 0, 1) := by decide +kernel
theorem d_R_awaits_39 : decode c_R_awaits 39 = .ok (.getfield 66, 3) := by decide +kernel
theorem d_R_awaits_42 : decode c_R_awaits 42 = .ok (.iload_n 1, 1) := by decide +kernel
theorem d_R_awaits_43 : decode c_R_awaits 43 = .ok (.dup2, 1) := by decide +kernel
theorem d_R_awaits_44 : decode c_R_awaits 44 = .ok (.iaload, 1) := by decide +kernel
theorem d_R_awaits_45 : decode c_R_awaits 45 = .ok (.aload_n 0, 1) := by decide +kernel
theorem d_R_awaits_46 : decode c_R_awaits 46 = .ok (.getfield 66, 3) := by decide +kernel
theorem d_R_awaits_49 : decode c_R_awaits 49 = .ok (.iload_n 3, 1) := by decide +kernel
theorem d_R_awaits_50 : decode c_R_awaits 50 = .ok (.iaload, 1) := by decide +kernel
theorem d_R_awaits_51 : decode c_R_awaits 51 = .ok (.iadd, 1) := by decide +kernel
theorem d_R_awaits_52 : decode c_R_awaits 52 = .ok (.iastore, 1) := by decide +kernel
theorem d_R_awaits_53 : decode c_R_awaits 53 = .ok (.goto 18, 3) := by decide +kernel
theorem d_R_awaits_56 : decode c_R_awaits 56 = .ok (.iload_n 2, 1) := by decide +kernel
theorem d_R_awaits_57 : decode c_R_awaits 57 = .ok (.iconst 4, 1) := by decide +kernel
theorem d_R_awaits_58 : decode c_R_awaits 58 = .ok (.if_icmp .ne 13, 3) := by decide +kernel
theorem d_R_awaits_61 : decode c_R_awaits 61 = .ok (.aload_n 0, 1) := by decide +kernel
theorem d_R_awaits_62 : decode c_R_awaits 62 = .ok (.aload_n 0, 1) := by decide +kernel
theorem d_R_awaits_63 : decode c_R_awaits 63 = .ok (.getfield 69, 3) := by decide +kernel
theorem d_R_awaits_66 : decode c_R_awaits 66 = .ok (.iload_n 3, 1) := by decide +kernel
theorem d_R_awaits_67 : decode c_R_awaits 67 = .ok (.iaload, 1) := by decide +kernel
theorem d_R_awaits_68 : decode c_R_awaits 68 = .ok (.putfield 34, 3) := by decide +kernel
theorem d_R_awaits_71 : decode c_R_awaits 71 = .ok (.return_, 1) := by decide +kernel
theorem d_R_scope_0 : decode c_R_scope 0 = .ok (.aload_n 0, 1) := by decide +kernel
theorem d_R_scope_1 : decode c_R_scope 1 = .ok (.iload_n 2, 1) := by decide +kernel
theorem d_R_scope_2 : decode c_R_scope 2 = .ok (.bipush 10, 2) := by decide +kernel
theorem d_R_scope_4 : decode c_R_scope 4 = .ok (.if_icmp .ne 8, 3) := by decide +kernel
theorem d_R_scope_7 : decode c_R_scope 7 = .ok (.iload 4, 2) := by decide +kernel
theorem d_R_scope_9 : decode c_R_scope 9 = .ok (.goto 4, 3) := by decide +kernel
theorem d_R_scope_12 : decode c_R_scope 12 = .ok (.iload_n 3, 1) := by decide +kernel
theorem d_R_scope_13 : decode c_R_scope 13 = .ok (.iload_n 1, 1) := by decide +kernel
theorem d_R_scope_14 : decode c_R_scope 14 = .ok (.iload_n 2, 1) := by decide +kernel
theorem d_R_scope_15 : decode c_R_scope 15 = .ok (.bipush 6, 2) := by decide +kernel
theorem d_R_scope_17 : decode c_R_scope 17 = .ok (.isub, 1) := by decide +kernel
theorem d_R_scope_18 : decode c_R_scope 18 = .ok (.invokevirtual 158, 3) := by decide +kernel
theorem d_R_scope_21 : decode c_R_scope 21 = .ok (.istore 5, 2) := by decide +kernel
theorem d_R_scope_23 : decode c_R_scope 23 = .ok (.iload_n 2, 1) := by decide +kernel
theorem d_R_scope_24 : decode c_R_scope 24 = .ok (.bipush 10, 2) := by decide +kernel
theorem d_R_scope_26 : decode c_R_scope 26 = .ok (.if_icmp .ne 27, 3) := by decide +kernel
theorem d_R_scope_29 : decode c_R_scope 29 = .ok (.aload_n 0, 1) := by decide +kernel
theorem d_R_scope_30 : decode c_R_scope 30 = .ok (.getfield 106, 3) := by decide +kernel
theorem d_R_scope_33 : decode c_R_scope 33 = .ok (.iload 5, 2) := by decide +kernel
theorem d_R_scope_35 : decode c_R_scope 35 = .ok (.aload_n 0, 1) := by decide +kernel
theorem d_R_scope_36 : decode c_R_scope 36 = .ok (.getfield 16, 3) := by decide +kernel
theorem d_R_scope_39 : decode c_R_scope 39 = .ok (.iload_n 3, 1) := by decide +kernel
theorem d_R_scope_40 : decode c_R_scope 40 = .ok (.iadd, 1) := by decide +kernel
theorem d_R_scope_41 : decode c_R_scope 41 = .ok (.iastore, 1) := by decide +kernel
theorem d_R_scope_42 : decode c_R_scope 42 = .ok (.aload_n 0, 1) := by decide +kernel
theorem d_R_scope_43 : decode c_R_scope 43 = .ok (.getfield 109, 3) := by decide +kernel
theorem d_R_scope_46 : decode c_R_scope 46 = .ok (.iload 5, 2) := by decide +kernel
theorem d_R_scope_48 : decode c_R_scope 48 = .ok (.aload_n 0, 1) := by decide +kernel
theorem d_R_scope_49 : decode c_R_scope 49 = .ok (.getfield 28, 3) := by decide +kernel
theorem d_R_scope_52 : decode c_R_scope 52 = .ok (.iastore, 1) := by decide +kernel
theorem d_R_scope_53 : decode c_R_scope 53 = .ok (.aload_n 0, 1) := by decide +kernel
theorem d_R_scope_54 : decode c_R_scope 54 = .ok (.iload_n 1, 1) := by decide +kernel
theorem d_R_scope_55 : decode c_R_scope 55 = .ok (.bipush 8, 2) := by decide +kernel
theorem d_R_scope_57 : decode c_R_scope 57 = .ok (.iload 5, 2) := by decide +kernel
theorem d_R_scope_59 : decode c_R_scope 59 = .ok (.invokevirtual 190, 3) := by decide +kernel
theorem d_R_scope_62 : decode c_R_scope 62 = .ok (.return_, 1) := by decide +kernel
theorem d_R_frame_0 : decode c_R_frame 0 = .ok (.aload_n 0, 1) := by decide +kernel
theorem d_R_frame_1 : decode c_R_frame 1 = .ok (.getfield 75, 3) := by decide +kernel
theorem d_R_frame_4 : decode c_R_frame 4 = .ok (.iload_n 1, 1) := by decide +kernel
theorem d_R_frame_5 : decode c_R_frame 5 = .ok (.iaload, 1) := by decide +kernel
theorem d_R_frame_6 : decode c_R_frame 6 = .ok (.bipush 6, 2) := by decide +kernel
theorem d_R_frame_8 : decode c_R_frame 8 = .ok (.if_icmp .ne 12, 3) := by decide +kernel
theorem d_R_frame_11 : decode c_R_frame 11 = .ok (.aload_n 0, 1) := by decide +kernel
theorem d_R_frame_12 : decode c_R_frame 12 = .ok (.bipush 97, 2) := by decide +kernel
theorem d_R_frame_14 : decode c_R_frame 14 = .ok (.putfield 34, 3) := by decide +kernel
theorem d_R_frame_17 : decode c_R_frame 17 = .ok (.goto 33, 3) := by decide +kernel
theorem d_R_frame_20 : decode c_R_frame 20 = .ok (.aload_n 0, 1) := by decide +kernel
theorem d_R_frame_21 : decode c_R_frame 21 = .ok (.iload_n 1, 1) := by decide +kernel
theorem d_R_frame_22 : decode c_R_frame 22 = .ok (.iload_n 3, 1) := by decide +kernel
theorem d_R_frame_23 : decode c_R_frame 23 = .ok (.iload_n 2, 1) := by decide +kernel
theorem d_R_frame_24 : decode c_R_frame 24 = .ok (.bipush 11, 2) := by decide +kernel
theorem d_R_frame_26 : decode c_R_frame 26 = .ok (.if_icmp .ne 7, 3) := by decide +kernel
theorem d_R_frame_29 : decode c_R_frame 29 = .ok (.iconst 1, 1) := by decide +kernel
theorem d_R_frame_30 : decode c_R_frame 30 = .ok (.goto 14, 3) := by decide +kernel
theorem d_R_frame_33 : decode c_R_frame 33 = .ok (.iload_n 2, 1) := by decide +kernel
theorem d_R_frame_34 : decode c_R_frame 34 = .ok (.bipush 12, 2) := by decide +kernel
theorem d_R_frame_36 : decode c_R_frame 36 = .ok (.if_icmp .ne 7, 3) := by decide +kernel
theorem d_R_frame_39 : decode c_R_frame 39 = .ok (.iconst 2, 1) := by decide +kernel
theorem d_R_frame_40 : decode c_R_frame 40 = .ok (.goto 4, 3) := by decide +kernel
theorem d_R_frame_43 : decode c_R_frame 43 = .ok (.iconst 4, 1) := by decide +kernel
theorem d_R_frame_44 : decode c_R_frame 44 = .ok (.iload 4, 2) := by decide +kernel
theorem d_R_frame_46 : decode c_R_frame 46 = .ok (.iconst (-1), 1) := by decide +kernel
theorem d_R_frame_47 : decode c_R_frame 47 = .ok (.invokevirtual 150, 3) := by decide +kernel
theorem d_R_frame_50 : decode c_R_frame 50 = .ok (.return_, 1) := by decide +kernel
theorem d_R_result_0 : decode c_R_result 0 = .ok (.aload_n 0, 1) := by decide +kernel
theorem d_R_result_1 : decode c_R_result 1 = .ok (.iload_n 1, 1) := by decide +kernel
theorem d_R_result_2 : decode c_R_result 2 = .ok (.invokevirtual 227, 3) := by decide +kernel
theorem d_R_result_5 : decode c_R_result 5 = .ok (.ifCond .eq 9, 3) := by decide +kernel
theorem d_R_result_8 : decode c_R_result 8 = .ok (.aload_n 0, 1) := by decide +kernel
theorem d_R_result_9 : decode c_R_result 9 = .ok (.iconst 1, 1) := by decide +kernel
theorem d_R_result_10 : decode c_R_result 10 = .ok (.invokevirtual 143, 3) := by decide +kernel
theorem d_R_result_13 : decode c_R_result 13 = .ok (.ireturn, 1) := by decide +kernel
theorem d_R_result_14 : decode c_R_result 14 = .ok (.aload_n 0, 1) := by decide +kernel
theorem d_R_result_15 : decode c_R_result 15 = .ok (.getfield 88, 3) := by decide +kernel
theorem d_R_result_18 : decode c_R_result 18 = .ok (.iload_n 1, 1) := by decide +kernel
theorem d_R_result_19 : decode c_R_result 19 = .ok (.baload, 1) := by decide +kernel
theorem d_R_result_20 : decode c_R_result 20 = .ok (.ifCond .ne 9, 3) := by decide +kernel
theorem d_R_result_23 : decode c_R_result 23 = .ok (.aload_n 0, 1) := by decide +kernel
theorem d_R_result_24 : decode c_R_result 24 = .ok (.iconst 2, 1) := by decide +kernel
theorem d_R_result_25 : decode c_R_result 25 = .ok (.invokevirtual 143, 3) := by decide +kernel
theorem d_R_result_28 : decode c_R_result 28 = .ok (.ireturn, 1) := by decide +kernel
theorem d_R_result_29 : decode c_R_result 29 = .ok (.aload_n 0, 1) := by decide +kernel
theorem d_R_result_30 : decode c_R_result 30 = .ok (.getfield 69, 3) := by decide +kernel
theorem d_R_result_33 : decode c_R_result 33 = .ok (.iload_n 1, 1) := by decide +kernel
theorem d_R_result_34 : decode c_R_result 34 = .ok (.iaload, 1) := by decide +kernel
theorem d_R_result_35 : decode c_R_result 35 = .ok (.ifCond .le 9, 3) := by decide +kernel
theorem d_R_result_38 : decode c_R_result 38 = .ok (.aload_n 0, 1) := by decide +kernel
theorem d_R_result_39 : decode c_R_result 39 = .ok (.iconst 3, 1) := by decide +kernel
theorem d_R_result_40 : decode c_R_result 40 = .ok (.invokevirtual 143, 3) := by decide +kernel
theorem d_R_result_43 : decode c_R_result 43 = .ok (.ireturn, 1) := by decide +kernel
theorem d_R_result_44 : decode c_R_result 44 = .ok (.aload_n 0, 1) := by decide +kernel
theorem d_R_result_45 : decode c_R_result 45 = .ok (.getfield 69, 3) := by decide +kernel
theorem d_R_result_48 : decode c_R_result 48 = .ok (.iload_n 1, 1) := by decide +kernel
theorem d_R_result_49 : decode c_R_result 49 = .ok (.iaload, 1) := by decide +kernel
theorem d_R_result_50 : decode c_R_result 50 = .ok (.ifCond .ne 11, 3) := by decide +kernel
theorem d_R_result_53 : decode c_R_result 53 = .ok (.aload_n 0, 1) := by decide +kernel
theorem d_R_result_54 : decode c_R_result 54 = .ok (.iconst 4, 1) := by decide +kernel
theorem d_R_result_55 : decode c_R_result 55 = .ok (.invokevirtual 143, 3) := by decide +kernel
theorem d_R_result_58 : decode c_R_result 58 = .ok (.goto 13, 3) := by decide +kernel
theorem d_R_result_61 : decode c_R_result 61 = .ok (.aload_n 0, 1) := by decide +kernel
theorem d_R_result_62 : decode c_R_result 62 = .ok (.aload_n 0, 1) := by decide +kernel
theorem d_R_result_63 : decode c_R_result 63 = .ok (.getfield 66, 3) := by decide +kernel
theorem d_R_result_66 : decode c_R_result 66 = .ok (.iload_n 1, 1) := by decide +kernel
theorem d_R_result_67 : decode c_R_result 67 = .ok (.iaload, 1) := by decide +kernel
theorem d_R_result_68 : decode c_R_result 68 = .ok (.invokevirtual 147, 3) := by decide +kernel
theorem d_R_result_71 : decode c_R_result 71 = .ok (.ireturn, 1) := by decide +kernel
theorem d_R_no_0 : decode c_R_no 0 = .ok (.iload_n 1, 1) := by decide +kernel
theorem d_R_no_1 : decode c_R_no 1 = .ok (.ifCond .lt 11, 3) := by decide +kernel
theorem d_R_no_4 : decode c_R_no 4 = .ok (.iload_n 1, 1) := by decide +kernel
theorem d_R_no_5 : decode c_R_no 5 = .ok (.aload_n 0, 1) := by decide +kernel
theorem d_R_no_6 : decode c_R_no 6 = .ok (.getfield 13, 3) := by decide +kernel
theorem d_R_no_9 : decode c_R_no 9 = .ok (.if_icmp .lt 7, 3) := by decide +kernel
theorem d_R_no_12 : decode c_R_no 12 = .ok (.iconst 1, 1) := by decide +kernel
theorem d_R_no_13 : decode c_R_no 13 = .ok (.goto 4, 3) := by decide +kernel
theorem d_R_no_16 : decode c_R_no 16 = .ok (.iconst 0, 1) := by decide +kernel
theorem d_R_no_17 : decode c_R_no 17 = .ok (.ireturn, 1) := by decide +kernel
theorem d_R_state_0 : decode c_R_state 0 = .ok (.aload_n 0, 1) := by decide +kernel
theorem d_R_state_1 : decode c_R_state 1 = .ok (.iload_n 1, 1) := by decide +kernel
theorem d_R_state_2 : decode c_R_state 2 = .ok (.invokevirtual 227, 3) := by decide +kernel
theorem d_R_state_5 : decode c_R_state 5 = .ok (.ifCond .eq 9, 3) := by decide +kernel
theorem d_R_state_8 : decode c_R_state 8 = .ok (.aload_n 0, 1) := by decide +kernel
theorem d_R_state_9 : decode c_R_state 9 = .ok (.iconst 1, 1) := by decide +kernel
theorem d_R_state_10 : decode c_R_state 10 = .ok (.invokevirtual 143, 3) := by decide +kernel
theorem d_R_state_13 : decode c_R_state 13 = .ok (.ireturn, 1) := by decide +kernel
theorem d_R_state_14 : decode c_R_state 14 = .ok (.aload_n 0, 1) := by decide +kernel
theorem d_R_state_15 : decode c_R_state 15 = .ok (.getfield 88, 3) := by decide +kernel
theorem d_R_state_18 : decode c_R_state 18 = .ok (.iload_n 1, 1) := by decide +kernel
theorem d_R_state_19 : decode c_R_state 19 = .ok (.baload, 1) := by decide +kernel
theorem d_R_state_20 : decode c_R_state 20 = .ok (.ifCond .eq 38, 3) := by decide +kernel
theorem d_R_state_23 : decode c_R_state 23 = .ok (.aload_n 0, 1) := by decide +kernel
theorem d_R_state_24 : decode c_R_state 24 = .ok (.bipush 8, 2) := by decide +kernel
theorem d_R_state_26 : decode c_R_state 26 = .ok (.aload_n 0, 1) := by decide +kernel
theorem d_R_state_27 : decode c_R_state 27 = .ok (.getfield 69, 3) := by decide +kernel
theorem d_R_state_30 : decode c_R_state 30 = .ok (.iload_n 1, 1) := by decide +kernel
theorem d_R_state_31 : decode c_R_state 31 = .ok (.iaload, 1) := by decide +kernel
theorem d_R_state_32 : decode c_R_state 32 = .ok (.ifCond .ge 7, 3) := by decide +kernel
theorem d_R_state_35 : decode c_R_state 35 = .ok (.iconst 0, 1) := by decide +kernel
theorem d_R_state_36 : decode c_R_state 36 = .ok (.goto 17, 3) := by decide +kernel
theorem d_R_state_39 : decode c_R_state 39 = .ok (.aload_n 0, 1) := by decide +kernel
theorem d_R_state_40 : decode c_R_state 40 = .ok (.getfield 69, 3) := by decide +kernel
theorem d_R_state_43 : decode c_R_state 43 = .ok (.iload_n 1, 1) := by decide +kernel
theorem d_R_state_44 : decode c_R_state 44 = .ok (.iaload, 1) := by decide +kernel
theorem d_R_state_45 : decode c_R_state 45 = .ok (.ifCond .ne 7, 3) := by decide +kernel
theorem d_R_state_48 : decode c_R_state 48 = .ok (.iconst 1, 1) := by decide +kernel
theorem d_R_state_49 : decode c_R_state 49 = .ok (.goto 4, 3) := by decide +kernel
theorem d_R_state_52 : decode c_R_state 52 = .ok (.iconst 2, 1) := by decide +kernel
theorem d_R_state_53 : decode c_R_state 53 = .ok (.iadd, 1) := by decide +kernel
theorem d_R_state_54 : decode c_R_state 54 = .ok (.invokevirtual 147, 3) := by decide +kernel
theorem d_R_state_57 : decode c_R_state 57 = .ok (.ireturn, 1) := by decide +kernel
theorem d_R_state_58 : decode c_R_state 58 = .ok (.aload_n 0, 1) := by decide +kernel
theorem d_R_state_59 : decode c_R_state 59 = .ok (.aload_n 0, 1) := by decide +kernel
theorem d_R_state_60 : decode c_R_state 60 = .ok (.getfield 69, 3) := by decide +kernel
theorem d_R_state_63 : decode c_R_state 63 = .ok (.iload_n 1, 1) := by decide +kernel
theorem d_R_state_64 : decode c_R_state 64 = .ok (.iaload, 1) := by decide +kernel

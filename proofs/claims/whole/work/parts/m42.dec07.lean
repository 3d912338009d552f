theorem dX10_work_322 : decode cX10_work 322 = .ok (.goto (-138), 3) := by decide +kernel
theorem dX10_work_325 : decode cX10_work 325 = .ok (.return_, 1) := by decide +kernel
theorem dX10_result_0 : decode cX10_result 0 = .ok (.aload_n 0, 1) := by decide +kernel
theorem dX10_result_1 : decode cX10_result 1 = .ok (.iload_n 1, 1) := by decide +kernel
theorem dX10_result_2 : decode cX10_result 2 = .ok (.invokestatic 168, 3) := by decide +kernel
theorem dX10_result_5 : decode cX10_result 5 = .ok (.ifCond .ne 7, 3) := by decide +kernel
theorem dX10_result_8 : decode cX10_result 8 = .ok (.iconst 1, 1) := by decide +kernel
theorem dX10_result_9 : decode cX10_result 9 = .ok (.goto 4, 3) := by decide +kernel
theorem dX10_result_12 : decode cX10_result 12 = .ok (.iconst 0, 1) := by decide +kernel
theorem dX10_result_13 : decode cX10_result 13 = .ok (.iconst 1, 1) := by decide +kernel
theorem dX10_result_14 : decode cX10_result 14 = .ok (.invokevirtual 172, 3) := by decide +kernel
theorem dX10_result_17 : decode cX10_result 17 = .ok (.ifCond .ne 45, 3) := by decide +kernel
theorem dX10_result_20 : decode cX10_result 20 = .ok (.aload_n 0, 1) := by decide +kernel
theorem dX10_result_21 : decode cX10_result 21 = .ok (.aload_n 0, 1) := by decide +kernel
theorem dX10_result_22 : decode cX10_result 22 = .ok (.getfield 7, 3) := by decide +kernel
theorem dX10_result_25 : decode cX10_result 25 = .ok (.iload_n 1, 1) := by decide +kernel
theorem dX10_result_26 : decode cX10_result 26 = .ok (.baload, 1) := by decide +kernel
theorem dX10_result_27 : decode cX10_result 27 = .ok (.ifCond .eq 23, 3) := by decide +kernel
theorem dX10_result_30 : decode cX10_result 30 = .ok (.iload_n 2, 1) := by decide +kernel
theorem dX10_result_31 : decode cX10_result 31 = .ok (.aload_n 0, 1) := by decide +kernel
theorem dX10_result_32 : decode cX10_result 32 = .ok (.getfield 29, 3) := by decide +kernel
theorem dX10_result_35 : decode cX10_result 35 = .ok (.iload_n 1, 1) := by decide +kernel
theorem dX10_result_36 : decode cX10_result 36 = .ok (.iaload, 1) := by decide +kernel
theorem dX10_result_37 : decode cX10_result 37 = .ok (.if_icmp .le 13, 3) := by decide +kernel
theorem dX10_result_40 : decode cX10_result 40 = .ok (.iload_n 2, 1) := by decide +kernel
theorem dX10_result_41 : decode cX10_result 41 = .ok (.aload_n 0, 1) := by decide +kernel
theorem dX10_result_42 : decode cX10_result 42 = .ok (.getfield 26, 3) := by decide +kernel
theorem dX10_result_45 : decode cX10_result 45 = .ok (.iload_n 1, 1) := by decide +kernel
theorem dX10_result_46 : decode cX10_result 46 = .ok (.iaload, 1) := by decide +kernel
theorem dX10_result_47 : decode cX10_result 47 = .ok (.if_icmp .le 7, 3) := by decide +kernel
theorem dX10_result_50 : decode cX10_result 50 = .ok (.iconst 1, 1) := by decide +kernel
theorem dX10_result_51 : decode cX10_result 51 = .ok (.goto 4, 3) := by decide +kernel
theorem dX10_result_54 : decode cX10_result 54 = .ok (.iconst 0, 1) := by decide +kernel
theorem dX10_result_55 : decode cX10_result 55 = .ok (.iconst 2, 1) := by decide +kernel
theorem dX10_result_56 : decode cX10_result 56 = .ok (.invokevirtual 172, 3) := by decide +kernel
theorem dX10_result_59 : decode cX10_result 59 = .ok (.ifCond .eq 5, 3) := by decide +kernel
theorem dX10_result_62 : decode cX10_result 62 = .ok (.iconst 0, 1) := by decide +kernel
theorem dX10_result_63 : decode cX10_result 63 = .ok (.ireturn, 1) := by decide +kernel
theorem dX10_result_64 : decode cX10_result 64 = .ok (.aload_n 0, 1) := by decide +kernel
theorem dX10_result_65 : decode cX10_result 65 = .ok (.iload_n 1, 1) := by decide +kernel
theorem dX10_result_66 : decode cX10_result 66 = .ok (.invokevirtual 274, 3) := by decide +kernel
theorem dX10_result_69 : decode cX10_result 69 = .ok (.aload_n 0, 1) := by decide +kernel
theorem dX10_result_70 : decode cX10_result 70 = .ok (.getfield 125, 3) := by decide +kernel
theorem dX10_result_73 : decode cX10_result 73 = .ok (.iload_n 2, 1) := by decide +kernel
theorem dX10_result_74 : decode cX10_result 74 = .ok (.iaload, 1) := by decide +kernel
theorem dX10_result_75 : decode cX10_result 75 = .ok (.ireturn, 1) := by decide +kernel
theorem dX10_key_0 : decode cX10_key 0 = .ok (.aload_n 0, 1) := by decide +kernel
theorem dX10_key_1 : decode cX10_key 1 = .ok (.iload_n 1, 1) := by decide +kernel
theorem dX10_key_2 : decode cX10_key 2 = .ok (.invokestatic 168, 3) := by decide +kernel
theorem dX10_key_5 : decode cX10_key 5 = .ok (.ifCond .eq 10, 3) := by decide +kernel
theorem dX10_key_8 : decode cX10_key 8 = .ok (.iload_n 2, 1) := by decide +kernel
theorem dX10_key_9 : decode cX10_key 9 = .ok (.invokestatic 228, 3) := by decide +kernel
theorem dX10_key_12 : decode cX10_key 12 = .ok (.ifCond .ne 7, 3) := by decide +kernel
theorem dX10_key_15 : decode cX10_key 15 = .ok (.iconst 1, 1) := by decide +kernel
theorem dX10_key_16 : decode cX10_key 16 = .ok (.goto 4, 3) := by decide +kernel
theorem dX10_key_19 : decode cX10_key 19 = .ok (.iconst 0, 1) := by decide +kernel
theorem dX10_key_20 : decode cX10_key 20 = .ok (.iconst 1, 1) := by decide +kernel
theorem dX10_key_21 : decode cX10_key 21 = .ok (.invokevirtual 172, 3) := by decide +kernel
theorem dX10_key_24 : decode cX10_key 24 = .ok (.ifCond .ne 47, 3) := by decide +kernel
theorem dX10_key_27 : decode cX10_key 27 = .ok (.aload_n 0, 1) := by decide +kernel
theorem dX10_key_28 : decode cX10_key 28 = .ok (.aload_n 0, 1) := by decide +kernel
theorem dX10_key_29 : decode cX10_key 29 = .ok (.getfield 7, 3) := by decide +kernel
theorem dX10_key_32 : decode cX10_key 32 = .ok (.iload_n 1, 1) := by decide +kernel
theorem dX10_key_33 : decode cX10_key 33 = .ok (.baload, 1) := by decide +kernel
theorem dX10_key_34 : decode cX10_key 34 = .ok (.ifCond .ne 7, 3) := by decide +kernel
theorem dX10_key_37 : decode cX10_key 37 = .ok (.iconst 1, 1) := by decide +kernel
theorem dX10_key_38 : decode cX10_key 38 = .ok (.goto 4, 3) := by decide +kernel
theorem dX10_key_41 : decode cX10_key 41 = .ok (.iconst 0, 1) := by decide +kernel
theorem dX10_key_42 : decode cX10_key 42 = .ok (.iconst 2, 1) := by decide +kernel
theorem dX10_key_43 : decode cX10_key 43 = .ok (.invokevirtual 172, 3) := by decide +kernel
theorem dX10_key_46 : decode cX10_key 46 = .ok (.ifCond .ne 25, 3) := by decide +kernel
theorem dX10_key_49 : decode cX10_key 49 = .ok (.aload_n 0, 1) := by decide +kernel
theorem dX10_key_50 : decode cX10_key 50 = .ok (.iload_n 3, 1) := by decide +kernel
theorem dX10_key_51 : decode cX10_key 51 = .ok (.ifCond .lt 8, 3) := by decide +kernel
theorem dX10_key_54 : decode cX10_key 54 = .ok (.iload_n 3, 1) := by decide +kernel
theorem dX10_key_55 : decode cX10_key 55 = .ok (.iconst 4, 1) := by decide +kernel
theorem dX10_key_56 : decode cX10_key 56 = .ok (.if_icmp .le 7, 3) := by decide +kernel
theorem dX10_key_59 : decode cX10_key 59 = .ok (.iconst 1, 1) := by decide +kernel
theorem dX10_key_60 : decode cX10_key 60 = .ok (.goto 4, 3) := by decide +kernel
theorem dX10_key_63 : decode cX10_key 63 = .ok (.iconst 0, 1) := by decide +kernel
theorem dX10_key_64 : decode cX10_key 64 = .ok (.iconst 3, 1) := by decide +kernel
theorem dX10_key_65 : decode cX10_key 65 = .ok (.invokevirtual 172, 3) := by decide +kernel
theorem dX10_key_68 : decode cX10_key 68 = .ok (.ifCond .eq 5, 3) := by decide +kernel
theorem dX10_key_71 : decode cX10_key 71 = .ok (.iconst 0, 1) := by decide +kernel
theorem dX10_key_72 : decode cX10_key 72 = .ok (.ireturn, 1) := by decide +kernel
theorem dX10_key_73 : decode cX10_key 73 = .ok (.aload_n 0, 1) := by decide +kernel
theorem dX10_key_74 : decode cX10_key 74 = .ok (.iload_n 1, 1) := by decide +kernel
theorem dX10_key_75 : decode cX10_key 75 = .ok (.invokevirtual 274, 3) := by decide +kernel
theorem dX10_key_78 : decode cX10_key 78 = .ok (.iload_n 3, 1) := by decide +kernel
theorem dX10_key_79 : decode cX10_key 79 = .ok (.iconst 4, 1) := by decide +kernel
theorem dX10_key_80 : decode cX10_key 80 = .ok (.if_icmp .ne 12, 3) := by decide +kernel
theorem dX10_key_83 : decode cX10_key 83 = .ok (.aload_n 0, 1) := by decide +kernel
theorem dX10_key_84 : decode cX10_key 84 = .ok (.getfield 104, 3) := by decide +kernel
theorem dX10_key_87 : decode cX10_key 87 = .ok (.iload_n 2, 1) := by decide +kernel
theorem dX10_key_88 : decode cX10_key 88 = .ok (.iaload, 1) := by decide +kernel
theorem dX10_key_89 : decode cX10_key 89 = .ok (.goto 9, 3) := by decide +kernel
theorem dX10_key_92 : decode cX10_key 92 = .ok (.aload_n 0, 1) := by decide +kernel
theorem dX10_key_93 : decode cX10_key 93 = .ok (.iload_n 2, 1) := by decide +kernel
theorem dX10_key_94 : decode cX10_key 94 = .ok (.iload_n 3, 1) := by decide +kernel
theorem dX10_key_95 : decode cX10_key 95 = .ok (.invokevirtual 254, 3) := by decide +kernel
theorem dX10_key_98 : decode cX10_key 98 = .ok (.ireturn, 1) := by decide +kernel
theorem dX10_past_0 : decode cX10_past 0 = .ok (.aload_n 0, 1) := by decide +kernel
theorem dX10_past_1 : decode cX10_past 1 = .ok (.iload_n 1, 1) := by decide +kernel
theorem dX10_past_2 : decode cX10_past 2 = .ok (.invokestatic 168, 3) := by decide +kernel
theorem dX10_past_5 : decode cX10_past 5 = .ok (.ifCond .eq 10, 3) := by decide +kernel
theorem dX10_past_8 : decode cX10_past 8 = .ok (.iload_n 2, 1) := by decide +kernel
theorem dX10_past_9 : decode cX10_past 9 = .ok (.invokestatic 228, 3) := by decide +kernel
theorem dX10_past_12 : decode cX10_past 12 = .ok (.ifCond .ne 7, 3) := by decide +kernel
theorem dX10_past_15 : decode cX10_past 15 = .ok (.iconst 1, 1) := by decide +kernel
theorem dX10_past_16 : decode cX10_past 16 = .ok (.goto 4, 3) := by decide +kernel
theorem dX10_past_19 : decode cX10_past 19 = .ok (.iconst 0, 1) := by decide +kernel
theorem dX10_past_20 : decode cX10_past 20 = .ok (.iconst 1, 1) := by decide +kernel
theorem dX10_past_21 : decode cX10_past 21 = .ok (.invokevirtual 172, 3) := by decide +kernel
theorem dX10_past_24 : decode cX10_past 24 = .ok (.ifCond .ne 25, 3) := by decide +kernel
theorem dX10_past_27 : decode cX10_past 27 = .ok (.aload_n 0, 1) := by decide +kernel
theorem dX10_past_28 : decode cX10_past 28 = .ok (.aload_n 0, 1) := by decide +kernel
theorem dX10_past_29 : decode cX10_past 29 = .ok (.getfield 7, 3) := by decide +kernel
theorem dX10_past_32 : decode cX10_past 32 = .ok (.iload_n 1, 1) := by decide +kernel
theorem dX10_past_33 : decode cX10_past 33 = .ok (.baload, 1) := by decide +kernel
theorem dX10_past_34 : decode cX10_past 34 = .ok (.ifCond .ne 7, 3) := by decide +kernel
theorem dX10_past_37 : decode cX10_past 37 = .ok (.iconst 1, 1) := by decide +kernel
theorem dX10_past_38 : decode cX10_past 38 = .ok (.goto 4, 3) := by decide +kernel
theorem dX10_past_41 : decode cX10_past 41 = .ok (.iconst 0, 1) := by decide +kernel
theorem dX10_past_42 : decode cX10_past 42 = .ok (.iconst 2, 1) := by decide +kernel
theorem dX10_past_43 : decode cX10_past 43 = .ok (.invokevirtual 172, 3) := by decide +kernel
theorem dX10_past_46 : decode cX10_past 46 = .ok (.ifCond .eq 5, 3) := by decide +kernel
theorem dX10_past_49 : decode cX10_past 49 = .ok (.iconst 0, 1) := by decide +kernel
theorem dX10_past_50 : decode cX10_past 50 = .ok (.ireturn, 1) := by decide +kernel
theorem dX10_past_51 : decode cX10_past 51 = .ok (.aload_n 0, 1) := by decide +kernel
theorem dX10_past_52 : decode cX10_past 52 = .ok (.iload_n 1, 1) := by decide +kernel
theorem dX10_past_53 : decode cX10_past 53 = .ok (.invokevirtual 274, 3) := by decide +kernel
theorem dX10_past_56 : decode cX10_past 56 = .ok (.aload_n 0, 1) := by decide +kernel
theorem dX10_past_57 : decode cX10_past 57 = .ok (.iload_n 3, 1) := by decide +kernel
theorem dX10_past_58 : decode cX10_past 58 = .ok (.aload_n 0, 1) := by decide +kernel
theorem dX10_past_59 : decode cX10_past 59 = .ok (.getfield 260, 3) := by decide +kernel
theorem dX10_past_62 : decode cX10_past 62 = .ok (.if_icmp .lt 11, 3) := by decide +kernel
theorem dX10_past_65 : decode cX10_past 65 = .ok (.iload_n 3, 1) := by decide +kernel
theorem dX10_past_66 : decode cX10_past 66 = .ok (.aload_n 0, 1) := by decide +kernel
theorem dX10_past_67 : decode cX10_past 67 = .ok (.getfield 238, 3) := by decide +kernel
theorem dX10_past_70 : decode cX10_past 70 = .ok (.if_icmp .le 7, 3) := by decide +kernel
theorem dX10_past_73 : decode cX10_past 73 = .ok (.iconst 1, 1) := by decide +kernel
theorem dX10_past_74 : decode cX10_past 74 = .ok (.goto 4, 3) := by decide +kernel
theorem dX10_past_77 : decode cX10_past 77 = .ok (.iconst 0, 1) := by decide +kernel
theorem dX10_past_78 : decode cX10_past 78 = .ok (.iconst 3, 1) := by decide +kernel
theorem dX10_past_79 : decode cX10_past 79 = .ok (.invokevirtual 172, 3) := by decide +kernel
theorem dX10_past_82 : decode cX10_past 82 = .ok (.ifCond .eq 5, 3) := by decide +kernel
theorem dX10_past_85 : decode cX10_past 85 = .ok (.iconst 0, 1) := by decide +kernel
theorem dX10_past_86 : decode cX10_past 86 = .ok (.ireturn, 1) := by decide +kernel
theorem dX10_past_87 : decode cX10_past 87 = .ok (.iconst 0, 1) := by decide +kernel
theorem dX10_past_88 : decode cX10_past 88 = .ok (.istore 4, 2) := by decide +kernel
theorem dX10_past_90 : decode cX10_past 90 = .ok (.iconst 0, 1) := by decide +kernel
theorem dX10_past_91 : decode cX10_past 91 = .ok (.istore 5, 2) := by decide +kernel
theorem dX10_past_93 : decode cX10_past 93 = .ok (.iconst 0, 1) := by decide +kernel
theorem dX10_past_94 : decode cX10_past 94 = .ok (.istore 6, 2) := by decide +kernel
theorem dX10_past_96 : decode cX10_past 96 = .ok (.iload 6, 2) := by decide +kernel
theorem dX10_past_98 : decode cX10_past 98 = .ok (.aload_n 0, 1) := by decide +kernel
theorem dX10_past_99 : decode cX10_past 99 = .ok (.getfield 235, 3) := by decide +kernel
theorem dX10_past_102 : decode cX10_past 102 = .ok (.if_icmp .ge 52, 3) := by decide +kernel
theorem dX10_past_105 : decode cX10_past 105 = .ok (.aload_n 0, 1) := by decide +kernel
theorem dX10_past_106 : decode cX10_past 106 = .ok (.getfield 113, 3) := by decide +kernel
theorem dX10_past_109 : decode cX10_past 109 = .ok (.iload 6, 2) := by decide +kernel
theorem dX10_past_111 : decode cX10_past 111 = .ok (.iaload, 1) := by decide +kernel
theorem dX10_past_112 : decode cX10_past 112 = .ok (.iload_n 3, 1) := by decide +kernel
theorem dX10_past_113 : decode cX10_past 113 = .ok (.if_icmp .gt 41, 3) := by decide +kernel
theorem dX10_past_116 : decode cX10_past 116 = .ok (.aload_n 0, 1) := by decide +kernel
theorem dX10_past_117 : decode cX10_past 117 = .ok (.getfield 116, 3) := by decide +kernel
theorem dX10_past_120 : decode cX10_past 120 = .ok (.iload 6, 2) := by decide +kernel
theorem dX10_past_122 : decode cX10_past 122 = .ok (.iaload, 1) := by decide +kernel
theorem dX10_past_123 : decode cX10_past 123 = .ok (.iload_n 2, 1) := by decide +kernel
theorem dX10_past_124 : decode cX10_past 124 = .ok (.if_icmp .eq 6, 3) := by decide +kernel
theorem dX10_past_127 : decode cX10_past 127 = .ok (.goto 21, 3) := by decide +kernel
theorem dX10_past_130 : decode cX10_past 130 = .ok (.aload_n 0, 1) := by decide +kernel
theorem dX10_past_131 : decode cX10_past 131 = .ok (.getfield 122, 3) := by decide +kernel
theorem dX10_past_134 : decode cX10_past 134 = .ok (.iload 6, 2) := by decide +kernel
theorem dX10_past_136 : decode cX10_past 136 = .ok (.baload, 1) := by decide +kernel
theorem dX10_past_137 : decode cX10_past 137 = .ok (.istore 5, 2) := by decide +kernel
theorem dX10_past_139 : decode cX10_past 139 = .ok (.aload_n 0, 1) := by decide +kernel
theorem dX10_past_140 : decode cX10_past 140 = .ok (.getfield 119, 3) := by decide +kernel
theorem dX10_past_143 : decode cX10_past 143 = .ok (.iload 6, 2) := by decide +kernel
theorem dX10_past_145 : decode cX10_past 145 = .ok (.iaload, 1) := by decide +kernel
theorem dX10_past_146 : decode cX10_past 146 = .ok (.istore 4, 2) := by decide +kernel
theorem dX10_past_148 : decode cX10_past 148 = .ok (.iinc 6 1, 3) := by decide +kernel
theorem dX10_past_151 : decode cX10_past 151 = .ok (.goto (-55), 3) := by decide +kernel
theorem dX10_past_154 : decode cX10_past 154 = .ok (.aload_n 0, 1) := by decide +kernel
theorem dX10_past_155 : decode cX10_past 155 = .ok (.iload 5, 2) := by decide +kernel
theorem dX10_past_157 : decode cX10_past 157 = .ok (.ifCond .ne 7, 3) := by decide +kernel
theorem dX10_past_160 : decode cX10_past 160 = .ok (.iconst 1, 1) := by decide +kernel
theorem dX10_past_161 : decode cX10_past 161 = .ok (.goto 4, 3) := by decide +kernel
theorem dX10_past_164 : decode cX10_past 164 = .ok (.iconst 0, 1) := by decide +kernel
theorem dX10_past_165 : decode cX10_past 165 = .ok (.iconst 4, 1) := by decide +kernel
theorem dX10_past_166 : decode cX10_past 166 = .ok (.invokevirtual 172, 3) := by decide +kernel
theorem dX10_past_169 : decode cX10_past 169 = .ok (.ifCond .eq 7, 3) := by decide +kernel
theorem dX10_past_172 : decode cX10_past 172 = .ok (.iconst 0, 1) := by decide +kernel
theorem dX10_past_173 : decode cX10_past 173 = .ok (.goto 5, 3) := by decide +kernel
theorem dX10_past_176 : decode cX10_past 176 = .ok (.iload 4, 2) := by decide +kernel
theorem dX10_past_178 : decode cX10_past 178 = .ok (.ireturn, 1) := by decide +kernel
theorem dX10_coded_0 : decode cX10_coded 0 = .ok (.aload_n 0, 1) := by decide +kernel
theorem dX10_coded_1 : decode cX10_coded 1 = .ok (.getfield 122, 3) := by decide +kernel
theorem dX10_coded_4 : decode cX10_coded 4 = .ok (.iload_n 1, 1) := by decide +kernel
theorem dX10_coded_5 : decode cX10_coded 5 = .ok (.baload, 1) := by decide +kernel
theorem dX10_coded_6 : decode cX10_coded 6 = .ok (.ifCond .eq 39, 3) := by decide +kernel
theorem dX10_coded_9 : decode cX10_coded 9 = .ok (.aload_n 0, 1) := by decide +kernel
theorem dX10_coded_10 : decode cX10_coded 10 = .ok (.getfield 113, 3) := by decide +kernel
theorem dX10_coded_13 : decode cX10_coded 13 = .ok (.iload_n 1, 1) := by decide +kernel
theorem dX10_coded_14 : decode cX10_coded 14 = .ok (.iaload, 1) := by decide +kernel
theorem dX10_coded_15 : decode cX10_coded 15 = .ok (.i2l, 1) := by decide +kernel
theorem dX10_coded_16 : decode cX10_coded 16 = .ok (.bipush 38, 2) := by decide +kernel
theorem dX10_coded_18 : decode cX10_coded 18 = .ok (.lshl, 1) := by decide +kernel
theorem dX10_coded_19 : decode cX10_coded 19 = .ok (.aload_n 0, 1) := by decide +kernel
theorem dX10_coded_20 : decode cX10_coded 20 = .ok (.getfield 116, 3) := by decide +kernel
theorem dX10_coded_23 : decode cX10_coded 23 = .ok (.iload_n 1, 1) := by decide +kernel
theorem dX10_coded_24 : decode cX10_coded 24 = .ok (.iaload, 1) := by decide +kernel
theorem dX10_coded_25 : decode cX10_coded 25 = .ok (.i2l, 1) := by decide +kernel
theorem dX10_coded_26 : decode cX10_coded 26 = .ok (.bipush 32, 2) := by decide +kernel
theorem dX10_coded_28 : decode cX10_coded 28 = .ok (.lshl, 1) := by decide +kernel
theorem dX10_coded_29 : decode cX10_coded 29 = .ok (.ladd, 1) := by decide +kernel
theorem dX10_coded_30 : decode cX10_coded 30 = .ok (.aload_n 0, 1) := by decide +kernel
theorem dX10_coded_31 : decode cX10_coded 31 = .ok (.getfield 119, 3) := by decide +kernel
theorem dX10_coded_34 : decode cX10_coded 34 = .ok (.iload_n 1, 1) := by decide +kernel
theorem dX10_coded_35 : decode cX10_coded 35 = .ok (.iaload, 1) := by decide +kernel
theorem dX10_coded_36 : decode cX10_coded 36 = .ok (.i2l, 1) := by decide +kernel
theorem dX10_coded_37 : decode cX10_coded 37 = .ok (.ldc2_w 277, 3) := by decide +kernel
theorem dX10_coded_40 : decode cX10_coded 40 = .ok (.land, 1) := by decide +kernel
theorem dX10_coded_41 : decode cX10_coded 41 = .ok (.ladd, 1) := by decide +kernel
theorem dX10_coded_42 : decode cX10_coded 42 = .ok (.goto 26, 3) := by decide +kernel
theorem dX10_coded_45 : decode cX10_coded 45 = .ok (.ldc2_w 279, 3) := by decide +kernel
theorem dX10_coded_48 : decode cX10_coded 48 = .ok (.ldc2_w 281, 3) := by decide +kernel
theorem dX10_coded_51 : decode cX10_coded 51 = .ok (.aload_n 0, 1) := by decide +kernel
theorem dX10_coded_52 : decode cX10_coded 52 = .ok (.getfield 113, 3) := by decide +kernel
theorem dX10_coded_55 : decode cX10_coded 55 = .ok (.iload_n 1, 1) := by decide +kernel
theorem dX10_coded_56 : decode cX10_coded 56 = .ok (.iaload, 1) := by decide +kernel
theorem dX10_coded_57 : decode cX10_coded 57 = .ok (.i2l, 1) := by decide +kernel
theorem dX10_coded_58 : decode cX10_coded 58 = .ok (.lmul, 1) := by decide +kernel
theorem dX10_coded_59 : decode cX10_coded 59 = .ok (.aload_n 0, 1) := by decide +kernel
theorem dX10_coded_60 : decode cX10_coded 60 = .ok (.getfield 116, 3) := by decide +kernel
theorem dX10_coded_63 : decode cX10_coded 63 = .ok (.iload_n 1, 1) := by decide +kernel
theorem dX10_coded_64 : decode cX10_coded 64 = .ok (.iaload, 1) := by decide +kernel
theorem dX10_coded_65 : decode cX10_coded 65 = .ok (.i2l, 1) := by decide +kernel
theorem dX10_coded_66 : decode cX10_coded 66 = .ok (.ladd, 1) := by decide +kernel
theorem dX10_coded_67 : decode cX10_coded 67 = .ok (.lsub, 1) := by decide +kernel
theorem dX10_coded_68 : decode cX10_coded 68 = .ok (.lreturn, 1) := by decide +kernel
theorem dX10_event__0 : decode cX10_event_ 0 = .ok (.aload_n 0, 1) := by decide +kernel
theorem dX10_event__1 : decode cX10_event_ 1 = .ok (.iload_n 1, 1) := by decide +kernel
theorem dX10_event__2 : decode cX10_event_ 2 = .ok (.invokestatic 168, 3) := by decide +kernel
theorem dX10_event__5 : decode cX10_event_ 5 = .ok (.ifCond .ne 7, 3) := by decide +kernel
theorem dX10_event__8 : decode cX10_event_ 8 = .ok (.iconst 1, 1) := by decide +kernel
theorem dX10_event__9 : decode cX10_event_ 9 = .ok (.goto 4, 3) := by decide +kernel
theorem dX10_event__12 : decode cX10_event_ 12 = .ok (.iconst 0, 1) := by decide +kernel
theorem dX10_event__13 : decode cX10_event_ 13 = .ok (.iconst 1, 1) := by decide +kernel
theorem dX10_event__14 : decode cX10_event_ 14 = .ok (.invokevirtual 172, 3) := by decide +kernel
theorem dX10_event__17 : decode cX10_event_ 17 = .ok (.ifCond .ne 25, 3) := by decide +kernel
theorem dX10_event__20 : decode cX10_event_ 20 = .ok (.aload_n 0, 1) := by decide +kernel
theorem dX10_event__21 : decode cX10_event_ 21 = .ok (.aload_n 0, 1) := by decide +kernel
theorem dX10_event__22 : decode cX10_event_ 22 = .ok (.getfield 7, 3) := by decide +kernel
theorem dX10_event__25 : decode cX10_event_ 25 = .ok (.iload_n 1, 1) := by decide +kernel
theorem dX10_event__26 : decode cX10_event_ 26 = .ok (.baload, 1) := by decide +kernel
theorem dX10_event__27 : decode cX10_event_ 27 = .ok (.ifCond .ne 7, 3) := by decide +kernel
theorem dX10_event__30 : decode cX10_event_ 30 = .ok (.iconst 1, 1) := by decide +kernel
theorem dX10_event__31 : decode cX10_event_ 31 = .ok (.goto 4, 3) := by decide +kernel
theorem dX10_event__34 : decode cX10_event_ 34 = .ok (.iconst 0, 1) := by decide +kernel
theorem dX10_event__35 : decode cX10_event_ 35 = .ok (.iconst 2, 1) := by decide +kernel
theorem dX10_event__36 : decode cX10_event_ 36 = .ok (.invokevirtual 172, 3) := by decide +kernel
theorem dX10_event__39 : decode cX10_event_ 39 = .ok (.ifCond .eq 5, 3) := by decide +kernel
theorem dX10_event__42 : decode cX10_event_ 42 = .ok (.lconst 0, 1) := by decide +kernel
theorem dX10_event__43 : decode cX10_event_ 43 = .ok (.lreturn, 1) := by decide +kernel
theorem dX10_event__44 : decode cX10_event_ 44 = .ok (.aload_n 0, 1) := by decide +kernel
theorem dX10_event__45 : decode cX10_event_ 45 = .ok (.iload_n 1, 1) := by decide +kernel
theorem dX10_event__46 : decode cX10_event_ 46 = .ok (.invokevirtual 274, 3) := by decide +kernel
theorem dX10_event__49 : decode cX10_event_ 49 = .ok (.aload_n 0, 1) := by decide +kernel
theorem dX10_event__50 : decode cX10_event_ 50 = .ok (.iload_n 2, 1) := by decide +kernel
theorem dX10_event__51 : decode cX10_event_ 51 = .ok (.aload_n 0, 1) := by decide +kernel
theorem dX10_event__52 : decode cX10_event_ 52 = .ok (.getfield 260, 3) := by decide +kernel
theorem dX10_event__55 : decode cX10_event_ 55 = .ok (.if_icmp .gt 7, 3) := by decide +kernel
theorem dX10_event__58 : decode cX10_event_ 58 = .ok (.iconst 1, 1) := by decide +kernel
theorem dX10_event__59 : decode cX10_event_ 59 = .ok (.goto 4, 3) := by decide +kernel
theorem dX10_event__62 : decode cX10_event_ 62 = .ok (.iconst 0, 1) := by decide +kernel
theorem dX10_event__63 : decode cX10_event_ 63 = .ok (.iconst 3, 1) := by decide +kernel
theorem dX10_event__64 : decode cX10_event_ 64 = .ok (.invokevirtual 172, 3) := by decide +kernel
theorem dX10_event__67 : decode cX10_event_ 67 = .ok (.ifCond .eq 5, 3) := by decide +kernel
theorem dX10_event__70 : decode cX10_event_ 70 = .ok (.lconst 0, 1) := by decide +kernel
theorem dX10_event__71 : decode cX10_event_ 71 = .ok (.lreturn, 1) := by decide +kernel
theorem dX10_event__72 : decode cX10_event_ 72 = .ok (.iconst 0, 1) := by decide +kernel
theorem dX10_event__73 : decode cX10_event_ 73 = .ok (.istore 4, 2) := by decide +kernel
theorem dX10_event__75 : decode cX10_event_ 75 = .ok (.iload 4, 2) := by decide +kernel
theorem dX10_event__77 : decode cX10_event_ 77 = .ok (.aload_n 0, 1) := by decide +kernel
theorem dX10_event__78 : decode cX10_event_ 78 = .ok (.getfield 235, 3) := by decide +kernel
theorem dX10_event__81 : decode cX10_event_ 81 = .ok (.if_icmp .ge 20, 3) := by decide +kernel
theorem dX10_event__84 : decode cX10_event_ 84 = .ok (.aload_n 0, 1) := by decide +kernel
theorem dX10_event__85 : decode cX10_event_ 85 = .ok (.getfield 113, 3) := by decide +kernel
theorem dX10_event__88 : decode cX10_event_ 88 = .ok (.iload 4, 2) := by decide +kernel
theorem dX10_event__90 : decode cX10_event_ 90 = .ok (.iaload, 1) := by decide +kernel
theorem dX10_event__91 : decode cX10_event_ 91 = .ok (.iload_n 2, 1) := by decide +kernel
theorem dX10_event__92 : decode cX10_event_ 92 = .ok (.if_icmp .ge 9, 3) := by decide +kernel
theorem dX10_event__95 : decode cX10_event_ 95 = .ok (.iinc 4 1, 3) := by decide +kernel
theorem dX10_event__98 : decode cX10_event_ 98 = .ok (.goto (-23), 3) := by decide +kernel
theorem dX10_event__101 : decode cX10_event_ 101 = .ok (.aload_n 0, 1) := by decide +kernel
theorem dX10_event__102 : decode cX10_event_ 102 = .ok (.iload_n 3, 1) := by decide +kernel
theorem dX10_event__103 : decode cX10_event_ 103 = .ok (.ifCond .lt 14, 3) := by decide +kernel
theorem dX10_event__106 : decode cX10_event_ 106 = .ok (.iload_n 3, 1) := by decide +kernel
theorem dX10_event__107 : decode cX10_event_ 107 = .ok (.aload_n 0, 1) := by decide +kernel
theorem dX10_event__108 : decode cX10_event_ 108 = .ok (.getfield 235, 3) := by decide +kernel
theorem dX10_event__111 : decode cX10_event_ 111 = .ok (.iload 4, 2) := by decide +kernel
theorem dX10_event__113 : decode cX10_event_ 113 = .ok (.isub, 1) := by decide +kernel
theorem dX10_event__114 : decode cX10_event_ 114 = .ok (.if_icmp .lt 7, 3) := by decide +kernel
theorem dX10_event__117 : decode cX10_event_ 117 = .ok (.iconst 1, 1) := by decide +kernel
theorem dX10_event__118 : decode cX10_event_ 118 = .ok (.goto 4, 3) := by decide +kernel
theorem dX10_event__121 : decode cX10_event_ 121 = .ok (.iconst 0, 1) := by decide +kernel
theorem dX10_event__122 : decode cX10_event_ 122 = .ok (.iconst 1, 1) := by decide +kernel
theorem dX10_event__123 : decode cX10_event_ 123 = .ok (.invokevirtual 172, 3) := by decide +kernel
theorem dX10_event__126 : decode cX10_event_ 126 = .ok (.ifCond .eq 7, 3) := by decide +kernel
theorem dX10_event__129 : decode cX10_event_ 129 = .ok (.lconst 0, 1) := by decide +kernel
theorem dX10_event__130 : decode cX10_event_ 130 = .ok (.goto 11, 3) := by decide +kernel
theorem dX10_event__133 : decode cX10_event_ 133 = .ok (.aload_n 0, 1) := by decide +kernel
theorem dX10_event__134 : decode cX10_event_ 134 = .ok (.iload 4, 2) := by decide +kernel
theorem dX10_event__136 : decode cX10_event_ 136 = .ok (.iload_n 3, 1) := by decide +kernel
theorem dX10_event__137 : decode cX10_event_ 137 = .ok (.iadd, 1) := by decide +kernel
theorem dX10_event__138 : decode cX10_event_ 138 = .ok (.invokevirtual 283, 3) := by decide +kernel
theorem dX10_event__141 : decode cX10_event_ 141 = .ok (.lreturn, 1) := by decide +kernel
theorem dX10_message_0 : decode cX10_message 0 = .ok (.aload_n 0, 1) := by decide +kernel
theorem dX10_message_1 : decode cX10_message 1 = .ok (.iload_n 1, 1) := by decide +kernel
theorem dX10_message_2 : decode cX10_message 2 = .ok (.ifCond .lt 11, 3) := by decide +kernel
theorem dX10_message_5 : decode cX10_message 5 = .ok (.iload_n 1, 1) := by decide +kernel
theorem dX10_message_6 : decode cX10_message 6 = .ok (.aload_n 0, 1) := by decide +kernel
theorem dX10_message_7 : decode cX10_message 7 = .ok (.getfield 146, 3) := by decide +kernel
theorem dX10_message_10 : decode cX10_message 10 = .ok (.if_icmp .lt 7, 3) := by decide +kernel
theorem dX10_message_13 : decode cX10_message 13 = .ok (.iconst 1, 1) := by decide +kernel
theorem dX10_message_14 : decode cX10_message 14 = .ok (.goto 4, 3) := by decide +kernel
theorem dX10_message_17 : decode cX10_message 17 = .ok (.iconst 0, 1) := by decide +kernel
theorem dX10_message_18 : decode cX10_message 18 = .ok (.iconst 1, 1) := by decide +kernel
theorem dX10_message_19 : decode cX10_message 19 = .ok (.invokevirtual 172, 3) := by decide +kernel
theorem dX10_message_22 : decode cX10_message 22 = .ok (.ifCond .ne 26, 3) := by decide +kernel
theorem dX10_message_25 : decode cX10_message 25 = .ok (.aload_n 0, 1) := by decide +kernel
theorem dX10_message_26 : decode cX10_message 26 = .ok (.iload_n 2, 1) := by decide +kernel
theorem dX10_message_27 : decode cX10_message 27 = .ok (.ifCond .lt 9, 3) := by decide +kernel
theorem dX10_message_30 : decode cX10_message 30 = .ok (.iload_n 2, 1) := by decide +kernel
theorem dX10_message_31 : decode cX10_message 31 = .ok (.bipush 7, 2) := by decide +kernel
theorem dX10_message_33 : decode cX10_message 33 = .ok (.if_icmp .le 7, 3) := by decide +kernel
theorem dX10_message_36 : decode cX10_message 36 = .ok (.iconst 1, 1) := by decide +kernel
theorem dX10_message_37 : decode cX10_message 37 = .ok (.goto 4, 3) := by decide +kernel
theorem dX10_message_40 : decode cX10_message 40 = .ok (.iconst 0, 1) := by decide +kernel
theorem dX10_message_41 : decode cX10_message 41 = .ok (.iconst 2, 1) := by decide +kernel
theorem dX10_message_42 : decode cX10_message 42 = .ok (.invokevirtual 172, 3) := by decide +kernel
theorem dX10_message_45 : decode cX10_message 45 = .ok (.ifCond .eq 5, 3) := by decide +kernel
theorem dX10_message_48 : decode cX10_message 48 = .ok (.iconst 0, 1) := by decide +kernel
theorem dX10_message_49 : decode cX10_message 49 = .ok (.ireturn, 1) := by decide +kernel
theorem dX10_message_50 : decode cX10_message 50 = .ok (.iload_n 2, 1) := by decide +kernel
theorem dX10_message_51 : decode cX10_message 51 = .ok (.ifCond .ne 12, 3) := by decide +kernel
theorem dX10_message_54 : decode cX10_message 54 = .ok (.aload_n 0, 1) := by decide +kernel
theorem dX10_message_55 : decode cX10_message 55 = .ok (.getfield 54, 3) := by decide +kernel
theorem dX10_message_58 : decode cX10_message 58 = .ok (.iload_n 1, 1) := by decide +kernel
theorem dX10_message_59 : decode cX10_message 59 = .ok (.iaload, 1) := by decide +kernel
theorem dX10_message_60 : decode cX10_message 60 = .ok (.goto 94, 3) := by decide +kernel
theorem dX10_message_63 : decode cX10_message 63 = .ok (.iload_n 2, 1) := by decide +kernel
theorem dX10_message_64 : decode cX10_message 64 = .ok (.iconst 1, 1) := by decide +kernel
theorem dX10_message_65 : decode cX10_message 65 = .ok (.if_icmp .ne 12, 3) := by decide +kernel
theorem dX10_message_68 : decode cX10_message 68 = .ok (.aload_n 0, 1) := by decide +kernel
theorem dX10_message_69 : decode cX10_message 69 = .ok (.getfield 57, 3) := by decide +kernel
theorem dX10_message_72 : decode cX10_message 72 = .ok (.iload_n 1, 1) := by decide +kernel
theorem dX10_message_73 : decode cX10_message 73 = .ok (.iaload, 1) := by decide +kernel
theorem dX10_message_74 : decode cX10_message 74 = .ok (.goto 80, 3) := by decide +kernel
theorem dX10_message_77 : decode cX10_message 77 = .ok (.iload_n 2, 1) := by decide +kernel
theorem dX10_message_78 : decode cX10_message 78 = .ok (.iconst 2, 1) := by decide +kernel
theorem dX10_message_79 : decode cX10_message 79 = .ok (.if_icmp .ne 12, 3) := by decide +kernel
theorem dX10_message_82 : decode cX10_message 82 = .ok (.aload_n 0, 1) := by decide +kernel
theorem dX10_message_83 : decode cX10_message 83 = .ok (.getfield 60, 3) := by decide +kernel
theorem dX10_message_86 : decode cX10_message 86 = .ok (.iload_n 1, 1) := by decide +kernel
theorem dX10_message_87 : decode cX10_message 87 = .ok (.iaload, 1) := by decide +kernel
theorem dX10_message_88 : decode cX10_message 88 = .ok (.goto 66, 3) := by decide +kernel
theorem dX10_message_91 : decode cX10_message 91 = .ok (.iload_n 2, 1) := by decide +kernel
theorem dX10_message_92 : decode cX10_message 92 = .ok (.iconst 3, 1) := by decide +kernel
theorem dX10_message_93 : decode cX10_message 93 = .ok (.if_icmp .ne 12, 3) := by decide +kernel
theorem dX10_message_96 : decode cX10_message 96 = .ok (.aload_n 0, 1) := by decide +kernel
theorem dX10_message_97 : decode cX10_message 97 = .ok (.getfield 63, 3) := by decide +kernel
theorem dX10_message_100 : decode cX10_message 100 = .ok (.iload_n 1, 1) := by decide +kernel
theorem dX10_message_101 : decode cX10_message 101 = .ok (.iaload, 1) := by decide +kernel
theorem dX10_message_102 : decode cX10_message 102 = .ok (.goto 52, 3) := by decide +kernel
theorem dX10_message_105 : decode cX10_message 105 = .ok (.iload_n 2, 1) := by decide +kernel
theorem dX10_message_106 : decode cX10_message 106 = .ok (.iconst 4, 1) := by decide +kernel
theorem dX10_message_107 : decode cX10_message 107 = .ok (.if_icmp .ne 12, 3) := by decide +kernel
theorem dX10_message_110 : decode cX10_message 110 = .ok (.aload_n 0, 1) := by decide +kernel
theorem dX10_message_111 : decode cX10_message 111 = .ok (.getfield 66, 3) := by decide +kernel
theorem dX10_message_114 : decode cX10_message 114 = .ok (.iload_n 1, 1) := by decide +kernel
theorem dX10_message_115 : decode cX10_message 115 = .ok (.iaload, 1) := by decide +kernel
theorem dX10_message_116 : decode cX10_message 116 = .ok (.goto 38, 3) := by decide +kernel
theorem dX10_message_119 : decode cX10_message 119 = .ok (.iload_n 2, 1) := by decide +kernel
theorem dX10_message_120 : decode cX10_message 120 = .ok (.iconst 5, 1) := by decide +kernel
theorem dX10_message_121 : decode cX10_message 121 = .ok (.if_icmp .ne 12, 3) := by decide +kernel
theorem dX10_message_124 : decode cX10_message 124 = .ok (.aload_n 0, 1) := by decide +kernel
theorem dX10_message_125 : decode cX10_message 125 = .ok (.getfield 69, 3) := by decide +kernel
theorem dX10_message_128 : decode cX10_message 128 = .ok (.iload_n 1, 1) := by decide +kernel
theorem dX10_message_129 : decode cX10_message 129 = .ok (.iaload, 1) := by decide +kernel
theorem dX10_message_130 : decode cX10_message 130 = .ok (.goto 24, 3) := by decide +kernel
theorem dX10_message_133 : decode cX10_message 133 = .ok (.iload_n 2, 1) := by decide +kernel
theorem dX10_message_134 : decode cX10_message 134 = .ok (.bipush 6, 2) := by decide +kernel
theorem dX10_message_136 : decode cX10_message 136 = .ok (.if_icmp .ne 12, 3) := by decide +kernel
theorem dX10_message_139 : decode cX10_message 139 = .ok (.aload_n 0, 1) := by decide +kernel
theorem dX10_message_140 : decode cX10_message 140 = .ok (.getfield 72, 3) := by decide +kernel
theorem dX10_message_143 : decode cX10_message 143 = .ok (.iload_n 1, 1) := by decide +kernel
theorem dX10_message_144 : decode cX10_message 144 = .ok (.iaload, 1) := by decide +kernel
theorem dX10_message_145 : decode cX10_message 145 = .ok (.goto 9, 3) := by decide +kernel
theorem dX10_message_148 : decode cX10_message 148 = .ok (.aload_n 0, 1) := by decide +kernel
theorem dX10_message_149 : decode cX10_message 149 = .ok (.getfield 75, 3) := by decide +kernel
theorem dX10_message_152 : decode cX10_message 152 = .ok (.iload_n 1, 1) := by decide +kernel
theorem dX10_message_153 : decode cX10_message 153 = .ok (.iaload, 1) := by decide +kernel
theorem dX10_message_154 : decode cX10_message 154 = .ok (.ireturn, 1) := by decide +kernel
theorem dX10_node_0 : decode cX10_node 0 = .ok (.aload_n 0, 1) := by decide +kernel
theorem dX10_node_1 : decode cX10_node 1 = .ok (.iload_n 1, 1) := by decide +kernel
theorem dX10_node_2 : decode cX10_node 2 = .ok (.invokestatic 168, 3) := by decide +kernel
theorem dX10_node_5 : decode cX10_node 5 = .ok (.ifCond .ne 7, 3) := by decide +kernel
theorem dX10_node_8 : decode cX10_node 8 = .ok (.iconst 1, 1) := by decide +kernel
theorem dX10_node_9 : decode cX10_node 9 = .ok (.goto 4, 3) := by decide +kernel
theorem dX10_node_12 : decode cX10_node 12 = .ok (.iconst 0, 1) := by decide +kernel
theorem dX10_node_13 : decode cX10_node 13 = .ok (.iconst 1, 1) := by decide +kernel
theorem dX10_node_14 : decode cX10_node 14 = .ok (.invokevirtual 172, 3) := by decide +kernel
theorem dX10_node_17 : decode cX10_node 17 = .ok (.ifCond .ne 26, 3) := by decide +kernel
theorem dX10_node_20 : decode cX10_node 20 = .ok (.aload_n 0, 1) := by decide +kernel
theorem dX10_node_21 : decode cX10_node 21 = .ok (.iload_n 2, 1) := by decide +kernel
theorem dX10_node_22 : decode cX10_node 22 = .ok (.ifCond .lt 9, 3) := by decide +kernel
theorem dX10_node_25 : decode cX10_node 25 = .ok (.iload_n 2, 1) := by decide +kernel
theorem dX10_node_26 : decode cX10_node 26 = .ok (.bipush 13, 2) := by decide +kernel
theorem dX10_node_28 : decode cX10_node 28 = .ok (.if_icmp .le 7, 3) := by decide +kernel
theorem dX10_node_31 : decode cX10_node 31 = .ok (.iconst 1, 1) := by decide +kernel
theorem dX10_node_32 : decode cX10_node 32 = .ok (.goto 4, 3) := by decide +kernel
theorem dX10_node_35 : decode cX10_node 35 = .ok (.iconst 0, 1) := by decide +kernel
theorem dX10_node_36 : decode cX10_node 36 = .ok (.iconst 2, 1) := by decide +kernel
theorem dX10_node_37 : decode cX10_node 37 = .ok (.invokevirtual 172, 3) := by decide +kernel
theorem dX10_node_40 : decode cX10_node 40 = .ok (.ifCond .eq 5, 3) := by decide +kernel
theorem dX10_node_43 : decode cX10_node 43 = .ok (.iconst 0, 1) := by decide +kernel
theorem dX10_node_44 : decode cX10_node 44 = .ok (.ireturn, 1) := by decide +kernel
theorem dX10_node_45 : decode cX10_node 45 = .ok (.iload_n 2, 1) := by decide +kernel
theorem dX10_node_46 : decode cX10_node 46 = .ok (.tableswitch 133 0 7 #[46, 61, 68, 75, 82, 89, 96, 121], 46) := by decide +kernel
theorem dX10_node_92 : decode cX10_node 92 = .ok (.aload_n 0, 1) := by decide +kernel
theorem dX10_node_93 : decode cX10_node 93 = .ok (.getfield 7, 3) := by decide +kernel
theorem dX10_node_96 : decode cX10_node 96 = .ok (.iload_n 1, 1) := by decide +kernel
theorem dX10_node_97 : decode cX10_node 97 = .ok (.baload, 1) := by decide +kernel
theorem dX10_node_98 : decode cX10_node 98 = .ok (.ifCond .eq 7, 3) := by decide +kernel
theorem dX10_node_101 : decode cX10_node 101 = .ok (.iconst 1, 1) := by decide +kernel
theorem dX10_node_102 : decode cX10_node 102 = .ok (.goto 4, 3) := by decide +kernel
theorem dX10_node_105 : decode cX10_node 105 = .ok (.iconst 0, 1) := by decide +kernel
theorem dX10_node_106 : decode cX10_node 106 = .ok (.ireturn, 1) := by decide +kernel
theorem dX10_node_107 : decode cX10_node 107 = .ok (.aload_n 0, 1) := by decide +kernel
theorem dX10_node_108 : decode cX10_node 108 = .ok (.getfield 13, 3) := by decide +kernel
theorem dX10_node_111 : decode cX10_node 111 = .ok (.iload_n 1, 1) := by decide +kernel
theorem dX10_node_112 : decode cX10_node 112 = .ok (.iaload, 1) := by decide +kernel
theorem dX10_node_113 : decode cX10_node 113 = .ok (.ireturn, 1) := by decide +kernel
theorem dX10_node_114 : decode cX10_node 114 = .ok (.aload_n 0, 1) := by decide +kernel
theorem dX10_node_115 : decode cX10_node 115 = .ok (.getfield 17, 3) := by decide +kernel
theorem dX10_node_118 : decode cX10_node 118 = .ok (.iload_n 1, 1) := by decide +kernel
theorem dX10_node_119 : decode cX10_node 119 = .ok (.iaload, 1) := by decide +kernel
theorem dX10_node_120 : decode cX10_node 120 = .ok (.ireturn, 1) := by decide +kernel
theorem dX10_node_121 : decode cX10_node 121 = .ok (.aload_n 0, 1) := by decide +kernel
theorem dX10_node_122 : decode cX10_node 122 = .ok (.getfield 32, 3) := by decide +kernel
theorem dX10_node_125 : decode cX10_node 125 = .ok (.iload_n 1, 1) := by decide +kernel
theorem dX10_node_126 : decode cX10_node 126 = .ok (.iaload, 1) := by decide +kernel
theorem dX10_node_127 : decode cX10_node 127 = .ok (.ireturn, 1) := by decide +kernel
theorem dX10_node_128 : decode cX10_node 128 = .ok (.aload_n 0, 1) := by decide +kernel
theorem dX10_node_129 : decode cX10_node 129 = .ok (.getfield 20, 3) := by decide +kernel
theorem dX10_node_132 : decode cX10_node 132 = .ok (.iload_n 1, 1) := by decide +kernel
theorem dX10_node_133 : decode cX10_node 133 = .ok (.iaload, 1) := by decide +kernel
theorem dX10_node_134 : decode cX10_node 134 = .ok (.ireturn, 1) := by decide +kernel
theorem dX10_node_135 : decode cX10_node 135 = .ok (.aload_n 0, 1) := by decide +kernel
theorem dX10_node_136 : decode cX10_node 136 = .ok (.getfield 23, 3) := by decide +kernel
theorem dX10_node_139 : decode cX10_node 139 = .ok (.iload_n 1, 1) := by decide +kernel
theorem dX10_node_140 : decode cX10_node 140 = .ok (.iaload, 1) := by decide +kernel
theorem dX10_node_141 : decode cX10_node 141 = .ok (.ireturn, 1) := by decide +kernel
theorem dX10_node_142 : decode cX10_node 142 = .ok (.aload_n 0, 1) := by decide +kernel
theorem dX10_node_143 : decode cX10_node 143 = .ok (.getfield 7, 3) := by decide +kernel
theorem dX10_node_146 : decode cX10_node 146 = .ok (.iload_n 1, 1) := by decide +kernel
theorem dX10_node_147 : decode cX10_node 147 = .ok (.baload, 1) := by decide +kernel
theorem dX10_node_148 : decode cX10_node 148 = .ok (.ifCond .eq 12, 3) := by decide +kernel
theorem dX10_node_151 : decode cX10_node 151 = .ok (.aload_n 0, 1) := by decide +kernel
theorem dX10_node_152 : decode cX10_node 152 = .ok (.getfield 26, 3) := by decide +kernel
theorem dX10_node_155 : decode cX10_node 155 = .ok (.iload_n 1, 1) := by decide +kernel
theorem dX10_node_156 : decode cX10_node 156 = .ok (.iaload, 1) := by decide +kernel
theorem dX10_node_157 : decode cX10_node 157 = .ok (.goto 9, 3) := by decide +kernel
theorem dX10_node_160 : decode cX10_node 160 = .ok (.aload_n 0, 1) := by decide +kernel
theorem dX10_node_161 : decode cX10_node 161 = .ok (.getfield 20, 3) := by decide +kernel
theorem dX10_node_164 : decode cX10_node 164 = .ok (.iload_n 1, 1) := by decide +kernel
theorem dX10_node_165 : decode cX10_node 165 = .ok (.iaload, 1) := by decide +kernel
theorem dX10_node_166 : decode cX10_node 166 = .ok (.ireturn, 1) := by decide +kernel
theorem dX10_node_167 : decode cX10_node 167 = .ok (.aload_n 0, 1) := by decide +kernel
theorem dX10_node_168 : decode cX10_node 168 = .ok (.iload_n 1, 1) := by decide +kernel
theorem dX10_node_169 : decode cX10_node 169 = .ok (.aload_n 0, 1) := by decide +kernel
theorem dX10_node_170 : decode cX10_node 170 = .ok (.getfield 23, 3) := by decide +kernel
theorem dX10_node_173 : decode cX10_node 173 = .ok (.iload_n 1, 1) := by decide +kernel
theorem dX10_node_174 : decode cX10_node 174 = .ok (.iaload, 1) := by decide +kernel
theorem dX10_node_175 : decode cX10_node 175 = .ok (.invokevirtual 156, 3) := by decide +kernel
theorem dX10_node_178 : decode cX10_node 178 = .ok (.ireturn, 1) := by decide +kernel
theorem dX10_node_179 : decode cX10_node 179 = .ok (.aload_n 0, 1) := by decide +kernel
theorem dX10_node_180 : decode cX10_node 180 = .ok (.getfield 7, 3) := by decide +kernel
theorem dX10_node_183 : decode cX10_node 183 = .ok (.iload_n 1, 1) := by decide +kernel
theorem dX10_node_184 : decode cX10_node 184 = .ok (.baload, 1) := by decide +kernel
theorem dX10_node_185 : decode cX10_node 185 = .ok (.ifCond .ne 5, 3) := by decide +kernel
theorem dX10_node_188 : decode cX10_node 188 = .ok (.iconst 0, 1) := by decide +kernel
theorem dX10_node_189 : decode cX10_node 189 = .ok (.ireturn, 1) := by decide +kernel
theorem dX10_node_190 : decode cX10_node 190 = .ok (.aload_n 0, 1) := by decide +kernel
theorem dX10_node_191 : decode cX10_node 191 = .ok (.iload_n 1, 1) := by decide +kernel
theorem dX10_node_192 : decode cX10_node 192 = .ok (.invokevirtual 274, 3) := by decide +kernel
theorem dX10_node_195 : decode cX10_node 195 = .ok (.iconst 0, 1) := by decide +kernel
theorem dX10_node_196 : decode cX10_node 196 = .ok (.istore_n 3, 1) := by decide +kernel
theorem dX10_node_197 : decode cX10_node 197 = .ok (.iload_n 2, 1) := by decide +kernel
theorem dX10_node_198 : decode cX10_node 198 = .ok (.tableswitch 117 8 12 #[34, 39, 44, 49, 80], 34) := by decide +kernel
theorem dX10_node_232 : decode cX10_node 232 = .ok (.aload_n 0, 1) := by decide +kernel
theorem dX10_node_233 : decode cX10_node 233 = .ok (.getfield 238, 3) := by decide +kernel
theorem dX10_node_236 : decode cX10_node 236 = .ok (.ireturn, 1) := by decide +kernel
theorem dX10_node_237 : decode cX10_node 237 = .ok (.aload_n 0, 1) := by decide +kernel
theorem dX10_node_238 : decode cX10_node 238 = .ok (.getfield 257, 3) := by decide +kernel
theorem dX10_node_241 : decode cX10_node 241 = .ok (.ireturn, 1) := by decide +kernel
theorem dX10_node_242 : decode cX10_node 242 = .ok (.aload_n 0, 1) := by decide +kernel
theorem dX10_node_243 : decode cX10_node 243 = .ok (.getfield 260, 3) := by decide +kernel
theorem dX10_node_246 : decode cX10_node 246 = .ok (.ireturn, 1) := by decide +kernel
theorem dX10_node_247 : decode cX10_node 247 = .ok (.iconst 0, 1) := by decide +kernel
theorem dX10_node_248 : decode cX10_node 248 = .ok (.istore 4, 2) := by decide +kernel
theorem dX10_node_250 : decode cX10_node 250 = .ok (.iload 4, 2) := by decide +kernel
theorem dX10_node_252 : decode cX10_node 252 = .ok (.bipush 64, 2) := by decide +kernel
theorem dX10_node_254 : decode cX10_node 254 = .ok (.if_icmp .ge 22, 3) := by decide +kernel
theorem dX10_node_257 : decode cX10_node 257 = .ok (.aload_n 0, 1) := by decide +kernel
theorem dX10_node_258 : decode cX10_node 258 = .ok (.getfield 92, 3) := by decide +kernel
theorem dX10_node_261 : decode cX10_node 261 = .ok (.iload 4, 2) := by decide +kernel
theorem dX10_node_263 : decode cX10_node 263 = .ok (.iaload, 1) := by decide +kernel
theorem dX10_node_264 : decode cX10_node 264 = .ok (.ifCond .le 6, 3) := by decide +kernel
theorem dX10_node_267 : decode cX10_node 267 = .ok (.iinc 3 1, 3) := by decide +kernel
theorem dX10_node_270 : decode cX10_node 270 = .ok (.iinc 4 1, 3) := by decide +kernel
theorem dX10_node_273 : decode cX10_node 273 = .ok (.goto (-23), 3) := by decide +kernel
theorem dX10_node_276 : decode cX10_node 276 = .ok (.iload_n 3, 1) := by decide +kernel
theorem dX10_node_277 : decode cX10_node 277 = .ok (.ireturn, 1) := by decide +kernel
theorem dX10_node_278 : decode cX10_node 278 = .ok (.iconst 1, 1) := by decide +kernel
theorem dX10_node_279 : decode cX10_node 279 = .ok (.istore 4, 2) := by decide +kernel
theorem dX10_node_281 : decode cX10_node 281 = .ok (.iload 4, 2) := by decide +kernel
theorem dX10_node_283 : decode cX10_node 283 = .ok (.bipush 8, 2) := by decide +kernel
theorem dX10_node_285 : decode cX10_node 285 = .ok (.if_icmp .gt 28, 3) := by decide +kernel
theorem dX10_node_288 : decode cX10_node 288 = .ok (.aload_n 0, 1) := by decide +kernel
theorem dX10_node_289 : decode cX10_node 289 = .ok (.getfield 107, 3) := by decide +kernel
theorem dX10_node_292 : decode cX10_node 292 = .ok (.iload 4, 2) := by decide +kernel
theorem dX10_node_294 : decode cX10_node 294 = .ok (.baload, 1) := by decide +kernel
theorem dX10_node_295 : decode cX10_node 295 = .ok (.ifCond .eq 12, 3) := by decide +kernel
theorem dX10_node_298 : decode cX10_node 298 = .ok (.iload_n 3, 1) := by decide +kernel
theorem dX10_node_299 : decode cX10_node 299 = .ok (.iconst 1, 1) := by decide +kernel
theorem dX10_node_300 : decode cX10_node 300 = .ok (.iload 4, 2) := by decide +kernel
theorem dX10_node_302 : decode cX10_node 302 = .ok (.iconst 1, 1) := by decide +kernel
theorem dX10_node_303 : decode cX10_node 303 = .ok (.isub, 1) := by decide +kernel
theorem dX10_node_304 : decode cX10_node 304 = .ok (.ishl, 1) := by decide +kernel
theorem dX10_node_305 : decode cX10_node 305 = .ok (.ior, 1) := by decide +kernel
theorem dX10_node_306 : decode cX10_node 306 = .ok (.istore_n 3, 1) := by decide +kernel
theorem dX10_node_307 : decode cX10_node 307 = .ok (.iinc 4 1, 3) := by decide +kernel
theorem dX10_node_310 : decode cX10_node 310 = .ok (.goto (-29), 3) := by decide +kernel
theorem dX10_node_313 : decode cX10_node 313 = .ok (.iload_n 3, 1) := by decide +kernel
theorem dX10_node_314 : decode cX10_node 314 = .ok (.ireturn, 1) := by decide +kernel
theorem dX10_node_315 : decode cX10_node 315 = .ok (.aload_n 0, 1) := by decide +kernel
theorem dX10_node_316 : decode cX10_node 316 = .ok (.getfield 235, 3) := by decide +kernel
theorem dX10_node_319 : decode cX10_node 319 = .ok (.aload_n 0, 1) := by decide +kernel
theorem dX10_node_320 : decode cX10_node 320 = .ok (.invokevirtual 270, 3) := by decide +kernel
theorem dX10_node_323 : decode cX10_node 323 = .ok (.isub, 1) := by decide +kernel
theorem dX10_node_324 : decode cX10_node 324 = .ok (.ireturn, 1) := by decide +kernel
theorem dX10_entry_0 : decode cX10_entry 0 = .ok (.aload_n 0, 1) := by decide +kernel
theorem dX10_entry_1 : decode cX10_entry 1 = .ok (.iload_n 1, 1) := by decide +kernel
theorem dX10_entry_2 : decode cX10_entry 2 = .ok (.invokestatic 168, 3) := by decide +kernel
theorem dX10_entry_5 : decode cX10_entry 5 = .ok (.ifCond .ne 7, 3) := by decide +kernel
theorem dX10_entry_8 : decode cX10_entry 8 = .ok (.iconst 1, 1) := by decide +kernel
theorem dX10_entry_9 : decode cX10_entry 9 = .ok (.goto 4, 3) := by decide +kernel
theorem dX10_entry_12 : decode cX10_entry 12 = .ok (.iconst 0, 1) := by decide +kernel
theorem dX10_entry_13 : decode cX10_entry 13 = .ok (.iconst 1, 1) := by decide +kernel
theorem dX10_entry_14 : decode cX10_entry 14 = .ok (.invokevirtual 172, 3) := by decide +kernel
theorem dX10_entry_17 : decode cX10_entry 17 = .ok (.ifCond .eq 5, 3) := by decide +kernel
theorem dX10_entry_20 : decode cX10_entry 20 = .ok (.iconst 0, 1) := by decide +kernel
theorem dX10_entry_21 : decode cX10_entry 21 = .ok (.ireturn, 1) := by decide +kernel
theorem dX10_entry_22 : decode cX10_entry 22 = .ok (.iload_n 2, 1) := by decide +kernel
theorem dX10_entry_23 : decode cX10_entry 23 = .ok (.aload_n 0, 1) := by decide +kernel
theorem dX10_entry_24 : decode cX10_entry 24 = .ok (.getfield 20, 3) := by decide +kernel
theorem dX10_entry_27 : decode cX10_entry 27 = .ok (.iload_n 1, 1) := by decide +kernel
theorem dX10_entry_28 : decode cX10_entry 28 = .ok (.iaload, 1) := by decide +kernel
theorem dX10_entry_29 : decode cX10_entry 29 = .ok (.if_icmp .lt 13, 3) := by decide +kernel
theorem dX10_entry_32 : decode cX10_entry 32 = .ok (.iload_n 2, 1) := by decide +kernel
theorem dX10_entry_33 : decode cX10_entry 33 = .ok (.aload_n 0, 1) := by decide +kernel
theorem dX10_entry_34 : decode cX10_entry 34 = .ok (.getfield 23, 3) := by decide +kernel
theorem dX10_entry_37 : decode cX10_entry 37 = .ok (.iload_n 1, 1) := by decide +kernel
theorem dX10_entry_38 : decode cX10_entry 38 = .ok (.iaload, 1) := by decide +kernel
theorem dX10_entry_39 : decode cX10_entry 39 = .ok (.if_icmp .le 7, 3) := by decide +kernel
theorem dX10_entry_42 : decode cX10_entry 42 = .ok (.iconst (-1), 1) := by decide +kernel
theorem dX10_entry_43 : decode cX10_entry 43 = .ok (.goto 9, 3) := by decide +kernel
theorem dX10_entry_46 : decode cX10_entry 46 = .ok (.aload_n 0, 1) := by decide +kernel
theorem dX10_entry_47 : decode cX10_entry 47 = .ok (.iload_n 1, 1) := by decide +kernel
theorem dX10_entry_48 : decode cX10_entry 48 = .ok (.iload_n 2, 1) := by decide +kernel
theorem dX10_entry_49 : decode cX10_entry 49 = .ok (.invokevirtual 156, 3) := by decide +kernel
theorem dX10_entry_52 : decode cX10_entry 52 = .ok (.ireturn, 1) := by decide +kernel
theorem dX10_digest_0 : decode cX10_digest 0 = .ok (.aload_n 0, 1) := by decide +kernel
theorem dX10_digest_1 : decode cX10_digest 1 = .ok (.iload_n 1, 1) := by decide +kernel
theorem dX10_digest_2 : decode cX10_digest 2 = .ok (.invokestatic 168, 3) := by decide +kernel
theorem dX10_digest_5 : decode cX10_digest 5 = .ok (.ifCond .ne 7, 3) := by decide +kernel
theorem dX10_digest_8 : decode cX10_digest 8 = .ok (.iconst 1, 1) := by decide +kernel
theorem dX10_digest_9 : decode cX10_digest 9 = .ok (.goto 4, 3) := by decide +kernel
theorem dX10_digest_12 : decode cX10_digest 12 = .ok (.iconst 0, 1) := by decide +kernel
theorem dX10_digest_13 : decode cX10_digest 13 = .ok (.iconst 1, 1) := by decide +kernel
theorem dX10_digest_14 : decode cX10_digest 14 = .ok (.invokevirtual 172, 3) := by decide +kernel
theorem dX10_digest_17 : decode cX10_digest 17 = .ok (.ifCond .ne 25, 3) := by decide +kernel
theorem dX10_digest_20 : decode cX10_digest 20 = .ok (.aload_n 0, 1) := by decide +kernel
theorem dX10_digest_21 : decode cX10_digest 21 = .ok (.aload_n 0, 1) := by decide +kernel
theorem dX10_digest_22 : decode cX10_digest 22 = .ok (.getfield 7, 3) := by decide +kernel
theorem dX10_digest_25 : decode cX10_digest 25 = .ok (.iload_n 1, 1) := by decide +kernel
theorem dX10_digest_26 : decode cX10_digest 26 = .ok (.baload, 1) := by decide +kernel
theorem dX10_digest_27 : decode cX10_digest 27 = .ok (.ifCond .ne 7, 3) := by decide +kernel
theorem dX10_digest_30 : decode cX10_digest 30 = .ok (.iconst 1, 1) := by decide +kernel
theorem dX10_digest_31 : decode cX10_digest 31 = .ok (.goto 4, 3) := by decide +kernel
theorem dX10_digest_34 : decode cX10_digest 34 = .ok (.iconst 0, 1) := by decide +kernel
theorem dX10_digest_35 : decode cX10_digest 35 = .ok (.iconst 2, 1) := by decide +kernel
theorem dX10_digest_36 : decode cX10_digest 36 = .ok (.invokevirtual 172, 3) := by decide +kernel
theorem dX10_digest_39 : decode cX10_digest 39 = .ok (.ifCond .eq 5, 3) := by decide +kernel
theorem dX10_digest_42 : decode cX10_digest 42 = .ok (.lconst 0, 1) := by decide +kernel
theorem dX10_digest_43 : decode cX10_digest 43 = .ok (.lreturn, 1) := by decide +kernel
theorem dX10_digest_44 : decode cX10_digest 44 = .ok (.aload_n 0, 1) := by decide +kernel
theorem dX10_digest_45 : decode cX10_digest 45 = .ok (.iload_n 1, 1) := by decide +kernel
theorem dX10_digest_46 : decode cX10_digest 46 = .ok (.invokevirtual 274, 3) := by decide +kernel
theorem dX10_digest_49 : decode cX10_digest 49 = .ok (.ldc2_w 287, 3) := by decide +kernel
theorem dX10_digest_52 : decode cX10_digest 52 = .ok (.lstore_n 2, 1) := by decide +kernel
theorem dX10_digest_53 : decode cX10_digest 53 = .ok (.iconst 0, 1) := by decide +kernel
theorem dX10_digest_54 : decode cX10_digest 54 = .ok (.istore 4, 2) := by decide +kernel
theorem dX10_digest_56 : decode cX10_digest 56 = .ok (.iload 4, 2) := by decide +kernel
theorem dX10_digest_58 : decode cX10_digest 58 = .ok (.bipush 64, 2) := by decide +kernel
theorem dX10_digest_60 : decode cX10_digest 60 = .ok (.if_icmp .ge 99, 3) := by decide +kernel
theorem dX10_digest_63 : decode cX10_digest 63 = .ok (.aload_n 0, 1) := by decide +kernel
theorem dX10_digest_64 : decode cX10_digest 64 = .ok (.getfield 92, 3) := by decide +kernel
theorem dX10_digest_67 : decode cX10_digest 67 = .ok (.iload 4, 2) := by decide +kernel
theorem dX10_digest_69 : decode cX10_digest 69 = .ok (.iaload, 1) := by decide +kernel
theorem dX10_digest_70 : decode cX10_digest 70 = .ok (.ifCond .ne 6, 3) := by decide +kernel
theorem dX10_digest_73 : decode cX10_digest 73 = .ok (.goto 80, 3) := by decide +kernel
theorem dX10_digest_76 : decode cX10_digest 76 = .ok (.ldc2_w 289, 3) := by decide +kernel
theorem dX10_digest_79 : decode cX10_digest 79 = .ok (.ldc2_w 289, 3) := by decide +kernel
theorem dX10_digest_82 : decode cX10_digest 82 = .ok (.ldc2_w 289, 3) := by decide +kernel
theorem dX10_digest_85 : decode cX10_digest 85 = .ok (.lload_n 2, 1) := by decide +kernel
theorem dX10_digest_86 : decode cX10_digest 86 = .ok (.lmul, 1) := by decide +kernel
theorem dX10_digest_87 : decode cX10_digest 87 = .ok (.iload 4, 2) := by decide +kernel
theorem dX10_digest_89 : decode cX10_digest 89 = .ok (.i2l, 1) := by decide +kernel
theorem dX10_digest_90 : decode cX10_digest 90 = .ok (.ladd, 1) := by decide +kernel
theorem dX10_digest_91 : decode cX10_digest 91 = .ok (.lmul, 1) := by decide +kernel
theorem dX10_digest_92 : decode cX10_digest 92 = .ok (.aload_n 0, 1) := by decide +kernel
theorem dX10_digest_93 : decode cX10_digest 93 = .ok (.getfield 101, 3) := by decide +kernel
theorem dX10_digest_96 : decode cX10_digest 96 = .ok (.iload 4, 2) := by decide +kernel
theorem dX10_digest_98 : decode cX10_digest 98 = .ok (.iaload, 1) := by decide +kernel
theorem dX10_digest_99 : decode cX10_digest 99 = .ok (.i2l, 1) := by decide +kernel
theorem dX10_digest_100 : decode cX10_digest 100 = .ok (.ladd, 1) := by decide +kernel
theorem dX10_digest_101 : decode cX10_digest 101 = .ok (.lmul, 1) := by decide +kernel
theorem dX10_digest_102 : decode cX10_digest 102 = .ok (.aload_n 0, 1) := by decide +kernel
theorem dX10_digest_103 : decode cX10_digest 103 = .ok (.getfield 92, 3) := by decide +kernel
theorem dX10_digest_106 : decode cX10_digest 106 = .ok (.iload 4, 2) := by decide +kernel
theorem dX10_digest_108 : decode cX10_digest 108 = .ok (.iaload, 1) := by decide +kernel
theorem dX10_digest_109 : decode cX10_digest 109 = .ok (.i2l, 1) := by decide +kernel
theorem dX10_digest_110 : decode cX10_digest 110 = .ok (.ladd, 1) := by decide +kernel
theorem dX10_digest_111 : decode cX10_digest 111 = .ok (.lstore_n 2, 1) := by decide +kernel
theorem dX10_digest_112 : decode cX10_digest 112 = .ok (.ldc2_w 289, 3) := by decide +kernel
theorem dX10_digest_115 : decode cX10_digest 115 = .ok (.ldc2_w 289, 3) := by decide +kernel
theorem dX10_digest_118 : decode cX10_digest 118 = .ok (.ldc2_w 289, 3) := by decide +kernel
theorem dX10_digest_121 : decode cX10_digest 121 = .ok (.lload_n 2, 1) := by decide +kernel
theorem dX10_digest_122 : decode cX10_digest 122 = .ok (.lmul, 1) := by decide +kernel
theorem dX10_digest_123 : decode cX10_digest 123 = .ok (.aload_n 0, 1) := by decide +kernel
theorem dX10_digest_124 : decode cX10_digest 124 = .ok (.getfield 95, 3) := by decide +kernel
theorem dX10_digest_127 : decode cX10_digest 127 = .ok (.iload 4, 2) := by decide +kernel
theorem dX10_digest_129 : decode cX10_digest 129 = .ok (.iaload, 1) := by decide +kernel
theorem dX10_digest_130 : decode cX10_digest 130 = .ok (.i2l, 1) := by decide +kernel
theorem dX10_digest_131 : decode cX10_digest 131 = .ok (.ladd, 1) := by decide +kernel
theorem dX10_digest_132 : decode cX10_digest 132 = .ok (.lmul, 1) := by decide +kernel
theorem dX10_digest_133 : decode cX10_digest 133 = .ok (.aload_n 0, 1) := by decide +kernel
theorem dX10_digest_134 : decode cX10_digest 134 = .ok (.getfield 98, 3) := by decide +kernel
theorem dX10_digest_137 : decode cX10_digest 137 = .ok (.iload 4, 2) := by decide +kernel
theorem dX10_digest_139 : decode cX10_digest 139 = .ok (.iaload, 1) := by decide +kernel
theorem dX10_digest_140 : decode cX10_digest 140 = .ok (.i2l, 1) := by decide +kernel
theorem dX10_digest_141 : decode cX10_digest 141 = .ok (.ladd, 1) := by decide +kernel
theorem dX10_digest_142 : decode cX10_digest 142 = .ok (.lmul, 1) := by decide +kernel
theorem dX10_digest_143 : decode cX10_digest 143 = .ok (.aload_n 0, 1) := by decide +kernel
theorem dX10_digest_144 : decode cX10_digest 144 = .ok (.getfield 104, 3) := by decide +kernel
theorem dX10_digest_147 : decode cX10_digest 147 = .ok (.iload 4, 2) := by decide +kernel
theorem dX10_digest_149 : decode cX10_digest 149 = .ok (.iaload, 1) := by decide +kernel
theorem dX10_digest_150 : decode cX10_digest 150 = .ok (.i2l, 1) := by decide +kernel
theorem dX10_digest_151 : decode cX10_digest 151 = .ok (.ladd, 1) := by decide +kernel
theorem dX10_digest_152 : decode cX10_digest 152 = .ok (.lstore_n 2, 1) := by decide +kernel
theorem dX10_digest_153 : decode cX10_digest 153 = .ok (.iinc 4 1, 3) := by decide +kernel
theorem dX10_digest_156 : decode cX10_digest 156 = .ok (.goto (-100), 3) := by decide +kernel
theorem dX10_digest_159 : decode cX10_digest 159 = .ok (.aload_n 0, 1) := by decide +kernel
theorem dX10_digest_160 : decode cX10_digest 160 = .ok (.invokevirtual 270, 3) := by decide +kernel
theorem dX10_digest_163 : decode cX10_digest 163 = .ok (.istore 4, 2) := by decide +kernel
theorem dX10_digest_165 : decode cX10_digest 165 = .ok (.iload 4, 2) := by decide +kernel
theorem dX10_digest_167 : decode cX10_digest 167 = .ok (.aload_n 0, 1) := by decide +kernel
theorem dX10_digest_168 : decode cX10_digest 168 = .ok (.getfield 235, 3) := by decide +kernel
theorem dX10_digest_171 : decode cX10_digest 171 = .ok (.if_icmp .ge 22, 3) := by decide +kernel
theorem dX10_digest_174 : decode cX10_digest 174 = .ok (.ldc2_w 289, 3) := by decide +kernel
theorem dX10_digest_177 : decode cX10_digest 177 = .ok (.lload_n 2, 1) := by decide +kernel
theorem dX10_digest_178 : decode cX10_digest 178 = .ok (.lmul, 1) := by decide +kernel
theorem dX10_digest_179 : decode cX10_digest 179 = .ok (.aload_n 0, 1) := by decide +kernel
theorem dX10_digest_180 : decode cX10_digest 180 = .ok (.iload 4, 2) := by decide +kernel
theorem dX10_digest_182 : decode cX10_digest 182 = .ok (.invokevirtual 283, 3) := by decide +kernel
theorem dX10_digest_185 : decode cX10_digest 185 = .ok (.ladd, 1) := by decide +kernel
theorem dX10_digest_186 : decode cX10_digest 186 = .ok (.lstore_n 2, 1) := by decide +kernel
theorem dX10_digest_187 : decode cX10_digest 187 = .ok (.iinc 4 1, 3) := by decide +kernel
theorem dX10_digest_190 : decode cX10_digest 190 = .ok (.goto (-25), 3) := by decide +kernel
theorem dX10_digest_193 : decode cX10_digest 193 = .ok (.ldc2_w 289, 3) := by decide +kernel
theorem dX10_digest_196 : decode cX10_digest 196 = .ok (.lload_n 2, 1) := by decide +kernel
theorem dX10_digest_197 : decode cX10_digest 197 = .ok (.lmul, 1) := by decide +kernel
theorem dX10_digest_198 : decode cX10_digest 198 = .ok (.aload_n 0, 1) := by decide +kernel
theorem dX10_digest_199 : decode cX10_digest 199 = .ok (.getfield 238, 3) := by decide +kernel
theorem dX10_digest_202 : decode cX10_digest 202 = .ok (.i2l, 1) := by decide +kernel
theorem dX10_digest_203 : decode cX10_digest 203 = .ok (.ladd, 1) := by decide +kernel
theorem dX10_digest_204 : decode cX10_digest 204 = .ok (.lreturn, 1) := by decide +kernel
theorem dX10_messages_0 : decode cX10_messages 0 = .ok (.aload_n 0, 1) := by decide +kernel
theorem dX10_messages_1 : decode cX10_messages 1 = .ok (.iconst 0, 1) := by decide +kernel
theorem dX10_messages_2 : decode cX10_messages 2 = .ok (.putfield 135, 3) := by decide +kernel
theorem dX10_messages_5 : decode cX10_messages 5 = .ok (.aload_n 0, 1) := by decide +kernel
theorem dX10_messages_6 : decode cX10_messages 6 = .ok (.getfield 146, 3) := by decide +kernel
theorem dX10_messages_9 : decode cX10_messages 9 = .ok (.ireturn, 1) := by decide +kernel
theorem dX10_check_0 : decode cX10_check 0 = .ok (.aload_n 0, 1) := by decide +kernel
theorem dX10_check_1 : decode cX10_check 1 = .ok (.iconst 0, 1) := by decide +kernel
theorem dX10_check_2 : decode cX10_check 2 = .ok (.putfield 135, 3) := by decide +kernel
theorem dX10_check_5 : decode cX10_check 5 = .ok (.iconst 0, 1) := by decide +kernel
theorem dX10_check_6 : decode cX10_check 6 = .ok (.ireturn, 1) := by decide +kernel
theorem dJ6_bitCount_0f7a4_0 : decode cJ6_bitCount_0f7a4 0 = .ok (.iload_n 0, 1) := by decide +kernel
theorem dJ6_bitCount_0f7a4_1 : decode cJ6_bitCount_0f7a4 1 = .ok (.iload_n 0, 1) := by decide +kernel
theorem dJ6_bitCount_0f7a4_2 : decode cJ6_bitCount_0f7a4 2 = .ok (.iconst 1, 1) := by decide +kernel
theorem dJ6_bitCount_0f7a4_3 : decode cJ6_bitCount_0f7a4 3 = .ok (.iushr, 1) := by decide +kernel
theorem dJ6_bitCount_0f7a4_4 : decode cJ6_bitCount_0f7a4 4 = .ok (.ldc_w 265, 3) := by decide +kernel
theorem dJ6_bitCount_0f7a4_7 : decode cJ6_bitCount_0f7a4 7 = .ok (.iand, 1) := by decide +kernel
theorem dJ6_bitCount_0f7a4_8 : decode cJ6_bitCount_0f7a4 8 = .ok (.isub, 1) := by decide +kernel
theorem dJ6_bitCount_0f7a4_9 : decode cJ6_bitCount_0f7a4 9 = .ok (.istore_n 0, 1) := by decide +kernel
theorem dJ6_bitCount_0f7a4_10 : decode cJ6_bitCount_0f7a4 10 = .ok (.iload_n 0, 1) := by decide +kernel
theorem dJ6_bitCount_0f7a4_11 : decode cJ6_bitCount_0f7a4 11 = .ok (.ldc_w 266, 3) := by decide +kernel
theorem dJ6_bitCount_0f7a4_14 : decode cJ6_bitCount_0f7a4 14 = .ok (.iand, 1) := by decide +kernel
theorem dJ6_bitCount_0f7a4_15 : decode cJ6_bitCount_0f7a4 15 = .ok (.iload_n 0, 1) := by decide +kernel
theorem dJ6_bitCount_0f7a4_16 : decode cJ6_bitCount_0f7a4 16 = .ok (.iconst 2, 1) := by decide +kernel
theorem dJ6_bitCount_0f7a4_17 : decode cJ6_bitCount_0f7a4 17 = .ok (.iushr, 1) := by decide +kernel
theorem dJ6_bitCount_0f7a4_18 : decode cJ6_bitCount_0f7a4 18 = .ok (.ldc_w 266, 3) := by decide +kernel
theorem dJ6_bitCount_0f7a4_21 : decode cJ6_bitCount_0f7a4 21 = .ok (.iand, 1) := by decide +kernel
theorem dJ6_bitCount_0f7a4_22 : decode cJ6_bitCount_0f7a4 22 = .ok (.iadd, 1) := by decide +kernel
theorem dJ6_bitCount_0f7a4_23 : decode cJ6_bitCount_0f7a4 23 = .ok (.istore_n 0, 1) := by decide +kernel
theorem dJ6_bitCount_0f7a4_24 : decode cJ6_bitCount_0f7a4 24 = .ok (.iload_n 0, 1) := by decide +kernel
theorem dJ6_bitCount_0f7a4_25 : decode cJ6_bitCount_0f7a4 25 = .ok (.iload_n 0, 1) := by decide +kernel
theorem dJ6_bitCount_0f7a4_26 : decode cJ6_bitCount_0f7a4 26 = .ok (.iconst 4, 1) := by decide +kernel
theorem dJ6_bitCount_0f7a4_27 : decode cJ6_bitCount_0f7a4 27 = .ok (.iushr, 1) := by decide +kernel
theorem dJ6_bitCount_0f7a4_28 : decode cJ6_bitCount_0f7a4 28 = .ok (.iadd, 1) := by decide +kernel
theorem dJ6_bitCount_0f7a4_29 : decode cJ6_bitCount_0f7a4 29 = .ok (.ldc_w 267, 3) := by decide +kernel
theorem dJ6_bitCount_0f7a4_32 : decode cJ6_bitCount_0f7a4 32 = .ok (.iand, 1) := by decide +kernel
theorem dJ6_bitCount_0f7a4_33 : decode cJ6_bitCount_0f7a4 33 = .ok (.istore_n 0, 1) := by decide +kernel
theorem dJ6_bitCount_0f7a4_34 : decode cJ6_bitCount_0f7a4 34 = .ok (.iload_n 0, 1) := by decide +kernel
theorem dJ6_bitCount_0f7a4_35 : decode cJ6_bitCount_0f7a4 35 = .ok (.iload_n 0, 1) := by decide +kernel
theorem dJ6_bitCount_0f7a4_36 : decode cJ6_bitCount_0f7a4 36 = .ok (.bipush 8, 2) := by decide +kernel
theorem dJ6_bitCount_0f7a4_38 : decode cJ6_bitCount_0f7a4 38 = .ok (.iushr, 1) := by decide +kernel
theorem dJ6_bitCount_0f7a4_39 : decode cJ6_bitCount_0f7a4 39 = .ok (.iadd, 1) := by decide +kernel
theorem dJ6_bitCount_0f7a4_40 : decode cJ6_bitCount_0f7a4 40 = .ok (.istore_n 0, 1) := by decide +kernel
theorem dJ6_bitCount_0f7a4_41 : decode cJ6_bitCount_0f7a4 41 = .ok (.iload_n 0, 1) := by decide +kernel
theorem dJ6_bitCount_0f7a4_42 : decode cJ6_bitCount_0f7a4 42 = .ok (.iload_n 0, 1) := by decide +kernel
theorem dJ6_bitCount_0f7a4_43 : decode cJ6_bitCount_0f7a4 43 = .ok (.bipush 16, 2) := by decide +kernel
theorem dJ6_bitCount_0f7a4_45 : decode cJ6_bitCount_0f7a4 45 = .ok (.iushr, 1) := by decide +kernel
theorem dJ6_bitCount_0f7a4_46 : decode cJ6_bitCount_0f7a4 46 = .ok (.iadd, 1) := by decide +kernel
theorem dJ6_bitCount_0f7a4_47 : decode cJ6_bitCount_0f7a4 47 = .ok (.istore_n 0, 1) := by decide +kernel
theorem dJ6_bitCount_0f7a4_48 : decode cJ6_bitCount_0f7a4 48 = .ok (.iload_n 0, 1) := by decide +kernel
theorem dJ6_bitCount_0f7a4_49 : decode cJ6_bitCount_0f7a4 49 = .ok (.bipush 63, 2) := by decide +kernel
theorem dJ6_bitCount_0f7a4_51 : decode cJ6_bitCount_0f7a4 51 = .ok (.iand, 1) := by decide +kernel
theorem dJ6_bitCount_0f7a4_52 : decode cJ6_bitCount_0f7a4 52 = .ok (.ireturn, 1) := by decide +kernel
theorem dJ9_max_7cf53_0 : decode cJ9_max_7cf53 0 = .ok (.iload_n 0, 1) := by decide +kernel
theorem dJ9_max_7cf53_1 : decode cJ9_max_7cf53 1 = .ok (.iload_n 1, 1) := by decide +kernel
theorem dJ9_max_7cf53_2 : decode cJ9_max_7cf53 2 = .ok (.if_icmp .lt 7, 3) := by decide +kernel
theorem dJ9_max_7cf53_5 : decode cJ9_max_7cf53 5 = .ok (.iload_n 0, 1) := by decide +kernel
theorem dJ9_max_7cf53_6 : decode cJ9_max_7cf53 6 = .ok (.goto 4, 3) := by decide +kernel
theorem dJ9_max_7cf53_9 : decode cJ9_max_7cf53 9 = .ok (.iload_n 1, 1) := by decide +kernel
theorem dJ9_max_7cf53_10 : decode cJ9_max_7cf53 10 = .ok (.ireturn, 1) := by decide +kernel
theorem dJ9_min_7cf53_0 : decode cJ9_min_7cf53 0 = .ok (.iload_n 0, 1) := by decide +kernel
theorem dJ9_min_7cf53_1 : decode cJ9_min_7cf53 1 = .ok (.iload_n 1, 1) := by decide +kernel
theorem dJ9_min_7cf53_2 : decode cJ9_min_7cf53 2 = .ok (.if_icmp .gt 7, 3) := by decide +kernel
theorem dJ9_min_7cf53_5 : decode cJ9_min_7cf53 5 = .ok (.iload_n 0, 1) := by decide +kernel
theorem dJ9_min_7cf53_6 : decode cJ9_min_7cf53 6 = .ok (.goto 4, 3) := by decide +kernel
theorem dJ9_min_7cf53_9 : decode cJ9_min_7cf53 9 = .ok (.iload_n 1, 1) := by decide +kernel
theorem dJ9_min_7cf53_10 : decode cJ9_min_7cf53 10 = .ok (.ireturn, 1) := by decide +kernel
theorem dL_expire_0 : decode cL_expire 0 = .ok (.aload_n 2, 1) := by decide +kernel
theorem dL_expire_1 : decode cL_expire 1 = .ok (.iconst 0, 1) := by decide +kernel
theorem dL_expire_2 : decode cL_expire 2 = .ok (.aload_n 0, 1) := by decide +kernel
theorem dL_expire_3 : decode cL_expire 3 = .ok (.iload_n 1, 1) := by decide +kernel
theorem dL_expire_4 : decode cL_expire 4 = .ok (.invokevirtual 7, 3) := by decide +kernel
theorem dL_expire_7 : decode cL_expire 7 = .ok (.i2l, 1) := by decide +kernel
theorem dL_expire_8 : decode cL_expire 8 = .ok (.lastore, 1) := by decide +kernel
theorem dL_expire_9 : decode cL_expire 9 = .ok (.goto 9, 3) := by decide +kernel
theorem dL_expire_12 : decode cL_expire 12 = .ok (.astore_n 3, 1) := by decide +kernel
theorem dL_expire_13 : decode cL_expire 13 = .ok (.iconst 1, 1) := by decide +kernel
theorem dL_expire_14 : decode cL_expire 14 = .ok (.ireturn, 1) := by decide +kernel
theorem dL_expire_15 : decode cL_expire 15 = .ok (.astore_n 3, 1) := by decide +kernel
theorem dL_expire_16 : decode cL_expire 16 = .ok (.iconst 2, 1) := by decide +kernel
theorem dL_expire_17 : decode cL_expire 17 = .ok (.ireturn, 1) := by decide +kernel
theorem dL_expire_18 : decode cL_expire 18 = .ok (.iconst 0, 1) := by decide +kernel
theorem dL_expire_19 : decode cL_expire 19 = .ok (.ireturn, 1) := by decide +kernel
theorem dL_deliver_0 : decode cL_deliver 0 = .ok (.aload_n 2, 1) := by decide +kernel
theorem dL_deliver_1 : decode cL_deliver 1 = .ok (.iconst 0, 1) := by decide +kernel
theorem dL_deliver_2 : decode cL_deliver 2 = .ok (.aload_n 0, 1) := by decide +kernel
theorem dL_deliver_3 : decode cL_deliver 3 = .ok (.iload_n 1, 1) := by decide +kernel
theorem dL_deliver_4 : decode cL_deliver 4 = .ok (.invokevirtual 17, 3) := by decide +kernel
theorem dL_deliver_7 : decode cL_deliver 7 = .ok (.i2l, 1) := by decide +kernel
theorem dL_deliver_8 : decode cL_deliver 8 = .ok (.lastore, 1) := by decide +kernel
theorem dL_deliver_9 : decode cL_deliver 9 = .ok (.goto 6, 3) := by decide +kernel
theorem dL_deliver_12 : decode cL_deliver 12 = .ok (.astore_n 3, 1) := by decide +kernel
theorem dL_deliver_13 : decode cL_deliver 13 = .ok (.iconst 1, 1) := by decide +kernel
theorem dL_deliver_14 : decode cL_deliver 14 = .ok (.ireturn, 1) := by decide +kernel
theorem dL_deliver_15 : decode cL_deliver 15 = .ok (.iconst 0, 1) := by decide +kernel
theorem dL_deliver_16 : decode cL_deliver 16 = .ok (.ireturn, 1) := by decide +kernel
theorem dL_propose_0 : decode cL_propose 0 = .ok (.aload 5, 2) := by decide +kernel
theorem dL_propose_2 : decode cL_propose 2 = .ok (.iconst 0, 1) := by decide +kernel
theorem dL_propose_3 : decode cL_propose 3 = .ok (.aload_n 0, 1) := by decide +kernel
theorem dL_propose_4 : decode cL_propose 4 = .ok (.iload_n 1, 1) := by decide +kernel
theorem dL_propose_5 : decode cL_propose 5 = .ok (.iload_n 2, 1) := by decide +kernel
theorem dL_propose_6 : decode cL_propose 6 = .ok (.iload_n 3, 1) := by decide +kernel
theorem dL_propose_7 : decode cL_propose 7 = .ok (.iload 4, 2) := by decide +kernel
theorem dL_propose_9 : decode cL_propose 9 = .ok (.invokevirtual 20, 3) := by decide +kernel
theorem dL_propose_12 : decode cL_propose 12 = .ok (.i2l, 1) := by decide +kernel
theorem dL_propose_13 : decode cL_propose 13 = .ok (.lastore, 1) := by decide +kernel
theorem dL_propose_14 : decode cL_propose 14 = .ok (.goto 15, 3) := by decide +kernel
theorem dL_propose_17 : decode cL_propose 17 = .ok (.astore 6, 2) := by decide +kernel
theorem dL_propose_19 : decode cL_propose 19 = .ok (.iconst 1, 1) := by decide +kernel
theorem dL_propose_20 : decode cL_propose 20 = .ok (.ireturn, 1) := by decide +kernel
theorem dL_propose_21 : decode cL_propose 21 = .ok (.astore 6, 2) := by decide +kernel
theorem dL_propose_23 : decode cL_propose 23 = .ok (.iconst 2, 1) := by decide +kernel
theorem dL_propose_24 : decode cL_propose 24 = .ok (.ireturn, 1) := by decide +kernel
theorem dL_propose_25 : decode cL_propose 25 = .ok (.astore 6, 2) := by decide +kernel
theorem dL_propose_27 : decode cL_propose 27 = .ok (.iconst 3, 1) := by decide +kernel
theorem dL_propose_28 : decode cL_propose 28 = .ok (.ireturn, 1) := by decide +kernel
theorem dL_propose_29 : decode cL_propose 29 = .ok (.iconst 0, 1) := by decide +kernel
theorem dL_propose_30 : decode cL_propose 30 = .ok (.ireturn, 1) := by decide +kernel
theorem dL_beat_0 : decode cL_beat 0 = .ok (.aload_n 2, 1) := by decide +kernel
theorem dL_beat_1 : decode cL_beat 1 = .ok (.iconst 0, 1) := by decide +kernel
theorem dL_beat_2 : decode cL_beat 2 = .ok (.aload_n 0, 1) := by decide +kernel
theorem dL_beat_3 : decode cL_beat 3 = .ok (.iload_n 1, 1) := by decide +kernel
theorem dL_beat_4 : decode cL_beat 4 = .ok (.invokevirtual 26, 3) := by decide +kernel
theorem dL_beat_7 : decode cL_beat 7 = .ok (.i2l, 1) := by decide +kernel
theorem dL_beat_8 : decode cL_beat 8 = .ok (.lastore, 1) := by decide +kernel
theorem dL_beat_9 : decode cL_beat 9 = .ok (.goto 9, 3) := by decide +kernel
theorem dL_beat_12 : decode cL_beat 12 = .ok (.astore_n 3, 1) := by decide +kernel
theorem dL_beat_13 : decode cL_beat 13 = .ok (.iconst 1, 1) := by decide +kernel
theorem dL_beat_14 : decode cL_beat 14 = .ok (.ireturn, 1) := by decide +kernel
theorem dL_beat_15 : decode cL_beat 15 = .ok (.astore_n 3, 1) := by decide +kernel
theorem dL_beat_16 : decode cL_beat 16 = .ok (.iconst 2, 1) := by decide +kernel
theorem dL_beat_17 : decode cL_beat 17 = .ok (.ireturn, 1) := by decide +kernel
theorem dL_beat_18 : decode cL_beat 18 = .ok (.iconst 0, 1) := by decide +kernel
theorem dL_beat_19 : decode cL_beat 19 = .ok (.ireturn, 1) := by decide +kernel
theorem dL_shrink_0 : decode cL_shrink 0 = .ok (.aload_n 2, 1) := by decide +kernel
theorem dL_shrink_1 : decode cL_shrink 1 = .ok (.iconst 0, 1) := by decide +kernel
theorem dL_shrink_2 : decode cL_shrink 2 = .ok (.aload_n 0, 1) := by decide +kernel
theorem dL_shrink_3 : decode cL_shrink 3 = .ok (.iload_n 1, 1) := by decide +kernel
theorem dL_shrink_4 : decode cL_shrink 4 = .ok (.invokevirtual 29, 3) := by decide +kernel
theorem dL_shrink_7 : decode cL_shrink 7 = .ok (.i2l, 1) := by decide +kernel
theorem dL_shrink_8 : decode cL_shrink 8 = .ok (.lastore, 1) := by decide +kernel
theorem dL_shrink_9 : decode cL_shrink 9 = .ok (.goto 9, 3) := by decide +kernel
theorem dL_shrink_12 : decode cL_shrink 12 = .ok (.astore_n 3, 1) := by decide +kernel
theorem dL_shrink_13 : decode cL_shrink 13 = .ok (.iconst 1, 1) := by decide +kernel
theorem dL_shrink_14 : decode cL_shrink 14 = .ok (.ireturn, 1) := by decide +kernel
theorem dL_shrink_15 : decode cL_shrink 15 = .ok (.astore_n 3, 1) := by decide +kernel
theorem dL_shrink_16 : decode cL_shrink 16 = .ok (.iconst 2, 1) := by decide +kernel
theorem dL_shrink_17 : decode cL_shrink 17 = .ok (.ireturn, 1) := by decide +kernel
theorem dL_shrink_18 : decode cL_shrink 18 = .ok (.iconst 0, 1) := by decide +kernel
theorem dL_shrink_19 : decode cL_shrink 19 = .ok (.ireturn, 1) := by decide +kernel
theorem dL_crash_0 : decode cL_crash 0 = .ok (.aload_n 0, 1) := by decide +kernel
theorem dL_crash_1 : decode cL_crash 1 = .ok (.iload_n 1, 1) := by decide +kernel
theorem dL_crash_2 : decode cL_crash 2 = .ok (.invokevirtual 32, 3) := by decide +kernel
theorem dL_crash_5 : decode cL_crash 5 = .ok (.goto 9, 3) := by decide +kernel
theorem dL_crash_8 : decode cL_crash 8 = .ok (.astore_n 2, 1) := by decide +kernel
theorem dL_crash_9 : decode cL_crash 9 = .ok (.iconst 1, 1) := by decide +kernel
theorem dL_crash_10 : decode cL_crash 10 = .ok (.ireturn, 1) := by decide +kernel
theorem dL_crash_11 : decode cL_crash 11 = .ok (.astore_n 2, 1) := by decide +kernel
theorem dL_crash_12 : decode cL_crash 12 = .ok (.iconst 2, 1) := by decide +kernel
theorem dL_crash_13 : decode cL_crash 13 = .ok (.ireturn, 1) := by decide +kernel
theorem dL_crash_14 : decode cL_crash 14 = .ok (.iconst 0, 1) := by decide +kernel
theorem dL_crash_15 : decode cL_crash 15 = .ok (.ireturn, 1) := by decide +kernel
theorem dL_start_0 : decode cL_start 0 = .ok (.aload_n 2, 1) := by decide +kernel
theorem dL_start_1 : decode cL_start 1 = .ok (.iconst 0, 1) := by decide +kernel
theorem dL_start_2 : decode cL_start 2 = .ok (.aload_n 0, 1) := by decide +kernel
theorem dL_start_3 : decode cL_start 3 = .ok (.iload_n 1, 1) := by decide +kernel
theorem dL_start_4 : decode cL_start 4 = .ok (.invokevirtual 36, 3) := by decide +kernel
theorem dL_start_7 : decode cL_start 7 = .ok (.i2l, 1) := by decide +kernel
theorem dL_start_8 : decode cL_start 8 = .ok (.lastore, 1) := by decide +kernel
theorem dL_start_9 : decode cL_start 9 = .ok (.goto 9, 3) := by decide +kernel
theorem dL_start_12 : decode cL_start 12 = .ok (.astore_n 3, 1) := by decide +kernel
theorem dL_start_13 : decode cL_start 13 = .ok (.iconst 1, 1) := by decide +kernel
theorem dL_start_14 : decode cL_start 14 = .ok (.ireturn, 1) := by decide +kernel
theorem dL_start_15 : decode cL_start 15 = .ok (.astore_n 3, 1) := by decide +kernel
theorem dL_start_16 : decode cL_start 16 = .ok (.iconst 2, 1) := by decide +kernel
theorem dL_start_17 : decode cL_start 17 = .ok (.ireturn, 1) := by decide +kernel
theorem dL_start_18 : decode cL_start 18 = .ok (.iconst 0, 1) := by decide +kernel
theorem dL_start_19 : decode cL_start 19 = .ok (.ireturn, 1) := by decide +kernel
theorem dL_power_0 : decode cL_power 0 = .ok (.aload_n 0, 1) := by decide +kernel
theorem dL_power_1 : decode cL_power 1 = .ok (.iload_n 1, 1) := by decide +kernel
theorem dL_power_2 : decode cL_power 2 = .ok (.iload_n 2, 1) := by decide +kernel
theorem dL_power_3 : decode cL_power 3 = .ok (.invokevirtual 39, 3) := by decide +kernel
theorem dL_power_6 : decode cL_power 6 = .ok (.goto 9, 3) := by decide +kernel
theorem dL_power_9 : decode cL_power 9 = .ok (.astore_n 3, 1) := by decide +kernel
theorem dL_power_10 : decode cL_power 10 = .ok (.iconst 1, 1) := by decide +kernel
theorem dL_power_11 : decode cL_power 11 = .ok (.ireturn, 1) := by decide +kernel
theorem dL_power_12 : decode cL_power 12 = .ok (.astore_n 3, 1) := by decide +kernel
theorem dL_power_13 : decode cL_power 13 = .ok (.iconst 2, 1) := by decide +kernel
theorem dL_power_14 : decode cL_power 14 = .ok (.ireturn, 1) := by decide +kernel
theorem dL_power_15 : decode cL_power 15 = .ok (.iconst 0, 1) := by decide +kernel
theorem dL_power_16 : decode cL_power 16 = .ok (.ireturn, 1) := by decide +kernel
theorem dL_result_0 : decode cL_result 0 = .ok (.aload_n 3, 1) := by decide +kernel
theorem dL_result_1 : decode cL_result 1 = .ok (.iconst 0, 1) := by decide +kernel
theorem dL_result_2 : decode cL_result 2 = .ok (.aload_n 0, 1) := by decide +kernel
theorem dL_result_3 : decode cL_result 3 = .ok (.iload_n 1, 1) := by decide +kernel
theorem dL_result_4 : decode cL_result 4 = .ok (.iload_n 2, 1) := by decide +kernel
theorem dL_result_5 : decode cL_result 5 = .ok (.invokevirtual 43, 3) := by decide +kernel
theorem dL_result_8 : decode cL_result 8 = .ok (.i2l, 1) := by decide +kernel
theorem dL_result_9 : decode cL_result 9 = .ok (.lastore, 1) := by decide +kernel

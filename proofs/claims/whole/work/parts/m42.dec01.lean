theorem dX0_init_0 : decode cX0_init 0 = .ok (.aload_n 0, 1) := by decide +kernel
theorem dX0_init_1 : decode cX0_init 1 = .ok (.invokespecial 3, 3) := by decide +kernel
theorem dX0_init_4 : decode cX0_init 4 = .ok (.aload_n 0, 1) := by decide +kernel
theorem dX0_init_5 : decode cX0_init 5 = .ok (.iload_n 1, 1) := by decide +kernel
theorem dX0_init_6 : decode cX0_init 6 = .ok (.putfield 9, 3) := by decide +kernel
theorem dX0_init_9 : decode cX0_init 9 = .ok (.aload_n 0, 1) := by decide +kernel
theorem dX0_init_10 : decode cX0_init 10 = .ok (.iload_n 2, 1) := by decide +kernel
theorem dX0_init_11 : decode cX0_init 11 = .ok (.putfield 15, 3) := by decide +kernel
theorem dX0_init_14 : decode cX0_init 14 = .ok (.aload_n 0, 1) := by decide +kernel
theorem dX0_init_15 : decode cX0_init 15 = .ok (.iload_n 3, 1) := by decide +kernel
theorem dX0_init_16 : decode cX0_init 16 = .ok (.putfield 18, 3) := by decide +kernel
theorem dX0_init_19 : decode cX0_init 19 = .ok (.aload_n 0, 1) := by decide +kernel
theorem dX0_init_20 : decode cX0_init 20 = .ok (.iload 4, 2) := by decide +kernel
theorem dX0_init_22 : decode cX0_init 22 = .ok (.putfield 21, 3) := by decide +kernel
theorem dX0_init_25 : decode cX0_init 25 = .ok (.aload_n 0, 1) := by decide +kernel
theorem dX0_init_26 : decode cX0_init 26 = .ok (.iload 5, 2) := by decide +kernel
theorem dX0_init_28 : decode cX0_init 28 = .ok (.putfield 24, 3) := by decide +kernel
theorem dX0_init_31 : decode cX0_init 31 = .ok (.aload_n 0, 1) := by decide +kernel
theorem dX0_init_32 : decode cX0_init 32 = .ok (.iload 6, 2) := by decide +kernel
theorem dX0_init_34 : decode cX0_init 34 = .ok (.putfield 27, 3) := by decide +kernel
theorem dX0_init_37 : decode cX0_init 37 = .ok (.aload_n 0, 1) := by decide +kernel
theorem dX0_init_38 : decode cX0_init 38 = .ok (.iload 7, 2) := by decide +kernel
theorem dX0_init_40 : decode cX0_init 40 = .ok (.putfield 30, 3) := by decide +kernel
theorem dX0_init_43 : decode cX0_init 43 = .ok (.return_, 1) := by decide +kernel
theorem dX0_isLegal_0 : decode cX0_isLegal 0 = .ok (.aload_n 0, 1) := by decide +kernel
theorem dX0_isLegal_1 : decode cX0_isLegal 1 = .ok (.getfield 9, 3) := by decide +kernel
theorem dX0_isLegal_4 : decode cX0_isLegal 4 = .ok (.tableswitch 173 1 8 #[48, 81, 107, 163, 163, 163, 171, 171], 48) := by decide +kernel
theorem dX0_isLegal_52 : decode cX0_isLegal 52 = .ok (.aload_n 0, 1) := by decide +kernel
theorem dX0_isLegal_53 : decode cX0_isLegal 53 = .ok (.getfield 15, 3) := by decide +kernel
theorem dX0_isLegal_56 : decode cX0_isLegal 56 = .ok (.invokestatic 33, 3) := by decide +kernel
theorem dX0_isLegal_59 : decode cX0_isLegal 59 = .ok (.ifCond .eq 24, 3) := by decide +kernel
theorem dX0_isLegal_62 : decode cX0_isLegal 62 = .ok (.aload_n 0, 1) := by decide +kernel
theorem dX0_isLegal_63 : decode cX0_isLegal 63 = .ok (.getfield 21, 3) := by decide +kernel
theorem dX0_isLegal_66 : decode cX0_isLegal 66 = .ok (.ifCond .eq 13, 3) := by decide +kernel
theorem dX0_isLegal_69 : decode cX0_isLegal 69 = .ok (.aload_n 0, 1) := by decide +kernel
theorem dX0_isLegal_70 : decode cX0_isLegal 70 = .ok (.getfield 21, 3) := by decide +kernel
theorem dX0_isLegal_73 : decode cX0_isLegal 73 = .ok (.invokestatic 37, 3) := by decide +kernel
theorem dX0_isLegal_76 : decode cX0_isLegal 76 = .ok (.ifCond .eq 7, 3) := by decide +kernel
theorem dX0_isLegal_79 : decode cX0_isLegal 79 = .ok (.iconst 1, 1) := by decide +kernel
theorem dX0_isLegal_80 : decode cX0_isLegal 80 = .ok (.goto 4, 3) := by decide +kernel
theorem dX0_isLegal_83 : decode cX0_isLegal 83 = .ok (.iconst 0, 1) := by decide +kernel
theorem dX0_isLegal_84 : decode cX0_isLegal 84 = .ok (.ireturn, 1) := by decide +kernel
theorem dX0_isLegal_85 : decode cX0_isLegal 85 = .ok (.aload_n 0, 1) := by decide +kernel
theorem dX0_isLegal_86 : decode cX0_isLegal 86 = .ok (.getfield 15, 3) := by decide +kernel
theorem dX0_isLegal_89 : decode cX0_isLegal 89 = .ok (.invokestatic 33, 3) := by decide +kernel
theorem dX0_isLegal_92 : decode cX0_isLegal 92 = .ok (.ifCond .eq 17, 3) := by decide +kernel
theorem dX0_isLegal_95 : decode cX0_isLegal 95 = .ok (.aload_n 0, 1) := by decide +kernel
theorem dX0_isLegal_96 : decode cX0_isLegal 96 = .ok (.getfield 18, 3) := by decide +kernel
theorem dX0_isLegal_99 : decode cX0_isLegal 99 = .ok (.invokestatic 33, 3) := by decide +kernel
theorem dX0_isLegal_102 : decode cX0_isLegal 102 = .ok (.ifCond .eq 7, 3) := by decide +kernel
theorem dX0_isLegal_105 : decode cX0_isLegal 105 = .ok (.iconst 1, 1) := by decide +kernel
theorem dX0_isLegal_106 : decode cX0_isLegal 106 = .ok (.goto 4, 3) := by decide +kernel
theorem dX0_isLegal_109 : decode cX0_isLegal 109 = .ok (.iconst 0, 1) := by decide +kernel
theorem dX0_isLegal_110 : decode cX0_isLegal 110 = .ok (.ireturn, 1) := by decide +kernel
theorem dX0_isLegal_111 : decode cX0_isLegal 111 = .ok (.aload_n 0, 1) := by decide +kernel
theorem dX0_isLegal_112 : decode cX0_isLegal 112 = .ok (.getfield 15, 3) := by decide +kernel
theorem dX0_isLegal_115 : decode cX0_isLegal 115 = .ok (.invokestatic 33, 3) := by decide +kernel
theorem dX0_isLegal_118 : decode cX0_isLegal 118 = .ok (.ifCond .eq 47, 3) := by decide +kernel
theorem dX0_isLegal_121 : decode cX0_isLegal 121 = .ok (.aload_n 0, 1) := by decide +kernel
theorem dX0_isLegal_122 : decode cX0_isLegal 122 = .ok (.getfield 27, 3) := by decide +kernel
theorem dX0_isLegal_125 : decode cX0_isLegal 125 = .ok (.invokestatic 33, 3) := by decide +kernel
theorem dX0_isLegal_128 : decode cX0_isLegal 128 = .ok (.ifCond .eq 37, 3) := by decide +kernel
theorem dX0_isLegal_131 : decode cX0_isLegal 131 = .ok (.aload_n 0, 1) := by decide +kernel
theorem dX0_isLegal_132 : decode cX0_isLegal 132 = .ok (.getfield 18, 3) := by decide +kernel
theorem dX0_isLegal_135 : decode cX0_isLegal 135 = .ok (.ifCond .lt 30, 3) := by decide +kernel
theorem dX0_isLegal_138 : decode cX0_isLegal 138 = .ok (.aload_n 0, 1) := by decide +kernel
theorem dX0_isLegal_139 : decode cX0_isLegal 139 = .ok (.getfield 18, 3) := by decide +kernel
theorem dX0_isLegal_142 : decode cX0_isLegal 142 = .ok (.iconst 3, 1) := by decide +kernel
theorem dX0_isLegal_143 : decode cX0_isLegal 143 = .ok (.if_icmp .gt 22, 3) := by decide +kernel
theorem dX0_isLegal_146 : decode cX0_isLegal 146 = .ok (.aload_n 0, 1) := by decide +kernel
theorem dX0_isLegal_147 : decode cX0_isLegal 147 = .ok (.getfield 21, 3) := by decide +kernel
theorem dX0_isLegal_150 : decode cX0_isLegal 150 = .ok (.ifCond .lt 15, 3) := by decide +kernel
theorem dX0_isLegal_153 : decode cX0_isLegal 153 = .ok (.aload_n 0, 1) := by decide +kernel
theorem dX0_isLegal_154 : decode cX0_isLegal 154 = .ok (.getfield 21, 3) := by decide +kernel
theorem dX0_isLegal_157 : decode cX0_isLegal 157 = .ok (.iconst 2, 1) := by decide +kernel
theorem dX0_isLegal_158 : decode cX0_isLegal 158 = .ok (.if_icmp .gt 7, 3) := by decide +kernel
theorem dX0_isLegal_161 : decode cX0_isLegal 161 = .ok (.iconst 1, 1) := by decide +kernel
theorem dX0_isLegal_162 : decode cX0_isLegal 162 = .ok (.goto 4, 3) := by decide +kernel
theorem dX0_isLegal_165 : decode cX0_isLegal 165 = .ok (.iconst 0, 1) := by decide +kernel
theorem dX0_isLegal_166 : decode cX0_isLegal 166 = .ok (.ireturn, 1) := by decide +kernel
theorem dX0_isLegal_167 : decode cX0_isLegal 167 = .ok (.aload_n 0, 1) := by decide +kernel
theorem dX0_isLegal_168 : decode cX0_isLegal 168 = .ok (.getfield 15, 3) := by decide +kernel
theorem dX0_isLegal_171 : decode cX0_isLegal 171 = .ok (.invokestatic 37, 3) := by decide +kernel
theorem dX0_isLegal_174 : decode cX0_isLegal 174 = .ok (.ireturn, 1) := by decide +kernel
theorem dX0_isLegal_175 : decode cX0_isLegal 175 = .ok (.iconst 1, 1) := by decide +kernel
theorem dX0_isLegal_176 : decode cX0_isLegal 176 = .ok (.ireturn, 1) := by decide +kernel
theorem dX0_isLegal_177 : decode cX0_isLegal 177 = .ok (.iconst 0, 1) := by decide +kernel
theorem dX0_isLegal_178 : decode cX0_isLegal 178 = .ok (.ireturn, 1) := by decide +kernel
theorem dX0_isLike_0 : decode cX0_isLike 0 = .ok (.aload_n 0, 1) := by decide +kernel
theorem dX0_isLike_1 : decode cX0_isLike 1 = .ok (.getfield 9, 3) := by decide +kernel
theorem dX0_isLike_4 : decode cX0_isLike 4 = .ok (.aload_n 1, 1) := by decide +kernel
theorem dX0_isLike_5 : decode cX0_isLike 5 = .ok (.getfield 9, 3) := by decide +kernel
theorem dX0_isLike_8 : decode cX0_isLike 8 = .ok (.if_icmp .ne 73, 3) := by decide +kernel
theorem dX0_isLike_11 : decode cX0_isLike 11 = .ok (.aload_n 0, 1) := by decide +kernel
theorem dX0_isLike_12 : decode cX0_isLike 12 = .ok (.getfield 15, 3) := by decide +kernel
theorem dX0_isLike_15 : decode cX0_isLike 15 = .ok (.aload_n 1, 1) := by decide +kernel
theorem dX0_isLike_16 : decode cX0_isLike 16 = .ok (.getfield 15, 3) := by decide +kernel
theorem dX0_isLike_19 : decode cX0_isLike 19 = .ok (.if_icmp .ne 62, 3) := by decide +kernel
theorem dX0_isLike_22 : decode cX0_isLike 22 = .ok (.aload_n 0, 1) := by decide +kernel
theorem dX0_isLike_23 : decode cX0_isLike 23 = .ok (.getfield 18, 3) := by decide +kernel
theorem dX0_isLike_26 : decode cX0_isLike 26 = .ok (.aload_n 1, 1) := by decide +kernel
theorem dX0_isLike_27 : decode cX0_isLike 27 = .ok (.getfield 18, 3) := by decide +kernel
theorem dX0_isLike_30 : decode cX0_isLike 30 = .ok (.if_icmp .ne 51, 3) := by decide +kernel
theorem dX0_isLike_33 : decode cX0_isLike 33 = .ok (.aload_n 0, 1) := by decide +kernel
theorem dX0_isLike_34 : decode cX0_isLike 34 = .ok (.getfield 21, 3) := by decide +kernel
theorem dX0_isLike_37 : decode cX0_isLike 37 = .ok (.aload_n 1, 1) := by decide +kernel
theorem dX0_isLike_38 : decode cX0_isLike 38 = .ok (.getfield 21, 3) := by decide +kernel
theorem dX0_isLike_41 : decode cX0_isLike 41 = .ok (.if_icmp .ne 40, 3) := by decide +kernel
theorem dX0_isLike_44 : decode cX0_isLike 44 = .ok (.aload_n 0, 1) := by decide +kernel
theorem dX0_isLike_45 : decode cX0_isLike 45 = .ok (.getfield 24, 3) := by decide +kernel
theorem dX0_isLike_48 : decode cX0_isLike 48 = .ok (.aload_n 1, 1) := by decide +kernel
theorem dX0_isLike_49 : decode cX0_isLike 49 = .ok (.getfield 24, 3) := by decide +kernel
theorem dX0_isLike_52 : decode cX0_isLike 52 = .ok (.if_icmp .ne 29, 3) := by decide +kernel
theorem dX0_isLike_55 : decode cX0_isLike 55 = .ok (.aload_n 0, 1) := by decide +kernel
theorem dX0_isLike_56 : decode cX0_isLike 56 = .ok (.getfield 27, 3) := by decide +kernel
theorem dX0_isLike_59 : decode cX0_isLike 59 = .ok (.aload_n 1, 1) := by decide +kernel
theorem dX0_isLike_60 : decode cX0_isLike 60 = .ok (.getfield 27, 3) := by decide +kernel
theorem dX0_isLike_63 : decode cX0_isLike 63 = .ok (.if_icmp .ne 18, 3) := by decide +kernel
theorem dX0_isLike_66 : decode cX0_isLike 66 = .ok (.aload_n 0, 1) := by decide +kernel
theorem dX0_isLike_67 : decode cX0_isLike 67 = .ok (.getfield 30, 3) := by decide +kernel
theorem dX0_isLike_70 : decode cX0_isLike 70 = .ok (.aload_n 1, 1) := by decide +kernel
theorem dX0_isLike_71 : decode cX0_isLike 71 = .ok (.getfield 30, 3) := by decide +kernel
theorem dX0_isLike_74 : decode cX0_isLike 74 = .ok (.if_icmp .ne 7, 3) := by decide +kernel
theorem dX0_isLike_77 : decode cX0_isLike 77 = .ok (.iconst 1, 1) := by decide +kernel
theorem dX0_isLike_78 : decode cX0_isLike 78 = .ok (.goto 4, 3) := by decide +kernel
theorem dX0_isLike_81 : decode cX0_isLike 81 = .ok (.iconst 0, 1) := by decide +kernel
theorem dX0_isLike_82 : decode cX0_isLike 82 = .ok (.ireturn, 1) := by decide +kernel
theorem dX1_init_0 : decode cX1_init 0 = .ok (.aload_n 0, 1) := by decide +kernel
theorem dX1_init_1 : decode cX1_init 1 = .ok (.invokespecial 3, 3) := by decide +kernel
theorem dX1_init_4 : decode cX1_init 4 = .ok (.aload_n 0, 1) := by decide +kernel
theorem dX1_init_5 : decode cX1_init 5 = .ok (.iconst (-1), 1) := by decide +kernel
theorem dX1_init_6 : decode cX1_init 6 = .ok (.putfield 9, 3) := by decide +kernel
theorem dX1_init_9 : decode cX1_init 9 = .ok (.aload_n 0, 1) := by decide +kernel
theorem dX1_init_10 : decode cX1_init 10 = .ok (.iconst (-1), 1) := by decide +kernel
theorem dX1_init_11 : decode cX1_init 11 = .ok (.putfield 15, 3) := by decide +kernel
theorem dX1_init_14 : decode cX1_init 14 = .ok (.aload_n 0, 1) := by decide +kernel
theorem dX1_init_15 : decode cX1_init 15 = .ok (.sipush 1201, 3) := by decide +kernel
theorem dX1_init_18 : decode cX1_init 18 = .ok (.anewarray 18, 3) := by decide +kernel
theorem dX1_init_21 : decode cX1_init 21 = .ok (.putfield 20, 3) := by decide +kernel
theorem dX1_init_24 : decode cX1_init 24 = .ok (.aload_n 0, 1) := by decide +kernel
theorem dX1_init_25 : decode cX1_init 25 = .ok (.aload_n 1, 1) := by decide +kernel
theorem dX1_init_26 : decode cX1_init 26 = .ok (.putfield 24, 3) := by decide +kernel
theorem dX1_init_29 : decode cX1_init 29 = .ok (.return_, 1) := by decide +kernel
theorem dX1_recordVote_0 : decode cX1_recordVote 0 = .ok (.aload_n 0, 1) := by decide +kernel
theorem dX1_recordVote_1 : decode cX1_recordVote 1 = .ok (.invokevirtual 28, 3) := by decide +kernel
theorem dX1_recordVote_4 : decode cX1_recordVote 4 = .ok (.ifCond .eq 5, 3) := by decide +kernel
theorem dX1_recordVote_7 : decode cX1_recordVote 7 = .ok (.iconst 0, 1) := by decide +kernel
theorem dX1_recordVote_8 : decode cX1_recordVote 8 = .ok (.ireturn, 1) := by decide +kernel
theorem dX1_recordVote_9 : decode cX1_recordVote 9 = .ok (.aload_n 0, 1) := by decide +kernel
theorem dX1_recordVote_10 : decode cX1_recordVote 10 = .ok (.iload_n 1, 1) := by decide +kernel
theorem dX1_recordVote_11 : decode cX1_recordVote 11 = .ok (.putfield 32, 3) := by decide +kernel
theorem dX1_recordVote_14 : decode cX1_recordVote 14 = .ok (.aload_n 0, 1) := by decide +kernel
theorem dX1_recordVote_15 : decode cX1_recordVote 15 = .ok (.iload_n 2, 1) := by decide +kernel
theorem dX1_recordVote_16 : decode cX1_recordVote 16 = .ok (.putfield 9, 3) := by decide +kernel
theorem dX1_recordVote_19 : decode cX1_recordVote 19 = .ok (.iconst 1, 1) := by decide +kernel
theorem dX1_recordVote_20 : decode cX1_recordVote 20 = .ok (.ireturn, 1) := by decide +kernel
theorem dX1_recordEntry_0 : decode cX1_recordEntry 0 = .ok (.iload_n 1, 1) := by decide +kernel
theorem dX1_recordEntry_1 : decode cX1_recordEntry 1 = .ok (.iconst 1, 1) := by decide +kernel
theorem dX1_recordEntry_2 : decode cX1_recordEntry 2 = .ok (.if_icmp .lt 19, 3) := by decide +kernel
theorem dX1_recordEntry_5 : decode cX1_recordEntry 5 = .ok (.iload_n 1, 1) := by decide +kernel
theorem dX1_recordEntry_6 : decode cX1_recordEntry 6 = .ok (.aload_n 0, 1) := by decide +kernel
theorem dX1_recordEntry_7 : decode cX1_recordEntry 7 = .ok (.getfield 20, 3) := by decide +kernel
theorem dX1_recordEntry_10 : decode cX1_recordEntry 10 = .ok (.arraylength, 1) := by decide +kernel
theorem dX1_recordEntry_11 : decode cX1_recordEntry 11 = .ok (.if_icmp .ge 10, 3) := by decide +kernel
theorem dX1_recordEntry_14 : decode cX1_recordEntry 14 = .ok (.aload_n 0, 1) := by decide +kernel
theorem dX1_recordEntry_15 : decode cX1_recordEntry 15 = .ok (.invokevirtual 28, 3) := by decide +kernel
theorem dX1_recordEntry_18 : decode cX1_recordEntry 18 = .ok (.ifCond .eq 5, 3) := by decide +kernel
theorem dX1_recordEntry_21 : decode cX1_recordEntry 21 = .ok (.iconst 0, 1) := by decide +kernel
theorem dX1_recordEntry_22 : decode cX1_recordEntry 22 = .ok (.ireturn, 1) := by decide +kernel
theorem dX1_recordEntry_23 : decode cX1_recordEntry 23 = .ok (.aload_n 0, 1) := by decide +kernel
theorem dX1_recordEntry_24 : decode cX1_recordEntry 24 = .ok (.getfield 20, 3) := by decide +kernel
theorem dX1_recordEntry_27 : decode cX1_recordEntry 27 = .ok (.iload_n 1, 1) := by decide +kernel
theorem dX1_recordEntry_28 : decode cX1_recordEntry 28 = .ok (.aload_n 2, 1) := by decide +kernel
theorem dX1_recordEntry_29 : decode cX1_recordEntry 29 = .ok (.aastore, 1) := by decide +kernel
theorem dX1_recordEntry_30 : decode cX1_recordEntry 30 = .ok (.aload_n 0, 1) := by decide +kernel
theorem dX1_recordEntry_31 : decode cX1_recordEntry 31 = .ok (.iload_n 1, 1) := by decide +kernel
theorem dX1_recordEntry_32 : decode cX1_recordEntry 32 = .ok (.putfield 35, 3) := by decide +kernel
theorem dX1_recordEntry_35 : decode cX1_recordEntry 35 = .ok (.iconst 1, 1) := by decide +kernel
theorem dX1_recordEntry_36 : decode cX1_recordEntry 36 = .ok (.ireturn, 1) := by decide +kernel
theorem dX1_recordSnapshot_0 : decode cX1_recordSnapshot 0 = .ok (.aload_n 0, 1) := by decide +kernel
theorem dX1_recordSnapshot_1 : decode cX1_recordSnapshot 1 = .ok (.invokevirtual 28, 3) := by decide +kernel
theorem dX1_recordSnapshot_4 : decode cX1_recordSnapshot 4 = .ok (.ifCond .eq 5, 3) := by decide +kernel
theorem dX1_recordSnapshot_7 : decode cX1_recordSnapshot 7 = .ok (.iconst 0, 1) := by decide +kernel
theorem dX1_recordSnapshot_8 : decode cX1_recordSnapshot 8 = .ok (.ireturn, 1) := by decide +kernel
theorem dX1_recordSnapshot_9 : decode cX1_recordSnapshot 9 = .ok (.aload_n 0, 1) := by decide +kernel
theorem dX1_recordSnapshot_10 : decode cX1_recordSnapshot 10 = .ok (.aload_n 1, 1) := by decide +kernel
theorem dX1_recordSnapshot_11 : decode cX1_recordSnapshot 11 = .ok (.getfield 38, 3) := by decide +kernel
theorem dX1_recordSnapshot_14 : decode cX1_recordSnapshot 14 = .ok (.invokevirtual 43, 3) := by decide +kernel
theorem dX1_recordSnapshot_17 : decode cX1_recordSnapshot 17 = .ok (.aload_n 1, 1) := by decide +kernel
theorem dX1_recordSnapshot_18 : decode cX1_recordSnapshot 18 = .ok (.getfield 47, 3) := by decide +kernel
theorem dX1_recordSnapshot_21 : decode cX1_recordSnapshot 21 = .ok (.if_icmp .eq 11, 3) := by decide +kernel
theorem dX1_recordSnapshot_24 : decode cX1_recordSnapshot 24 = .ok (.aload_n 0, 1) := by decide +kernel
theorem dX1_recordSnapshot_25 : decode cX1_recordSnapshot 25 = .ok (.aload_n 1, 1) := by decide +kernel
theorem dX1_recordSnapshot_26 : decode cX1_recordSnapshot 26 = .ok (.getfield 38, 3) := by decide +kernel
theorem dX1_recordSnapshot_29 : decode cX1_recordSnapshot 29 = .ok (.putfield 35, 3) := by decide +kernel
theorem dX1_recordSnapshot_32 : decode cX1_recordSnapshot 32 = .ok (.aload_n 0, 1) := by decide +kernel
theorem dX1_recordSnapshot_33 : decode cX1_recordSnapshot 33 = .ok (.aload_n 1, 1) := by decide +kernel
theorem dX1_recordSnapshot_34 : decode cX1_recordSnapshot 34 = .ok (.putfield 24, 3) := by decide +kernel
theorem dX1_recordSnapshot_37 : decode cX1_recordSnapshot 37 = .ok (.iconst 1, 1) := by decide +kernel
theorem dX1_recordSnapshot_38 : decode cX1_recordSnapshot 38 = .ok (.ireturn, 1) := by decide +kernel
theorem dX1_powerFails_0 : decode cX1_powerFails 0 = .ok (.aload_n 0, 1) := by decide +kernel
theorem dX1_powerFails_1 : decode cX1_powerFails 1 = .ok (.getfield 15, 3) := by decide +kernel
theorem dX1_powerFails_4 : decode cX1_powerFails 4 = .ok (.ifCond .ne 5, 3) := by decide +kernel
theorem dX1_powerFails_7 : decode cX1_powerFails 7 = .ok (.iconst 1, 1) := by decide +kernel
theorem dX1_powerFails_8 : decode cX1_powerFails 8 = .ok (.ireturn, 1) := by decide +kernel
theorem dX1_powerFails_9 : decode cX1_powerFails 9 = .ok (.aload_n 0, 1) := by decide +kernel
theorem dX1_powerFails_10 : decode cX1_powerFails 10 = .ok (.getfield 15, 3) := by decide +kernel
theorem dX1_powerFails_13 : decode cX1_powerFails 13 = .ok (.ifCond .le 13, 3) := by decide +kernel
theorem dX1_powerFails_16 : decode cX1_powerFails 16 = .ok (.aload_n 0, 1) := by decide +kernel
theorem dX1_powerFails_17 : decode cX1_powerFails 17 = .ok (.dup, 1) := by decide +kernel
theorem dX1_powerFails_18 : decode cX1_powerFails 18 = .ok (.getfield 15, 3) := by decide +kernel
theorem dX1_powerFails_21 : decode cX1_powerFails 21 = .ok (.iconst 1, 1) := by decide +kernel
theorem dX1_powerFails_22 : decode cX1_powerFails 22 = .ok (.isub, 1) := by decide +kernel
theorem dX1_powerFails_23 : decode cX1_powerFails 23 = .ok (.putfield 15, 3) := by decide +kernel
theorem dX1_powerFails_26 : decode cX1_powerFails 26 = .ok (.iconst 0, 1) := by decide +kernel
theorem dX1_powerFails_27 : decode cX1_powerFails 27 = .ok (.ireturn, 1) := by decide +kernel
theorem dX1_entryAt_0 : decode cX1_entryAt 0 = .ok (.iload_n 1, 1) := by decide +kernel
theorem dX1_entryAt_1 : decode cX1_entryAt 1 = .ok (.aload_n 0, 1) := by decide +kernel
theorem dX1_entryAt_2 : decode cX1_entryAt 2 = .ok (.getfield 24, 3) := by decide +kernel
theorem dX1_entryAt_5 : decode cX1_entryAt 5 = .ok (.getfield 38, 3) := by decide +kernel
theorem dX1_entryAt_8 : decode cX1_entryAt 8 = .ok (.if_icmp .le 20, 3) := by decide +kernel
theorem dX1_entryAt_11 : decode cX1_entryAt 11 = .ok (.iload_n 1, 1) := by decide +kernel
theorem dX1_entryAt_12 : decode cX1_entryAt 12 = .ok (.aload_n 0, 1) := by decide +kernel
theorem dX1_entryAt_13 : decode cX1_entryAt 13 = .ok (.getfield 35, 3) := by decide +kernel
theorem dX1_entryAt_16 : decode cX1_entryAt 16 = .ok (.if_icmp .gt 12, 3) := by decide +kernel
theorem dX1_entryAt_19 : decode cX1_entryAt 19 = .ok (.iload_n 1, 1) := by decide +kernel
theorem dX1_entryAt_20 : decode cX1_entryAt 20 = .ok (.aload_n 0, 1) := by decide +kernel
theorem dX1_entryAt_21 : decode cX1_entryAt 21 = .ok (.getfield 20, 3) := by decide +kernel
theorem dX1_entryAt_24 : decode cX1_entryAt 24 = .ok (.arraylength, 1) := by decide +kernel
theorem dX1_entryAt_25 : decode cX1_entryAt 25 = .ok (.if_icmp .lt 5, 3) := by decide +kernel
theorem dX1_entryAt_28 : decode cX1_entryAt 28 = .ok (.aconst_null, 1) := by decide +kernel
theorem dX1_entryAt_29 : decode cX1_entryAt 29 = .ok (.areturn, 1) := by decide +kernel
theorem dX1_entryAt_30 : decode cX1_entryAt 30 = .ok (.aload_n 0, 1) := by decide +kernel
theorem dX1_entryAt_31 : decode cX1_entryAt 31 = .ok (.getfield 20, 3) := by decide +kernel
theorem dX1_entryAt_34 : decode cX1_entryAt 34 = .ok (.iload_n 1, 1) := by decide +kernel
theorem dX1_entryAt_35 : decode cX1_entryAt 35 = .ok (.aaload, 1) := by decide +kernel
theorem dX1_entryAt_36 : decode cX1_entryAt 36 = .ok (.areturn, 1) := by decide +kernel
theorem dX1_termAt_0 : decode cX1_termAt 0 = .ok (.iload_n 1, 1) := by decide +kernel
theorem dX1_termAt_1 : decode cX1_termAt 1 = .ok (.aload_n 0, 1) := by decide +kernel
theorem dX1_termAt_2 : decode cX1_termAt 2 = .ok (.getfield 24, 3) := by decide +kernel
theorem dX1_termAt_5 : decode cX1_termAt 5 = .ok (.getfield 38, 3) := by decide +kernel
theorem dX1_termAt_8 : decode cX1_termAt 8 = .ok (.if_icmp .ne 11, 3) := by decide +kernel
theorem dX1_termAt_11 : decode cX1_termAt 11 = .ok (.aload_n 0, 1) := by decide +kernel
theorem dX1_termAt_12 : decode cX1_termAt 12 = .ok (.getfield 24, 3) := by decide +kernel
theorem dX1_termAt_15 : decode cX1_termAt 15 = .ok (.getfield 47, 3) := by decide +kernel
theorem dX1_termAt_18 : decode cX1_termAt 18 = .ok (.ireturn, 1) := by decide +kernel
theorem dX1_termAt_19 : decode cX1_termAt 19 = .ok (.aload_n 0, 1) := by decide +kernel
theorem dX1_termAt_20 : decode cX1_termAt 20 = .ok (.iload_n 1, 1) := by decide +kernel
theorem dX1_termAt_21 : decode cX1_termAt 21 = .ok (.invokevirtual 48, 3) := by decide +kernel
theorem dX1_termAt_24 : decode cX1_termAt 24 = .ok (.astore_n 2, 1) := by decide +kernel
theorem dX1_termAt_25 : decode cX1_termAt 25 = .ok (.aload_n 2, 1) := by decide +kernel
theorem dX1_termAt_26 : decode cX1_termAt 26 = .ok (.ifnonnull 7, 3) := by decide +kernel
theorem dX1_termAt_29 : decode cX1_termAt 29 = .ok (.iconst (-1), 1) := by decide +kernel
theorem dX1_termAt_30 : decode cX1_termAt 30 = .ok (.goto 7, 3) := by decide +kernel
theorem dX1_termAt_33 : decode cX1_termAt 33 = .ok (.aload_n 2, 1) := by decide +kernel
theorem dX1_termAt_34 : decode cX1_termAt 34 = .ok (.getfield 52, 3) := by decide +kernel
theorem dX1_termAt_37 : decode cX1_termAt 37 = .ok (.ireturn, 1) := by decide +kernel
theorem dX1_entriesBehind_0 : decode cX1_entriesBehind 0 = .ok (.iconst 0, 1) := by decide +kernel
theorem dX1_entriesBehind_1 : decode cX1_entriesBehind 1 = .ok (.iconst 4, 1) := by decide +kernel
theorem dX1_entriesBehind_2 : decode cX1_entriesBehind 2 = .ok (.aload_n 0, 1) := by decide +kernel
theorem dX1_entriesBehind_3 : decode cX1_entriesBehind 3 = .ok (.getfield 35, 3) := by decide +kernel
theorem dX1_entriesBehind_6 : decode cX1_entriesBehind 6 = .ok (.iload_n 1, 1) := by decide +kernel
theorem dX1_entriesBehind_7 : decode cX1_entriesBehind 7 = .ok (.isub, 1) := by decide +kernel
theorem dX1_entriesBehind_8 : decode cX1_entriesBehind 8 = .ok (.invokestatic 53, 3) := by decide +kernel
theorem dX1_entriesBehind_11 : decode cX1_entriesBehind 11 = .ok (.invokestatic 59, 3) := by decide +kernel
theorem dX1_entriesBehind_14 : decode cX1_entriesBehind 14 = .ok (.istore_n 2, 1) := by decide +kernel
theorem dX1_entriesBehind_15 : decode cX1_entriesBehind 15 = .ok (.iload_n 2, 1) := by decide +kernel
theorem dX1_entriesBehind_16 : decode cX1_entriesBehind 16 = .ok (.anewarray 18, 3) := by decide +kernel
theorem dX1_entriesBehind_19 : decode cX1_entriesBehind 19 = .ok (.astore_n 3, 1) := by decide +kernel
theorem dX1_entriesBehind_20 : decode cX1_entriesBehind 20 = .ok (.iconst 0, 1) := by decide +kernel
theorem dX1_entriesBehind_21 : decode cX1_entriesBehind 21 = .ok (.istore 4, 2) := by decide +kernel
theorem dX1_entriesBehind_23 : decode cX1_entriesBehind 23 = .ok (.iload 4, 2) := by decide +kernel
theorem dX1_entriesBehind_25 : decode cX1_entriesBehind 25 = .ok (.iload_n 2, 1) := by decide +kernel
theorem dX1_entriesBehind_26 : decode cX1_entriesBehind 26 = .ok (.if_icmp .ge 23, 3) := by decide +kernel
theorem dX1_entriesBehind_29 : decode cX1_entriesBehind 29 = .ok (.aload_n 3, 1) := by decide +kernel
theorem dX1_entriesBehind_30 : decode cX1_entriesBehind 30 = .ok (.iload 4, 2) := by decide +kernel
theorem dX1_entriesBehind_32 : decode cX1_entriesBehind 32 = .ok (.aload_n 0, 1) := by decide +kernel
theorem dX1_entriesBehind_33 : decode cX1_entriesBehind 33 = .ok (.iload_n 1, 1) := by decide +kernel
theorem dX1_entriesBehind_34 : decode cX1_entriesBehind 34 = .ok (.iconst 1, 1) := by decide +kernel
theorem dX1_entriesBehind_35 : decode cX1_entriesBehind 35 = .ok (.iadd, 1) := by decide +kernel
theorem dX1_entriesBehind_36 : decode cX1_entriesBehind 36 = .ok (.iload 4, 2) := by decide +kernel
theorem dX1_entriesBehind_38 : decode cX1_entriesBehind 38 = .ok (.iadd, 1) := by decide +kernel
theorem dX1_entriesBehind_39 : decode cX1_entriesBehind 39 = .ok (.invokevirtual 48, 3) := by decide +kernel
theorem dX1_entriesBehind_42 : decode cX1_entriesBehind 42 = .ok (.aastore, 1) := by decide +kernel
theorem dX1_entriesBehind_43 : decode cX1_entriesBehind 43 = .ok (.iinc 4 1, 3) := by decide +kernel
theorem dX1_entriesBehind_46 : decode cX1_entriesBehind 46 = .ok (.goto (-23), 3) := by decide +kernel
theorem dX1_entriesBehind_49 : decode cX1_entriesBehind 49 = .ok (.aload_n 3, 1) := by decide +kernel
theorem dX1_entriesBehind_50 : decode cX1_entriesBehind 50 = .ok (.areturn, 1) := by decide +kernel
theorem dX2_init_0 : decode cX2_init 0 = .ok (.aload_n 0, 1) := by decide +kernel
theorem dX2_init_1 : decode cX2_init 1 = .ok (.invokespecial 1, 3) := by decide +kernel
theorem dX2_init_4 : decode cX2_init 4 = .ok (.aload_n 0, 1) := by decide +kernel
theorem dX2_init_5 : decode cX2_init 5 = .ok (.iload_n 1, 1) := by decide +kernel
theorem dX2_init_6 : decode cX2_init 6 = .ok (.putfield 7, 3) := by decide +kernel
theorem dX2_init_9 : decode cX2_init 9 = .ok (.aload_n 0, 1) := by decide +kernel
theorem dX2_init_10 : decode cX2_init 10 = .ok (.aload_n 2, 1) := by decide +kernel
theorem dX2_init_11 : decode cX2_init 11 = .ok (.putfield 13, 3) := by decide +kernel
theorem dX2_init_14 : decode cX2_init 14 = .ok (.return_, 1) := by decide +kernel
theorem dX2_isLike_0 : decode cX2_isLike 0 = .ok (.aload_n 0, 1) := by decide +kernel
theorem dX2_isLike_1 : decode cX2_isLike 1 = .ok (.getfield 7, 3) := by decide +kernel
theorem dX2_isLike_4 : decode cX2_isLike 4 = .ok (.aload_n 1, 1) := by decide +kernel
theorem dX2_isLike_5 : decode cX2_isLike 5 = .ok (.getfield 7, 3) := by decide +kernel
theorem dX2_isLike_8 : decode cX2_isLike 8 = .ok (.if_icmp .ne 21, 3) := by decide +kernel
theorem dX2_isLike_11 : decode cX2_isLike 11 = .ok (.aload_n 0, 1) := by decide +kernel
theorem dX2_isLike_12 : decode cX2_isLike 12 = .ok (.getfield 13, 3) := by decide +kernel
theorem dX2_isLike_15 : decode cX2_isLike 15 = .ok (.aload_n 1, 1) := by decide +kernel
theorem dX2_isLike_16 : decode cX2_isLike 16 = .ok (.getfield 13, 3) := by decide +kernel
theorem dX2_isLike_19 : decode cX2_isLike 19 = .ok (.invokevirtual 17, 3) := by decide +kernel
theorem dX2_isLike_22 : decode cX2_isLike 22 = .ok (.ifCond .eq 7, 3) := by decide +kernel
theorem dX2_isLike_25 : decode cX2_isLike 25 = .ok (.iconst 1, 1) := by decide +kernel
theorem dX2_isLike_26 : decode cX2_isLike 26 = .ok (.goto 4, 3) := by decide +kernel
theorem dX2_isLike_29 : decode cX2_isLike 29 = .ok (.iconst 0, 1) := by decide +kernel
theorem dX2_isLike_30 : decode cX2_isLike 30 = .ok (.ireturn, 1) := by decide +kernel
theorem dX3_init_0 : decode cX3_init 0 = .ok (.aload_n 0, 1) := by decide +kernel
theorem dX3_init_1 : decode cX3_init 1 = .ok (.invokespecial 3, 3) := by decide +kernel
theorem dX3_init_4 : decode cX3_init 4 = .ok (.aload_n 0, 1) := by decide +kernel
theorem dX3_init_5 : decode cX3_init 5 = .ok (.sipush 3000, 3) := by decide +kernel
theorem dX3_init_8 : decode cX3_init 8 = .ok (.anewarray 9, 3) := by decide +kernel
theorem dX3_init_11 : decode cX3_init 11 = .ok (.putfield 11, 3) := by decide +kernel
theorem dX3_init_14 : decode cX3_init 14 = .ok (.return_, 1) := by decide +kernel
theorem dX3_send_0 : decode cX3_send 0 = .ok (.aload_n 0, 1) := by decide +kernel
theorem dX3_send_1 : decode cX3_send 1 = .ok (.getfield 17, 3) := by decide +kernel
theorem dX3_send_4 : decode cX3_send 4 = .ok (.aload_n 0, 1) := by decide +kernel
theorem dX3_send_5 : decode cX3_send 5 = .ok (.getfield 11, 3) := by decide +kernel
theorem dX3_send_8 : decode cX3_send 8 = .ok (.arraylength, 1) := by decide +kernel
theorem dX3_send_9 : decode cX3_send 9 = .ok (.if_icmp .ge 20, 3) := by decide +kernel
theorem dX3_send_12 : decode cX3_send 12 = .ok (.aload_n 1, 1) := by decide +kernel
theorem dX3_send_13 : decode cX3_send 13 = .ok (.getfield 21, 3) := by decide +kernel
theorem dX3_send_16 : decode cX3_send 16 = .ok (.iconst 5, 1) := by decide +kernel
theorem dX3_send_17 : decode cX3_send 17 = .ok (.if_icmp .ne 13, 3) := by decide +kernel
theorem dX3_send_20 : decode cX3_send 20 = .ok (.aload_n 0, 1) := by decide +kernel
theorem dX3_send_21 : decode cX3_send 21 = .ok (.getfield 24, 3) := by decide +kernel
theorem dX3_send_24 : decode cX3_send 24 = .ok (.bipush 60, 2) := by decide +kernel
theorem dX3_send_26 : decode cX3_send 26 = .ok (.if_icmp .lt 4, 3) := by decide +kernel
theorem dX3_send_29 : decode cX3_send 29 = .ok (.return_, 1) := by decide +kernel
theorem dX3_send_30 : decode cX3_send 30 = .ok (.aload_n 1, 1) := by decide +kernel
theorem dX3_send_31 : decode cX3_send 31 = .ok (.getfield 21, 3) := by decide +kernel
theorem dX3_send_34 : decode cX3_send 34 = .ok (.iconst 5, 1) := by decide +kernel
theorem dX3_send_35 : decode cX3_send 35 = .ok (.if_icmp .ne 13, 3) := by decide +kernel
theorem dX3_send_38 : decode cX3_send 38 = .ok (.aload_n 0, 1) := by decide +kernel
theorem dX3_send_39 : decode cX3_send 39 = .ok (.dup, 1) := by decide +kernel
theorem dX3_send_40 : decode cX3_send 40 = .ok (.getfield 24, 3) := by decide +kernel
theorem dX3_send_43 : decode cX3_send 43 = .ok (.iconst 1, 1) := by decide +kernel
theorem dX3_send_44 : decode cX3_send 44 = .ok (.iadd, 1) := by decide +kernel
theorem dX3_send_45 : decode cX3_send 45 = .ok (.putfield 24, 3) := by decide +kernel
theorem dX3_send_48 : decode cX3_send 48 = .ok (.aload_n 0, 1) := by decide +kernel
theorem dX3_send_49 : decode cX3_send 49 = .ok (.getfield 11, 3) := by decide +kernel
theorem dX3_send_52 : decode cX3_send 52 = .ok (.aload_n 0, 1) := by decide +kernel
theorem dX3_send_53 : decode cX3_send 53 = .ok (.getfield 17, 3) := by decide +kernel
theorem dX3_send_56 : decode cX3_send 56 = .ok (.aload_n 1, 1) := by decide +kernel
theorem dX3_send_57 : decode cX3_send 57 = .ok (.aastore, 1) := by decide +kernel
theorem dX3_send_58 : decode cX3_send 58 = .ok (.aload_n 0, 1) := by decide +kernel
theorem dX3_send_59 : decode cX3_send 59 = .ok (.dup, 1) := by decide +kernel
theorem dX3_send_60 : decode cX3_send 60 = .ok (.getfield 17, 3) := by decide +kernel
theorem dX3_send_63 : decode cX3_send 63 = .ok (.iconst 1, 1) := by decide +kernel
theorem dX3_send_64 : decode cX3_send 64 = .ok (.iadd, 1) := by decide +kernel
theorem dX3_send_65 : decode cX3_send 65 = .ok (.putfield 17, 3) := by decide +kernel
theorem dX3_send_68 : decode cX3_send 68 = .ok (.return_, 1) := by decide +kernel
theorem dX4_init_0 : decode cX4_init 0 = .ok (.aload_n 0, 1) := by decide +kernel
theorem dX4_init_1 : decode cX4_init 1 = .ok (.invokespecial 1, 3) := by decide +kernel
theorem dX4_init_4 : decode cX4_init 4 = .ok (.aload_n 0, 1) := by decide +kernel
theorem dX4_init_5 : decode cX4_init 5 = .ok (.iload_n 1, 1) := by decide +kernel
theorem dX4_init_6 : decode cX4_init 6 = .ok (.putfield 7, 3) := by decide +kernel
theorem dX4_init_9 : decode cX4_init 9 = .ok (.aload_n 0, 1) := by decide +kernel
theorem dX4_init_10 : decode cX4_init 10 = .ok (.iload_n 2, 1) := by decide +kernel
theorem dX4_init_11 : decode cX4_init 11 = .ok (.putfield 13, 3) := by decide +kernel
theorem dX4_init_14 : decode cX4_init 14 = .ok (.aload_n 0, 1) := by decide +kernel
theorem dX4_init_15 : decode cX4_init 15 = .ok (.iload_n 3, 1) := by decide +kernel
theorem dX4_init_16 : decode cX4_init 16 = .ok (.putfield 16, 3) := by decide +kernel
theorem dX4_init_19 : decode cX4_init 19 = .ok (.aload_n 0, 1) := by decide +kernel
theorem dX4_init_20 : decode cX4_init 20 = .ok (.iload 4, 2) := by decide +kernel
theorem dX4_init_22 : decode cX4_init 22 = .ok (.putfield 19, 3) := by decide +kernel
theorem dX4_init_25 : decode cX4_init 25 = .ok (.aload_n 0, 1) := by decide +kernel
theorem dX4_init_26 : decode cX4_init 26 = .ok (.iload 5, 2) := by decide +kernel
theorem dX4_init_28 : decode cX4_init 28 = .ok (.putfield 22, 3) := by decide +kernel
theorem dX4_init_31 : decode cX4_init 31 = .ok (.aload_n 0, 1) := by decide +kernel
theorem dX4_init_32 : decode cX4_init 32 = .ok (.iload 6, 2) := by decide +kernel
theorem dX4_init_34 : decode cX4_init 34 = .ok (.putfield 25, 3) := by decide +kernel
theorem dX4_init_37 : decode cX4_init 37 = .ok (.return_, 1) := by decide +kernel
theorem dX4_entryCount_0 : decode cX4_entryCount 0 = .ok (.aload_n 0, 1) := by decide +kernel
theorem dX4_entryCount_1 : decode cX4_entryCount 1 = .ok (.getfield 28, 3) := by decide +kernel
theorem dX4_entryCount_4 : decode cX4_entryCount 4 = .ok (.ifnonnull 7, 3) := by decide +kernel
theorem dX4_entryCount_7 : decode cX4_entryCount 7 = .ok (.iconst 0, 1) := by decide +kernel
theorem dX4_entryCount_8 : decode cX4_entryCount 8 = .ok (.goto 8, 3) := by decide +kernel
theorem dX4_entryCount_11 : decode cX4_entryCount 11 = .ok (.aload_n 0, 1) := by decide +kernel
theorem dX4_entryCount_12 : decode cX4_entryCount 12 = .ok (.getfield 28, 3) := by decide +kernel
theorem dX4_entryCount_15 : decode cX4_entryCount 15 = .ok (.arraylength, 1) := by decide +kernel
theorem dX4_entryCount_16 : decode cX4_entryCount 16 = .ok (.ireturn, 1) := by decide +kernel
theorem dX4_field_0 : decode cX4_field 0 = .ok (.iload_n 1, 1) := by decide +kernel
theorem dX4_field_1 : decode cX4_field 1 = .ok (.tableswitch 78 0 6 #[43, 48, 53, 58, 63, 68, 73], 43) := by decide +kernel
theorem dX4_field_44 : decode cX4_field 44 = .ok (.aload_n 0, 1) := by decide +kernel
theorem dX4_field_45 : decode cX4_field 45 = .ok (.getfield 7, 3) := by decide +kernel
theorem dX4_field_48 : decode cX4_field 48 = .ok (.ireturn, 1) := by decide +kernel
theorem dX4_field_49 : decode cX4_field 49 = .ok (.aload_n 0, 1) := by decide +kernel
theorem dX4_field_50 : decode cX4_field 50 = .ok (.getfield 13, 3) := by decide +kernel
theorem dX4_field_53 : decode cX4_field 53 = .ok (.ireturn, 1) := by decide +kernel
theorem dX4_field_54 : decode cX4_field 54 = .ok (.aload_n 0, 1) := by decide +kernel
theorem dX4_field_55 : decode cX4_field 55 = .ok (.getfield 16, 3) := by decide +kernel
theorem dX4_field_58 : decode cX4_field 58 = .ok (.ireturn, 1) := by decide +kernel
theorem dX4_field_59 : decode cX4_field 59 = .ok (.aload_n 0, 1) := by decide +kernel
theorem dX4_field_60 : decode cX4_field 60 = .ok (.getfield 19, 3) := by decide +kernel
theorem dX4_field_63 : decode cX4_field 63 = .ok (.ireturn, 1) := by decide +kernel
theorem dX4_field_64 : decode cX4_field 64 = .ok (.aload_n 0, 1) := by decide +kernel
theorem dX4_field_65 : decode cX4_field 65 = .ok (.getfield 22, 3) := by decide +kernel
theorem dX4_field_68 : decode cX4_field 68 = .ok (.ireturn, 1) := by decide +kernel
theorem dX4_field_69 : decode cX4_field 69 = .ok (.aload_n 0, 1) := by decide +kernel
theorem dX4_field_70 : decode cX4_field 70 = .ok (.getfield 25, 3) := by decide +kernel
theorem dX4_field_73 : decode cX4_field 73 = .ok (.ireturn, 1) := by decide +kernel
theorem dX4_field_74 : decode cX4_field 74 = .ok (.aload_n 0, 1) := by decide +kernel
theorem dX4_field_75 : decode cX4_field 75 = .ok (.invokevirtual 32, 3) := by decide +kernel
theorem dX4_field_78 : decode cX4_field 78 = .ok (.ireturn, 1) := by decide +kernel
theorem dX4_field_79 : decode cX4_field 79 = .ok (.aload_n 0, 1) := by decide +kernel
theorem dX4_field_80 : decode cX4_field 80 = .ok (.getfield 36, 3) := by decide +kernel
theorem dX4_field_83 : decode cX4_field 83 = .ok (.ireturn, 1) := by decide +kernel
theorem dX5_init_0 : decode cX5_init 0 = .ok (.aload_n 0, 1) := by decide +kernel
theorem dX5_init_1 : decode cX5_init 1 = .ok (.invokespecial 3, 3) := by decide +kernel
theorem dX5_init_4 : decode cX5_init 4 = .ok (.aload_n 0, 1) := by decide +kernel
theorem dX5_init_5 : decode cX5_init 5 = .ok (.new 9, 3) := by decide +kernel
theorem dX5_init_8 : decode cX5_init 8 = .ok (.dup, 1) := by decide +kernel
theorem dX5_init_9 : decode cX5_init 9 = .ok (.invokespecial 11, 3) := by decide +kernel
theorem dX5_init_12 : decode cX5_init 12 = .ok (.putfield 12, 3) := by decide +kernel
theorem dX5_init_15 : decode cX5_init 15 = .ok (.aload_n 0, 1) := by decide +kernel
theorem dX5_init_16 : decode cX5_init 16 = .ok (.sipush 1201, 3) := by decide +kernel
theorem dX5_init_19 : decode cX5_init 19 = .ok (.newarray .int, 2) := by decide +kernel
theorem dX5_init_21 : decode cX5_init 21 = .ok (.putfield 18, 3) := by decide +kernel
theorem dX5_init_24 : decode cX5_init 24 = .ok (.aload_n 0, 1) := by decide +kernel
theorem dX5_init_25 : decode cX5_init 25 = .ok (.iconst 1, 1) := by decide +kernel
theorem dX5_init_26 : decode cX5_init 26 = .ok (.putfield 22, 3) := by decide +kernel
theorem dX5_init_29 : decode cX5_init 29 = .ok (.aload_n 0, 1) := by decide +kernel
theorem dX5_init_30 : decode cX5_init 30 = .ok (.iconst 0, 1) := by decide +kernel
theorem dX5_init_31 : decode cX5_init 31 = .ok (.putfield 26, 3) := by decide +kernel
theorem dX5_init_34 : decode cX5_init 34 = .ok (.aload_n 0, 1) := by decide +kernel
theorem dX5_init_35 : decode cX5_init 35 = .ok (.iconst 5, 1) := by decide +kernel
theorem dX5_init_36 : decode cX5_init 36 = .ok (.newarray .int, 2) := by decide +kernel
theorem dX5_init_38 : decode cX5_init 38 = .ok (.putfield 30, 3) := by decide +kernel
theorem dX5_init_41 : decode cX5_init 41 = .ok (.aload_n 0, 1) := by decide +kernel
theorem dX5_init_42 : decode cX5_init 42 = .ok (.iconst 5, 1) := by decide +kernel
theorem dX5_init_43 : decode cX5_init 43 = .ok (.newarray .int, 2) := by decide +kernel
theorem dX5_init_45 : decode cX5_init 45 = .ok (.putfield 33, 3) := by decide +kernel
theorem dX5_init_48 : decode cX5_init 48 = .ok (.aload_n 0, 1) := by decide +kernel
theorem dX5_init_49 : decode cX5_init 49 = .ok (.iload_n 1, 1) := by decide +kernel
theorem dX5_init_50 : decode cX5_init 50 = .ok (.putfield 36, 3) := by decide +kernel
theorem dX5_init_53 : decode cX5_init 53 = .ok (.aload_n 0, 1) := by decide +kernel
theorem dX5_init_54 : decode cX5_init 54 = .ok (.aload_n 2, 1) := by decide +kernel
theorem dX5_init_55 : decode cX5_init 55 = .ok (.putfield 39, 3) := by decide +kernel
theorem dX5_init_58 : decode cX5_init 58 = .ok (.aload_n 0, 1) := by decide +kernel
theorem dX5_init_59 : decode cX5_init 59 = .ok (.aload_n 3, 1) := by decide +kernel
theorem dX5_init_60 : decode cX5_init 60 = .ok (.putfield 43, 3) := by decide +kernel
theorem dX5_init_63 : decode cX5_init 63 = .ok (.aload_n 0, 1) := by decide +kernel
theorem dX5_init_64 : decode cX5_init 64 = .ok (.new 47, 3) := by decide +kernel
theorem dX5_init_67 : decode cX5_init 67 = .ok (.dup, 1) := by decide +kernel
theorem dX5_init_68 : decode cX5_init 68 = .ok (.aload 4, 2) := by decide +kernel
theorem dX5_init_70 : decode cX5_init 70 = .ok (.invokespecial 49, 3) := by decide +kernel
theorem dX5_init_73 : decode cX5_init 73 = .ok (.putfield 52, 3) := by decide +kernel
theorem dX5_init_76 : decode cX5_init 76 = .ok (.return_, 1) := by decide +kernel
theorem dX5_standForElection_0 : decode cX5_standForElection 0 = .ok (.aload_n 0, 1) := by decide +kernel
theorem dX5_standForElection_1 : decode cX5_standForElection 1 = .ok (.aload_n 0, 1) := by decide +kernel
theorem dX5_standForElection_2 : decode cX5_standForElection 2 = .ok (.getfield 52, 3) := by decide +kernel
theorem dX5_standForElection_5 : decode cX5_standForElection 5 = .ok (.aload_n 0, 1) := by decide +kernel
theorem dX5_standForElection_6 : decode cX5_standForElection 6 = .ok (.getfield 52, 3) := by decide +kernel
theorem dX5_standForElection_9 : decode cX5_standForElection 9 = .ok (.getfield 56, 3) := by decide +kernel
theorem dX5_standForElection_12 : decode cX5_standForElection 12 = .ok (.iconst 1, 1) := by decide +kernel
theorem dX5_standForElection_13 : decode cX5_standForElection 13 = .ok (.iadd, 1) := by decide +kernel
theorem dX5_standForElection_14 : decode cX5_standForElection 14 = .ok (.aload_n 0, 1) := by decide +kernel
theorem dX5_standForElection_15 : decode cX5_standForElection 15 = .ok (.getfield 36, 3) := by decide +kernel
theorem dX5_standForElection_18 : decode cX5_standForElection 18 = .ok (.invokevirtual 59, 3) := by decide +kernel
theorem dX5_standForElection_21 : decode cX5_standForElection 21 = .ok (.invokevirtual 63, 3) := by decide +kernel
theorem dX5_standForElection_24 : decode cX5_standForElection 24 = .ok (.ifCond .ne 4, 3) := by decide +kernel
theorem dX5_standForElection_27 : decode cX5_standForElection 27 = .ok (.return_, 1) := by decide +kernel
theorem dX5_standForElection_28 : decode cX5_standForElection 28 = .ok (.aload_n 0, 1) := by decide +kernel
theorem dX5_standForElection_29 : decode cX5_standForElection 29 = .ok (.iconst 1, 1) := by decide +kernel
theorem dX5_standForElection_30 : decode cX5_standForElection 30 = .ok (.putfield 26, 3) := by decide +kernel
theorem dX5_standForElection_33 : decode cX5_standForElection 33 = .ok (.aload_n 0, 1) := by decide +kernel
theorem dX5_standForElection_34 : decode cX5_standForElection 34 = .ok (.iconst 1, 1) := by decide +kernel
theorem dX5_standForElection_35 : decode cX5_standForElection 35 = .ok (.aload_n 0, 1) := by decide +kernel
theorem dX5_standForElection_36 : decode cX5_standForElection 36 = .ok (.getfield 36, 3) := by decide +kernel
theorem dX5_standForElection_39 : decode cX5_standForElection 39 = .ok (.ishl, 1) := by decide +kernel
theorem dX5_standForElection_40 : decode cX5_standForElection 40 = .ok (.putfield 67, 3) := by decide +kernel
theorem dX5_standForElection_43 : decode cX5_standForElection 43 = .ok (.aload_n 0, 1) := by decide +kernel
theorem dX5_standForElection_44 : decode cX5_standForElection 44 = .ok (.getfield 52, 3) := by decide +kernel
theorem dX5_standForElection_47 : decode cX5_standForElection 47 = .ok (.aload_n 0, 1) := by decide +kernel
theorem dX5_standForElection_48 : decode cX5_standForElection 48 = .ok (.getfield 52, 3) := by decide +kernel
theorem dX5_standForElection_51 : decode cX5_standForElection 51 = .ok (.getfield 70, 3) := by decide +kernel
theorem dX5_standForElection_54 : decode cX5_standForElection 54 = .ok (.invokevirtual 73, 3) := by decide +kernel
theorem dX5_standForElection_57 : decode cX5_standForElection 57 = .ok (.istore_n 1, 1) := by decide +kernel
theorem dX5_standForElection_58 : decode cX5_standForElection 58 = .ok (.iconst 0, 1) := by decide +kernel
theorem dX5_standForElection_59 : decode cX5_standForElection 59 = .ok (.istore_n 2, 1) := by decide +kernel
theorem dX5_standForElection_60 : decode cX5_standForElection 60 = .ok (.iload_n 2, 1) := by decide +kernel
theorem dX5_standForElection_61 : decode cX5_standForElection 61 = .ok (.iconst 5, 1) := by decide +kernel
theorem dX5_standForElection_62 : decode cX5_standForElection 62 = .ok (.if_icmp .ge 52, 3) := by decide +kernel
theorem dX5_standForElection_65 : decode cX5_standForElection 65 = .ok (.iload_n 2, 1) := by decide +kernel
theorem dX5_standForElection_66 : decode cX5_standForElection 66 = .ok (.aload_n 0, 1) := by decide +kernel
theorem dX5_standForElection_67 : decode cX5_standForElection 67 = .ok (.getfield 36, 3) := by decide +kernel
theorem dX5_standForElection_70 : decode cX5_standForElection 70 = .ok (.if_icmp .eq 38, 3) := by decide +kernel
theorem dX5_standForElection_73 : decode cX5_standForElection 73 = .ok (.aload_n 0, 1) := by decide +kernel
theorem dX5_standForElection_74 : decode cX5_standForElection 74 = .ok (.getfield 39, 3) := by decide +kernel
theorem dX5_standForElection_77 : decode cX5_standForElection 77 = .ok (.new 77, 3) := by decide +kernel
theorem dX5_standForElection_80 : decode cX5_standForElection 80 = .ok (.dup, 1) := by decide +kernel
theorem dX5_standForElection_81 : decode cX5_standForElection 81 = .ok (.iconst 0, 1) := by decide +kernel
theorem dX5_standForElection_82 : decode cX5_standForElection 82 = .ok (.aload_n 0, 1) := by decide +kernel
theorem dX5_standForElection_83 : decode cX5_standForElection 83 = .ok (.getfield 36, 3) := by decide +kernel
theorem dX5_standForElection_86 : decode cX5_standForElection 86 = .ok (.iload_n 2, 1) := by decide +kernel
theorem dX5_standForElection_87 : decode cX5_standForElection 87 = .ok (.aload_n 0, 1) := by decide +kernel
theorem dX5_standForElection_88 : decode cX5_standForElection 88 = .ok (.getfield 52, 3) := by decide +kernel
theorem dX5_standForElection_91 : decode cX5_standForElection 91 = .ok (.getfield 56, 3) := by decide +kernel
theorem dX5_standForElection_94 : decode cX5_standForElection 94 = .ok (.aload_n 0, 1) := by decide +kernel
theorem dX5_standForElection_95 : decode cX5_standForElection 95 = .ok (.getfield 52, 3) := by decide +kernel
theorem dX5_standForElection_98 : decode cX5_standForElection 98 = .ok (.getfield 70, 3) := by decide +kernel
theorem dX5_standForElection_101 : decode cX5_standForElection 101 = .ok (.iload_n 1, 1) := by decide +kernel
theorem dX5_standForElection_102 : decode cX5_standForElection 102 = .ok (.invokespecial 79, 3) := by decide +kernel
theorem dX5_standForElection_105 : decode cX5_standForElection 105 = .ok (.invokevirtual 82, 3) := by decide +kernel
theorem dX5_standForElection_108 : decode cX5_standForElection 108 = .ok (.iinc 2 1, 3) := by decide +kernel
theorem dX5_standForElection_111 : decode cX5_standForElection 111 = .ok (.goto (-51), 3) := by decide +kernel
theorem dX5_standForElection_114 : decode cX5_standForElection 114 = .ok (.return_, 1) := by decide +kernel
theorem dX5_receive_0 : decode cX5_receive 0 = .ok (.aload_n 0, 1) := by decide +kernel
theorem dX5_receive_1 : decode cX5_receive 1 = .ok (.getfield 22, 3) := by decide +kernel
theorem dX5_receive_4 : decode cX5_receive 4 = .ok (.ifCond .eq 13, 3) := by decide +kernel
theorem dX5_receive_7 : decode cX5_receive 7 = .ok (.aload_n 1, 1) := by decide +kernel
theorem dX5_receive_8 : decode cX5_receive 8 = .ok (.getfield 88, 3) := by decide +kernel
theorem dX5_receive_11 : decode cX5_receive 11 = .ok (.invokestatic 91, 3) := by decide +kernel
theorem dX5_receive_14 : decode cX5_receive 14 = .ok (.ifCond .ne 4, 3) := by decide +kernel
theorem dX5_receive_17 : decode cX5_receive 17 = .ok (.return_, 1) := by decide +kernel
theorem dX5_receive_18 : decode cX5_receive 18 = .ok (.aload_n 1, 1) := by decide +kernel
theorem dX5_receive_19 : decode cX5_receive 19 = .ok (.getfield 95, 3) := by decide +kernel
theorem dX5_receive_22 : decode cX5_receive 22 = .ok (.aload_n 0, 1) := by decide +kernel
theorem dX5_receive_23 : decode cX5_receive 23 = .ok (.getfield 52, 3) := by decide +kernel
theorem dX5_receive_26 : decode cX5_receive 26 = .ok (.getfield 56, 3) := by decide +kernel
theorem dX5_receive_29 : decode cX5_receive 29 = .ok (.if_icmp .le 28, 3) := by decide +kernel
theorem dX5_receive_32 : decode cX5_receive 32 = .ok (.aload_n 0, 1) := by decide +kernel
theorem dX5_receive_33 : decode cX5_receive 33 = .ok (.aload_n 0, 1) := by decide +kernel
theorem dX5_receive_34 : decode cX5_receive 34 = .ok (.getfield 52, 3) := by decide +kernel
theorem dX5_receive_37 : decode cX5_receive 37 = .ok (.aload_n 1, 1) := by decide +kernel
theorem dX5_receive_38 : decode cX5_receive 38 = .ok (.getfield 95, 3) := by decide +kernel
theorem dX5_receive_41 : decode cX5_receive 41 = .ok (.iconst (-1), 1) := by decide +kernel
theorem dX5_receive_42 : decode cX5_receive 42 = .ok (.invokevirtual 59, 3) := by decide +kernel
theorem dX5_receive_45 : decode cX5_receive 45 = .ok (.invokevirtual 63, 3) := by decide +kernel
theorem dX5_receive_48 : decode cX5_receive 48 = .ok (.ifCond .ne 4, 3) := by decide +kernel
theorem dX5_receive_51 : decode cX5_receive 51 = .ok (.return_, 1) := by decide +kernel
theorem dX5_receive_52 : decode cX5_receive 52 = .ok (.aload_n 0, 1) := by decide +kernel
theorem dX5_receive_53 : decode cX5_receive 53 = .ok (.iconst 0, 1) := by decide +kernel
theorem dX5_receive_54 : decode cX5_receive 54 = .ok (.putfield 26, 3) := by decide +kernel
theorem dX5_receive_57 : decode cX5_receive 57 = .ok (.aload_n 1, 1) := by decide +kernel
theorem dX5_receive_58 : decode cX5_receive 58 = .ok (.getfield 95, 3) := by decide +kernel
theorem dX5_receive_61 : decode cX5_receive 61 = .ok (.aload_n 0, 1) := by decide +kernel
theorem dX5_receive_62 : decode cX5_receive 62 = .ok (.getfield 52, 3) := by decide +kernel
theorem dX5_receive_65 : decode cX5_receive 65 = .ok (.getfield 56, 3) := by decide +kernel
theorem dX5_receive_68 : decode cX5_receive 68 = .ok (.if_icmp .ge 9, 3) := by decide +kernel
theorem dX5_receive_71 : decode cX5_receive 71 = .ok (.aload_n 0, 1) := by decide +kernel
theorem dX5_receive_72 : decode cX5_receive 72 = .ok (.aload_n 1, 1) := by decide +kernel
theorem dX5_receive_73 : decode cX5_receive 73 = .ok (.invokevirtual 96, 3) := by decide +kernel
theorem dX5_receive_76 : decode cX5_receive 76 = .ok (.return_, 1) := by decide +kernel
theorem dX5_receive_77 : decode cX5_receive 77 = .ok (.aload_n 1, 1) := by decide +kernel
theorem dX5_receive_78 : decode cX5_receive 78 = .ok (.getfield 99, 3) := by decide +kernel
theorem dX5_receive_81 : decode cX5_receive 81 = .ok (.tableswitch 87 0 5 #[39, 47, 55, 63, 71, 79], 39) := by decide +kernel
theorem dX5_receive_120 : decode cX5_receive 120 = .ok (.aload_n 0, 1) := by decide +kernel
theorem dX5_receive_121 : decode cX5_receive 121 = .ok (.aload_n 1, 1) := by decide +kernel
theorem dX5_receive_122 : decode cX5_receive 122 = .ok (.invokevirtual 102, 3) := by decide +kernel
theorem dX5_receive_125 : decode cX5_receive 125 = .ok (.goto 43, 3) := by decide +kernel
theorem dX5_receive_128 : decode cX5_receive 128 = .ok (.aload_n 0, 1) := by decide +kernel
theorem dX5_receive_129 : decode cX5_receive 129 = .ok (.aload_n 1, 1) := by decide +kernel
theorem dX5_receive_130 : decode cX5_receive 130 = .ok (.invokevirtual 105, 3) := by decide +kernel
theorem dX5_receive_133 : decode cX5_receive 133 = .ok (.goto 35, 3) := by decide +kernel
theorem dX5_receive_136 : decode cX5_receive 136 = .ok (.aload_n 0, 1) := by decide +kernel
theorem dX5_receive_137 : decode cX5_receive 137 = .ok (.aload_n 1, 1) := by decide +kernel
theorem dX5_receive_138 : decode cX5_receive 138 = .ok (.invokevirtual 108, 3) := by decide +kernel
theorem dX5_receive_141 : decode cX5_receive 141 = .ok (.goto 27, 3) := by decide +kernel
theorem dX5_receive_144 : decode cX5_receive 144 = .ok (.aload_n 0, 1) := by decide +kernel
theorem dX5_receive_145 : decode cX5_receive 145 = .ok (.aload_n 1, 1) := by decide +kernel
theorem dX5_receive_146 : decode cX5_receive 146 = .ok (.invokevirtual 111, 3) := by decide +kernel
theorem dX5_receive_149 : decode cX5_receive 149 = .ok (.goto 19, 3) := by decide +kernel
theorem dX5_receive_152 : decode cX5_receive 152 = .ok (.aload_n 0, 1) := by decide +kernel
theorem dX5_receive_153 : decode cX5_receive 153 = .ok (.aload_n 1, 1) := by decide +kernel
theorem dX5_receive_154 : decode cX5_receive 154 = .ok (.invokevirtual 114, 3) := by decide +kernel
theorem dX5_receive_157 : decode cX5_receive 157 = .ok (.goto 11, 3) := by decide +kernel
theorem dX5_receive_160 : decode cX5_receive 160 = .ok (.aload_n 0, 1) := by decide +kernel
theorem dX5_receive_161 : decode cX5_receive 161 = .ok (.aload_n 1, 1) := by decide +kernel
theorem dX5_receive_162 : decode cX5_receive 162 = .ok (.invokevirtual 117, 3) := by decide +kernel
theorem dX5_receive_165 : decode cX5_receive 165 = .ok (.goto 3, 3) := by decide +kernel
theorem dX5_receive_168 : decode cX5_receive 168 = .ok (.aload_n 0, 1) := by decide +kernel
theorem dX5_receive_169 : decode cX5_receive 169 = .ok (.invokevirtual 120, 3) := by decide +kernel
theorem dX5_receive_172 : decode cX5_receive 172 = .ok (.return_, 1) := by decide +kernel
theorem dX5_answerOutdated_0 : decode cX5_answerOutdated 0 = .ok (.aload_n 1, 1) := by decide +kernel
theorem dX5_answerOutdated_1 : decode cX5_answerOutdated 1 = .ok (.getfield 99, 3) := by decide +kernel
theorem dX5_answerOutdated_4 : decode cX5_answerOutdated 4 = .ok (.ifCond .ne 13, 3) := by decide +kernel
theorem dX5_answerOutdated_7 : decode cX5_answerOutdated 7 = .ok (.aload_n 0, 1) := by decide +kernel
theorem dX5_answerOutdated_8 : decode cX5_answerOutdated 8 = .ok (.aload_n 1, 1) := by decide +kernel
theorem dX5_answerOutdated_9 : decode cX5_answerOutdated 9 = .ok (.iconst 1, 1) := by decide +kernel
theorem dX5_answerOutdated_10 : decode cX5_answerOutdated 10 = .ok (.iconst 0, 1) := by decide +kernel
theorem dX5_answerOutdated_11 : decode cX5_answerOutdated 11 = .ok (.invokevirtual 123, 3) := by decide +kernel
theorem dX5_answerOutdated_14 : decode cX5_answerOutdated 14 = .ok (.goto 32, 3) := by decide +kernel
theorem dX5_answerOutdated_17 : decode cX5_answerOutdated 17 = .ok (.aload_n 1, 1) := by decide +kernel
theorem dX5_answerOutdated_18 : decode cX5_answerOutdated 18 = .ok (.getfield 99, 3) := by decide +kernel
theorem dX5_answerOutdated_21 : decode cX5_answerOutdated 21 = .ok (.iconst 2, 1) := by decide +kernel
theorem dX5_answerOutdated_22 : decode cX5_answerOutdated 22 = .ok (.if_icmp .eq 11, 3) := by decide +kernel
theorem dX5_answerOutdated_25 : decode cX5_answerOutdated 25 = .ok (.aload_n 1, 1) := by decide +kernel
theorem dX5_answerOutdated_26 : decode cX5_answerOutdated 26 = .ok (.getfield 99, 3) := by decide +kernel
theorem dX5_answerOutdated_29 : decode cX5_answerOutdated 29 = .ok (.iconst 5, 1) := by decide +kernel
theorem dX5_answerOutdated_30 : decode cX5_answerOutdated 30 = .ok (.if_icmp .ne 16, 3) := by decide +kernel
theorem dX5_answerOutdated_33 : decode cX5_answerOutdated 33 = .ok (.aload_n 0, 1) := by decide +kernel
theorem dX5_answerOutdated_34 : decode cX5_answerOutdated 34 = .ok (.aload_n 1, 1) := by decide +kernel
theorem dX5_answerOutdated_35 : decode cX5_answerOutdated 35 = .ok (.iconst 4, 1) := by decide +kernel
theorem dX5_answerOutdated_36 : decode cX5_answerOutdated 36 = .ok (.aload_n 0, 1) := by decide +kernel
theorem dX5_answerOutdated_37 : decode cX5_answerOutdated 37 = .ok (.getfield 52, 3) := by decide +kernel
theorem dX5_answerOutdated_40 : decode cX5_answerOutdated 40 = .ok (.getfield 70, 3) := by decide +kernel
theorem dX5_answerOutdated_43 : decode cX5_answerOutdated 43 = .ok (.invokevirtual 123, 3) := by decide +kernel
theorem dX5_answerOutdated_46 : decode cX5_answerOutdated 46 = .ok (.return_, 1) := by decide +kernel
theorem dX5_handleAsk_0 : decode cX5_handleAsk 0 = .ok (.aload_n 0, 1) := by decide +kernel
theorem dX5_handleAsk_1 : decode cX5_handleAsk 1 = .ok (.getfield 52, 3) := by decide +kernel
theorem dX5_handleAsk_4 : decode cX5_handleAsk 4 = .ok (.aload_n 0, 1) := by decide +kernel
theorem dX5_handleAsk_5 : decode cX5_handleAsk 5 = .ok (.getfield 52, 3) := by decide +kernel
theorem dX5_handleAsk_8 : decode cX5_handleAsk 8 = .ok (.getfield 70, 3) := by decide +kernel
theorem dX5_handleAsk_11 : decode cX5_handleAsk 11 = .ok (.invokevirtual 73, 3) := by decide +kernel
theorem dX5_handleAsk_14 : decode cX5_handleAsk 14 = .ok (.istore_n 2, 1) := by decide +kernel
theorem dX5_handleAsk_15 : decode cX5_handleAsk 15 = .ok (.aload_n 0, 1) := by decide +kernel
theorem dX5_handleAsk_16 : decode cX5_handleAsk 16 = .ok (.getfield 52, 3) := by decide +kernel
theorem dX5_handleAsk_19 : decode cX5_handleAsk 19 = .ok (.getfield 127, 3) := by decide +kernel
theorem dX5_handleAsk_22 : decode cX5_handleAsk 22 = .ok (.iconst (-1), 1) := by decide +kernel
theorem dX5_handleAsk_23 : decode cX5_handleAsk 23 = .ok (.if_icmp .eq 17, 3) := by decide +kernel
theorem dX5_handleAsk_26 : decode cX5_handleAsk 26 = .ok (.aload_n 0, 1) := by decide +kernel
theorem dX5_handleAsk_27 : decode cX5_handleAsk 27 = .ok (.getfield 52, 3) := by decide +kernel
theorem dX5_handleAsk_30 : decode cX5_handleAsk 30 = .ok (.getfield 127, 3) := by decide +kernel
theorem dX5_handleAsk_33 : decode cX5_handleAsk 33 = .ok (.aload_n 1, 1) := by decide +kernel
theorem dX5_handleAsk_34 : decode cX5_handleAsk 34 = .ok (.getfield 88, 3) := by decide +kernel
theorem dX5_handleAsk_37 : decode cX5_handleAsk 37 = .ok (.if_icmp .ne 7, 3) := by decide +kernel
theorem dX5_handleAsk_40 : decode cX5_handleAsk 40 = .ok (.iconst 1, 1) := by decide +kernel
theorem dX5_handleAsk_41 : decode cX5_handleAsk 41 = .ok (.goto 4, 3) := by decide +kernel
theorem dX5_handleAsk_44 : decode cX5_handleAsk 44 = .ok (.iconst 0, 1) := by decide +kernel
theorem dX5_handleAsk_45 : decode cX5_handleAsk 45 = .ok (.istore_n 3, 1) := by decide +kernel
theorem dX5_handleAsk_46 : decode cX5_handleAsk 46 = .ok (.aload_n 1, 1) := by decide +kernel
theorem dX5_handleAsk_47 : decode cX5_handleAsk 47 = .ok (.getfield 130, 3) := by decide +kernel
theorem dX5_handleAsk_50 : decode cX5_handleAsk 50 = .ok (.iload_n 2, 1) := by decide +kernel
theorem dX5_handleAsk_51 : decode cX5_handleAsk 51 = .ok (.if_icmp .gt 25, 3) := by decide +kernel
theorem dX5_handleAsk_54 : decode cX5_handleAsk 54 = .ok (.aload_n 1, 1) := by decide +kernel
theorem dX5_handleAsk_55 : decode cX5_handleAsk 55 = .ok (.getfield 130, 3) := by decide +kernel
theorem dX5_handleAsk_58 : decode cX5_handleAsk 58 = .ok (.iload_n 2, 1) := by decide +kernel
theorem dX5_handleAsk_59 : decode cX5_handleAsk 59 = .ok (.if_icmp .ne 21, 3) := by decide +kernel
theorem dX5_handleAsk_62 : decode cX5_handleAsk 62 = .ok (.aload_n 1, 1) := by decide +kernel
theorem dX5_handleAsk_63 : decode cX5_handleAsk 63 = .ok (.getfield 133, 3) := by decide +kernel
theorem dX5_handleAsk_66 : decode cX5_handleAsk 66 = .ok (.aload_n 0, 1) := by decide +kernel
theorem dX5_handleAsk_67 : decode cX5_handleAsk 67 = .ok (.getfield 52, 3) := by decide +kernel
theorem dX5_handleAsk_70 : decode cX5_handleAsk 70 = .ok (.getfield 70, 3) := by decide +kernel
theorem dX5_handleAsk_73 : decode cX5_handleAsk 73 = .ok (.if_icmp .lt 7, 3) := by decide +kernel
theorem dX5_handleAsk_76 : decode cX5_handleAsk 76 = .ok (.iconst 1, 1) := by decide +kernel
theorem dX5_handleAsk_77 : decode cX5_handleAsk 77 = .ok (.goto 4, 3) := by decide +kernel
theorem dX5_handleAsk_80 : decode cX5_handleAsk 80 = .ok (.iconst 0, 1) := by decide +kernel
theorem dX5_handleAsk_81 : decode cX5_handleAsk 81 = .ok (.istore 4, 2) := by decide +kernel
theorem dX5_handleAsk_83 : decode cX5_handleAsk 83 = .ok (.iload_n 3, 1) := by decide +kernel
theorem dX5_handleAsk_84 : decode cX5_handleAsk 84 = .ok (.ifCond .eq 8, 3) := by decide +kernel
theorem dX5_handleAsk_87 : decode cX5_handleAsk 87 = .ok (.iload 4, 2) := by decide +kernel
theorem dX5_handleAsk_89 : decode cX5_handleAsk 89 = .ok (.ifCond .ne 11, 3) := by decide +kernel
theorem dX5_handleAsk_92 : decode cX5_handleAsk 92 = .ok (.aload_n 0, 1) := by decide +kernel
theorem dX5_handleAsk_93 : decode cX5_handleAsk 93 = .ok (.aload_n 1, 1) := by decide +kernel
theorem dX5_handleAsk_94 : decode cX5_handleAsk 94 = .ok (.iconst 1, 1) := by decide +kernel
theorem dX5_handleAsk_95 : decode cX5_handleAsk 95 = .ok (.iconst 0, 1) := by decide +kernel
theorem dX5_handleAsk_96 : decode cX5_handleAsk 96 = .ok (.invokevirtual 123, 3) := by decide +kernel
theorem dX5_handleAsk_99 : decode cX5_handleAsk 99 = .ok (.return_, 1) := by decide +kernel
theorem dX5_handleAsk_100 : decode cX5_handleAsk 100 = .ok (.aload_n 0, 1) := by decide +kernel
theorem dX5_handleAsk_101 : decode cX5_handleAsk 101 = .ok (.getfield 52, 3) := by decide +kernel
theorem dX5_handleAsk_104 : decode cX5_handleAsk 104 = .ok (.getfield 127, 3) := by decide +kernel
theorem dX5_handleAsk_107 : decode cX5_handleAsk 107 = .ok (.aload_n 1, 1) := by decide +kernel
theorem dX5_handleAsk_108 : decode cX5_handleAsk 108 = .ok (.getfield 88, 3) := by decide +kernel
theorem dX5_handleAsk_111 : decode cX5_handleAsk 111 = .ok (.if_icmp .eq 29, 3) := by decide +kernel
theorem dX5_handleAsk_114 : decode cX5_handleAsk 114 = .ok (.aload_n 0, 1) := by decide +kernel
theorem dX5_handleAsk_115 : decode cX5_handleAsk 115 = .ok (.aload_n 0, 1) := by decide +kernel
theorem dX5_handleAsk_116 : decode cX5_handleAsk 116 = .ok (.getfield 52, 3) := by decide +kernel
theorem dX5_handleAsk_119 : decode cX5_handleAsk 119 = .ok (.aload_n 0, 1) := by decide +kernel
theorem dX5_handleAsk_120 : decode cX5_handleAsk 120 = .ok (.getfield 52, 3) := by decide +kernel
theorem dX5_handleAsk_123 : decode cX5_handleAsk 123 = .ok (.getfield 56, 3) := by decide +kernel
theorem dX5_handleAsk_126 : decode cX5_handleAsk 126 = .ok (.aload_n 1, 1) := by decide +kernel
theorem dX5_handleAsk_127 : decode cX5_handleAsk 127 = .ok (.getfield 88, 3) := by decide +kernel
theorem dX5_handleAsk_130 : decode cX5_handleAsk 130 = .ok (.invokevirtual 59, 3) := by decide +kernel
theorem dX5_handleAsk_133 : decode cX5_handleAsk 133 = .ok (.invokevirtual 63, 3) := by decide +kernel
theorem dX5_handleAsk_136 : decode cX5_handleAsk 136 = .ok (.ifCond .ne 4, 3) := by decide +kernel
theorem dX5_handleAsk_139 : decode cX5_handleAsk 139 = .ok (.return_, 1) := by decide +kernel
theorem dX5_handleAsk_140 : decode cX5_handleAsk 140 = .ok (.aload_n 0, 1) := by decide +kernel
theorem dX5_handleAsk_141 : decode cX5_handleAsk 141 = .ok (.aload_n 1, 1) := by decide +kernel
theorem dX5_handleAsk_142 : decode cX5_handleAsk 142 = .ok (.iconst 1, 1) := by decide +kernel
theorem dX5_handleAsk_143 : decode cX5_handleAsk 143 = .ok (.iconst 1, 1) := by decide +kernel
theorem dX5_handleAsk_144 : decode cX5_handleAsk 144 = .ok (.invokevirtual 123, 3) := by decide +kernel
theorem dX5_handleAsk_147 : decode cX5_handleAsk 147 = .ok (.return_, 1) := by decide +kernel
theorem dX5_handleVote_0 : decode cX5_handleVote 0 = .ok (.aload_n 0, 1) := by decide +kernel
theorem dX5_handleVote_1 : decode cX5_handleVote 1 = .ok (.getfield 26, 3) := by decide +kernel
theorem dX5_handleVote_4 : decode cX5_handleVote 4 = .ok (.iconst 1, 1) := by decide +kernel
theorem dX5_handleVote_5 : decode cX5_handleVote 5 = .ok (.if_icmp .ne 11, 3) := by decide +kernel
theorem dX5_handleVote_8 : decode cX5_handleVote 8 = .ok (.aload_n 1, 1) := by decide +kernel
theorem dX5_handleVote_9 : decode cX5_handleVote 9 = .ok (.getfield 133, 3) := by decide +kernel
theorem dX5_handleVote_12 : decode cX5_handleVote 12 = .ok (.iconst 1, 1) := by decide +kernel
theorem dX5_handleVote_13 : decode cX5_handleVote 13 = .ok (.if_icmp .eq 4, 3) := by decide +kernel
theorem dX5_handleVote_16 : decode cX5_handleVote 16 = .ok (.return_, 1) := by decide +kernel
theorem dX5_handleVote_17 : decode cX5_handleVote 17 = .ok (.aload_n 0, 1) := by decide +kernel
theorem dX5_handleVote_18 : decode cX5_handleVote 18 = .ok (.dup, 1) := by decide +kernel
theorem dX5_handleVote_19 : decode cX5_handleVote 19 = .ok (.getfield 67, 3) := by decide +kernel
theorem dX5_handleVote_22 : decode cX5_handleVote 22 = .ok (.iconst 1, 1) := by decide +kernel
theorem dX5_handleVote_23 : decode cX5_handleVote 23 = .ok (.aload_n 1, 1) := by decide +kernel
theorem dX5_handleVote_24 : decode cX5_handleVote 24 = .ok (.getfield 88, 3) := by decide +kernel
theorem dX5_handleVote_27 : decode cX5_handleVote 27 = .ok (.ishl, 1) := by decide +kernel
theorem dX5_handleVote_28 : decode cX5_handleVote 28 = .ok (.ior, 1) := by decide +kernel
theorem dX5_handleVote_29 : decode cX5_handleVote 29 = .ok (.putfield 67, 3) := by decide +kernel
theorem dX5_handleVote_32 : decode cX5_handleVote 32 = .ok (.aload_n 0, 1) := by decide +kernel
theorem dX5_handleVote_33 : decode cX5_handleVote 33 = .ok (.getfield 67, 3) := by decide +kernel
theorem dX5_handleVote_36 : decode cX5_handleVote 36 = .ok (.invokestatic 134, 3) := by decide +kernel
theorem dX5_handleVote_39 : decode cX5_handleVote 39 = .ok (.iconst 3, 1) := by decide +kernel
theorem dX5_handleVote_40 : decode cX5_handleVote 40 = .ok (.if_icmp .lt 7, 3) := by decide +kernel
theorem dX5_handleVote_43 : decode cX5_handleVote 43 = .ok (.aload_n 0, 1) := by decide +kernel
theorem dX5_handleVote_44 : decode cX5_handleVote 44 = .ok (.invokevirtual 139, 3) := by decide +kernel
theorem dX5_handleVote_47 : decode cX5_handleVote 47 = .ok (.return_, 1) := by decide +kernel
theorem dX5_lead_0 : decode cX5_lead 0 = .ok (.aload_n 0, 1) := by decide +kernel
theorem dX5_lead_1 : decode cX5_lead 1 = .ok (.iconst 2, 1) := by decide +kernel
theorem dX5_lead_2 : decode cX5_lead 2 = .ok (.putfield 26, 3) := by decide +kernel
theorem dX5_lead_5 : decode cX5_lead 5 = .ok (.aload_n 0, 1) := by decide +kernel
theorem dX5_lead_6 : decode cX5_lead 6 = .ok (.getfield 43, 3) := by decide +kernel
theorem dX5_lead_9 : decode cX5_lead 9 = .ok (.aload_n 0, 1) := by decide +kernel
theorem dX5_lead_10 : decode cX5_lead 10 = .ok (.getfield 52, 3) := by decide +kernel
theorem dX5_lead_13 : decode cX5_lead 13 = .ok (.getfield 56, 3) := by decide +kernel
theorem dX5_lead_16 : decode cX5_lead 16 = .ok (.aload_n 0, 1) := by decide +kernel
theorem dX5_lead_17 : decode cX5_lead 17 = .ok (.getfield 36, 3) := by decide +kernel
theorem dX5_lead_20 : decode cX5_lead 20 = .ok (.invokevirtual 142, 3) := by decide +kernel
theorem dX5_lead_23 : decode cX5_lead 23 = .ok (.iconst 0, 1) := by decide +kernel
theorem dX5_lead_24 : decode cX5_lead 24 = .ok (.istore_n 1, 1) := by decide +kernel
theorem dX5_lead_25 : decode cX5_lead 25 = .ok (.iload_n 1, 1) := by decide +kernel
theorem dX5_lead_26 : decode cX5_lead 26 = .ok (.iconst 5, 1) := by decide +kernel
theorem dX5_lead_27 : decode cX5_lead 27 = .ok (.if_icmp .ge 31, 3) := by decide +kernel
theorem dX5_lead_30 : decode cX5_lead 30 = .ok (.aload_n 0, 1) := by decide +kernel
theorem dX5_lead_31 : decode cX5_lead 31 = .ok (.getfield 30, 3) := by decide +kernel
theorem dX5_lead_34 : decode cX5_lead 34 = .ok (.iload_n 1, 1) := by decide +kernel
theorem dX5_lead_35 : decode cX5_lead 35 = .ok (.aload_n 0, 1) := by decide +kernel
theorem dX5_lead_36 : decode cX5_lead 36 = .ok (.getfield 52, 3) := by decide +kernel
theorem dX5_lead_39 : decode cX5_lead 39 = .ok (.getfield 70, 3) := by decide +kernel
theorem dX5_lead_42 : decode cX5_lead 42 = .ok (.iconst 1, 1) := by decide +kernel
theorem dX5_lead_43 : decode cX5_lead 43 = .ok (.iadd, 1) := by decide +kernel
theorem dX5_lead_44 : decode cX5_lead 44 = .ok (.iastore, 1) := by decide +kernel
theorem dX5_lead_45 : decode cX5_lead 45 = .ok (.aload_n 0, 1) := by decide +kernel
theorem dX5_lead_46 : decode cX5_lead 46 = .ok (.getfield 33, 3) := by decide +kernel
theorem dX5_lead_49 : decode cX5_lead 49 = .ok (.iload_n 1, 1) := by decide +kernel
theorem dX5_lead_50 : decode cX5_lead 50 = .ok (.iconst 0, 1) := by decide +kernel
theorem dX5_lead_51 : decode cX5_lead 51 = .ok (.iastore, 1) := by decide +kernel
theorem dX5_lead_52 : decode cX5_lead 52 = .ok (.iinc 1 1, 3) := by decide +kernel
theorem dX5_lead_55 : decode cX5_lead 55 = .ok (.goto (-30), 3) := by decide +kernel
theorem dX5_lead_58 : decode cX5_lead 58 = .ok (.aload_n 0, 1) := by decide +kernel
theorem dX5_lead_59 : decode cX5_lead 59 = .ok (.getfield 52, 3) := by decide +kernel
theorem dX5_lead_62 : decode cX5_lead 62 = .ok (.getfield 70, 3) := by decide +kernel
theorem dX5_lead_65 : decode cX5_lead 65 = .ok (.sipush 1200, 3) := by decide +kernel
theorem dX5_lead_68 : decode cX5_lead 68 = .ok (.if_icmp .ge 25, 3) := by decide +kernel
theorem dX5_lead_71 : decode cX5_lead 71 = .ok (.aload_n 0, 1) := by decide +kernel
theorem dX5_lead_72 : decode cX5_lead 72 = .ok (.new 148, 3) := by decide +kernel
theorem dX5_lead_75 : decode cX5_lead 75 = .ok (.dup, 1) := by decide +kernel
theorem dX5_lead_76 : decode cX5_lead 76 = .ok (.iconst 0, 1) := by decide +kernel
theorem dX5_lead_77 : decode cX5_lead 77 = .ok (.iconst 0, 1) := by decide +kernel
theorem dX5_lead_78 : decode cX5_lead 78 = .ok (.iconst 0, 1) := by decide +kernel
theorem dX5_lead_79 : decode cX5_lead 79 = .ok (.iconst 0, 1) := by decide +kernel
theorem dX5_lead_80 : decode cX5_lead 80 = .ok (.iconst 0, 1) := by decide +kernel
theorem dX5_lead_81 : decode cX5_lead 81 = .ok (.iconst 0, 1) := by decide +kernel
theorem dX5_lead_82 : decode cX5_lead 82 = .ok (.iconst 0, 1) := by decide +kernel
theorem dX5_lead_83 : decode cX5_lead 83 = .ok (.invokespecial 150, 3) := by decide +kernel
theorem dX5_lead_86 : decode cX5_lead 86 = .ok (.invokevirtual 153, 3) := by decide +kernel
theorem dX5_lead_89 : decode cX5_lead 89 = .ok (.ifCond .ne 4, 3) := by decide +kernel
theorem dX5_lead_92 : decode cX5_lead 92 = .ok (.return_, 1) := by decide +kernel
theorem dX5_lead_93 : decode cX5_lead 93 = .ok (.aload_n 0, 1) := by decide +kernel
theorem dX5_lead_94 : decode cX5_lead 94 = .ok (.invokevirtual 157, 3) := by decide +kernel
theorem dX5_lead_97 : decode cX5_lead 97 = .ok (.return_, 1) := by decide +kernel
theorem dX5_handleAppend_0 : decode cX5_handleAppend 0 = .ok (.aload_n 0, 1) := by decide +kernel
theorem dX5_handleAppend_1 : decode cX5_handleAppend 1 = .ok (.iconst 0, 1) := by decide +kernel
theorem dX5_handleAppend_2 : decode cX5_handleAppend 2 = .ok (.putfield 26, 3) := by decide +kernel
theorem dX5_handleAppend_5 : decode cX5_handleAppend 5 = .ok (.aload_n 0, 1) := by decide +kernel
theorem dX5_handleAppend_6 : decode cX5_handleAppend 6 = .ok (.getfield 52, 3) := by decide +kernel
theorem dX5_handleAppend_9 : decode cX5_handleAppend 9 = .ok (.getfield 160, 3) := by decide +kernel
theorem dX5_handleAppend_12 : decode cX5_handleAppend 12 = .ok (.getfield 164, 3) := by decide +kernel
theorem dX5_handleAppend_15 : decode cX5_handleAppend 15 = .ok (.istore_n 2, 1) := by decide +kernel
theorem dX5_handleAppend_16 : decode cX5_handleAppend 16 = .ok (.aload_n 1, 1) := by decide +kernel
theorem dX5_handleAppend_17 : decode cX5_handleAppend 17 = .ok (.getfield 133, 3) := by decide +kernel
theorem dX5_handleAppend_20 : decode cX5_handleAppend 20 = .ok (.aload_n 0, 1) := by decide +kernel
theorem dX5_handleAppend_21 : decode cX5_handleAppend 21 = .ok (.getfield 52, 3) := by decide +kernel
theorem dX5_handleAppend_24 : decode cX5_handleAppend 24 = .ok (.getfield 70, 3) := by decide +kernel
theorem dX5_handleAppend_27 : decode cX5_handleAppend 27 = .ok (.if_icmp .le 17, 3) := by decide +kernel
theorem dX5_handleAppend_30 : decode cX5_handleAppend 30 = .ok (.aload_n 0, 1) := by decide +kernel
theorem dX5_handleAppend_31 : decode cX5_handleAppend 31 = .ok (.aload_n 1, 1) := by decide +kernel
theorem dX5_handleAppend_32 : decode cX5_handleAppend 32 = .ok (.iconst 4, 1) := by decide +kernel
theorem dX5_handleAppend_33 : decode cX5_handleAppend 33 = .ok (.aload_n 0, 1) := by decide +kernel
theorem dX5_handleAppend_34 : decode cX5_handleAppend 34 = .ok (.getfield 52, 3) := by decide +kernel
theorem dX5_handleAppend_37 : decode cX5_handleAppend 37 = .ok (.getfield 70, 3) := by decide +kernel
theorem dX5_handleAppend_40 : decode cX5_handleAppend 40 = .ok (.invokevirtual 123, 3) := by decide +kernel
theorem dX5_handleAppend_43 : decode cX5_handleAppend 43 = .ok (.return_, 1) := by decide +kernel
theorem dX5_handleAppend_44 : decode cX5_handleAppend 44 = .ok (.aload_n 1, 1) := by decide +kernel
theorem dX5_handleAppend_45 : decode cX5_handleAppend 45 = .ok (.getfield 133, 3) := by decide +kernel
theorem dX5_handleAppend_48 : decode cX5_handleAppend 48 = .ok (.iload_n 2, 1) := by decide +kernel
theorem dX5_handleAppend_49 : decode cX5_handleAppend 49 = .ok (.if_icmp .lt 34, 3) := by decide +kernel
theorem dX5_handleAppend_52 : decode cX5_handleAppend 52 = .ok (.aload_n 0, 1) := by decide +kernel
theorem dX5_handleAppend_53 : decode cX5_handleAppend 53 = .ok (.getfield 52, 3) := by decide +kernel
theorem dX5_handleAppend_56 : decode cX5_handleAppend 56 = .ok (.aload_n 1, 1) := by decide +kernel
theorem dX5_handleAppend_57 : decode cX5_handleAppend 57 = .ok (.getfield 133, 3) := by decide +kernel
theorem dX5_handleAppend_60 : decode cX5_handleAppend 60 = .ok (.invokevirtual 73, 3) := by decide +kernel
theorem dX5_handleAppend_63 : decode cX5_handleAppend 63 = .ok (.aload_n 1, 1) := by decide +kernel
theorem dX5_handleAppend_64 : decode cX5_handleAppend 64 = .ok (.getfield 130, 3) := by decide +kernel
theorem dX5_handleAppend_67 : decode cX5_handleAppend 67 = .ok (.if_icmp .eq 16, 3) := by decide +kernel
theorem dX5_handleAppend_70 : decode cX5_handleAppend 70 = .ok (.aload_n 0, 1) := by decide +kernel
theorem dX5_handleAppend_71 : decode cX5_handleAppend 71 = .ok (.aload_n 1, 1) := by decide +kernel
theorem dX5_handleAppend_72 : decode cX5_handleAppend 72 = .ok (.iconst 4, 1) := by decide +kernel
theorem dX5_handleAppend_73 : decode cX5_handleAppend 73 = .ok (.aload_n 1, 1) := by decide +kernel
theorem dX5_handleAppend_74 : decode cX5_handleAppend 74 = .ok (.getfield 133, 3) := by decide +kernel
theorem dX5_handleAppend_77 : decode cX5_handleAppend 77 = .ok (.iconst 1, 1) := by decide +kernel
theorem dX5_handleAppend_78 : decode cX5_handleAppend 78 = .ok (.isub, 1) := by decide +kernel
theorem dX5_handleAppend_79 : decode cX5_handleAppend 79 = .ok (.invokevirtual 123, 3) := by decide +kernel
theorem dX5_handleAppend_82 : decode cX5_handleAppend 82 = .ok (.return_, 1) := by decide +kernel
theorem dX5_handleAppend_83 : decode cX5_handleAppend 83 = .ok (.aload_n 0, 1) := by decide +kernel
theorem dX5_handleAppend_84 : decode cX5_handleAppend 84 = .ok (.aload_n 1, 1) := by decide +kernel
theorem dX5_handleAppend_85 : decode cX5_handleAppend 85 = .ok (.iload_n 2, 1) := by decide +kernel
theorem dX5_handleAppend_86 : decode cX5_handleAppend 86 = .ok (.invokevirtual 169, 3) := by decide +kernel
theorem dX5_handleAppend_89 : decode cX5_handleAppend 89 = .ok (.ifCond .ne 4, 3) := by decide +kernel
theorem dX5_handleAppend_92 : decode cX5_handleAppend 92 = .ok (.return_, 1) := by decide +kernel
theorem dX5_handleAppend_93 : decode cX5_handleAppend 93 = .ok (.aload_n 1, 1) := by decide +kernel
theorem dX5_handleAppend_94 : decode cX5_handleAppend 94 = .ok (.getfield 133, 3) := by decide +kernel
theorem dX5_handleAppend_97 : decode cX5_handleAppend 97 = .ok (.aload_n 1, 1) := by decide +kernel
theorem dX5_handleAppend_98 : decode cX5_handleAppend 98 = .ok (.invokevirtual 173, 3) := by decide +kernel
theorem dX5_handleAppend_101 : decode cX5_handleAppend 101 = .ok (.iadd, 1) := by decide +kernel
theorem dX5_handleAppend_102 : decode cX5_handleAppend 102 = .ok (.istore_n 3, 1) := by decide +kernel
theorem dX5_handleAppend_103 : decode cX5_handleAppend 103 = .ok (.aload_n 0, 1) := by decide +kernel
theorem dX5_handleAppend_104 : decode cX5_handleAppend 104 = .ok (.aload_n 0, 1) := by decide +kernel
theorem dX5_handleAppend_105 : decode cX5_handleAppend 105 = .ok (.getfield 177, 3) := by decide +kernel
theorem dX5_handleAppend_108 : decode cX5_handleAppend 108 = .ok (.aload_n 1, 1) := by decide +kernel
theorem dX5_handleAppend_109 : decode cX5_handleAppend 109 = .ok (.getfield 180, 3) := by decide +kernel
theorem dX5_handleAppend_112 : decode cX5_handleAppend 112 = .ok (.iload_n 3, 1) := by decide +kernel
theorem dX5_handleAppend_113 : decode cX5_handleAppend 113 = .ok (.invokestatic 181, 3) := by decide +kernel
theorem dX5_handleAppend_116 : decode cX5_handleAppend 116 = .ok (.invokestatic 187, 3) := by decide +kernel
theorem dX5_handleAppend_119 : decode cX5_handleAppend 119 = .ok (.putfield 177, 3) := by decide +kernel
theorem dX5_handleAppend_122 : decode cX5_handleAppend 122 = .ok (.aload_n 0, 1) := by decide +kernel
theorem dX5_handleAppend_123 : decode cX5_handleAppend 123 = .ok (.aload_n 1, 1) := by decide +kernel
theorem dX5_handleAppend_124 : decode cX5_handleAppend 124 = .ok (.iconst 3, 1) := by decide +kernel
theorem dX5_handleAppend_125 : decode cX5_handleAppend 125 = .ok (.iload_n 3, 1) := by decide +kernel
theorem dX5_handleAppend_126 : decode cX5_handleAppend 126 = .ok (.iload_n 2, 1) := by decide +kernel
theorem dX5_handleAppend_127 : decode cX5_handleAppend 127 = .ok (.invokestatic 187, 3) := by decide +kernel
theorem dX5_handleAppend_130 : decode cX5_handleAppend 130 = .ok (.invokevirtual 123, 3) := by decide +kernel
theorem dX5_handleAppend_133 : decode cX5_handleAppend 133 = .ok (.return_, 1) := by decide +kernel
theorem dX5_keepEntries_0 : decode cX5_keepEntries 0 = .ok (.iconst 0, 1) := by decide +kernel
theorem dX5_keepEntries_1 : decode cX5_keepEntries 1 = .ok (.istore_n 3, 1) := by decide +kernel
theorem dX5_keepEntries_2 : decode cX5_keepEntries 2 = .ok (.iload_n 3, 1) := by decide +kernel
theorem dX5_keepEntries_3 : decode cX5_keepEntries 3 = .ok (.aload_n 1, 1) := by decide +kernel
theorem dX5_keepEntries_4 : decode cX5_keepEntries 4 = .ok (.invokevirtual 173, 3) := by decide +kernel
theorem dX5_keepEntries_7 : decode cX5_keepEntries 7 = .ok (.if_icmp .ge 78, 3) := by decide +kernel
theorem dX5_keepEntries_10 : decode cX5_keepEntries 10 = .ok (.aload_n 1, 1) := by decide +kernel
theorem dX5_keepEntries_11 : decode cX5_keepEntries 11 = .ok (.getfield 133, 3) := by decide +kernel
theorem dX5_keepEntries_14 : decode cX5_keepEntries 14 = .ok (.iconst 1, 1) := by decide +kernel
theorem dX5_keepEntries_15 : decode cX5_keepEntries 15 = .ok (.iadd, 1) := by decide +kernel
theorem dX5_keepEntries_16 : decode cX5_keepEntries 16 = .ok (.iload_n 3, 1) := by decide +kernel
theorem dX5_keepEntries_17 : decode cX5_keepEntries 17 = .ok (.iadd, 1) := by decide +kernel
theorem dX5_keepEntries_18 : decode cX5_keepEntries 18 = .ok (.istore 4, 2) := by decide +kernel
theorem dX5_keepEntries_20 : decode cX5_keepEntries 20 = .ok (.aload_n 1, 1) := by decide +kernel
theorem dX5_keepEntries_21 : decode cX5_keepEntries 21 = .ok (.getfield 190, 3) := by decide +kernel
theorem dX5_keepEntries_24 : decode cX5_keepEntries 24 = .ok (.iload_n 3, 1) := by decide +kernel
theorem dX5_keepEntries_25 : decode cX5_keepEntries 25 = .ok (.aaload, 1) := by decide +kernel
theorem dX5_keepEntries_26 : decode cX5_keepEntries 26 = .ok (.astore 5, 2) := by decide +kernel
theorem dX5_keepEntries_28 : decode cX5_keepEntries 28 = .ok (.iload 4, 2) := by decide +kernel
theorem dX5_keepEntries_30 : decode cX5_keepEntries 30 = .ok (.iload_n 2, 1) := by decide +kernel
theorem dX5_keepEntries_31 : decode cX5_keepEntries 31 = .ok (.if_icmp .le 48, 3) := by decide +kernel
theorem dX5_keepEntries_34 : decode cX5_keepEntries 34 = .ok (.aload 5, 2) := by decide +kernel
theorem dX5_keepEntries_36 : decode cX5_keepEntries 36 = .ok (.ifnull 43, 3) := by decide +kernel
theorem dX5_keepEntries_39 : decode cX5_keepEntries 39 = .ok (.aload_n 0, 1) := by decide +kernel
theorem dX5_keepEntries_40 : decode cX5_keepEntries 40 = .ok (.getfield 52, 3) := by decide +kernel
theorem dX5_keepEntries_43 : decode cX5_keepEntries 43 = .ok (.iload 4, 2) := by decide +kernel
theorem dX5_keepEntries_45 : decode cX5_keepEntries 45 = .ok (.invokevirtual 73, 3) := by decide +kernel
theorem dX5_keepEntries_48 : decode cX5_keepEntries 48 = .ok (.aload 5, 2) := by decide +kernel
theorem dX5_keepEntries_50 : decode cX5_keepEntries 50 = .ok (.getfield 194, 3) := by decide +kernel
theorem dX5_keepEntries_53 : decode cX5_keepEntries 53 = .ok (.if_icmp .ne 6, 3) := by decide +kernel
theorem dX5_keepEntries_56 : decode cX5_keepEntries 56 = .ok (.goto 23, 3) := by decide +kernel
theorem dX5_keepEntries_59 : decode cX5_keepEntries 59 = .ok (.aload_n 0, 1) := by decide +kernel
theorem dX5_keepEntries_60 : decode cX5_keepEntries 60 = .ok (.aload_n 0, 1) := by decide +kernel
theorem dX5_keepEntries_61 : decode cX5_keepEntries 61 = .ok (.getfield 52, 3) := by decide +kernel
theorem dX5_keepEntries_64 : decode cX5_keepEntries 64 = .ok (.iload 4, 2) := by decide +kernel
theorem dX5_keepEntries_66 : decode cX5_keepEntries 66 = .ok (.aload 5, 2) := by decide +kernel
theorem dX5_keepEntries_68 : decode cX5_keepEntries 68 = .ok (.invokevirtual 197, 3) := by decide +kernel
theorem dX5_keepEntries_71 : decode cX5_keepEntries 71 = .ok (.invokevirtual 63, 3) := by decide +kernel
theorem dX5_keepEntries_74 : decode cX5_keepEntries 74 = .ok (.ifCond .ne 5, 3) := by decide +kernel
theorem dX5_keepEntries_77 : decode cX5_keepEntries 77 = .ok (.iconst 0, 1) := by decide +kernel
theorem dX5_keepEntries_78 : decode cX5_keepEntries 78 = .ok (.ireturn, 1) := by decide +kernel
theorem dX5_keepEntries_79 : decode cX5_keepEntries 79 = .ok (.iinc 3 1, 3) := by decide +kernel
theorem dX5_keepEntries_82 : decode cX5_keepEntries 82 = .ok (.goto (-80), 3) := by decide +kernel
theorem dX5_keepEntries_85 : decode cX5_keepEntries 85 = .ok (.iconst 1, 1) := by decide +kernel
theorem dX5_keepEntries_86 : decode cX5_keepEntries 86 = .ok (.ireturn, 1) := by decide +kernel
theorem dX5_handleAccept_0 : decode cX5_handleAccept 0 = .ok (.aload_n 0, 1) := by decide +kernel
theorem dX5_handleAccept_1 : decode cX5_handleAccept 1 = .ok (.getfield 26, 3) := by decide +kernel
theorem dX5_handleAccept_4 : decode cX5_handleAccept 4 = .ok (.iconst 2, 1) := by decide +kernel
theorem dX5_handleAccept_5 : decode cX5_handleAccept 5 = .ok (.if_icmp .eq 4, 3) := by decide +kernel
theorem dX5_handleAccept_8 : decode cX5_handleAccept 8 = .ok (.return_, 1) := by decide +kernel
theorem dX5_handleAccept_9 : decode cX5_handleAccept 9 = .ok (.aload_n 0, 1) := by decide +kernel
theorem dX5_handleAccept_10 : decode cX5_handleAccept 10 = .ok (.getfield 33, 3) := by decide +kernel
theorem dX5_handleAccept_13 : decode cX5_handleAccept 13 = .ok (.aload_n 1, 1) := by decide +kernel
theorem dX5_handleAccept_14 : decode cX5_handleAccept 14 = .ok (.getfield 88, 3) := by decide +kernel
theorem dX5_handleAccept_17 : decode cX5_handleAccept 17 = .ok (.iaload, 1) := by decide +kernel
theorem dX5_handleAccept_18 : decode cX5_handleAccept 18 = .ok (.aload_n 1, 1) := by decide +kernel
theorem dX5_handleAccept_19 : decode cX5_handleAccept 19 = .ok (.getfield 133, 3) := by decide +kernel
theorem dX5_handleAccept_22 : decode cX5_handleAccept 22 = .ok (.if_icmp .ge 16, 3) := by decide +kernel
theorem dX5_handleAccept_25 : decode cX5_handleAccept 25 = .ok (.aload_n 0, 1) := by decide +kernel
theorem dX5_handleAccept_26 : decode cX5_handleAccept 26 = .ok (.getfield 33, 3) := by decide +kernel
theorem dX5_handleAccept_29 : decode cX5_handleAccept 29 = .ok (.aload_n 1, 1) := by decide +kernel
theorem dX5_handleAccept_30 : decode cX5_handleAccept 30 = .ok (.getfield 88, 3) := by decide +kernel
theorem dX5_handleAccept_33 : decode cX5_handleAccept 33 = .ok (.aload_n 1, 1) := by decide +kernel
theorem dX5_handleAccept_34 : decode cX5_handleAccept 34 = .ok (.getfield 133, 3) := by decide +kernel
theorem dX5_handleAccept_37 : decode cX5_handleAccept 37 = .ok (.iastore, 1) := by decide +kernel
theorem dX5_handleAccept_38 : decode cX5_handleAccept 38 = .ok (.aload_n 0, 1) := by decide +kernel
theorem dX5_handleAccept_39 : decode cX5_handleAccept 39 = .ok (.getfield 30, 3) := by decide +kernel
theorem dX5_handleAccept_42 : decode cX5_handleAccept 42 = .ok (.aload_n 1, 1) := by decide +kernel
theorem dX5_handleAccept_43 : decode cX5_handleAccept 43 = .ok (.getfield 88, 3) := by decide +kernel

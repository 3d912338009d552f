theorem dX10_isRight_54 : decode cX10_isRight 54 = .ok (.aload_n 0, 1) := by decide +kernel
theorem dX10_isRight_55 : decode cX10_isRight 55 = .ok (.getfield 216, 3) := by decide +kernel
theorem dX10_isRight_58 : decode cX10_isRight 58 = .ok (.bipush 8, 2) := by decide +kernel
theorem dX10_isRight_60 : decode cX10_isRight 60 = .ok (.if_icmp .gt 7, 3) := by decide +kernel
theorem dX10_isRight_63 : decode cX10_isRight 63 = .ok (.iconst 1, 1) := by decide +kernel
theorem dX10_isRight_64 : decode cX10_isRight 64 = .ok (.goto 4, 3) := by decide +kernel
theorem dX10_isRight_67 : decode cX10_isRight 67 = .ok (.iconst 0, 1) := by decide +kernel
theorem dX10_isRight_68 : decode cX10_isRight 68 = .ok (.ireturn, 1) := by decide +kernel
theorem dX10_isRight_69 : decode cX10_isRight 69 = .ok (.iload_n 2, 1) := by decide +kernel
theorem dX10_isRight_70 : decode cX10_isRight 70 = .ok (.invokestatic 228, 3) := by decide +kernel
theorem dX10_isRight_73 : decode cX10_isRight 73 = .ok (.ifCond .eq 14, 3) := by decide +kernel
theorem dX10_isRight_76 : decode cX10_isRight 76 = .ok (.iload_n 3, 1) := by decide +kernel
theorem dX10_isRight_77 : decode cX10_isRight 77 = .ok (.invokestatic 228, 3) := by decide +kernel
theorem dX10_isRight_80 : decode cX10_isRight 80 = .ok (.ifCond .eq 7, 3) := by decide +kernel
theorem dX10_isRight_83 : decode cX10_isRight 83 = .ok (.iconst 1, 1) := by decide +kernel
theorem dX10_isRight_84 : decode cX10_isRight 84 = .ok (.goto 4, 3) := by decide +kernel
theorem dX10_isRight_87 : decode cX10_isRight 87 = .ok (.iconst 0, 1) := by decide +kernel
theorem dX10_isRight_88 : decode cX10_isRight 88 = .ok (.ireturn, 1) := by decide +kernel
theorem dX10_isRight_89 : decode cX10_isRight 89 = .ok (.iload_n 2, 1) := by decide +kernel
theorem dX10_isRight_90 : decode cX10_isRight 90 = .ok (.invokestatic 228, 3) := by decide +kernel
theorem dX10_isRight_93 : decode cX10_isRight 93 = .ok (.ifCond .eq 41, 3) := by decide +kernel
theorem dX10_isRight_96 : decode cX10_isRight 96 = .ok (.aload_n 0, 1) := by decide +kernel
theorem dX10_isRight_97 : decode cX10_isRight 97 = .ok (.getfield 222, 3) := by decide +kernel
theorem dX10_isRight_100 : decode cX10_isRight 100 = .ok (.invokestatic 228, 3) := by decide +kernel
theorem dX10_isRight_103 : decode cX10_isRight 103 = .ok (.ifCond .eq 31, 3) := by decide +kernel
theorem dX10_isRight_106 : decode cX10_isRight 106 = .ok (.iload_n 3, 1) := by decide +kernel
theorem dX10_isRight_107 : decode cX10_isRight 107 = .ok (.ifCond .lt 27, 3) := by decide +kernel
theorem dX10_isRight_110 : decode cX10_isRight 110 = .ok (.iload_n 3, 1) := by decide +kernel
theorem dX10_isRight_111 : decode cX10_isRight 111 = .ok (.iconst 3, 1) := by decide +kernel
theorem dX10_isRight_112 : decode cX10_isRight 112 = .ok (.if_icmp .gt 22, 3) := by decide +kernel
theorem dX10_isRight_115 : decode cX10_isRight 115 = .ok (.aload_n 0, 1) := by decide +kernel
theorem dX10_isRight_116 : decode cX10_isRight 116 = .ok (.getfield 216, 3) := by decide +kernel
theorem dX10_isRight_119 : decode cX10_isRight 119 = .ok (.ifCond .lt 15, 3) := by decide +kernel
theorem dX10_isRight_122 : decode cX10_isRight 122 = .ok (.aload_n 0, 1) := by decide +kernel
theorem dX10_isRight_123 : decode cX10_isRight 123 = .ok (.getfield 216, 3) := by decide +kernel
theorem dX10_isRight_126 : decode cX10_isRight 126 = .ok (.iconst 2, 1) := by decide +kernel
theorem dX10_isRight_127 : decode cX10_isRight 127 = .ok (.if_icmp .gt 7, 3) := by decide +kernel
theorem dX10_isRight_130 : decode cX10_isRight 130 = .ok (.iconst 1, 1) := by decide +kernel
theorem dX10_isRight_131 : decode cX10_isRight 131 = .ok (.goto 4, 3) := by decide +kernel
theorem dX10_isRight_134 : decode cX10_isRight 134 = .ok (.iconst 0, 1) := by decide +kernel
theorem dX10_isRight_135 : decode cX10_isRight 135 = .ok (.ireturn, 1) := by decide +kernel
theorem dX10_isRight_136 : decode cX10_isRight 136 = .ok (.iload_n 2, 1) := by decide +kernel
theorem dX10_isRight_137 : decode cX10_isRight 137 = .ok (.iconst 1, 1) := by decide +kernel
theorem dX10_isRight_138 : decode cX10_isRight 138 = .ok (.if_icmp .lt 13, 3) := by decide +kernel
theorem dX10_isRight_141 : decode cX10_isRight 141 = .ok (.iload_n 2, 1) := by decide +kernel
theorem dX10_isRight_142 : decode cX10_isRight 142 = .ok (.bipush 8, 2) := by decide +kernel
theorem dX10_isRight_144 : decode cX10_isRight 144 = .ok (.if_icmp .gt 7, 3) := by decide +kernel
theorem dX10_isRight_147 : decode cX10_isRight 147 = .ok (.iconst 1, 1) := by decide +kernel
theorem dX10_isRight_148 : decode cX10_isRight 148 = .ok (.goto 4, 3) := by decide +kernel
theorem dX10_isRight_151 : decode cX10_isRight 151 = .ok (.iconst 0, 1) := by decide +kernel
theorem dX10_isRight_152 : decode cX10_isRight 152 = .ok (.ireturn, 1) := by decide +kernel
theorem dX10_isRight_153 : decode cX10_isRight 153 = .ok (.iload_n 1, 1) := by decide +kernel
theorem dX10_isRight_154 : decode cX10_isRight 154 = .ok (.bipush 7, 2) := by decide +kernel
theorem dX10_isRight_156 : decode cX10_isRight 156 = .ok (.if_icmp .eq 9, 3) := by decide +kernel
theorem dX10_isRight_159 : decode cX10_isRight 159 = .ok (.iload_n 1, 1) := by decide +kernel
theorem dX10_isRight_160 : decode cX10_isRight 160 = .ok (.bipush 8, 2) := by decide +kernel
theorem dX10_isRight_162 : decode cX10_isRight 162 = .ok (.if_icmp .ne 7, 3) := by decide +kernel
theorem dX10_isRight_165 : decode cX10_isRight 165 = .ok (.iconst 1, 1) := by decide +kernel
theorem dX10_isRight_166 : decode cX10_isRight 166 = .ok (.goto 4, 3) := by decide +kernel
theorem dX10_isRight_169 : decode cX10_isRight 169 = .ok (.iconst 0, 1) := by decide +kernel
theorem dX10_isRight_170 : decode cX10_isRight 170 = .ok (.ireturn, 1) := by decide +kernel
theorem dX10_propose_0 : decode cX10_propose 0 = .ok (.aload_n 0, 1) := by decide +kernel
theorem dX10_propose_1 : decode cX10_propose 1 = .ok (.iload_n 1, 1) := by decide +kernel
theorem dX10_propose_2 : decode cX10_propose 2 = .ok (.invokestatic 168, 3) := by decide +kernel
theorem dX10_propose_5 : decode cX10_propose 5 = .ok (.ifCond .ne 7, 3) := by decide +kernel
theorem dX10_propose_8 : decode cX10_propose 8 = .ok (.iconst 1, 1) := by decide +kernel
theorem dX10_propose_9 : decode cX10_propose 9 = .ok (.goto 4, 3) := by decide +kernel
theorem dX10_propose_12 : decode cX10_propose 12 = .ok (.iconst 0, 1) := by decide +kernel
theorem dX10_propose_13 : decode cX10_propose 13 = .ok (.iconst 1, 1) := by decide +kernel
theorem dX10_propose_14 : decode cX10_propose 14 = .ok (.invokevirtual 172, 3) := by decide +kernel
theorem dX10_propose_17 : decode cX10_propose 17 = .ok (.ifCond .ne 71, 3) := by decide +kernel
theorem dX10_propose_20 : decode cX10_propose 20 = .ok (.aload_n 0, 1) := by decide +kernel
theorem dX10_propose_21 : decode cX10_propose 21 = .ok (.aload_n 0, 1) := by decide +kernel
theorem dX10_propose_22 : decode cX10_propose 22 = .ok (.iload_n 2, 1) := by decide +kernel
theorem dX10_propose_23 : decode cX10_propose 23 = .ok (.iload_n 3, 1) := by decide +kernel
theorem dX10_propose_24 : decode cX10_propose 24 = .ok (.iload 4, 2) := by decide +kernel
theorem dX10_propose_26 : decode cX10_propose 26 = .ok (.invokevirtual 231, 3) := by decide +kernel
theorem dX10_propose_29 : decode cX10_propose 29 = .ok (.ifCond .ne 7, 3) := by decide +kernel
theorem dX10_propose_32 : decode cX10_propose 32 = .ok (.iconst 1, 1) := by decide +kernel
theorem dX10_propose_33 : decode cX10_propose 33 = .ok (.goto 4, 3) := by decide +kernel
theorem dX10_propose_36 : decode cX10_propose 36 = .ok (.iconst 0, 1) := by decide +kernel
theorem dX10_propose_37 : decode cX10_propose 37 = .ok (.iconst 2, 1) := by decide +kernel
theorem dX10_propose_38 : decode cX10_propose 38 = .ok (.invokevirtual 172, 3) := by decide +kernel
theorem dX10_propose_41 : decode cX10_propose 41 = .ok (.ifCond .ne 47, 3) := by decide +kernel
theorem dX10_propose_44 : decode cX10_propose 44 = .ok (.aload_n 0, 1) := by decide +kernel
theorem dX10_propose_45 : decode cX10_propose 45 = .ok (.aload_n 0, 1) := by decide +kernel
theorem dX10_propose_46 : decode cX10_propose 46 = .ok (.getfield 7, 3) := by decide +kernel
theorem dX10_propose_49 : decode cX10_propose 49 = .ok (.iload_n 1, 1) := by decide +kernel
theorem dX10_propose_50 : decode cX10_propose 50 = .ok (.baload, 1) := by decide +kernel
theorem dX10_propose_51 : decode cX10_propose 51 = .ok (.ifCond .eq 25, 3) := by decide +kernel
theorem dX10_propose_54 : decode cX10_propose 54 = .ok (.aload_n 0, 1) := by decide +kernel
theorem dX10_propose_55 : decode cX10_propose 55 = .ok (.getfield 32, 3) := by decide +kernel
theorem dX10_propose_58 : decode cX10_propose 58 = .ok (.iload_n 1, 1) := by decide +kernel
theorem dX10_propose_59 : decode cX10_propose 59 = .ok (.iaload, 1) := by decide +kernel
theorem dX10_propose_60 : decode cX10_propose 60 = .ok (.iconst 2, 1) := by decide +kernel
theorem dX10_propose_61 : decode cX10_propose 61 = .ok (.if_icmp .ne 15, 3) := by decide +kernel
theorem dX10_propose_64 : decode cX10_propose 64 = .ok (.aload_n 0, 1) := by decide +kernel
theorem dX10_propose_65 : decode cX10_propose 65 = .ok (.getfield 23, 3) := by decide +kernel
theorem dX10_propose_68 : decode cX10_propose 68 = .ok (.iload_n 1, 1) := by decide +kernel
theorem dX10_propose_69 : decode cX10_propose 69 = .ok (.iaload, 1) := by decide +kernel
theorem dX10_propose_70 : decode cX10_propose 70 = .ok (.sipush 1200, 3) := by decide +kernel
theorem dX10_propose_73 : decode cX10_propose 73 = .ok (.if_icmp .ne 7, 3) := by decide +kernel
theorem dX10_propose_76 : decode cX10_propose 76 = .ok (.iconst 1, 1) := by decide +kernel
theorem dX10_propose_77 : decode cX10_propose 77 = .ok (.goto 4, 3) := by decide +kernel
theorem dX10_propose_80 : decode cX10_propose 80 = .ok (.iconst 0, 1) := by decide +kernel
theorem dX10_propose_81 : decode cX10_propose 81 = .ok (.iconst 3, 1) := by decide +kernel
theorem dX10_propose_82 : decode cX10_propose 82 = .ok (.invokevirtual 172, 3) := by decide +kernel
theorem dX10_propose_85 : decode cX10_propose 85 = .ok (.ifCond .eq 5, 3) := by decide +kernel
theorem dX10_propose_88 : decode cX10_propose 88 = .ok (.iconst 0, 1) := by decide +kernel
theorem dX10_propose_89 : decode cX10_propose 89 = .ok (.ireturn, 1) := by decide +kernel
theorem dX10_propose_90 : decode cX10_propose 90 = .ok (.aload_n 0, 1) := by decide +kernel
theorem dX10_propose_91 : decode cX10_propose 91 = .ok (.iload_n 1, 1) := by decide +kernel
theorem dX10_propose_92 : decode cX10_propose 92 = .ok (.iload_n 2, 1) := by decide +kernel
theorem dX10_propose_93 : decode cX10_propose 93 = .ok (.iload_n 3, 1) := by decide +kernel
theorem dX10_propose_94 : decode cX10_propose 94 = .ok (.iload 4, 2) := by decide +kernel
theorem dX10_propose_96 : decode cX10_propose 96 = .ok (.aload_n 0, 1) := by decide +kernel
theorem dX10_propose_97 : decode cX10_propose 97 = .ok (.getfield 216, 3) := by decide +kernel
theorem dX10_propose_100 : decode cX10_propose 100 = .ok (.aload_n 0, 1) := by decide +kernel
theorem dX10_propose_101 : decode cX10_propose 101 = .ok (.getfield 219, 3) := by decide +kernel
theorem dX10_propose_104 : decode cX10_propose 104 = .ok (.aload_n 0, 1) := by decide +kernel
theorem dX10_propose_105 : decode cX10_propose 105 = .ok (.getfield 222, 3) := by decide +kernel
theorem dX10_propose_108 : decode cX10_propose 108 = .ok (.aload_n 0, 1) := by decide +kernel
theorem dX10_propose_109 : decode cX10_propose 109 = .ok (.getfield 225, 3) := by decide +kernel
theorem dX10_propose_112 : decode cX10_propose 112 = .ok (.invokevirtual 209, 3) := by decide +kernel
theorem dX10_propose_115 : decode cX10_propose 115 = .ok (.ifCond .eq 12, 3) := by decide +kernel
theorem dX10_propose_118 : decode cX10_propose 118 = .ok (.aload_n 0, 1) := by decide +kernel
theorem dX10_propose_119 : decode cX10_propose 119 = .ok (.getfield 23, 3) := by decide +kernel
theorem dX10_propose_122 : decode cX10_propose 122 = .ok (.iload_n 1, 1) := by decide +kernel
theorem dX10_propose_123 : decode cX10_propose 123 = .ok (.iaload, 1) := by decide +kernel
theorem dX10_propose_124 : decode cX10_propose 124 = .ok (.goto 4, 3) := by decide +kernel
theorem dX10_propose_127 : decode cX10_propose 127 = .ok (.iconst 0, 1) := by decide +kernel
theorem dX10_propose_128 : decode cX10_propose 128 = .ok (.ireturn, 1) := by decide +kernel
theorem dX10_beat_0 : decode cX10_beat 0 = .ok (.aload_n 0, 1) := by decide +kernel
theorem dX10_beat_1 : decode cX10_beat 1 = .ok (.iload_n 1, 1) := by decide +kernel
theorem dX10_beat_2 : decode cX10_beat 2 = .ok (.invokestatic 168, 3) := by decide +kernel
theorem dX10_beat_5 : decode cX10_beat 5 = .ok (.ifCond .ne 7, 3) := by decide +kernel
theorem dX10_beat_8 : decode cX10_beat 8 = .ok (.iconst 1, 1) := by decide +kernel
theorem dX10_beat_9 : decode cX10_beat 9 = .ok (.goto 4, 3) := by decide +kernel
theorem dX10_beat_12 : decode cX10_beat 12 = .ok (.iconst 0, 1) := by decide +kernel
theorem dX10_beat_13 : decode cX10_beat 13 = .ok (.iconst 1, 1) := by decide +kernel
theorem dX10_beat_14 : decode cX10_beat 14 = .ok (.invokevirtual 172, 3) := by decide +kernel
theorem dX10_beat_17 : decode cX10_beat 17 = .ok (.ifCond .ne 35, 3) := by decide +kernel
theorem dX10_beat_20 : decode cX10_beat 20 = .ok (.aload_n 0, 1) := by decide +kernel
theorem dX10_beat_21 : decode cX10_beat 21 = .ok (.aload_n 0, 1) := by decide +kernel
theorem dX10_beat_22 : decode cX10_beat 22 = .ok (.getfield 7, 3) := by decide +kernel
theorem dX10_beat_25 : decode cX10_beat 25 = .ok (.iload_n 1, 1) := by decide +kernel
theorem dX10_beat_26 : decode cX10_beat 26 = .ok (.baload, 1) := by decide +kernel
theorem dX10_beat_27 : decode cX10_beat 27 = .ok (.ifCond .eq 13, 3) := by decide +kernel
theorem dX10_beat_30 : decode cX10_beat 30 = .ok (.aload_n 0, 1) := by decide +kernel
theorem dX10_beat_31 : decode cX10_beat 31 = .ok (.getfield 32, 3) := by decide +kernel
theorem dX10_beat_34 : decode cX10_beat 34 = .ok (.iload_n 1, 1) := by decide +kernel
theorem dX10_beat_35 : decode cX10_beat 35 = .ok (.iaload, 1) := by decide +kernel
theorem dX10_beat_36 : decode cX10_beat 36 = .ok (.iconst 2, 1) := by decide +kernel
theorem dX10_beat_37 : decode cX10_beat 37 = .ok (.if_icmp .eq 7, 3) := by decide +kernel
theorem dX10_beat_40 : decode cX10_beat 40 = .ok (.iconst 1, 1) := by decide +kernel
theorem dX10_beat_41 : decode cX10_beat 41 = .ok (.goto 4, 3) := by decide +kernel
theorem dX10_beat_44 : decode cX10_beat 44 = .ok (.iconst 0, 1) := by decide +kernel
theorem dX10_beat_45 : decode cX10_beat 45 = .ok (.iconst 2, 1) := by decide +kernel
theorem dX10_beat_46 : decode cX10_beat 46 = .ok (.invokevirtual 172, 3) := by decide +kernel
theorem dX10_beat_49 : decode cX10_beat 49 = .ok (.ifCond .eq 5, 3) := by decide +kernel
theorem dX10_beat_52 : decode cX10_beat 52 = .ok (.iconst 0, 1) := by decide +kernel
theorem dX10_beat_53 : decode cX10_beat 53 = .ok (.ireturn, 1) := by decide +kernel
theorem dX10_beat_54 : decode cX10_beat 54 = .ok (.aload_n 0, 1) := by decide +kernel
theorem dX10_beat_55 : decode cX10_beat 55 = .ok (.getfield 146, 3) := by decide +kernel
theorem dX10_beat_58 : decode cX10_beat 58 = .ok (.istore_n 2, 1) := by decide +kernel
theorem dX10_beat_59 : decode cX10_beat 59 = .ok (.aload_n 0, 1) := by decide +kernel
theorem dX10_beat_60 : decode cX10_beat 60 = .ok (.iload_n 1, 1) := by decide +kernel
theorem dX10_beat_61 : decode cX10_beat 61 = .ok (.invokevirtual 213, 3) := by decide +kernel
theorem dX10_beat_64 : decode cX10_beat 64 = .ok (.aload_n 0, 1) := by decide +kernel
theorem dX10_beat_65 : decode cX10_beat 65 = .ok (.getfield 146, 3) := by decide +kernel
theorem dX10_beat_68 : decode cX10_beat 68 = .ok (.iload_n 2, 1) := by decide +kernel
theorem dX10_beat_69 : decode cX10_beat 69 = .ok (.isub, 1) := by decide +kernel
theorem dX10_beat_70 : decode cX10_beat 70 = .ok (.ireturn, 1) := by decide +kernel
theorem dX10_shrink_0 : decode cX10_shrink 0 = .ok (.aload_n 0, 1) := by decide +kernel
theorem dX10_shrink_1 : decode cX10_shrink 1 = .ok (.iload_n 1, 1) := by decide +kernel
theorem dX10_shrink_2 : decode cX10_shrink 2 = .ok (.invokestatic 168, 3) := by decide +kernel
theorem dX10_shrink_5 : decode cX10_shrink 5 = .ok (.ifCond .ne 7, 3) := by decide +kernel
theorem dX10_shrink_8 : decode cX10_shrink 8 = .ok (.iconst 1, 1) := by decide +kernel
theorem dX10_shrink_9 : decode cX10_shrink 9 = .ok (.goto 4, 3) := by decide +kernel
theorem dX10_shrink_12 : decode cX10_shrink 12 = .ok (.iconst 0, 1) := by decide +kernel
theorem dX10_shrink_13 : decode cX10_shrink 13 = .ok (.iconst 1, 1) := by decide +kernel
theorem dX10_shrink_14 : decode cX10_shrink 14 = .ok (.invokevirtual 172, 3) := by decide +kernel
theorem dX10_shrink_17 : decode cX10_shrink 17 = .ok (.ifCond .ne 40, 3) := by decide +kernel
theorem dX10_shrink_20 : decode cX10_shrink 20 = .ok (.aload_n 0, 1) := by decide +kernel
theorem dX10_shrink_21 : decode cX10_shrink 21 = .ok (.aload_n 0, 1) := by decide +kernel
theorem dX10_shrink_22 : decode cX10_shrink 22 = .ok (.getfield 7, 3) := by decide +kernel
theorem dX10_shrink_25 : decode cX10_shrink 25 = .ok (.iload_n 1, 1) := by decide +kernel
theorem dX10_shrink_26 : decode cX10_shrink 26 = .ok (.baload, 1) := by decide +kernel
theorem dX10_shrink_27 : decode cX10_shrink 27 = .ok (.ifCond .eq 18, 3) := by decide +kernel
theorem dX10_shrink_30 : decode cX10_shrink 30 = .ok (.aload_n 0, 1) := by decide +kernel
theorem dX10_shrink_31 : decode cX10_shrink 31 = .ok (.getfield 26, 3) := by decide +kernel
theorem dX10_shrink_34 : decode cX10_shrink 34 = .ok (.iload_n 1, 1) := by decide +kernel
theorem dX10_shrink_35 : decode cX10_shrink 35 = .ok (.iaload, 1) := by decide +kernel
theorem dX10_shrink_36 : decode cX10_shrink 36 = .ok (.aload_n 0, 1) := by decide +kernel
theorem dX10_shrink_37 : decode cX10_shrink 37 = .ok (.getfield 20, 3) := by decide +kernel
theorem dX10_shrink_40 : decode cX10_shrink 40 = .ok (.iload_n 1, 1) := by decide +kernel
theorem dX10_shrink_41 : decode cX10_shrink 41 = .ok (.iaload, 1) := by decide +kernel
theorem dX10_shrink_42 : decode cX10_shrink 42 = .ok (.if_icmp .ne 7, 3) := by decide +kernel
theorem dX10_shrink_45 : decode cX10_shrink 45 = .ok (.iconst 1, 1) := by decide +kernel
theorem dX10_shrink_46 : decode cX10_shrink 46 = .ok (.goto 4, 3) := by decide +kernel
theorem dX10_shrink_49 : decode cX10_shrink 49 = .ok (.iconst 0, 1) := by decide +kernel
theorem dX10_shrink_50 : decode cX10_shrink 50 = .ok (.iconst 2, 1) := by decide +kernel
theorem dX10_shrink_51 : decode cX10_shrink 51 = .ok (.invokevirtual 172, 3) := by decide +kernel
theorem dX10_shrink_54 : decode cX10_shrink 54 = .ok (.ifCond .eq 5, 3) := by decide +kernel
theorem dX10_shrink_57 : decode cX10_shrink 57 = .ok (.iconst 0, 1) := by decide +kernel
theorem dX10_shrink_58 : decode cX10_shrink 58 = .ok (.ireturn, 1) := by decide +kernel
theorem dX10_shrink_59 : decode cX10_shrink 59 = .ok (.aload_n 0, 1) := by decide +kernel
theorem dX10_shrink_60 : decode cX10_shrink 60 = .ok (.iload_n 1, 1) := by decide +kernel
theorem dX10_shrink_61 : decode cX10_shrink 61 = .ok (.invokevirtual 176, 3) := by decide +kernel
theorem dX10_shrink_64 : decode cX10_shrink 64 = .ok (.ifCond .eq 15, 3) := by decide +kernel
theorem dX10_shrink_67 : decode cX10_shrink 67 = .ok (.aload_n 0, 1) := by decide +kernel
theorem dX10_shrink_68 : decode cX10_shrink 68 = .ok (.getfield 20, 3) := by decide +kernel
theorem dX10_shrink_71 : decode cX10_shrink 71 = .ok (.iload_n 1, 1) := by decide +kernel
theorem dX10_shrink_72 : decode cX10_shrink 72 = .ok (.aload_n 0, 1) := by decide +kernel
theorem dX10_shrink_73 : decode cX10_shrink 73 = .ok (.getfield 26, 3) := by decide +kernel
theorem dX10_shrink_76 : decode cX10_shrink 76 = .ok (.iload_n 1, 1) := by decide +kernel
theorem dX10_shrink_77 : decode cX10_shrink 77 = .ok (.iaload, 1) := by decide +kernel
theorem dX10_shrink_78 : decode cX10_shrink 78 = .ok (.iastore, 1) := by decide +kernel
theorem dX10_shrink_79 : decode cX10_shrink 79 = .ok (.aload_n 0, 1) := by decide +kernel
theorem dX10_shrink_80 : decode cX10_shrink 80 = .ok (.getfield 20, 3) := by decide +kernel
theorem dX10_shrink_83 : decode cX10_shrink 83 = .ok (.iload_n 1, 1) := by decide +kernel
theorem dX10_shrink_84 : decode cX10_shrink 84 = .ok (.iaload, 1) := by decide +kernel
theorem dX10_shrink_85 : decode cX10_shrink 85 = .ok (.ireturn, 1) := by decide +kernel
theorem dX10_crash_0 : decode cX10_crash 0 = .ok (.aload_n 0, 1) := by decide +kernel
theorem dX10_crash_1 : decode cX10_crash 1 = .ok (.iload_n 1, 1) := by decide +kernel
theorem dX10_crash_2 : decode cX10_crash 2 = .ok (.invokestatic 168, 3) := by decide +kernel
theorem dX10_crash_5 : decode cX10_crash 5 = .ok (.ifCond .ne 7, 3) := by decide +kernel
theorem dX10_crash_8 : decode cX10_crash 8 = .ok (.iconst 1, 1) := by decide +kernel
theorem dX10_crash_9 : decode cX10_crash 9 = .ok (.goto 4, 3) := by decide +kernel
theorem dX10_crash_12 : decode cX10_crash 12 = .ok (.iconst 0, 1) := by decide +kernel
theorem dX10_crash_13 : decode cX10_crash 13 = .ok (.iconst 1, 1) := by decide +kernel
theorem dX10_crash_14 : decode cX10_crash 14 = .ok (.invokevirtual 172, 3) := by decide +kernel
theorem dX10_crash_17 : decode cX10_crash 17 = .ok (.ifCond .ne 30, 3) := by decide +kernel
theorem dX10_crash_20 : decode cX10_crash 20 = .ok (.aload_n 0, 1) := by decide +kernel
theorem dX10_crash_21 : decode cX10_crash 21 = .ok (.aload_n 0, 1) := by decide +kernel
theorem dX10_crash_22 : decode cX10_crash 22 = .ok (.getfield 7, 3) := by decide +kernel
theorem dX10_crash_25 : decode cX10_crash 25 = .ok (.iload_n 1, 1) := by decide +kernel
theorem dX10_crash_26 : decode cX10_crash 26 = .ok (.baload, 1) := by decide +kernel
theorem dX10_crash_27 : decode cX10_crash 27 = .ok (.ifCond .ne 7, 3) := by decide +kernel
theorem dX10_crash_30 : decode cX10_crash 30 = .ok (.iconst 1, 1) := by decide +kernel
theorem dX10_crash_31 : decode cX10_crash 31 = .ok (.goto 4, 3) := by decide +kernel
theorem dX10_crash_34 : decode cX10_crash 34 = .ok (.iconst 0, 1) := by decide +kernel
theorem dX10_crash_35 : decode cX10_crash 35 = .ok (.iconst 2, 1) := by decide +kernel
theorem dX10_crash_36 : decode cX10_crash 36 = .ok (.invokevirtual 172, 3) := by decide +kernel
theorem dX10_crash_39 : decode cX10_crash 39 = .ok (.ifCond .ne 8, 3) := by decide +kernel
theorem dX10_crash_42 : decode cX10_crash 42 = .ok (.aload_n 0, 1) := by decide +kernel
theorem dX10_crash_43 : decode cX10_crash 43 = .ok (.iload_n 1, 1) := by decide +kernel
theorem dX10_crash_44 : decode cX10_crash 44 = .ok (.invokevirtual 142, 3) := by decide +kernel
theorem dX10_crash_47 : decode cX10_crash 47 = .ok (.return_, 1) := by decide +kernel
theorem dX10_start_0 : decode cX10_start 0 = .ok (.aload_n 0, 1) := by decide +kernel
theorem dX10_start_1 : decode cX10_start 1 = .ok (.iload_n 1, 1) := by decide +kernel
theorem dX10_start_2 : decode cX10_start 2 = .ok (.invokestatic 168, 3) := by decide +kernel
theorem dX10_start_5 : decode cX10_start 5 = .ok (.ifCond .ne 7, 3) := by decide +kernel
theorem dX10_start_8 : decode cX10_start 8 = .ok (.iconst 1, 1) := by decide +kernel
theorem dX10_start_9 : decode cX10_start 9 = .ok (.goto 4, 3) := by decide +kernel
theorem dX10_start_12 : decode cX10_start 12 = .ok (.iconst 0, 1) := by decide +kernel
theorem dX10_start_13 : decode cX10_start 13 = .ok (.iconst 1, 1) := by decide +kernel
theorem dX10_start_14 : decode cX10_start 14 = .ok (.invokevirtual 172, 3) := by decide +kernel
theorem dX10_start_17 : decode cX10_start 17 = .ok (.ifCond .ne 17, 3) := by decide +kernel
theorem dX10_start_20 : decode cX10_start 20 = .ok (.aload_n 0, 1) := by decide +kernel
theorem dX10_start_21 : decode cX10_start 21 = .ok (.aload_n 0, 1) := by decide +kernel
theorem dX10_start_22 : decode cX10_start 22 = .ok (.getfield 7, 3) := by decide +kernel
theorem dX10_start_25 : decode cX10_start 25 = .ok (.iload_n 1, 1) := by decide +kernel
theorem dX10_start_26 : decode cX10_start 26 = .ok (.baload, 1) := by decide +kernel
theorem dX10_start_27 : decode cX10_start 27 = .ok (.iconst 2, 1) := by decide +kernel
theorem dX10_start_28 : decode cX10_start 28 = .ok (.invokevirtual 172, 3) := by decide +kernel
theorem dX10_start_31 : decode cX10_start 31 = .ok (.ifCond .eq 5, 3) := by decide +kernel
theorem dX10_start_34 : decode cX10_start 34 = .ok (.iconst 0, 1) := by decide +kernel
theorem dX10_start_35 : decode cX10_start 35 = .ok (.ireturn, 1) := by decide +kernel
theorem dX10_start_36 : decode cX10_start 36 = .ok (.aload_n 0, 1) := by decide +kernel
theorem dX10_start_37 : decode cX10_start 37 = .ok (.getfield 7, 3) := by decide +kernel
theorem dX10_start_40 : decode cX10_start 40 = .ok (.iload_n 1, 1) := by decide +kernel
theorem dX10_start_41 : decode cX10_start 41 = .ok (.iconst 1, 1) := by decide +kernel
theorem dX10_start_42 : decode cX10_start 42 = .ok (.bastore, 1) := by decide +kernel
theorem dX10_start_43 : decode cX10_start 43 = .ok (.aload_n 0, 1) := by decide +kernel
theorem dX10_start_44 : decode cX10_start 44 = .ok (.getfield 26, 3) := by decide +kernel
theorem dX10_start_47 : decode cX10_start 47 = .ok (.iload_n 1, 1) := by decide +kernel
theorem dX10_start_48 : decode cX10_start 48 = .ok (.aload_n 0, 1) := by decide +kernel
theorem dX10_start_49 : decode cX10_start 49 = .ok (.getfield 20, 3) := by decide +kernel
theorem dX10_start_52 : decode cX10_start 52 = .ok (.iload_n 1, 1) := by decide +kernel
theorem dX10_start_53 : decode cX10_start 53 = .ok (.iaload, 1) := by decide +kernel
theorem dX10_start_54 : decode cX10_start 54 = .ok (.iastore, 1) := by decide +kernel
theorem dX10_start_55 : decode cX10_start 55 = .ok (.aload_n 0, 1) := by decide +kernel
theorem dX10_start_56 : decode cX10_start 56 = .ok (.getfield 29, 3) := by decide +kernel
theorem dX10_start_59 : decode cX10_start 59 = .ok (.iload_n 1, 1) := by decide +kernel
theorem dX10_start_60 : decode cX10_start 60 = .ok (.aload_n 0, 1) := by decide +kernel
theorem dX10_start_61 : decode cX10_start 61 = .ok (.getfield 20, 3) := by decide +kernel
theorem dX10_start_64 : decode cX10_start 64 = .ok (.iload_n 1, 1) := by decide +kernel
theorem dX10_start_65 : decode cX10_start 65 = .ok (.iaload, 1) := by decide +kernel
theorem dX10_start_66 : decode cX10_start 66 = .ok (.iastore, 1) := by decide +kernel
theorem dX10_start_67 : decode cX10_start 67 = .ok (.aload_n 0, 1) := by decide +kernel
theorem dX10_start_68 : decode cX10_start 68 = .ok (.getfield 35, 3) := by decide +kernel
theorem dX10_start_71 : decode cX10_start 71 = .ok (.iload_n 1, 1) := by decide +kernel
theorem dX10_start_72 : decode cX10_start 72 = .ok (.iconst 0, 1) := by decide +kernel
theorem dX10_start_73 : decode cX10_start 73 = .ok (.iastore, 1) := by decide +kernel
theorem dX10_start_74 : decode cX10_start 74 = .ok (.aload_n 0, 1) := by decide +kernel
theorem dX10_start_75 : decode cX10_start 75 = .ok (.getfield 23, 3) := by decide +kernel
theorem dX10_start_78 : decode cX10_start 78 = .ok (.iload_n 1, 1) := by decide +kernel
theorem dX10_start_79 : decode cX10_start 79 = .ok (.iaload, 1) := by decide +kernel
theorem dX10_start_80 : decode cX10_start 80 = .ok (.ireturn, 1) := by decide +kernel
theorem dX10_power_0 : decode cX10_power 0 = .ok (.aload_n 0, 1) := by decide +kernel
theorem dX10_power_1 : decode cX10_power 1 = .ok (.iload_n 1, 1) := by decide +kernel
theorem dX10_power_2 : decode cX10_power 2 = .ok (.invokestatic 168, 3) := by decide +kernel
theorem dX10_power_5 : decode cX10_power 5 = .ok (.ifCond .ne 7, 3) := by decide +kernel
theorem dX10_power_8 : decode cX10_power 8 = .ok (.iconst 1, 1) := by decide +kernel
theorem dX10_power_9 : decode cX10_power 9 = .ok (.goto 4, 3) := by decide +kernel
theorem dX10_power_12 : decode cX10_power 12 = .ok (.iconst 0, 1) := by decide +kernel
theorem dX10_power_13 : decode cX10_power 13 = .ok (.iconst 1, 1) := by decide +kernel
theorem dX10_power_14 : decode cX10_power 14 = .ok (.invokevirtual 172, 3) := by decide +kernel
theorem dX10_power_17 : decode cX10_power 17 = .ok (.ifCond .ne 34, 3) := by decide +kernel
theorem dX10_power_20 : decode cX10_power 20 = .ok (.aload_n 0, 1) := by decide +kernel
theorem dX10_power_21 : decode cX10_power 21 = .ok (.iload_n 2, 1) := by decide +kernel
theorem dX10_power_22 : decode cX10_power 22 = .ok (.iconst (-1), 1) := by decide +kernel
theorem dX10_power_23 : decode cX10_power 23 = .ok (.if_icmp .lt 9, 3) := by decide +kernel
theorem dX10_power_26 : decode cX10_power 26 = .ok (.iload_n 2, 1) := by decide +kernel
theorem dX10_power_27 : decode cX10_power 27 = .ok (.bipush 100, 2) := by decide +kernel
theorem dX10_power_29 : decode cX10_power 29 = .ok (.if_icmp .le 7, 3) := by decide +kernel
theorem dX10_power_32 : decode cX10_power 32 = .ok (.iconst 1, 1) := by decide +kernel
theorem dX10_power_33 : decode cX10_power 33 = .ok (.goto 4, 3) := by decide +kernel
theorem dX10_power_36 : decode cX10_power 36 = .ok (.iconst 0, 1) := by decide +kernel
theorem dX10_power_37 : decode cX10_power 37 = .ok (.iconst 2, 1) := by decide +kernel
theorem dX10_power_38 : decode cX10_power 38 = .ok (.invokevirtual 172, 3) := by decide +kernel
theorem dX10_power_41 : decode cX10_power 41 = .ok (.ifCond .ne 10, 3) := by decide +kernel
theorem dX10_power_44 : decode cX10_power 44 = .ok (.aload_n 0, 1) := by decide +kernel
theorem dX10_power_45 : decode cX10_power 45 = .ok (.getfield 38, 3) := by decide +kernel
theorem dX10_power_48 : decode cX10_power 48 = .ok (.iload_n 1, 1) := by decide +kernel
theorem dX10_power_49 : decode cX10_power 49 = .ok (.iload_n 2, 1) := by decide +kernel
theorem dX10_power_50 : decode cX10_power 50 = .ok (.iastore, 1) := by decide +kernel
theorem dX10_power_51 : decode cX10_power 51 = .ok (.return_, 1) := by decide +kernel
theorem dX10_event_0 : decode cX10_event 0 = .ok (.aload_n 0, 1) := by decide +kernel
theorem dX10_event_1 : decode cX10_event 1 = .ok (.getfield 113, 3) := by decide +kernel
theorem dX10_event_4 : decode cX10_event 4 = .ok (.aload_n 0, 1) := by decide +kernel
theorem dX10_event_5 : decode cX10_event 5 = .ok (.getfield 235, 3) := by decide +kernel
theorem dX10_event_8 : decode cX10_event 8 = .ok (.aload_n 0, 1) := by decide +kernel
theorem dX10_event_9 : decode cX10_event 9 = .ok (.getfield 238, 3) := by decide +kernel
theorem dX10_event_12 : decode cX10_event 12 = .ok (.iastore, 1) := by decide +kernel
theorem dX10_event_13 : decode cX10_event 13 = .ok (.aload_n 0, 1) := by decide +kernel
theorem dX10_event_14 : decode cX10_event 14 = .ok (.getfield 116, 3) := by decide +kernel
theorem dX10_event_17 : decode cX10_event 17 = .ok (.aload_n 0, 1) := by decide +kernel
theorem dX10_event_18 : decode cX10_event 18 = .ok (.getfield 235, 3) := by decide +kernel
theorem dX10_event_21 : decode cX10_event 21 = .ok (.iload_n 1, 1) := by decide +kernel
theorem dX10_event_22 : decode cX10_event 22 = .ok (.iastore, 1) := by decide +kernel
theorem dX10_event_23 : decode cX10_event 23 = .ok (.aload_n 0, 1) := by decide +kernel
theorem dX10_event_24 : decode cX10_event 24 = .ok (.getfield 122, 3) := by decide +kernel
theorem dX10_event_27 : decode cX10_event 27 = .ok (.aload_n 0, 1) := by decide +kernel
theorem dX10_event_28 : decode cX10_event 28 = .ok (.getfield 235, 3) := by decide +kernel
theorem dX10_event_31 : decode cX10_event 31 = .ok (.iload_n 2, 1) := by decide +kernel
theorem dX10_event_32 : decode cX10_event 32 = .ok (.bastore, 1) := by decide +kernel
theorem dX10_event_33 : decode cX10_event 33 = .ok (.aload_n 0, 1) := by decide +kernel
theorem dX10_event_34 : decode cX10_event 34 = .ok (.getfield 119, 3) := by decide +kernel
theorem dX10_event_37 : decode cX10_event 37 = .ok (.aload_n 0, 1) := by decide +kernel
theorem dX10_event_38 : decode cX10_event 38 = .ok (.getfield 235, 3) := by decide +kernel
theorem dX10_event_41 : decode cX10_event 41 = .ok (.iload_n 3, 1) := by decide +kernel
theorem dX10_event_42 : decode cX10_event 42 = .ok (.iastore, 1) := by decide +kernel
theorem dX10_event_43 : decode cX10_event 43 = .ok (.aload_n 0, 1) := by decide +kernel
theorem dX10_event_44 : decode cX10_event 44 = .ok (.dup, 1) := by decide +kernel
theorem dX10_event_45 : decode cX10_event 45 = .ok (.getfield 235, 3) := by decide +kernel
theorem dX10_event_48 : decode cX10_event 48 = .ok (.iconst 1, 1) := by decide +kernel
theorem dX10_event_49 : decode cX10_event 49 = .ok (.iadd, 1) := by decide +kernel
theorem dX10_event_50 : decode cX10_event 50 = .ok (.putfield 235, 3) := by decide +kernel
theorem dX10_event_53 : decode cX10_event 53 = .ok (.return_, 1) := by decide +kernel
theorem dX10_put_0 : decode cX10_put 0 = .ok (.aload_n 0, 1) := by decide +kernel
theorem dX10_put_1 : decode cX10_put 1 = .ok (.dup, 1) := by decide +kernel
theorem dX10_put_2 : decode cX10_put 2 = .ok (.getfield 238, 3) := by decide +kernel
theorem dX10_put_5 : decode cX10_put 5 = .ok (.iconst 1, 1) := by decide +kernel
theorem dX10_put_6 : decode cX10_put 6 = .ok (.iadd, 1) := by decide +kernel
theorem dX10_put_7 : decode cX10_put 7 = .ok (.putfield 238, 3) := by decide +kernel
theorem dX10_put_10 : decode cX10_put 10 = .ok (.aload_n 0, 1) := by decide +kernel
theorem dX10_put_11 : decode cX10_put 11 = .ok (.getfield 92, 3) := by decide +kernel
theorem dX10_put_14 : decode cX10_put 14 = .ok (.iload_n 1, 1) := by decide +kernel
theorem dX10_put_15 : decode cX10_put 15 = .ok (.iaload, 1) := by decide +kernel
theorem dX10_put_16 : decode cX10_put 16 = .ok (.ifCond .ne 13, 3) := by decide +kernel
theorem dX10_put_19 : decode cX10_put 19 = .ok (.aload_n 0, 1) := by decide +kernel
theorem dX10_put_20 : decode cX10_put 20 = .ok (.getfield 95, 3) := by decide +kernel
theorem dX10_put_23 : decode cX10_put 23 = .ok (.iload_n 1, 1) := by decide +kernel
theorem dX10_put_24 : decode cX10_put 24 = .ok (.aload_n 0, 1) := by decide +kernel
theorem dX10_put_25 : decode cX10_put 25 = .ok (.getfield 238, 3) := by decide +kernel
theorem dX10_put_28 : decode cX10_put 28 = .ok (.iastore, 1) := by decide +kernel
theorem dX10_put_29 : decode cX10_put 29 = .ok (.aload_n 0, 1) := by decide +kernel
theorem dX10_put_30 : decode cX10_put 30 = .ok (.getfield 92, 3) := by decide +kernel
theorem dX10_put_33 : decode cX10_put 33 = .ok (.iload_n 1, 1) := by decide +kernel
theorem dX10_put_34 : decode cX10_put 34 = .ok (.dup2, 1) := by decide +kernel
theorem dX10_put_35 : decode cX10_put 35 = .ok (.iaload, 1) := by decide +kernel
theorem dX10_put_36 : decode cX10_put 36 = .ok (.iconst 1, 1) := by decide +kernel
theorem dX10_put_37 : decode cX10_put 37 = .ok (.iadd, 1) := by decide +kernel
theorem dX10_put_38 : decode cX10_put 38 = .ok (.iastore, 1) := by decide +kernel
theorem dX10_put_39 : decode cX10_put 39 = .ok (.aload_n 0, 1) := by decide +kernel
theorem dX10_put_40 : decode cX10_put 40 = .ok (.getfield 98, 3) := by decide +kernel
theorem dX10_put_43 : decode cX10_put 43 = .ok (.iload_n 1, 1) := by decide +kernel
theorem dX10_put_44 : decode cX10_put 44 = .ok (.aload_n 0, 1) := by decide +kernel
theorem dX10_put_45 : decode cX10_put 45 = .ok (.getfield 238, 3) := by decide +kernel
theorem dX10_put_48 : decode cX10_put 48 = .ok (.iastore, 1) := by decide +kernel
theorem dX10_put_49 : decode cX10_put 49 = .ok (.aload_n 0, 1) := by decide +kernel
theorem dX10_put_50 : decode cX10_put 50 = .ok (.getfield 101, 3) := by decide +kernel
theorem dX10_put_53 : decode cX10_put 53 = .ok (.iload_n 1, 1) := by decide +kernel
theorem dX10_put_54 : decode cX10_put 54 = .ok (.iload_n 2, 1) := by decide +kernel
theorem dX10_put_55 : decode cX10_put 55 = .ok (.iastore, 1) := by decide +kernel
theorem dX10_put_56 : decode cX10_put 56 = .ok (.aload_n 0, 1) := by decide +kernel
theorem dX10_put_57 : decode cX10_put 57 = .ok (.getfield 104, 3) := by decide +kernel
theorem dX10_put_60 : decode cX10_put 60 = .ok (.iload_n 1, 1) := by decide +kernel
theorem dX10_put_61 : decode cX10_put 61 = .ok (.iload_n 3, 1) := by decide +kernel
theorem dX10_put_62 : decode cX10_put 62 = .ok (.iastore, 1) := by decide +kernel
theorem dX10_put_63 : decode cX10_put 63 = .ok (.aload_n 0, 1) := by decide +kernel
theorem dX10_put_64 : decode cX10_put 64 = .ok (.iload_n 1, 1) := by decide +kernel
theorem dX10_put_65 : decode cX10_put 65 = .ok (.iconst 1, 1) := by decide +kernel
theorem dX10_put_66 : decode cX10_put 66 = .ok (.iload_n 2, 1) := by decide +kernel
theorem dX10_put_67 : decode cX10_put 67 = .ok (.invokevirtual 241, 3) := by decide +kernel
theorem dX10_put_70 : decode cX10_put 70 = .ok (.return_, 1) := by decide +kernel
theorem dX10_gone_0 : decode cX10_gone 0 = .ok (.aload_n 0, 1) := by decide +kernel
theorem dX10_gone_1 : decode cX10_gone 1 = .ok (.getfield 92, 3) := by decide +kernel
theorem dX10_gone_4 : decode cX10_gone 4 = .ok (.iload_n 1, 1) := by decide +kernel
theorem dX10_gone_5 : decode cX10_gone 5 = .ok (.iconst 0, 1) := by decide +kernel
theorem dX10_gone_6 : decode cX10_gone 6 = .ok (.iastore, 1) := by decide +kernel
theorem dX10_gone_7 : decode cX10_gone 7 = .ok (.aload_n 0, 1) := by decide +kernel
theorem dX10_gone_8 : decode cX10_gone 8 = .ok (.getfield 95, 3) := by decide +kernel
theorem dX10_gone_11 : decode cX10_gone 11 = .ok (.iload_n 1, 1) := by decide +kernel
theorem dX10_gone_12 : decode cX10_gone 12 = .ok (.iconst 0, 1) := by decide +kernel
theorem dX10_gone_13 : decode cX10_gone 13 = .ok (.iastore, 1) := by decide +kernel
theorem dX10_gone_14 : decode cX10_gone 14 = .ok (.aload_n 0, 1) := by decide +kernel
theorem dX10_gone_15 : decode cX10_gone 15 = .ok (.getfield 98, 3) := by decide +kernel
theorem dX10_gone_18 : decode cX10_gone 18 = .ok (.iload_n 1, 1) := by decide +kernel
theorem dX10_gone_19 : decode cX10_gone 19 = .ok (.iconst 0, 1) := by decide +kernel
theorem dX10_gone_20 : decode cX10_gone 20 = .ok (.iastore, 1) := by decide +kernel
theorem dX10_gone_21 : decode cX10_gone 21 = .ok (.aload_n 0, 1) := by decide +kernel
theorem dX10_gone_22 : decode cX10_gone 22 = .ok (.getfield 101, 3) := by decide +kernel
theorem dX10_gone_25 : decode cX10_gone 25 = .ok (.iload_n 1, 1) := by decide +kernel
theorem dX10_gone_26 : decode cX10_gone 26 = .ok (.iconst 0, 1) := by decide +kernel
theorem dX10_gone_27 : decode cX10_gone 27 = .ok (.iastore, 1) := by decide +kernel
theorem dX10_gone_28 : decode cX10_gone 28 = .ok (.aload_n 0, 1) := by decide +kernel
theorem dX10_gone_29 : decode cX10_gone 29 = .ok (.getfield 104, 3) := by decide +kernel
theorem dX10_gone_32 : decode cX10_gone 32 = .ok (.iload_n 1, 1) := by decide +kernel
theorem dX10_gone_33 : decode cX10_gone 33 = .ok (.iconst 0, 1) := by decide +kernel
theorem dX10_gone_34 : decode cX10_gone 34 = .ok (.iastore, 1) := by decide +kernel
theorem dX10_gone_35 : decode cX10_gone 35 = .ok (.aload_n 0, 1) := by decide +kernel
theorem dX10_gone_36 : decode cX10_gone 36 = .ok (.iload_n 1, 1) := by decide +kernel
theorem dX10_gone_37 : decode cX10_gone 37 = .ok (.iconst 0, 1) := by decide +kernel
theorem dX10_gone_38 : decode cX10_gone 38 = .ok (.iconst 0, 1) := by decide +kernel
theorem dX10_gone_39 : decode cX10_gone 39 = .ok (.invokevirtual 241, 3) := by decide +kernel
theorem dX10_gone_42 : decode cX10_gone 42 = .ok (.return_, 1) := by decide +kernel
theorem dX10_removed_0 : decode cX10_removed 0 = .ok (.iconst 0, 1) := by decide +kernel
theorem dX10_removed_1 : decode cX10_removed 1 = .ok (.istore 4, 2) := by decide +kernel
theorem dX10_removed_3 : decode cX10_removed 3 = .ok (.iload_n 1, 1) := by decide +kernel
theorem dX10_removed_4 : decode cX10_removed 4 = .ok (.istore 5, 2) := by decide +kernel
theorem dX10_removed_6 : decode cX10_removed 6 = .ok (.iload 5, 2) := by decide +kernel
theorem dX10_removed_8 : decode cX10_removed 8 = .ok (.iload_n 2, 1) := by decide +kernel
theorem dX10_removed_9 : decode cX10_removed 9 = .ok (.if_icmp .gt 61, 3) := by decide +kernel
theorem dX10_removed_12 : decode cX10_removed 12 = .ok (.aload_n 0, 1) := by decide +kernel
theorem dX10_removed_13 : decode cX10_removed 13 = .ok (.getfield 92, 3) := by decide +kernel
theorem dX10_removed_16 : decode cX10_removed 16 = .ok (.iload 5, 2) := by decide +kernel
theorem dX10_removed_18 : decode cX10_removed 18 = .ok (.iaload, 1) := by decide +kernel
theorem dX10_removed_19 : decode cX10_removed 19 = .ok (.ifCond .eq 45, 3) := by decide +kernel
theorem dX10_removed_22 : decode cX10_removed 22 = .ok (.iload_n 3, 1) := by decide +kernel
theorem dX10_removed_23 : decode cX10_removed 23 = .ok (.ifCond .lt 17, 3) := by decide +kernel
theorem dX10_removed_26 : decode cX10_removed 26 = .ok (.aload_n 0, 1) := by decide +kernel
theorem dX10_removed_27 : decode cX10_removed 27 = .ok (.getfield 104, 3) := by decide +kernel
theorem dX10_removed_30 : decode cX10_removed 30 = .ok (.iload 5, 2) := by decide +kernel
theorem dX10_removed_32 : decode cX10_removed 32 = .ok (.iaload, 1) := by decide +kernel
theorem dX10_removed_33 : decode cX10_removed 33 = .ok (.iload_n 3, 1) := by decide +kernel
theorem dX10_removed_34 : decode cX10_removed 34 = .ok (.if_icmp .eq 6, 3) := by decide +kernel
theorem dX10_removed_37 : decode cX10_removed 37 = .ok (.goto 27, 3) := by decide +kernel
theorem dX10_removed_40 : decode cX10_removed 40 = .ok (.iload 4, 2) := by decide +kernel
theorem dX10_removed_42 : decode cX10_removed 42 = .ok (.ifCond .ne 13, 3) := by decide +kernel
theorem dX10_removed_45 : decode cX10_removed 45 = .ok (.aload_n 0, 1) := by decide +kernel
theorem dX10_removed_46 : decode cX10_removed 46 = .ok (.dup, 1) := by decide +kernel
theorem dX10_removed_47 : decode cX10_removed 47 = .ok (.getfield 238, 3) := by decide +kernel
theorem dX10_removed_50 : decode cX10_removed 50 = .ok (.iconst 1, 1) := by decide +kernel
theorem dX10_removed_51 : decode cX10_removed 51 = .ok (.iadd, 1) := by decide +kernel
theorem dX10_removed_52 : decode cX10_removed 52 = .ok (.putfield 238, 3) := by decide +kernel
theorem dX10_removed_55 : decode cX10_removed 55 = .ok (.aload_n 0, 1) := by decide +kernel
theorem dX10_removed_56 : decode cX10_removed 56 = .ok (.iload 5, 2) := by decide +kernel
theorem dX10_removed_58 : decode cX10_removed 58 = .ok (.invokevirtual 245, 3) := by decide +kernel
theorem dX10_removed_61 : decode cX10_removed 61 = .ok (.iinc 4 1, 3) := by decide +kernel
theorem dX10_removed_64 : decode cX10_removed 64 = .ok (.iinc 5 1, 3) := by decide +kernel
theorem dX10_removed_67 : decode cX10_removed 67 = .ok (.goto (-61), 3) := by decide +kernel
theorem dX10_removed_70 : decode cX10_removed 70 = .ok (.iload 4, 2) := by decide +kernel
theorem dX10_removed_72 : decode cX10_removed 72 = .ok (.ireturn, 1) := by decide +kernel
theorem dX10_says_0 : decode cX10_says 0 = .ok (.iload_n 2, 1) := by decide +kernel
theorem dX10_says_1 : decode cX10_says 1 = .ok (.ifCond .ne 12, 3) := by decide +kernel
theorem dX10_says_4 : decode cX10_says 4 = .ok (.aload_n 0, 1) := by decide +kernel
theorem dX10_says_5 : decode cX10_says 5 = .ok (.getfield 92, 3) := by decide +kernel
theorem dX10_says_8 : decode cX10_says 8 = .ok (.iload_n 1, 1) := by decide +kernel
theorem dX10_says_9 : decode cX10_says 9 = .ok (.iaload, 1) := by decide +kernel
theorem dX10_says_10 : decode cX10_says 10 = .ok (.goto 37, 3) := by decide +kernel
theorem dX10_says_13 : decode cX10_says 13 = .ok (.iload_n 2, 1) := by decide +kernel
theorem dX10_says_14 : decode cX10_says 14 = .ok (.iconst 1, 1) := by decide +kernel
theorem dX10_says_15 : decode cX10_says 15 = .ok (.if_icmp .ne 12, 3) := by decide +kernel
theorem dX10_says_18 : decode cX10_says 18 = .ok (.aload_n 0, 1) := by decide +kernel
theorem dX10_says_19 : decode cX10_says 19 = .ok (.getfield 95, 3) := by decide +kernel
theorem dX10_says_22 : decode cX10_says 22 = .ok (.iload_n 1, 1) := by decide +kernel
theorem dX10_says_23 : decode cX10_says 23 = .ok (.iaload, 1) := by decide +kernel
theorem dX10_says_24 : decode cX10_says 24 = .ok (.goto 23, 3) := by decide +kernel
theorem dX10_says_27 : decode cX10_says 27 = .ok (.iload_n 2, 1) := by decide +kernel
theorem dX10_says_28 : decode cX10_says 28 = .ok (.iconst 2, 1) := by decide +kernel
theorem dX10_says_29 : decode cX10_says 29 = .ok (.if_icmp .ne 12, 3) := by decide +kernel
theorem dX10_says_32 : decode cX10_says 32 = .ok (.aload_n 0, 1) := by decide +kernel
theorem dX10_says_33 : decode cX10_says 33 = .ok (.getfield 98, 3) := by decide +kernel
theorem dX10_says_36 : decode cX10_says 36 = .ok (.iload_n 1, 1) := by decide +kernel
theorem dX10_says_37 : decode cX10_says 37 = .ok (.iaload, 1) := by decide +kernel
theorem dX10_says_38 : decode cX10_says 38 = .ok (.goto 9, 3) := by decide +kernel
theorem dX10_says_41 : decode cX10_says 41 = .ok (.aload_n 0, 1) := by decide +kernel
theorem dX10_says_42 : decode cX10_says 42 = .ok (.getfield 101, 3) := by decide +kernel
theorem dX10_says_45 : decode cX10_says 45 = .ok (.iload_n 1, 1) := by decide +kernel
theorem dX10_says_46 : decode cX10_says 46 = .ok (.iaload, 1) := by decide +kernel
theorem dX10_says_47 : decode cX10_says 47 = .ok (.ireturn, 1) := by decide +kernel
theorem dX10_done_0 : decode cX10_done 0 = .ok (.iload_n 1, 1) := by decide +kernel
theorem dX10_done_1 : decode cX10_done 1 = .ok (.tableswitch 359 0 7 #[47, 49, 79, 87, 188, 220, 247, 283], 47) := by decide +kernel
theorem dX10_done_48 : decode cX10_done 48 = .ok (.iconst 0, 1) := by decide +kernel
theorem dX10_done_49 : decode cX10_done 49 = .ok (.ireturn, 1) := by decide +kernel
theorem dX10_done_50 : decode cX10_done 50 = .ok (.iload 4, 2) := by decide +kernel
theorem dX10_done_52 : decode cX10_done 52 = .ok (.ifCond .eq 15, 3) := by decide +kernel
theorem dX10_done_55 : decode cX10_done 55 = .ok (.aload_n 0, 1) := by decide +kernel
theorem dX10_done_56 : decode cX10_done 56 = .ok (.getfield 107, 3) := by decide +kernel
theorem dX10_done_59 : decode cX10_done 59 = .ok (.iload 4, 2) := by decide +kernel
theorem dX10_done_61 : decode cX10_done 61 = .ok (.baload, 1) := by decide +kernel
theorem dX10_done_62 : decode cX10_done 62 = .ok (.ifCond .ne 5, 3) := by decide +kernel
theorem dX10_done_65 : decode cX10_done 65 = .ok (.iconst (-1), 1) := by decide +kernel
theorem dX10_done_66 : decode cX10_done 66 = .ok (.ireturn, 1) := by decide +kernel
theorem dX10_done_67 : decode cX10_done 67 = .ok (.aload_n 0, 1) := by decide +kernel
theorem dX10_done_68 : decode cX10_done 68 = .ok (.iload_n 2, 1) := by decide +kernel
theorem dX10_done_69 : decode cX10_done 69 = .ok (.iload_n 3, 1) := by decide +kernel
theorem dX10_done_70 : decode cX10_done 70 = .ok (.iload 4, 2) := by decide +kernel
theorem dX10_done_72 : decode cX10_done 72 = .ok (.invokevirtual 248, 3) := by decide +kernel
theorem dX10_done_75 : decode cX10_done 75 = .ok (.aload_n 0, 1) := by decide +kernel
theorem dX10_done_76 : decode cX10_done 76 = .ok (.getfield 238, 3) := by decide +kernel
theorem dX10_done_79 : decode cX10_done 79 = .ok (.ireturn, 1) := by decide +kernel
theorem dX10_done_80 : decode cX10_done 80 = .ok (.aload_n 0, 1) := by decide +kernel
theorem dX10_done_81 : decode cX10_done 81 = .ok (.iload_n 2, 1) := by decide +kernel
theorem dX10_done_82 : decode cX10_done 82 = .ok (.iload_n 3, 1) := by decide +kernel
theorem dX10_done_83 : decode cX10_done 83 = .ok (.iconst (-1), 1) := by decide +kernel
theorem dX10_done_84 : decode cX10_done 84 = .ok (.invokevirtual 251, 3) := by decide +kernel
theorem dX10_done_87 : decode cX10_done 87 = .ok (.ireturn, 1) := by decide +kernel
theorem dX10_done_88 : decode cX10_done 88 = .ok (.aload_n 0, 1) := by decide +kernel
theorem dX10_done_89 : decode cX10_done 89 = .ok (.iload_n 2, 1) := by decide +kernel
theorem dX10_done_90 : decode cX10_done 90 = .ok (.iload_n 3, 1) := by decide +kernel
theorem dX10_done_91 : decode cX10_done 91 = .ok (.invokevirtual 254, 3) := by decide +kernel
theorem dX10_done_94 : decode cX10_done 94 = .ok (.istore 8, 2) := by decide +kernel
theorem dX10_done_96 : decode cX10_done 96 = .ok (.iload 4, 2) := by decide +kernel
theorem dX10_done_98 : decode cX10_done 98 = .ok (.ifCond .ne 18, 3) := by decide +kernel
theorem dX10_done_101 : decode cX10_done 101 = .ok (.iload 8, 2) := by decide +kernel
theorem dX10_done_103 : decode cX10_done 103 = .ok (.iload 5, 2) := by decide +kernel
theorem dX10_done_105 : decode cX10_done 105 = .ok (.if_icmp .ne 7, 3) := by decide +kernel
theorem dX10_done_108 : decode cX10_done 108 = .ok (.iconst 1, 1) := by decide +kernel
theorem dX10_done_109 : decode cX10_done 109 = .ok (.goto 40, 3) := by decide +kernel
theorem dX10_done_112 : decode cX10_done 112 = .ok (.iconst 0, 1) := by decide +kernel
theorem dX10_done_113 : decode cX10_done 113 = .ok (.goto 36, 3) := by decide +kernel
theorem dX10_done_116 : decode cX10_done 116 = .ok (.iload 4, 2) := by decide +kernel
theorem dX10_done_118 : decode cX10_done 118 = .ok (.iconst 1, 1) := by decide +kernel
theorem dX10_done_119 : decode cX10_done 119 = .ok (.if_icmp .ne 18, 3) := by decide +kernel
theorem dX10_done_122 : decode cX10_done 122 = .ok (.iload 8, 2) := by decide +kernel
theorem dX10_done_124 : decode cX10_done 124 = .ok (.iload 5, 2) := by decide +kernel
theorem dX10_done_126 : decode cX10_done 126 = .ok (.if_icmp .ge 7, 3) := by decide +kernel
theorem dX10_done_129 : decode cX10_done 129 = .ok (.iconst 1, 1) := by decide +kernel
theorem dX10_done_130 : decode cX10_done 130 = .ok (.goto 19, 3) := by decide +kernel
theorem dX10_done_133 : decode cX10_done 133 = .ok (.iconst 0, 1) := by decide +kernel
theorem dX10_done_134 : decode cX10_done 134 = .ok (.goto 15, 3) := by decide +kernel
theorem dX10_done_137 : decode cX10_done 137 = .ok (.iload 8, 2) := by decide +kernel
theorem dX10_done_139 : decode cX10_done 139 = .ok (.iload 5, 2) := by decide +kernel
theorem dX10_done_141 : decode cX10_done 141 = .ok (.if_icmp .le 7, 3) := by decide +kernel
theorem dX10_done_144 : decode cX10_done 144 = .ok (.iconst 1, 1) := by decide +kernel
theorem dX10_done_145 : decode cX10_done 145 = .ok (.goto 4, 3) := by decide +kernel
theorem dX10_done_148 : decode cX10_done 148 = .ok (.iconst 0, 1) := by decide +kernel
theorem dX10_done_149 : decode cX10_done 149 = .ok (.istore 9, 2) := by decide +kernel
theorem dX10_done_151 : decode cX10_done 151 = .ok (.iload 9, 2) := by decide +kernel
theorem dX10_done_153 : decode cX10_done 153 = .ok (.ifCond .eq 15, 3) := by decide +kernel
theorem dX10_done_156 : decode cX10_done 156 = .ok (.aload_n 0, 1) := by decide +kernel
theorem dX10_done_157 : decode cX10_done 157 = .ok (.iload 6, 2) := by decide +kernel
theorem dX10_done_159 : decode cX10_done 159 = .ok (.iload 7, 2) := by decide +kernel
theorem dX10_done_161 : decode cX10_done 161 = .ok (.iconst 0, 1) := by decide +kernel
theorem dX10_done_162 : decode cX10_done 162 = .ok (.invokevirtual 248, 3) := by decide +kernel
theorem dX10_done_165 : decode cX10_done 165 = .ok (.goto 13, 3) := by decide +kernel
theorem dX10_done_168 : decode cX10_done 168 = .ok (.aload_n 0, 1) := by decide +kernel
theorem dX10_done_169 : decode cX10_done 169 = .ok (.iload 6, 2) := by decide +kernel
theorem dX10_done_171 : decode cX10_done 171 = .ok (.iload 6, 2) := by decide +kernel
theorem dX10_done_173 : decode cX10_done 173 = .ok (.iconst (-1), 1) := by decide +kernel
theorem dX10_done_174 : decode cX10_done 174 = .ok (.invokevirtual 251, 3) := by decide +kernel
theorem dX10_done_177 : decode cX10_done 177 = .ok (.pop, 1) := by decide +kernel
theorem dX10_done_178 : decode cX10_done 178 = .ok (.iload 9, 2) := by decide +kernel
theorem dX10_done_180 : decode cX10_done 180 = .ok (.ifCond .eq 7, 3) := by decide +kernel
theorem dX10_done_183 : decode cX10_done 183 = .ok (.iconst 1, 1) := by decide +kernel
theorem dX10_done_184 : decode cX10_done 184 = .ok (.goto 4, 3) := by decide +kernel
theorem dX10_done_187 : decode cX10_done 187 = .ok (.iconst 0, 1) := by decide +kernel
theorem dX10_done_188 : decode cX10_done 188 = .ok (.ireturn, 1) := by decide +kernel
theorem dX10_done_189 : decode cX10_done 189 = .ok (.aload_n 0, 1) := by decide +kernel
theorem dX10_done_190 : decode cX10_done 190 = .ok (.getfield 107, 3) := by decide +kernel
theorem dX10_done_193 : decode cX10_done 193 = .ok (.iload_n 2, 1) := by decide +kernel
theorem dX10_done_194 : decode cX10_done 194 = .ok (.baload, 1) := by decide +kernel
theorem dX10_done_195 : decode cX10_done 195 = .ok (.ifCond .eq 5, 3) := by decide +kernel
theorem dX10_done_198 : decode cX10_done 198 = .ok (.iconst 0, 1) := by decide +kernel
theorem dX10_done_199 : decode cX10_done 199 = .ok (.ireturn, 1) := by decide +kernel
theorem dX10_done_200 : decode cX10_done 200 = .ok (.aload_n 0, 1) := by decide +kernel
theorem dX10_done_201 : decode cX10_done 201 = .ok (.getfield 107, 3) := by decide +kernel
theorem dX10_done_204 : decode cX10_done 204 = .ok (.iload_n 2, 1) := by decide +kernel
theorem dX10_done_205 : decode cX10_done 205 = .ok (.iconst 1, 1) := by decide +kernel
theorem dX10_done_206 : decode cX10_done 206 = .ok (.bastore, 1) := by decide +kernel
theorem dX10_done_207 : decode cX10_done 207 = .ok (.aload_n 0, 1) := by decide +kernel
theorem dX10_done_208 : decode cX10_done 208 = .ok (.getfield 110, 3) := by decide +kernel
theorem dX10_done_211 : decode cX10_done 211 = .ok (.iload_n 2, 1) := by decide +kernel
theorem dX10_done_212 : decode cX10_done 212 = .ok (.aload_n 0, 1) := by decide +kernel
theorem dX10_done_213 : decode cX10_done 213 = .ok (.getfield 257, 3) := by decide +kernel
theorem dX10_done_216 : decode cX10_done 216 = .ok (.iload_n 3, 1) := by decide +kernel
theorem dX10_done_217 : decode cX10_done 217 = .ok (.iadd, 1) := by decide +kernel
theorem dX10_done_218 : decode cX10_done 218 = .ok (.iastore, 1) := by decide +kernel
theorem dX10_done_219 : decode cX10_done 219 = .ok (.iconst 1, 1) := by decide +kernel
theorem dX10_done_220 : decode cX10_done 220 = .ok (.ireturn, 1) := by decide +kernel
theorem dX10_done_221 : decode cX10_done 221 = .ok (.aload_n 0, 1) := by decide +kernel
theorem dX10_done_222 : decode cX10_done 222 = .ok (.getfield 107, 3) := by decide +kernel
theorem dX10_done_225 : decode cX10_done 225 = .ok (.iload_n 2, 1) := by decide +kernel
theorem dX10_done_226 : decode cX10_done 226 = .ok (.baload, 1) := by decide +kernel
theorem dX10_done_227 : decode cX10_done 227 = .ok (.ifCond .ne 5, 3) := by decide +kernel
theorem dX10_done_230 : decode cX10_done 230 = .ok (.iconst (-1), 1) := by decide +kernel
theorem dX10_done_231 : decode cX10_done 231 = .ok (.ireturn, 1) := by decide +kernel
theorem dX10_done_232 : decode cX10_done 232 = .ok (.aload_n 0, 1) := by decide +kernel
theorem dX10_done_233 : decode cX10_done 233 = .ok (.getfield 107, 3) := by decide +kernel
theorem dX10_done_236 : decode cX10_done 236 = .ok (.iload_n 2, 1) := by decide +kernel
theorem dX10_done_237 : decode cX10_done 237 = .ok (.iconst 0, 1) := by decide +kernel
theorem dX10_done_238 : decode cX10_done 238 = .ok (.bastore, 1) := by decide +kernel
theorem dX10_done_239 : decode cX10_done 239 = .ok (.aload_n 0, 1) := by decide +kernel
theorem dX10_done_240 : decode cX10_done 240 = .ok (.iconst 0, 1) := by decide +kernel
theorem dX10_done_241 : decode cX10_done 241 = .ok (.bipush 63, 2) := by decide +kernel
theorem dX10_done_243 : decode cX10_done 243 = .ok (.iload_n 2, 1) := by decide +kernel
theorem dX10_done_244 : decode cX10_done 244 = .ok (.invokevirtual 251, 3) := by decide +kernel
theorem dX10_done_247 : decode cX10_done 247 = .ok (.ireturn, 1) := by decide +kernel
theorem dX10_done_248 : decode cX10_done 248 = .ok (.aload_n 0, 1) := by decide +kernel
theorem dX10_done_249 : decode cX10_done 249 = .ok (.getfield 107, 3) := by decide +kernel
theorem dX10_done_252 : decode cX10_done 252 = .ok (.iload_n 2, 1) := by decide +kernel
theorem dX10_done_253 : decode cX10_done 253 = .ok (.baload, 1) := by decide +kernel
theorem dX10_done_254 : decode cX10_done 254 = .ok (.ifCond .eq 15, 3) := by decide +kernel
theorem dX10_done_257 : decode cX10_done 257 = .ok (.aload_n 0, 1) := by decide +kernel
theorem dX10_done_258 : decode cX10_done 258 = .ok (.getfield 110, 3) := by decide +kernel
theorem dX10_done_261 : decode cX10_done 261 = .ok (.iload_n 2, 1) := by decide +kernel
theorem dX10_done_262 : decode cX10_done 262 = .ok (.aload_n 0, 1) := by decide +kernel
theorem dX10_done_263 : decode cX10_done 263 = .ok (.getfield 257, 3) := by decide +kernel
theorem dX10_done_266 : decode cX10_done 266 = .ok (.iload_n 3, 1) := by decide +kernel
theorem dX10_done_267 : decode cX10_done 267 = .ok (.iadd, 1) := by decide +kernel
theorem dX10_done_268 : decode cX10_done 268 = .ok (.iastore, 1) := by decide +kernel
theorem dX10_done_269 : decode cX10_done 269 = .ok (.aload_n 0, 1) := by decide +kernel
theorem dX10_done_270 : decode cX10_done 270 = .ok (.getfield 107, 3) := by decide +kernel
theorem dX10_done_273 : decode cX10_done 273 = .ok (.iload_n 2, 1) := by decide +kernel
theorem dX10_done_274 : decode cX10_done 274 = .ok (.baload, 1) := by decide +kernel
theorem dX10_done_275 : decode cX10_done 275 = .ok (.ifCond .eq 7, 3) := by decide +kernel
theorem dX10_done_278 : decode cX10_done 278 = .ok (.iconst 1, 1) := by decide +kernel
theorem dX10_done_279 : decode cX10_done 279 = .ok (.goto 4, 3) := by decide +kernel
theorem dX10_done_282 : decode cX10_done 282 = .ok (.iconst 0, 1) := by decide +kernel
theorem dX10_done_283 : decode cX10_done 283 = .ok (.ireturn, 1) := by decide +kernel
theorem dX10_done_284 : decode cX10_done 284 = .ok (.aload_n 0, 1) := by decide +kernel
theorem dX10_done_285 : decode cX10_done 285 = .ok (.dup, 1) := by decide +kernel
theorem dX10_done_286 : decode cX10_done 286 = .ok (.getfield 257, 3) := by decide +kernel
theorem dX10_done_289 : decode cX10_done 289 = .ok (.iconst 1, 1) := by decide +kernel
theorem dX10_done_290 : decode cX10_done 290 = .ok (.iadd, 1) := by decide +kernel
theorem dX10_done_291 : decode cX10_done 291 = .ok (.putfield 257, 3) := by decide +kernel
theorem dX10_done_294 : decode cX10_done 294 = .ok (.iconst 1, 1) := by decide +kernel
theorem dX10_done_295 : decode cX10_done 295 = .ok (.istore 8, 2) := by decide +kernel
theorem dX10_done_297 : decode cX10_done 297 = .ok (.iload 8, 2) := by decide +kernel
theorem dX10_done_299 : decode cX10_done 299 = .ok (.bipush 8, 2) := by decide +kernel
theorem dX10_done_301 : decode cX10_done 301 = .ok (.if_icmp .gt 54, 3) := by decide +kernel
theorem dX10_done_304 : decode cX10_done 304 = .ok (.aload_n 0, 1) := by decide +kernel
theorem dX10_done_305 : decode cX10_done 305 = .ok (.getfield 107, 3) := by decide +kernel
theorem dX10_done_308 : decode cX10_done 308 = .ok (.iload 8, 2) := by decide +kernel
theorem dX10_done_310 : decode cX10_done 310 = .ok (.baload, 1) := by decide +kernel
theorem dX10_done_311 : decode cX10_done 311 = .ok (.ifCond .eq 38, 3) := by decide +kernel
theorem dX10_done_314 : decode cX10_done 314 = .ok (.aload_n 0, 1) := by decide +kernel
theorem dX10_done_315 : decode cX10_done 315 = .ok (.getfield 110, 3) := by decide +kernel
theorem dX10_done_318 : decode cX10_done 318 = .ok (.iload 8, 2) := by decide +kernel
theorem dX10_done_320 : decode cX10_done 320 = .ok (.iaload, 1) := by decide +kernel
theorem dX10_done_321 : decode cX10_done 321 = .ok (.aload_n 0, 1) := by decide +kernel
theorem dX10_done_322 : decode cX10_done 322 = .ok (.getfield 257, 3) := by decide +kernel
theorem dX10_done_325 : decode cX10_done 325 = .ok (.if_icmp .le 6, 3) := by decide +kernel
theorem dX10_done_328 : decode cX10_done 328 = .ok (.goto 21, 3) := by decide +kernel
theorem dX10_done_331 : decode cX10_done 331 = .ok (.aload_n 0, 1) := by decide +kernel
theorem dX10_done_332 : decode cX10_done 332 = .ok (.getfield 107, 3) := by decide +kernel
theorem dX10_done_335 : decode cX10_done 335 = .ok (.iload 8, 2) := by decide +kernel
theorem dX10_done_337 : decode cX10_done 337 = .ok (.iconst 0, 1) := by decide +kernel
theorem dX10_done_338 : decode cX10_done 338 = .ok (.bastore, 1) := by decide +kernel
theorem dX10_done_339 : decode cX10_done 339 = .ok (.aload_n 0, 1) := by decide +kernel
theorem dX10_done_340 : decode cX10_done 340 = .ok (.iconst 0, 1) := by decide +kernel
theorem dX10_done_341 : decode cX10_done 341 = .ok (.bipush 63, 2) := by decide +kernel
theorem dX10_done_343 : decode cX10_done 343 = .ok (.iload 8, 2) := by decide +kernel
theorem dX10_done_345 : decode cX10_done 345 = .ok (.invokevirtual 251, 3) := by decide +kernel
theorem dX10_done_348 : decode cX10_done 348 = .ok (.pop, 1) := by decide +kernel
theorem dX10_done_349 : decode cX10_done 349 = .ok (.iinc 8 1, 3) := by decide +kernel
theorem dX10_done_352 : decode cX10_done 352 = .ok (.goto (-55), 3) := by decide +kernel
theorem dX10_done_355 : decode cX10_done 355 = .ok (.aload_n 0, 1) := by decide +kernel
theorem dX10_done_356 : decode cX10_done 356 = .ok (.getfield 257, 3) := by decide +kernel
theorem dX10_done_359 : decode cX10_done 359 = .ok (.ireturn, 1) := by decide +kernel
theorem dX10_done_360 : decode cX10_done 360 = .ok (.iload_n 2, 1) := by decide +kernel
theorem dX10_done_361 : decode cX10_done 361 = .ok (.aload_n 0, 1) := by decide +kernel
theorem dX10_done_362 : decode cX10_done 362 = .ok (.getfield 260, 3) := by decide +kernel
theorem dX10_done_365 : decode cX10_done 365 = .ok (.if_icmp .le 11, 3) := by decide +kernel
theorem dX10_done_368 : decode cX10_done 368 = .ok (.iload_n 2, 1) := by decide +kernel
theorem dX10_done_369 : decode cX10_done 369 = .ok (.aload_n 0, 1) := by decide +kernel
theorem dX10_done_370 : decode cX10_done 370 = .ok (.getfield 238, 3) := by decide +kernel
theorem dX10_done_373 : decode cX10_done 373 = .ok (.if_icmp .le 5, 3) := by decide +kernel
theorem dX10_done_376 : decode cX10_done 376 = .ok (.iconst 0, 1) := by decide +kernel
theorem dX10_done_377 : decode cX10_done 377 = .ok (.ireturn, 1) := by decide +kernel
theorem dX10_done_378 : decode cX10_done 378 = .ok (.aload_n 0, 1) := by decide +kernel
theorem dX10_done_379 : decode cX10_done 379 = .ok (.iload_n 2, 1) := by decide +kernel
theorem dX10_done_380 : decode cX10_done 380 = .ok (.putfield 260, 3) := by decide +kernel
theorem dX10_done_383 : decode cX10_done 383 = .ok (.iconst 1, 1) := by decide +kernel
theorem dX10_done_384 : decode cX10_done 384 = .ok (.ireturn, 1) := by decide +kernel
theorem dX10_firstEvent_0 : decode cX10_firstEvent 0 = .ok (.iconst 0, 1) := by decide +kernel
theorem dX10_firstEvent_1 : decode cX10_firstEvent 1 = .ok (.istore_n 1, 1) := by decide +kernel
theorem dX10_firstEvent_2 : decode cX10_firstEvent 2 = .ok (.iload_n 1, 1) := by decide +kernel
theorem dX10_firstEvent_3 : decode cX10_firstEvent 3 = .ok (.aload_n 0, 1) := by decide +kernel
theorem dX10_firstEvent_4 : decode cX10_firstEvent 4 = .ok (.getfield 235, 3) := by decide +kernel
theorem dX10_firstEvent_7 : decode cX10_firstEvent 7 = .ok (.if_icmp .ge 22, 3) := by decide +kernel
theorem dX10_firstEvent_10 : decode cX10_firstEvent 10 = .ok (.aload_n 0, 1) := by decide +kernel
theorem dX10_firstEvent_11 : decode cX10_firstEvent 11 = .ok (.getfield 113, 3) := by decide +kernel
theorem dX10_firstEvent_14 : decode cX10_firstEvent 14 = .ok (.iload_n 1, 1) := by decide +kernel
theorem dX10_firstEvent_15 : decode cX10_firstEvent 15 = .ok (.iaload, 1) := by decide +kernel
theorem dX10_firstEvent_16 : decode cX10_firstEvent 16 = .ok (.aload_n 0, 1) := by decide +kernel
theorem dX10_firstEvent_17 : decode cX10_firstEvent 17 = .ok (.getfield 260, 3) := by decide +kernel
theorem dX10_firstEvent_20 : decode cX10_firstEvent 20 = .ok (.if_icmp .gt 9, 3) := by decide +kernel
theorem dX10_firstEvent_23 : decode cX10_firstEvent 23 = .ok (.iinc 1 1, 3) := by decide +kernel
theorem dX10_firstEvent_26 : decode cX10_firstEvent 26 = .ok (.goto (-24), 3) := by decide +kernel
theorem dX10_firstEvent_29 : decode cX10_firstEvent 29 = .ok (.iload_n 1, 1) := by decide +kernel
theorem dX10_firstEvent_30 : decode cX10_firstEvent 30 = .ok (.ireturn, 1) := by decide +kernel
theorem dX10_work_0 : decode cX10_work 0 = .ok (.aload_n 0, 1) := by decide +kernel
theorem dX10_work_1 : decode cX10_work 1 = .ok (.getfield 7, 3) := by decide +kernel
theorem dX10_work_4 : decode cX10_work 4 = .ok (.iload_n 1, 1) := by decide +kernel
theorem dX10_work_5 : decode cX10_work 5 = .ok (.baload, 1) := by decide +kernel
theorem dX10_work_6 : decode cX10_work 6 = .ok (.ifCond .eq 12, 3) := by decide +kernel
theorem dX10_work_9 : decode cX10_work 9 = .ok (.aload_n 0, 1) := by decide +kernel
theorem dX10_work_10 : decode cX10_work 10 = .ok (.getfield 26, 3) := by decide +kernel
theorem dX10_work_13 : decode cX10_work 13 = .ok (.iload_n 1, 1) := by decide +kernel
theorem dX10_work_14 : decode cX10_work 14 = .ok (.iaload, 1) := by decide +kernel
theorem dX10_work_15 : decode cX10_work 15 = .ok (.goto 9, 3) := by decide +kernel
theorem dX10_work_18 : decode cX10_work 18 = .ok (.aload_n 0, 1) := by decide +kernel
theorem dX10_work_19 : decode cX10_work 19 = .ok (.getfield 20, 3) := by decide +kernel
theorem dX10_work_22 : decode cX10_work 22 = .ok (.iload_n 1, 1) := by decide +kernel
theorem dX10_work_23 : decode cX10_work 23 = .ok (.iaload, 1) := by decide +kernel
theorem dX10_work_24 : decode cX10_work 24 = .ok (.istore_n 2, 1) := by decide +kernel
theorem dX10_work_25 : decode cX10_work 25 = .ok (.aload_n 0, 1) := by decide +kernel
theorem dX10_work_26 : decode cX10_work 26 = .ok (.getfield 128, 3) := by decide +kernel
theorem dX10_work_29 : decode cX10_work 29 = .ok (.iload_n 1, 1) := by decide +kernel
theorem dX10_work_30 : decode cX10_work 30 = .ok (.if_icmp .ne 28, 3) := by decide +kernel
theorem dX10_work_33 : decode cX10_work 33 = .ok (.aload_n 0, 1) := by decide +kernel
theorem dX10_work_34 : decode cX10_work 34 = .ok (.getfield 263, 3) := by decide +kernel
theorem dX10_work_37 : decode cX10_work 37 = .ok (.aload_n 0, 1) := by decide +kernel
theorem dX10_work_38 : decode cX10_work 38 = .ok (.getfield 51, 3) := by decide +kernel
theorem dX10_work_41 : decode cX10_work 41 = .ok (.iload_n 1, 1) := by decide +kernel
theorem dX10_work_42 : decode cX10_work 42 = .ok (.iaload, 1) := by decide +kernel
theorem dX10_work_43 : decode cX10_work 43 = .ok (.if_icmp .ne 15, 3) := by decide +kernel
theorem dX10_work_46 : decode cX10_work 46 = .ok (.aload_n 0, 1) := by decide +kernel
theorem dX10_work_47 : decode cX10_work 47 = .ok (.getfield 132, 3) := by decide +kernel
theorem dX10_work_50 : decode cX10_work 50 = .ok (.iload_n 2, 1) := by decide +kernel
theorem dX10_work_51 : decode cX10_work 51 = .ok (.if_icmp .gt 7, 3) := by decide +kernel
theorem dX10_work_54 : decode cX10_work 54 = .ok (.iconst 1, 1) := by decide +kernel
theorem dX10_work_55 : decode cX10_work 55 = .ok (.goto 4, 3) := by decide +kernel
theorem dX10_work_58 : decode cX10_work 58 = .ok (.iconst 0, 1) := by decide +kernel
theorem dX10_work_59 : decode cX10_work 59 = .ok (.istore_n 3, 1) := by decide +kernel
theorem dX10_work_60 : decode cX10_work 60 = .ok (.iload_n 3, 1) := by decide +kernel
theorem dX10_work_61 : decode cX10_work 61 = .ok (.ifCond .ne 108, 3) := by decide +kernel
theorem dX10_work_64 : decode cX10_work 64 = .ok (.iconst 0, 1) := by decide +kernel
theorem dX10_work_65 : decode cX10_work 65 = .ok (.istore 4, 2) := by decide +kernel
theorem dX10_work_67 : decode cX10_work 67 = .ok (.iload 4, 2) := by decide +kernel
theorem dX10_work_69 : decode cX10_work 69 = .ok (.bipush 64, 2) := by decide +kernel
theorem dX10_work_71 : decode cX10_work 71 = .ok (.if_icmp .ge 49, 3) := by decide +kernel
theorem dX10_work_74 : decode cX10_work 74 = .ok (.aload_n 0, 1) := by decide +kernel
theorem dX10_work_75 : decode cX10_work 75 = .ok (.getfield 92, 3) := by decide +kernel
theorem dX10_work_78 : decode cX10_work 78 = .ok (.iload 4, 2) := by decide +kernel
theorem dX10_work_80 : decode cX10_work 80 = .ok (.iconst 0, 1) := by decide +kernel
theorem dX10_work_81 : decode cX10_work 81 = .ok (.iastore, 1) := by decide +kernel
theorem dX10_work_82 : decode cX10_work 82 = .ok (.aload_n 0, 1) := by decide +kernel
theorem dX10_work_83 : decode cX10_work 83 = .ok (.getfield 95, 3) := by decide +kernel
theorem dX10_work_86 : decode cX10_work 86 = .ok (.iload 4, 2) := by decide +kernel
theorem dX10_work_88 : decode cX10_work 88 = .ok (.iconst 0, 1) := by decide +kernel
theorem dX10_work_89 : decode cX10_work 89 = .ok (.iastore, 1) := by decide +kernel
theorem dX10_work_90 : decode cX10_work 90 = .ok (.aload_n 0, 1) := by decide +kernel
theorem dX10_work_91 : decode cX10_work 91 = .ok (.getfield 98, 3) := by decide +kernel
theorem dX10_work_94 : decode cX10_work 94 = .ok (.iload 4, 2) := by decide +kernel
theorem dX10_work_96 : decode cX10_work 96 = .ok (.iconst 0, 1) := by decide +kernel
theorem dX10_work_97 : decode cX10_work 97 = .ok (.iastore, 1) := by decide +kernel
theorem dX10_work_98 : decode cX10_work 98 = .ok (.aload_n 0, 1) := by decide +kernel
theorem dX10_work_99 : decode cX10_work 99 = .ok (.getfield 101, 3) := by decide +kernel
theorem dX10_work_102 : decode cX10_work 102 = .ok (.iload 4, 2) := by decide +kernel
theorem dX10_work_104 : decode cX10_work 104 = .ok (.iconst 0, 1) := by decide +kernel
theorem dX10_work_105 : decode cX10_work 105 = .ok (.iastore, 1) := by decide +kernel
theorem dX10_work_106 : decode cX10_work 106 = .ok (.aload_n 0, 1) := by decide +kernel
theorem dX10_work_107 : decode cX10_work 107 = .ok (.getfield 104, 3) := by decide +kernel
theorem dX10_work_110 : decode cX10_work 110 = .ok (.iload 4, 2) := by decide +kernel
theorem dX10_work_112 : decode cX10_work 112 = .ok (.iconst 0, 1) := by decide +kernel
theorem dX10_work_113 : decode cX10_work 113 = .ok (.iastore, 1) := by decide +kernel
theorem dX10_work_114 : decode cX10_work 114 = .ok (.iinc 4 1, 3) := by decide +kernel
theorem dX10_work_117 : decode cX10_work 117 = .ok (.goto (-50), 3) := by decide +kernel
theorem dX10_work_120 : decode cX10_work 120 = .ok (.iconst 0, 1) := by decide +kernel
theorem dX10_work_121 : decode cX10_work 121 = .ok (.istore 4, 2) := by decide +kernel
theorem dX10_work_123 : decode cX10_work 123 = .ok (.iload 4, 2) := by decide +kernel
theorem dX10_work_125 : decode cX10_work 125 = .ok (.bipush 9, 2) := by decide +kernel
theorem dX10_work_127 : decode cX10_work 127 = .ok (.if_icmp .ge 17, 3) := by decide +kernel
theorem dX10_work_130 : decode cX10_work 130 = .ok (.aload_n 0, 1) := by decide +kernel
theorem dX10_work_131 : decode cX10_work 131 = .ok (.getfield 107, 3) := by decide +kernel
theorem dX10_work_134 : decode cX10_work 134 = .ok (.iload 4, 2) := by decide +kernel
theorem dX10_work_136 : decode cX10_work 136 = .ok (.iconst 0, 1) := by decide +kernel
theorem dX10_work_137 : decode cX10_work 137 = .ok (.bastore, 1) := by decide +kernel
theorem dX10_work_138 : decode cX10_work 138 = .ok (.iinc 4 1, 3) := by decide +kernel
theorem dX10_work_141 : decode cX10_work 141 = .ok (.goto (-18), 3) := by decide +kernel
theorem dX10_work_144 : decode cX10_work 144 = .ok (.aload_n 0, 1) := by decide +kernel
theorem dX10_work_145 : decode cX10_work 145 = .ok (.iconst 1, 1) := by decide +kernel
theorem dX10_work_146 : decode cX10_work 146 = .ok (.putfield 238, 3) := by decide +kernel
theorem dX10_work_149 : decode cX10_work 149 = .ok (.aload_n 0, 1) := by decide +kernel
theorem dX10_work_150 : decode cX10_work 150 = .ok (.iconst 0, 1) := by decide +kernel
theorem dX10_work_151 : decode cX10_work 151 = .ok (.putfield 257, 3) := by decide +kernel
theorem dX10_work_154 : decode cX10_work 154 = .ok (.aload_n 0, 1) := by decide +kernel
theorem dX10_work_155 : decode cX10_work 155 = .ok (.iconst 0, 1) := by decide +kernel
theorem dX10_work_156 : decode cX10_work 156 = .ok (.putfield 260, 3) := by decide +kernel
theorem dX10_work_159 : decode cX10_work 159 = .ok (.aload_n 0, 1) := by decide +kernel
theorem dX10_work_160 : decode cX10_work 160 = .ok (.iconst 0, 1) := by decide +kernel
theorem dX10_work_161 : decode cX10_work 161 = .ok (.putfield 235, 3) := by decide +kernel
theorem dX10_work_164 : decode cX10_work 164 = .ok (.aload_n 0, 1) := by decide +kernel
theorem dX10_work_165 : decode cX10_work 165 = .ok (.iconst 0, 1) := by decide +kernel
theorem dX10_work_166 : decode cX10_work 166 = .ok (.putfield 132, 3) := by decide +kernel
theorem dX10_work_169 : decode cX10_work 169 = .ok (.aload_n 0, 1) := by decide +kernel
theorem dX10_work_170 : decode cX10_work 170 = .ok (.iload_n 1, 1) := by decide +kernel
theorem dX10_work_171 : decode cX10_work 171 = .ok (.putfield 128, 3) := by decide +kernel
theorem dX10_work_174 : decode cX10_work 174 = .ok (.aload_n 0, 1) := by decide +kernel
theorem dX10_work_175 : decode cX10_work 175 = .ok (.aload_n 0, 1) := by decide +kernel
theorem dX10_work_176 : decode cX10_work 176 = .ok (.getfield 51, 3) := by decide +kernel
theorem dX10_work_179 : decode cX10_work 179 = .ok (.iload_n 1, 1) := by decide +kernel
theorem dX10_work_180 : decode cX10_work 180 = .ok (.iaload, 1) := by decide +kernel
theorem dX10_work_181 : decode cX10_work 181 = .ok (.putfield 263, 3) := by decide +kernel
theorem dX10_work_184 : decode cX10_work 184 = .ok (.aload_n 0, 1) := by decide +kernel
theorem dX10_work_185 : decode cX10_work 185 = .ok (.getfield 132, 3) := by decide +kernel
theorem dX10_work_188 : decode cX10_work 188 = .ok (.iload_n 2, 1) := by decide +kernel
theorem dX10_work_189 : decode cX10_work 189 = .ok (.if_icmp .ge 136, 3) := by decide +kernel
theorem dX10_work_192 : decode cX10_work 192 = .ok (.aload_n 0, 1) := by decide +kernel
theorem dX10_work_193 : decode cX10_work 193 = .ok (.dup, 1) := by decide +kernel
theorem dX10_work_194 : decode cX10_work 194 = .ok (.getfield 132, 3) := by decide +kernel
theorem dX10_work_197 : decode cX10_work 197 = .ok (.iconst 1, 1) := by decide +kernel
theorem dX10_work_198 : decode cX10_work 198 = .ok (.iadd, 1) := by decide +kernel
theorem dX10_work_199 : decode cX10_work 199 = .ok (.putfield 132, 3) := by decide +kernel
theorem dX10_work_202 : decode cX10_work 202 = .ok (.aload_n 0, 1) := by decide +kernel
theorem dX10_work_203 : decode cX10_work 203 = .ok (.iload_n 1, 1) := by decide +kernel
theorem dX10_work_204 : decode cX10_work 204 = .ok (.aload_n 0, 1) := by decide +kernel
theorem dX10_work_205 : decode cX10_work 205 = .ok (.getfield 132, 3) := by decide +kernel
theorem dX10_work_208 : decode cX10_work 208 = .ok (.invokevirtual 138, 3) := by decide +kernel
theorem dX10_work_211 : decode cX10_work 211 = .ok (.istore 4, 2) := by decide +kernel
theorem dX10_work_213 : decode cX10_work 213 = .ok (.aload_n 0, 1) := by decide +kernel
theorem dX10_work_214 : decode cX10_work 214 = .ok (.getfield 125, 3) := by decide +kernel
theorem dX10_work_217 : decode cX10_work 217 = .ok (.aload_n 0, 1) := by decide +kernel
theorem dX10_work_218 : decode cX10_work 218 = .ok (.getfield 132, 3) := by decide +kernel
theorem dX10_work_221 : decode cX10_work 221 = .ok (.aload_n 0, 1) := by decide +kernel
theorem dX10_work_222 : decode cX10_work 222 = .ok (.aload_n 0, 1) := by decide +kernel
theorem dX10_work_223 : decode cX10_work 223 = .ok (.getfield 48, 3) := by decide +kernel
theorem dX10_work_226 : decode cX10_work 226 = .ok (.iload 4, 2) := by decide +kernel
theorem dX10_work_228 : decode cX10_work 228 = .ok (.iconst 1, 1) := by decide +kernel
theorem dX10_work_229 : decode cX10_work 229 = .ok (.iadd, 1) := by decide +kernel
theorem dX10_work_230 : decode cX10_work 230 = .ok (.iaload, 1) := by decide +kernel
theorem dX10_work_231 : decode cX10_work 231 = .ok (.aload_n 0, 1) := by decide +kernel
theorem dX10_work_232 : decode cX10_work 232 = .ok (.getfield 48, 3) := by decide +kernel
theorem dX10_work_235 : decode cX10_work 235 = .ok (.iload 4, 2) := by decide +kernel
theorem dX10_work_237 : decode cX10_work 237 = .ok (.iconst 2, 1) := by decide +kernel
theorem dX10_work_238 : decode cX10_work 238 = .ok (.iadd, 1) := by decide +kernel
theorem dX10_work_239 : decode cX10_work 239 = .ok (.iaload, 1) := by decide +kernel
theorem dX10_work_240 : decode cX10_work 240 = .ok (.aload_n 0, 1) := by decide +kernel
theorem dX10_work_241 : decode cX10_work 241 = .ok (.getfield 48, 3) := by decide +kernel
theorem dX10_work_244 : decode cX10_work 244 = .ok (.iload 4, 2) := by decide +kernel
theorem dX10_work_246 : decode cX10_work 246 = .ok (.iconst 3, 1) := by decide +kernel
theorem dX10_work_247 : decode cX10_work 247 = .ok (.iadd, 1) := by decide +kernel
theorem dX10_work_248 : decode cX10_work 248 = .ok (.iaload, 1) := by decide +kernel
theorem dX10_work_249 : decode cX10_work 249 = .ok (.aload_n 0, 1) := by decide +kernel
theorem dX10_work_250 : decode cX10_work 250 = .ok (.getfield 48, 3) := by decide +kernel
theorem dX10_work_253 : decode cX10_work 253 = .ok (.iload 4, 2) := by decide +kernel
theorem dX10_work_255 : decode cX10_work 255 = .ok (.iconst 4, 1) := by decide +kernel
theorem dX10_work_256 : decode cX10_work 256 = .ok (.iadd, 1) := by decide +kernel
theorem dX10_work_257 : decode cX10_work 257 = .ok (.iaload, 1) := by decide +kernel
theorem dX10_work_258 : decode cX10_work 258 = .ok (.aload_n 0, 1) := by decide +kernel
theorem dX10_work_259 : decode cX10_work 259 = .ok (.getfield 48, 3) := by decide +kernel
theorem dX10_work_262 : decode cX10_work 262 = .ok (.iload 4, 2) := by decide +kernel
theorem dX10_work_264 : decode cX10_work 264 = .ok (.iconst 5, 1) := by decide +kernel
theorem dX10_work_265 : decode cX10_work 265 = .ok (.iadd, 1) := by decide +kernel
theorem dX10_work_266 : decode cX10_work 266 = .ok (.iaload, 1) := by decide +kernel
theorem dX10_work_267 : decode cX10_work 267 = .ok (.aload_n 0, 1) := by decide +kernel
theorem dX10_work_268 : decode cX10_work 268 = .ok (.getfield 48, 3) := by decide +kernel
theorem dX10_work_271 : decode cX10_work 271 = .ok (.iload 4, 2) := by decide +kernel
theorem dX10_work_273 : decode cX10_work 273 = .ok (.bipush 6, 2) := by decide +kernel
theorem dX10_work_275 : decode cX10_work 275 = .ok (.iadd, 1) := by decide +kernel
theorem dX10_work_276 : decode cX10_work 276 = .ok (.iaload, 1) := by decide +kernel
theorem dX10_work_277 : decode cX10_work 277 = .ok (.aload_n 0, 1) := by decide +kernel
theorem dX10_work_278 : decode cX10_work 278 = .ok (.getfield 48, 3) := by decide +kernel
theorem dX10_work_281 : decode cX10_work 281 = .ok (.iload 4, 2) := by decide +kernel
theorem dX10_work_283 : decode cX10_work 283 = .ok (.bipush 7, 2) := by decide +kernel
theorem dX10_work_285 : decode cX10_work 285 = .ok (.iadd, 1) := by decide +kernel
theorem dX10_work_286 : decode cX10_work 286 = .ok (.iaload, 1) := by decide +kernel
theorem dX10_work_287 : decode cX10_work 287 = .ok (.invokevirtual 266, 3) := by decide +kernel
theorem dX10_work_290 : decode cX10_work 290 = .ok (.iastore, 1) := by decide +kernel
theorem dX10_work_291 : decode cX10_work 291 = .ok (.aload_n 0, 1) := by decide +kernel
theorem dX10_work_292 : decode cX10_work 292 = .ok (.getfield 235, 3) := by decide +kernel
theorem dX10_work_295 : decode cX10_work 295 = .ok (.aload_n 0, 1) := by decide +kernel
theorem dX10_work_296 : decode cX10_work 296 = .ok (.invokevirtual 270, 3) := by decide +kernel
theorem dX10_work_299 : decode cX10_work 299 = .ok (.isub, 1) := by decide +kernel
theorem dX10_work_300 : decode cX10_work 300 = .ok (.sipush 400, 3) := by decide +kernel
theorem dX10_work_303 : decode cX10_work 303 = .ok (.if_icmp .le 19, 3) := by decide +kernel
theorem dX10_work_306 : decode cX10_work 306 = .ok (.aload_n 0, 1) := by decide +kernel
theorem dX10_work_307 : decode cX10_work 307 = .ok (.aload_n 0, 1) := by decide +kernel
theorem dX10_work_308 : decode cX10_work 308 = .ok (.getfield 113, 3) := by decide +kernel
theorem dX10_work_311 : decode cX10_work 311 = .ok (.aload_n 0, 1) := by decide +kernel
theorem dX10_work_312 : decode cX10_work 312 = .ok (.invokevirtual 270, 3) := by decide +kernel
theorem dX10_work_315 : decode cX10_work 315 = .ok (.iaload, 1) := by decide +kernel
theorem dX10_work_316 : decode cX10_work 316 = .ok (.putfield 260, 3) := by decide +kernel
theorem dX10_work_319 : decode cX10_work 319 = .ok (.goto (-28), 3) := by decide +kernel

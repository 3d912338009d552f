theorem dX10_comes_10 : decode cX10_comes 10 = .ok (.iconst 0, 1) := by decide +kernel
theorem dX10_comes_11 : decode cX10_comes 11 = .ok (.istore 5, 2) := by decide +kernel
theorem dX10_comes_13 : decode cX10_comes 13 = .ok (.iload 5, 2) := by decide +kernel
theorem dX10_comes_15 : decode cX10_comes 15 = .ok (.bipush 8, 2) := by decide +kernel
theorem dX10_comes_17 : decode cX10_comes 17 = .ok (.if_icmp .ge 30, 3) := by decide +kernel
theorem dX10_comes_20 : decode cX10_comes 20 = .ok (.aload_n 0, 1) := by decide +kernel
theorem dX10_comes_21 : decode cX10_comes 21 = .ok (.getfield 48, 3) := by decide +kernel
theorem dX10_comes_24 : decode cX10_comes 24 = .ok (.aload_n 0, 1) := by decide +kernel
theorem dX10_comes_25 : decode cX10_comes 25 = .ok (.iload_n 1, 1) := by decide +kernel
theorem dX10_comes_26 : decode cX10_comes 26 = .ok (.iload_n 2, 1) := by decide +kernel
theorem dX10_comes_27 : decode cX10_comes 27 = .ok (.invokevirtual 138, 3) := by decide +kernel
theorem dX10_comes_30 : decode cX10_comes 30 = .ok (.iload 5, 2) := by decide +kernel
theorem dX10_comes_32 : decode cX10_comes 32 = .ok (.iadd, 1) := by decide +kernel
theorem dX10_comes_33 : decode cX10_comes 33 = .ok (.aload_n 3, 1) := by decide +kernel
theorem dX10_comes_34 : decode cX10_comes 34 = .ok (.iload 4, 2) := by decide +kernel
theorem dX10_comes_36 : decode cX10_comes 36 = .ok (.iload 5, 2) := by decide +kernel
theorem dX10_comes_38 : decode cX10_comes 38 = .ok (.iadd, 1) := by decide +kernel
theorem dX10_comes_39 : decode cX10_comes 39 = .ok (.iaload, 1) := by decide +kernel
theorem dX10_comes_40 : decode cX10_comes 40 = .ok (.iastore, 1) := by decide +kernel
theorem dX10_comes_41 : decode cX10_comes 41 = .ok (.iinc 5 1, 3) := by decide +kernel
theorem dX10_comes_44 : decode cX10_comes 44 = .ok (.goto (-31), 3) := by decide +kernel
theorem dX10_comes_47 : decode cX10_comes 47 = .ok (.aload_n 0, 1) := by decide +kernel
theorem dX10_comes_48 : decode cX10_comes 48 = .ok (.getfield 23, 3) := by decide +kernel
theorem dX10_comes_51 : decode cX10_comes 51 = .ok (.iload_n 1, 1) := by decide +kernel
theorem dX10_comes_52 : decode cX10_comes 52 = .ok (.iload_n 2, 1) := by decide +kernel
theorem dX10_comes_53 : decode cX10_comes 53 = .ok (.iastore, 1) := by decide +kernel
theorem dX10_comes_54 : decode cX10_comes 54 = .ok (.iconst 1, 1) := by decide +kernel
theorem dX10_comes_55 : decode cX10_comes 55 = .ok (.ireturn, 1) := by decide +kernel
theorem dX10_adds_0 : decode cX10_adds 0 = .ok (.aload_n 0, 1) := by decide +kernel
theorem dX10_adds_1 : decode cX10_adds 1 = .ok (.getfield 89, 3) := by decide +kernel
theorem dX10_adds_4 : decode cX10_adds 4 = .ok (.iconst 0, 1) := by decide +kernel
theorem dX10_adds_5 : decode cX10_adds 5 = .ok (.aload_n 0, 1) := by decide +kernel
theorem dX10_adds_6 : decode cX10_adds 6 = .ok (.getfield 13, 3) := by decide +kernel
theorem dX10_adds_9 : decode cX10_adds 9 = .ok (.iload_n 1, 1) := by decide +kernel
theorem dX10_adds_10 : decode cX10_adds 10 = .ok (.iaload, 1) := by decide +kernel
theorem dX10_adds_11 : decode cX10_adds 11 = .ok (.iastore, 1) := by decide +kernel
theorem dX10_adds_12 : decode cX10_adds 12 = .ok (.aload_n 0, 1) := by decide +kernel
theorem dX10_adds_13 : decode cX10_adds 13 = .ok (.getfield 89, 3) := by decide +kernel
theorem dX10_adds_16 : decode cX10_adds 16 = .ok (.iconst 1, 1) := by decide +kernel
theorem dX10_adds_17 : decode cX10_adds 17 = .ok (.iload_n 2, 1) := by decide +kernel
theorem dX10_adds_18 : decode cX10_adds 18 = .ok (.iastore, 1) := by decide +kernel
theorem dX10_adds_19 : decode cX10_adds 19 = .ok (.aload_n 0, 1) := by decide +kernel
theorem dX10_adds_20 : decode cX10_adds 20 = .ok (.getfield 89, 3) := by decide +kernel
theorem dX10_adds_23 : decode cX10_adds 23 = .ok (.iconst 2, 1) := by decide +kernel
theorem dX10_adds_24 : decode cX10_adds 24 = .ok (.iload_n 3, 1) := by decide +kernel
theorem dX10_adds_25 : decode cX10_adds 25 = .ok (.iastore, 1) := by decide +kernel
theorem dX10_adds_26 : decode cX10_adds 26 = .ok (.aload_n 0, 1) := by decide +kernel
theorem dX10_adds_27 : decode cX10_adds 27 = .ok (.getfield 89, 3) := by decide +kernel
theorem dX10_adds_30 : decode cX10_adds 30 = .ok (.iconst 3, 1) := by decide +kernel
theorem dX10_adds_31 : decode cX10_adds 31 = .ok (.iload 4, 2) := by decide +kernel
theorem dX10_adds_33 : decode cX10_adds 33 = .ok (.iastore, 1) := by decide +kernel
theorem dX10_adds_34 : decode cX10_adds 34 = .ok (.aload_n 0, 1) := by decide +kernel
theorem dX10_adds_35 : decode cX10_adds 35 = .ok (.getfield 89, 3) := by decide +kernel
theorem dX10_adds_38 : decode cX10_adds 38 = .ok (.iconst 4, 1) := by decide +kernel
theorem dX10_adds_39 : decode cX10_adds 39 = .ok (.iload 5, 2) := by decide +kernel
theorem dX10_adds_41 : decode cX10_adds 41 = .ok (.iastore, 1) := by decide +kernel
theorem dX10_adds_42 : decode cX10_adds 42 = .ok (.aload_n 0, 1) := by decide +kernel
theorem dX10_adds_43 : decode cX10_adds 43 = .ok (.getfield 89, 3) := by decide +kernel
theorem dX10_adds_46 : decode cX10_adds 46 = .ok (.iconst 5, 1) := by decide +kernel
theorem dX10_adds_47 : decode cX10_adds 47 = .ok (.iload 6, 2) := by decide +kernel
theorem dX10_adds_49 : decode cX10_adds 49 = .ok (.iastore, 1) := by decide +kernel
theorem dX10_adds_50 : decode cX10_adds 50 = .ok (.aload_n 0, 1) := by decide +kernel
theorem dX10_adds_51 : decode cX10_adds 51 = .ok (.getfield 89, 3) := by decide +kernel
theorem dX10_adds_54 : decode cX10_adds 54 = .ok (.bipush 6, 2) := by decide +kernel
theorem dX10_adds_56 : decode cX10_adds 56 = .ok (.iload 7, 2) := by decide +kernel
theorem dX10_adds_58 : decode cX10_adds 58 = .ok (.iastore, 1) := by decide +kernel
theorem dX10_adds_59 : decode cX10_adds 59 = .ok (.aload_n 0, 1) := by decide +kernel
theorem dX10_adds_60 : decode cX10_adds 60 = .ok (.getfield 89, 3) := by decide +kernel
theorem dX10_adds_63 : decode cX10_adds 63 = .ok (.bipush 7, 2) := by decide +kernel
theorem dX10_adds_65 : decode cX10_adds 65 = .ok (.iload 8, 2) := by decide +kernel
theorem dX10_adds_67 : decode cX10_adds 67 = .ok (.iastore, 1) := by decide +kernel
theorem dX10_adds_68 : decode cX10_adds 68 = .ok (.aload_n 0, 1) := by decide +kernel
theorem dX10_adds_69 : decode cX10_adds 69 = .ok (.iload_n 1, 1) := by decide +kernel
theorem dX10_adds_70 : decode cX10_adds 70 = .ok (.aload_n 0, 1) := by decide +kernel
theorem dX10_adds_71 : decode cX10_adds 71 = .ok (.getfield 23, 3) := by decide +kernel
theorem dX10_adds_74 : decode cX10_adds 74 = .ok (.iload_n 1, 1) := by decide +kernel
theorem dX10_adds_75 : decode cX10_adds 75 = .ok (.iaload, 1) := by decide +kernel
theorem dX10_adds_76 : decode cX10_adds 76 = .ok (.iconst 1, 1) := by decide +kernel
theorem dX10_adds_77 : decode cX10_adds 77 = .ok (.iadd, 1) := by decide +kernel
theorem dX10_adds_78 : decode cX10_adds 78 = .ok (.aload_n 0, 1) := by decide +kernel
theorem dX10_adds_79 : decode cX10_adds 79 = .ok (.getfield 89, 3) := by decide +kernel
theorem dX10_adds_82 : decode cX10_adds 82 = .ok (.iconst 0, 1) := by decide +kernel
theorem dX10_adds_83 : decode cX10_adds 83 = .ok (.invokevirtual 179, 3) := by decide +kernel
theorem dX10_adds_86 : decode cX10_adds 86 = .ok (.ireturn, 1) := by decide +kernel
theorem dX10_deliver_0 : decode cX10_deliver 0 = .ok (.aload_n 0, 1) := by decide +kernel
theorem dX10_deliver_1 : decode cX10_deliver 1 = .ok (.iload_n 1, 1) := by decide +kernel
theorem dX10_deliver_2 : decode cX10_deliver 2 = .ok (.ifCond .lt 11, 3) := by decide +kernel
theorem dX10_deliver_5 : decode cX10_deliver 5 = .ok (.iload_n 1, 1) := by decide +kernel
theorem dX10_deliver_6 : decode cX10_deliver 6 = .ok (.aload_n 0, 1) := by decide +kernel
theorem dX10_deliver_7 : decode cX10_deliver 7 = .ok (.getfield 146, 3) := by decide +kernel
theorem dX10_deliver_10 : decode cX10_deliver 10 = .ok (.if_icmp .lt 7, 3) := by decide +kernel
theorem dX10_deliver_13 : decode cX10_deliver 13 = .ok (.iconst 1, 1) := by decide +kernel
theorem dX10_deliver_14 : decode cX10_deliver 14 = .ok (.goto 4, 3) := by decide +kernel
theorem dX10_deliver_17 : decode cX10_deliver 17 = .ok (.iconst 0, 1) := by decide +kernel
theorem dX10_deliver_18 : decode cX10_deliver 18 = .ok (.iconst 1, 1) := by decide +kernel
theorem dX10_deliver_19 : decode cX10_deliver 19 = .ok (.invokevirtual 172, 3) := by decide +kernel
theorem dX10_deliver_22 : decode cX10_deliver 22 = .ok (.ifCond .eq 5, 3) := by decide +kernel
theorem dX10_deliver_25 : decode cX10_deliver 25 = .ok (.iconst 0, 1) := by decide +kernel
theorem dX10_deliver_26 : decode cX10_deliver 26 = .ok (.ireturn, 1) := by decide +kernel
theorem dX10_deliver_27 : decode cX10_deliver 27 = .ok (.aload_n 0, 1) := by decide +kernel
theorem dX10_deliver_28 : decode cX10_deliver 28 = .ok (.getfield 146, 3) := by decide +kernel
theorem dX10_deliver_31 : decode cX10_deliver 31 = .ok (.istore_n 2, 1) := by decide +kernel
theorem dX10_deliver_32 : decode cX10_deliver 32 = .ok (.aload_n 0, 1) := by decide +kernel
theorem dX10_deliver_33 : decode cX10_deliver 33 = .ok (.getfield 7, 3) := by decide +kernel
theorem dX10_deliver_36 : decode cX10_deliver 36 = .ok (.aload_n 0, 1) := by decide +kernel
theorem dX10_deliver_37 : decode cX10_deliver 37 = .ok (.getfield 60, 3) := by decide +kernel
theorem dX10_deliver_40 : decode cX10_deliver 40 = .ok (.iload_n 1, 1) := by decide +kernel
theorem dX10_deliver_41 : decode cX10_deliver 41 = .ok (.iaload, 1) := by decide +kernel
theorem dX10_deliver_42 : decode cX10_deliver 42 = .ok (.baload, 1) := by decide +kernel
theorem dX10_deliver_43 : decode cX10_deliver 43 = .ok (.ifCond .eq 20, 3) := by decide +kernel
theorem dX10_deliver_46 : decode cX10_deliver 46 = .ok (.aload_n 0, 1) := by decide +kernel
theorem dX10_deliver_47 : decode cX10_deliver 47 = .ok (.iload_n 1, 1) := by decide +kernel
theorem dX10_deliver_48 : decode cX10_deliver 48 = .ok (.aload_n 0, 1) := by decide +kernel
theorem dX10_deliver_49 : decode cX10_deliver 49 = .ok (.getfield 60, 3) := by decide +kernel
theorem dX10_deliver_52 : decode cX10_deliver 52 = .ok (.iload_n 1, 1) := by decide +kernel
theorem dX10_deliver_53 : decode cX10_deliver 53 = .ok (.iaload, 1) := by decide +kernel
theorem dX10_deliver_54 : decode cX10_deliver 54 = .ok (.aload_n 0, 1) := by decide +kernel
theorem dX10_deliver_55 : decode cX10_deliver 55 = .ok (.getfield 57, 3) := by decide +kernel
theorem dX10_deliver_58 : decode cX10_deliver 58 = .ok (.iload_n 1, 1) := by decide +kernel
theorem dX10_deliver_59 : decode cX10_deliver 59 = .ok (.iaload, 1) := by decide +kernel
theorem dX10_deliver_60 : decode cX10_deliver 60 = .ok (.invokevirtual 183, 3) := by decide +kernel
theorem dX10_deliver_63 : decode cX10_deliver 63 = .ok (.aload_n 0, 1) := by decide +kernel
theorem dX10_deliver_64 : decode cX10_deliver 64 = .ok (.getfield 146, 3) := by decide +kernel
theorem dX10_deliver_67 : decode cX10_deliver 67 = .ok (.iload_n 2, 1) := by decide +kernel
theorem dX10_deliver_68 : decode cX10_deliver 68 = .ok (.isub, 1) := by decide +kernel
theorem dX10_deliver_69 : decode cX10_deliver 69 = .ok (.ireturn, 1) := by decide +kernel
theorem dX10_got_0 : decode cX10_got 0 = .ok (.aload_n 0, 1) := by decide +kernel
theorem dX10_got_1 : decode cX10_got 1 = .ok (.getfield 63, 3) := by decide +kernel
theorem dX10_got_4 : decode cX10_got 4 = .ok (.iload_n 1, 1) := by decide +kernel
theorem dX10_got_5 : decode cX10_got 5 = .ok (.iaload, 1) := by decide +kernel
theorem dX10_got_6 : decode cX10_got 6 = .ok (.aload_n 0, 1) := by decide +kernel
theorem dX10_got_7 : decode cX10_got 7 = .ok (.getfield 13, 3) := by decide +kernel
theorem dX10_got_10 : decode cX10_got 10 = .ok (.iload_n 2, 1) := by decide +kernel
theorem dX10_got_11 : decode cX10_got 11 = .ok (.iaload, 1) := by decide +kernel
theorem dX10_got_12 : decode cX10_got 12 = .ok (.if_icmp .le 38, 3) := by decide +kernel
theorem dX10_got_15 : decode cX10_got 15 = .ok (.aload_n 0, 1) := by decide +kernel
theorem dX10_got_16 : decode cX10_got 16 = .ok (.iload_n 2, 1) := by decide +kernel
theorem dX10_got_17 : decode cX10_got 17 = .ok (.invokevirtual 176, 3) := by decide +kernel
theorem dX10_got_20 : decode cX10_got 20 = .ok (.ifCond .ne 4, 3) := by decide +kernel
theorem dX10_got_23 : decode cX10_got 23 = .ok (.return_, 1) := by decide +kernel
theorem dX10_got_24 : decode cX10_got 24 = .ok (.aload_n 0, 1) := by decide +kernel
theorem dX10_got_25 : decode cX10_got 25 = .ok (.getfield 13, 3) := by decide +kernel
theorem dX10_got_28 : decode cX10_got 28 = .ok (.iload_n 2, 1) := by decide +kernel
theorem dX10_got_29 : decode cX10_got 29 = .ok (.aload_n 0, 1) := by decide +kernel
theorem dX10_got_30 : decode cX10_got 30 = .ok (.getfield 63, 3) := by decide +kernel
theorem dX10_got_33 : decode cX10_got 33 = .ok (.iload_n 1, 1) := by decide +kernel
theorem dX10_got_34 : decode cX10_got 34 = .ok (.iaload, 1) := by decide +kernel
theorem dX10_got_35 : decode cX10_got 35 = .ok (.iastore, 1) := by decide +kernel
theorem dX10_got_36 : decode cX10_got 36 = .ok (.aload_n 0, 1) := by decide +kernel
theorem dX10_got_37 : decode cX10_got 37 = .ok (.getfield 17, 3) := by decide +kernel
theorem dX10_got_40 : decode cX10_got 40 = .ok (.iload_n 2, 1) := by decide +kernel
theorem dX10_got_41 : decode cX10_got 41 = .ok (.iconst (-1), 1) := by decide +kernel
theorem dX10_got_42 : decode cX10_got 42 = .ok (.iastore, 1) := by decide +kernel
theorem dX10_got_43 : decode cX10_got 43 = .ok (.aload_n 0, 1) := by decide +kernel
theorem dX10_got_44 : decode cX10_got 44 = .ok (.getfield 32, 3) := by decide +kernel
theorem dX10_got_47 : decode cX10_got 47 = .ok (.iload_n 2, 1) := by decide +kernel
theorem dX10_got_48 : decode cX10_got 48 = .ok (.iconst 0, 1) := by decide +kernel
theorem dX10_got_49 : decode cX10_got 49 = .ok (.iastore, 1) := by decide +kernel
theorem dX10_got_50 : decode cX10_got 50 = .ok (.aload_n 0, 1) := by decide +kernel
theorem dX10_got_51 : decode cX10_got 51 = .ok (.getfield 63, 3) := by decide +kernel
theorem dX10_got_54 : decode cX10_got 54 = .ok (.iload_n 1, 1) := by decide +kernel
theorem dX10_got_55 : decode cX10_got 55 = .ok (.iaload, 1) := by decide +kernel
theorem dX10_got_56 : decode cX10_got 56 = .ok (.aload_n 0, 1) := by decide +kernel
theorem dX10_got_57 : decode cX10_got 57 = .ok (.getfield 13, 3) := by decide +kernel
theorem dX10_got_60 : decode cX10_got 60 = .ok (.iload_n 2, 1) := by decide +kernel
theorem dX10_got_61 : decode cX10_got 61 = .ok (.iaload, 1) := by decide +kernel
theorem dX10_got_62 : decode cX10_got 62 = .ok (.if_icmp .ge 54, 3) := by decide +kernel
theorem dX10_got_65 : decode cX10_got 65 = .ok (.aload_n 0, 1) := by decide +kernel
theorem dX10_got_66 : decode cX10_got 66 = .ok (.getfield 54, 3) := by decide +kernel
theorem dX10_got_69 : decode cX10_got 69 = .ok (.iload_n 1, 1) := by decide +kernel
theorem dX10_got_70 : decode cX10_got 70 = .ok (.iaload, 1) := by decide +kernel
theorem dX10_got_71 : decode cX10_got 71 = .ok (.ifCond .ne 11, 3) := by decide +kernel
theorem dX10_got_74 : decode cX10_got 74 = .ok (.aload_n 0, 1) := by decide +kernel
theorem dX10_got_75 : decode cX10_got 75 = .ok (.iconst 1, 1) := by decide +kernel
theorem dX10_got_76 : decode cX10_got 76 = .ok (.iload_n 2, 1) := by decide +kernel
theorem dX10_got_77 : decode cX10_got 77 = .ok (.iload_n 3, 1) := by decide +kernel
theorem dX10_got_78 : decode cX10_got 78 = .ok (.iconst 0, 1) := by decide +kernel
theorem dX10_got_79 : decode cX10_got 79 = .ok (.invokevirtual 187, 3) := by decide +kernel
theorem dX10_got_82 : decode cX10_got 82 = .ok (.aload_n 0, 1) := by decide +kernel
theorem dX10_got_83 : decode cX10_got 83 = .ok (.getfield 54, 3) := by decide +kernel
theorem dX10_got_86 : decode cX10_got 86 = .ok (.iload_n 1, 1) := by decide +kernel
theorem dX10_got_87 : decode cX10_got 87 = .ok (.iaload, 1) := by decide +kernel
theorem dX10_got_88 : decode cX10_got 88 = .ok (.iconst 2, 1) := by decide +kernel
theorem dX10_got_89 : decode cX10_got 89 = .ok (.if_icmp .eq 13, 3) := by decide +kernel
theorem dX10_got_92 : decode cX10_got 92 = .ok (.aload_n 0, 1) := by decide +kernel
theorem dX10_got_93 : decode cX10_got 93 = .ok (.getfield 54, 3) := by decide +kernel
theorem dX10_got_96 : decode cX10_got 96 = .ok (.iload_n 1, 1) := by decide +kernel
theorem dX10_got_97 : decode cX10_got 97 = .ok (.iaload, 1) := by decide +kernel
theorem dX10_got_98 : decode cX10_got 98 = .ok (.iconst 5, 1) := by decide +kernel
theorem dX10_got_99 : decode cX10_got 99 = .ok (.if_icmp .ne 16, 3) := by decide +kernel
theorem dX10_got_102 : decode cX10_got 102 = .ok (.aload_n 0, 1) := by decide +kernel
theorem dX10_got_103 : decode cX10_got 103 = .ok (.iconst 4, 1) := by decide +kernel
theorem dX10_got_104 : decode cX10_got 104 = .ok (.iload_n 2, 1) := by decide +kernel
theorem dX10_got_105 : decode cX10_got 105 = .ok (.iload_n 3, 1) := by decide +kernel
theorem dX10_got_106 : decode cX10_got 106 = .ok (.aload_n 0, 1) := by decide +kernel
theorem dX10_got_107 : decode cX10_got 107 = .ok (.getfield 23, 3) := by decide +kernel
theorem dX10_got_110 : decode cX10_got 110 = .ok (.iload_n 2, 1) := by decide +kernel
theorem dX10_got_111 : decode cX10_got 111 = .ok (.iaload, 1) := by decide +kernel
theorem dX10_got_112 : decode cX10_got 112 = .ok (.invokevirtual 187, 3) := by decide +kernel
theorem dX10_got_115 : decode cX10_got 115 = .ok (.return_, 1) := by decide +kernel
theorem dX10_got_116 : decode cX10_got 116 = .ok (.aload_n 0, 1) := by decide +kernel
theorem dX10_got_117 : decode cX10_got 117 = .ok (.getfield 54, 3) := by decide +kernel
theorem dX10_got_120 : decode cX10_got 120 = .ok (.iload_n 1, 1) := by decide +kernel
theorem dX10_got_121 : decode cX10_got 121 = .ok (.iaload, 1) := by decide +kernel
theorem dX10_got_122 : decode cX10_got 122 = .ok (.tableswitch 181 0 4 #[34, 44, 73, 83, 108], 34) := by decide +kernel
theorem dX10_got_156 : decode cX10_got 156 = .ok (.aload_n 0, 1) := by decide +kernel
theorem dX10_got_157 : decode cX10_got 157 = .ok (.iload_n 1, 1) := by decide +kernel
theorem dX10_got_158 : decode cX10_got 158 = .ok (.iload_n 2, 1) := by decide +kernel
theorem dX10_got_159 : decode cX10_got 159 = .ok (.iload_n 3, 1) := by decide +kernel
theorem dX10_got_160 : decode cX10_got 160 = .ok (.invokevirtual 191, 3) := by decide +kernel
theorem dX10_got_163 : decode cX10_got 163 = .ok (.goto 147, 3) := by decide +kernel
theorem dX10_got_166 : decode cX10_got 166 = .ok (.aload_n 0, 1) := by decide +kernel
theorem dX10_got_167 : decode cX10_got 167 = .ok (.getfield 32, 3) := by decide +kernel
theorem dX10_got_170 : decode cX10_got 170 = .ok (.iload_n 2, 1) := by decide +kernel
theorem dX10_got_171 : decode cX10_got 171 = .ok (.iaload, 1) := by decide +kernel
theorem dX10_got_172 : decode cX10_got 172 = .ok (.iconst 1, 1) := by decide +kernel
theorem dX10_got_173 : decode cX10_got 173 = .ok (.if_icmp .ne 137, 3) := by decide +kernel
theorem dX10_got_176 : decode cX10_got 176 = .ok (.aload_n 0, 1) := by decide +kernel
theorem dX10_got_177 : decode cX10_got 177 = .ok (.getfield 66, 3) := by decide +kernel
theorem dX10_got_180 : decode cX10_got 180 = .ok (.iload_n 1, 1) := by decide +kernel
theorem dX10_got_181 : decode cX10_got 181 = .ok (.iaload, 1) := by decide +kernel
theorem dX10_got_182 : decode cX10_got 182 = .ok (.iconst 1, 1) := by decide +kernel
theorem dX10_got_183 : decode cX10_got 183 = .ok (.if_icmp .ne 127, 3) := by decide +kernel
theorem dX10_got_186 : decode cX10_got 186 = .ok (.aload_n 0, 1) := by decide +kernel
theorem dX10_got_187 : decode cX10_got 187 = .ok (.iload_n 2, 1) := by decide +kernel
theorem dX10_got_188 : decode cX10_got 188 = .ok (.iload_n 3, 1) := by decide +kernel
theorem dX10_got_189 : decode cX10_got 189 = .ok (.invokevirtual 194, 3) := by decide +kernel
theorem dX10_got_192 : decode cX10_got 192 = .ok (.goto 118, 3) := by decide +kernel
theorem dX10_got_195 : decode cX10_got 195 = .ok (.aload_n 0, 1) := by decide +kernel
theorem dX10_got_196 : decode cX10_got 196 = .ok (.iload_n 1, 1) := by decide +kernel
theorem dX10_got_197 : decode cX10_got 197 = .ok (.iload_n 2, 1) := by decide +kernel
theorem dX10_got_198 : decode cX10_got 198 = .ok (.iload_n 3, 1) := by decide +kernel
theorem dX10_got_199 : decode cX10_got 199 = .ok (.invokevirtual 197, 3) := by decide +kernel
theorem dX10_got_202 : decode cX10_got 202 = .ok (.goto 108, 3) := by decide +kernel
theorem dX10_got_205 : decode cX10_got 205 = .ok (.aload_n 0, 1) := by decide +kernel
theorem dX10_got_206 : decode cX10_got 206 = .ok (.getfield 32, 3) := by decide +kernel
theorem dX10_got_209 : decode cX10_got 209 = .ok (.iload_n 2, 1) := by decide +kernel
theorem dX10_got_210 : decode cX10_got 210 = .ok (.iaload, 1) := by decide +kernel
theorem dX10_got_211 : decode cX10_got 211 = .ok (.iconst 2, 1) := by decide +kernel
theorem dX10_got_212 : decode cX10_got 212 = .ok (.if_icmp .ne 98, 3) := by decide +kernel
theorem dX10_got_215 : decode cX10_got 215 = .ok (.aload_n 0, 1) := by decide +kernel
theorem dX10_got_216 : decode cX10_got 216 = .ok (.iload_n 2, 1) := by decide +kernel
theorem dX10_got_217 : decode cX10_got 217 = .ok (.iload_n 3, 1) := by decide +kernel
theorem dX10_got_218 : decode cX10_got 218 = .ok (.aload_n 0, 1) := by decide +kernel
theorem dX10_got_219 : decode cX10_got 219 = .ok (.getfield 66, 3) := by decide +kernel
theorem dX10_got_222 : decode cX10_got 222 = .ok (.iload_n 1, 1) := by decide +kernel
theorem dX10_got_223 : decode cX10_got 223 = .ok (.iaload, 1) := by decide +kernel
theorem dX10_got_224 : decode cX10_got 224 = .ok (.invokevirtual 200, 3) := by decide +kernel
theorem dX10_got_227 : decode cX10_got 227 = .ok (.goto 83, 3) := by decide +kernel
theorem dX10_got_230 : decode cX10_got 230 = .ok (.aload_n 0, 1) := by decide +kernel
theorem dX10_got_231 : decode cX10_got 231 = .ok (.getfield 32, 3) := by decide +kernel
theorem dX10_got_234 : decode cX10_got 234 = .ok (.iload_n 2, 1) := by decide +kernel
theorem dX10_got_235 : decode cX10_got 235 = .ok (.iaload, 1) := by decide +kernel
theorem dX10_got_236 : decode cX10_got 236 = .ok (.iconst 2, 1) := by decide +kernel
theorem dX10_got_237 : decode cX10_got 237 = .ok (.if_icmp .ne 73, 3) := by decide +kernel
theorem dX10_got_240 : decode cX10_got 240 = .ok (.aload_n 0, 1) := by decide +kernel
theorem dX10_got_241 : decode cX10_got 241 = .ok (.getfield 41, 3) := by decide +kernel
theorem dX10_got_244 : decode cX10_got 244 = .ok (.iconst 5, 1) := by decide +kernel
theorem dX10_got_245 : decode cX10_got 245 = .ok (.iload_n 2, 1) := by decide +kernel
theorem dX10_got_246 : decode cX10_got 246 = .ok (.imul, 1) := by decide +kernel
theorem dX10_got_247 : decode cX10_got 247 = .ok (.iload_n 3, 1) := by decide +kernel
theorem dX10_got_248 : decode cX10_got 248 = .ok (.iadd, 1) := by decide +kernel
theorem dX10_got_249 : decode cX10_got 249 = .ok (.iaload, 1) := by decide +kernel
theorem dX10_got_250 : decode cX10_got 250 = .ok (.aload_n 0, 1) := by decide +kernel
theorem dX10_got_251 : decode cX10_got 251 = .ok (.getfield 66, 3) := by decide +kernel
theorem dX10_got_254 : decode cX10_got 254 = .ok (.iload_n 1, 1) := by decide +kernel
theorem dX10_got_255 : decode cX10_got 255 = .ok (.iaload, 1) := by decide +kernel
theorem dX10_got_256 : decode cX10_got 256 = .ok (.iconst 1, 1) := by decide +kernel
theorem dX10_got_257 : decode cX10_got 257 = .ok (.iadd, 1) := by decide +kernel
theorem dX10_got_258 : decode cX10_got 258 = .ok (.if_icmp .le 36, 3) := by decide +kernel
theorem dX10_got_261 : decode cX10_got 261 = .ok (.aload_n 0, 1) := by decide +kernel
theorem dX10_got_262 : decode cX10_got 262 = .ok (.getfield 41, 3) := by decide +kernel
theorem dX10_got_265 : decode cX10_got 265 = .ok (.iconst 5, 1) := by decide +kernel
theorem dX10_got_266 : decode cX10_got 266 = .ok (.iload_n 2, 1) := by decide +kernel
theorem dX10_got_267 : decode cX10_got 267 = .ok (.imul, 1) := by decide +kernel
theorem dX10_got_268 : decode cX10_got 268 = .ok (.iload_n 3, 1) := by decide +kernel
theorem dX10_got_269 : decode cX10_got 269 = .ok (.iadd, 1) := by decide +kernel
theorem dX10_got_270 : decode cX10_got 270 = .ok (.aload_n 0, 1) := by decide +kernel
theorem dX10_got_271 : decode cX10_got 271 = .ok (.getfield 66, 3) := by decide +kernel
theorem dX10_got_274 : decode cX10_got 274 = .ok (.iload_n 1, 1) := by decide +kernel
theorem dX10_got_275 : decode cX10_got 275 = .ok (.iaload, 1) := by decide +kernel
theorem dX10_got_276 : decode cX10_got 276 = .ok (.iconst 1, 1) := by decide +kernel
theorem dX10_got_277 : decode cX10_got 277 = .ok (.iadd, 1) := by decide +kernel
theorem dX10_got_278 : decode cX10_got 278 = .ok (.aload_n 0, 1) := by decide +kernel
theorem dX10_got_279 : decode cX10_got 279 = .ok (.getfield 44, 3) := by decide +kernel
theorem dX10_got_282 : decode cX10_got 282 = .ok (.iconst 5, 1) := by decide +kernel
theorem dX10_got_283 : decode cX10_got 283 = .ok (.iload_n 2, 1) := by decide +kernel
theorem dX10_got_284 : decode cX10_got 284 = .ok (.imul, 1) := by decide +kernel
theorem dX10_got_285 : decode cX10_got 285 = .ok (.iload_n 3, 1) := by decide +kernel
theorem dX10_got_286 : decode cX10_got 286 = .ok (.iadd, 1) := by decide +kernel
theorem dX10_got_287 : decode cX10_got 287 = .ok (.iaload, 1) := by decide +kernel
theorem dX10_got_288 : decode cX10_got 288 = .ok (.iconst 1, 1) := by decide +kernel
theorem dX10_got_289 : decode cX10_got 289 = .ok (.iadd, 1) := by decide +kernel
theorem dX10_got_290 : decode cX10_got 290 = .ok (.invokestatic 203, 3) := by decide +kernel
theorem dX10_got_293 : decode cX10_got 293 = .ok (.iastore, 1) := by decide +kernel
theorem dX10_got_294 : decode cX10_got 294 = .ok (.aload_n 0, 1) := by decide +kernel
theorem dX10_got_295 : decode cX10_got 295 = .ok (.iload_n 2, 1) := by decide +kernel
theorem dX10_got_296 : decode cX10_got 296 = .ok (.iload_n 3, 1) := by decide +kernel
theorem dX10_got_297 : decode cX10_got 297 = .ok (.invokevirtual 164, 3) := by decide +kernel
theorem dX10_got_300 : decode cX10_got 300 = .ok (.goto 10, 3) := by decide +kernel
theorem dX10_got_303 : decode cX10_got 303 = .ok (.aload_n 0, 1) := by decide +kernel
theorem dX10_got_304 : decode cX10_got 304 = .ok (.iload_n 1, 1) := by decide +kernel
theorem dX10_got_305 : decode cX10_got 305 = .ok (.iload_n 2, 1) := by decide +kernel
theorem dX10_got_306 : decode cX10_got 306 = .ok (.iload_n 3, 1) := by decide +kernel
theorem dX10_got_307 : decode cX10_got 307 = .ok (.invokevirtual 206, 3) := by decide +kernel
theorem dX10_got_310 : decode cX10_got 310 = .ok (.return_, 1) := by decide +kernel
theorem dX10_asked_0 : decode cX10_asked 0 = .ok (.aload_n 0, 1) := by decide +kernel
theorem dX10_asked_1 : decode cX10_asked 1 = .ok (.iload_n 2, 1) := by decide +kernel
theorem dX10_asked_2 : decode cX10_asked 2 = .ok (.aload_n 0, 1) := by decide +kernel
theorem dX10_asked_3 : decode cX10_asked 3 = .ok (.getfield 23, 3) := by decide +kernel
theorem dX10_asked_6 : decode cX10_asked 6 = .ok (.iload_n 2, 1) := by decide +kernel
theorem dX10_asked_7 : decode cX10_asked 7 = .ok (.iaload, 1) := by decide +kernel
theorem dX10_asked_8 : decode cX10_asked 8 = .ok (.invokevirtual 156, 3) := by decide +kernel
theorem dX10_asked_11 : decode cX10_asked 11 = .ok (.istore 4, 2) := by decide +kernel
theorem dX10_asked_13 : decode cX10_asked 13 = .ok (.aload_n 0, 1) := by decide +kernel
theorem dX10_asked_14 : decode cX10_asked 14 = .ok (.getfield 17, 3) := by decide +kernel
theorem dX10_asked_17 : decode cX10_asked 17 = .ok (.iload_n 2, 1) := by decide +kernel
theorem dX10_asked_18 : decode cX10_asked 18 = .ok (.iaload, 1) := by decide +kernel
theorem dX10_asked_19 : decode cX10_asked 19 = .ok (.iconst (-1), 1) := by decide +kernel
theorem dX10_asked_20 : decode cX10_asked 20 = .ok (.if_icmp .eq 13, 3) := by decide +kernel
theorem dX10_asked_23 : decode cX10_asked 23 = .ok (.aload_n 0, 1) := by decide +kernel
theorem dX10_asked_24 : decode cX10_asked 24 = .ok (.getfield 17, 3) := by decide +kernel
theorem dX10_asked_27 : decode cX10_asked 27 = .ok (.iload_n 2, 1) := by decide +kernel
theorem dX10_asked_28 : decode cX10_asked 28 = .ok (.iaload, 1) := by decide +kernel
theorem dX10_asked_29 : decode cX10_asked 29 = .ok (.iload_n 3, 1) := by decide +kernel
theorem dX10_asked_30 : decode cX10_asked 30 = .ok (.if_icmp .ne 44, 3) := by decide +kernel
theorem dX10_asked_33 : decode cX10_asked 33 = .ok (.aload_n 0, 1) := by decide +kernel
theorem dX10_asked_34 : decode cX10_asked 34 = .ok (.getfield 69, 3) := by decide +kernel
theorem dX10_asked_37 : decode cX10_asked 37 = .ok (.iload_n 1, 1) := by decide +kernel
theorem dX10_asked_38 : decode cX10_asked 38 = .ok (.iaload, 1) := by decide +kernel
theorem dX10_asked_39 : decode cX10_asked 39 = .ok (.iload 4, 2) := by decide +kernel
theorem dX10_asked_41 : decode cX10_asked 41 = .ok (.if_icmp .gt 29, 3) := by decide +kernel
theorem dX10_asked_44 : decode cX10_asked 44 = .ok (.aload_n 0, 1) := by decide +kernel
theorem dX10_asked_45 : decode cX10_asked 45 = .ok (.getfield 69, 3) := by decide +kernel
theorem dX10_asked_48 : decode cX10_asked 48 = .ok (.iload_n 1, 1) := by decide +kernel
theorem dX10_asked_49 : decode cX10_asked 49 = .ok (.iaload, 1) := by decide +kernel
theorem dX10_asked_50 : decode cX10_asked 50 = .ok (.iload 4, 2) := by decide +kernel
theorem dX10_asked_52 : decode cX10_asked 52 = .ok (.if_icmp .ne 22, 3) := by decide +kernel
theorem dX10_asked_55 : decode cX10_asked 55 = .ok (.aload_n 0, 1) := by decide +kernel
theorem dX10_asked_56 : decode cX10_asked 56 = .ok (.getfield 66, 3) := by decide +kernel
theorem dX10_asked_59 : decode cX10_asked 59 = .ok (.iload_n 1, 1) := by decide +kernel
theorem dX10_asked_60 : decode cX10_asked 60 = .ok (.iaload, 1) := by decide +kernel
theorem dX10_asked_61 : decode cX10_asked 61 = .ok (.aload_n 0, 1) := by decide +kernel
theorem dX10_asked_62 : decode cX10_asked 62 = .ok (.getfield 23, 3) := by decide +kernel
theorem dX10_asked_65 : decode cX10_asked 65 = .ok (.iload_n 2, 1) := by decide +kernel
theorem dX10_asked_66 : decode cX10_asked 66 = .ok (.iaload, 1) := by decide +kernel
theorem dX10_asked_67 : decode cX10_asked 67 = .ok (.if_icmp .lt 7, 3) := by decide +kernel
theorem dX10_asked_70 : decode cX10_asked 70 = .ok (.iconst 1, 1) := by decide +kernel
theorem dX10_asked_71 : decode cX10_asked 71 = .ok (.goto 4, 3) := by decide +kernel
theorem dX10_asked_74 : decode cX10_asked 74 = .ok (.iconst 0, 1) := by decide +kernel
theorem dX10_asked_75 : decode cX10_asked 75 = .ok (.istore 5, 2) := by decide +kernel
theorem dX10_asked_77 : decode cX10_asked 77 = .ok (.iload 5, 2) := by decide +kernel
theorem dX10_asked_79 : decode cX10_asked 79 = .ok (.ifCond .eq 29, 3) := by decide +kernel
theorem dX10_asked_82 : decode cX10_asked 82 = .ok (.aload_n 0, 1) := by decide +kernel
theorem dX10_asked_83 : decode cX10_asked 83 = .ok (.getfield 17, 3) := by decide +kernel
theorem dX10_asked_86 : decode cX10_asked 86 = .ok (.iload_n 2, 1) := by decide +kernel
theorem dX10_asked_87 : decode cX10_asked 87 = .ok (.iaload, 1) := by decide +kernel
theorem dX10_asked_88 : decode cX10_asked 88 = .ok (.iload_n 3, 1) := by decide +kernel
theorem dX10_asked_89 : decode cX10_asked 89 = .ok (.if_icmp .eq 19, 3) := by decide +kernel
theorem dX10_asked_92 : decode cX10_asked 92 = .ok (.aload_n 0, 1) := by decide +kernel
theorem dX10_asked_93 : decode cX10_asked 93 = .ok (.iload_n 2, 1) := by decide +kernel
theorem dX10_asked_94 : decode cX10_asked 94 = .ok (.invokevirtual 176, 3) := by decide +kernel
theorem dX10_asked_97 : decode cX10_asked 97 = .ok (.ifCond .ne 4, 3) := by decide +kernel
theorem dX10_asked_100 : decode cX10_asked 100 = .ok (.return_, 1) := by decide +kernel
theorem dX10_asked_101 : decode cX10_asked 101 = .ok (.aload_n 0, 1) := by decide +kernel
theorem dX10_asked_102 : decode cX10_asked 102 = .ok (.getfield 17, 3) := by decide +kernel
theorem dX10_asked_105 : decode cX10_asked 105 = .ok (.iload_n 2, 1) := by decide +kernel
theorem dX10_asked_106 : decode cX10_asked 106 = .ok (.iload_n 3, 1) := by decide +kernel
theorem dX10_asked_107 : decode cX10_asked 107 = .ok (.iastore, 1) := by decide +kernel
theorem dX10_asked_108 : decode cX10_asked 108 = .ok (.aload_n 0, 1) := by decide +kernel
theorem dX10_asked_109 : decode cX10_asked 109 = .ok (.iconst 1, 1) := by decide +kernel
theorem dX10_asked_110 : decode cX10_asked 110 = .ok (.iload_n 2, 1) := by decide +kernel
theorem dX10_asked_111 : decode cX10_asked 111 = .ok (.iload_n 3, 1) := by decide +kernel
theorem dX10_asked_112 : decode cX10_asked 112 = .ok (.iload 5, 2) := by decide +kernel
theorem dX10_asked_114 : decode cX10_asked 114 = .ok (.ifCond .eq 7, 3) := by decide +kernel
theorem dX10_asked_117 : decode cX10_asked 117 = .ok (.iconst 1, 1) := by decide +kernel
theorem dX10_asked_118 : decode cX10_asked 118 = .ok (.goto 4, 3) := by decide +kernel
theorem dX10_asked_121 : decode cX10_asked 121 = .ok (.iconst 0, 1) := by decide +kernel
theorem dX10_asked_122 : decode cX10_asked 122 = .ok (.invokevirtual 187, 3) := by decide +kernel
theorem dX10_asked_125 : decode cX10_asked 125 = .ok (.return_, 1) := by decide +kernel
theorem dX10_counts_0 : decode cX10_counts 0 = .ok (.aload_n 0, 1) := by decide +kernel
theorem dX10_counts_1 : decode cX10_counts 1 = .ok (.getfield 35, 3) := by decide +kernel
theorem dX10_counts_4 : decode cX10_counts 4 = .ok (.iload_n 1, 1) := by decide +kernel
theorem dX10_counts_5 : decode cX10_counts 5 = .ok (.dup2, 1) := by decide +kernel
theorem dX10_counts_6 : decode cX10_counts 6 = .ok (.iaload, 1) := by decide +kernel
theorem dX10_counts_7 : decode cX10_counts 7 = .ok (.iconst 1, 1) := by decide +kernel
theorem dX10_counts_8 : decode cX10_counts 8 = .ok (.iload_n 2, 1) := by decide +kernel
theorem dX10_counts_9 : decode cX10_counts 9 = .ok (.ishl, 1) := by decide +kernel
theorem dX10_counts_10 : decode cX10_counts 10 = .ok (.ior, 1) := by decide +kernel
theorem dX10_counts_11 : decode cX10_counts 11 = .ok (.iastore, 1) := by decide +kernel
theorem dX10_counts_12 : decode cX10_counts 12 = .ok (.iconst 0, 1) := by decide +kernel
theorem dX10_counts_13 : decode cX10_counts 13 = .ok (.istore_n 3, 1) := by decide +kernel
theorem dX10_counts_14 : decode cX10_counts 14 = .ok (.iconst 0, 1) := by decide +kernel
theorem dX10_counts_15 : decode cX10_counts 15 = .ok (.istore 4, 2) := by decide +kernel
theorem dX10_counts_17 : decode cX10_counts 17 = .ok (.iload 4, 2) := by decide +kernel
theorem dX10_counts_19 : decode cX10_counts 19 = .ok (.iconst 5, 1) := by decide +kernel
theorem dX10_counts_20 : decode cX10_counts 20 = .ok (.if_icmp .ge 23, 3) := by decide +kernel
theorem dX10_counts_23 : decode cX10_counts 23 = .ok (.iload_n 3, 1) := by decide +kernel
theorem dX10_counts_24 : decode cX10_counts 24 = .ok (.aload_n 0, 1) := by decide +kernel
theorem dX10_counts_25 : decode cX10_counts 25 = .ok (.getfield 35, 3) := by decide +kernel
theorem dX10_counts_28 : decode cX10_counts 28 = .ok (.iload_n 1, 1) := by decide +kernel
theorem dX10_counts_29 : decode cX10_counts 29 = .ok (.iaload, 1) := by decide +kernel
theorem dX10_counts_30 : decode cX10_counts 30 = .ok (.iload 4, 2) := by decide +kernel
theorem dX10_counts_32 : decode cX10_counts 32 = .ok (.ishr, 1) := by decide +kernel
theorem dX10_counts_33 : decode cX10_counts 33 = .ok (.iconst 1, 1) := by decide +kernel
theorem dX10_counts_34 : decode cX10_counts 34 = .ok (.iand, 1) := by decide +kernel
theorem dX10_counts_35 : decode cX10_counts 35 = .ok (.iadd, 1) := by decide +kernel
theorem dX10_counts_36 : decode cX10_counts 36 = .ok (.istore_n 3, 1) := by decide +kernel
theorem dX10_counts_37 : decode cX10_counts 37 = .ok (.iinc 4 1, 3) := by decide +kernel
theorem dX10_counts_40 : decode cX10_counts 40 = .ok (.goto (-23), 3) := by decide +kernel
theorem dX10_counts_43 : decode cX10_counts 43 = .ok (.iload_n 3, 1) := by decide +kernel
theorem dX10_counts_44 : decode cX10_counts 44 = .ok (.iconst 3, 1) := by decide +kernel
theorem dX10_counts_45 : decode cX10_counts 45 = .ok (.if_icmp .ge 4, 3) := by decide +kernel
theorem dX10_counts_48 : decode cX10_counts 48 = .ok (.return_, 1) := by decide +kernel
theorem dX10_counts_49 : decode cX10_counts 49 = .ok (.aload_n 0, 1) := by decide +kernel
theorem dX10_counts_50 : decode cX10_counts 50 = .ok (.getfield 32, 3) := by decide +kernel
theorem dX10_counts_53 : decode cX10_counts 53 = .ok (.iload_n 1, 1) := by decide +kernel
theorem dX10_counts_54 : decode cX10_counts 54 = .ok (.iconst 2, 1) := by decide +kernel
theorem dX10_counts_55 : decode cX10_counts 55 = .ok (.iastore, 1) := by decide +kernel
theorem dX10_counts_56 : decode cX10_counts 56 = .ok (.iconst 0, 1) := by decide +kernel
theorem dX10_counts_57 : decode cX10_counts 57 = .ok (.istore 4, 2) := by decide +kernel
theorem dX10_counts_59 : decode cX10_counts 59 = .ok (.iload 4, 2) := by decide +kernel
theorem dX10_counts_61 : decode cX10_counts 61 = .ok (.iconst 5, 1) := by decide +kernel
theorem dX10_counts_62 : decode cX10_counts 62 = .ok (.if_icmp .ge 40, 3) := by decide +kernel
theorem dX10_counts_65 : decode cX10_counts 65 = .ok (.aload_n 0, 1) := by decide +kernel
theorem dX10_counts_66 : decode cX10_counts 66 = .ok (.getfield 41, 3) := by decide +kernel
theorem dX10_counts_69 : decode cX10_counts 69 = .ok (.iconst 5, 1) := by decide +kernel
theorem dX10_counts_70 : decode cX10_counts 70 = .ok (.iload_n 1, 1) := by decide +kernel
theorem dX10_counts_71 : decode cX10_counts 71 = .ok (.imul, 1) := by decide +kernel
theorem dX10_counts_72 : decode cX10_counts 72 = .ok (.iload 4, 2) := by decide +kernel
theorem dX10_counts_74 : decode cX10_counts 74 = .ok (.iadd, 1) := by decide +kernel
theorem dX10_counts_75 : decode cX10_counts 75 = .ok (.aload_n 0, 1) := by decide +kernel
theorem dX10_counts_76 : decode cX10_counts 76 = .ok (.getfield 23, 3) := by decide +kernel
theorem dX10_counts_79 : decode cX10_counts 79 = .ok (.iload_n 1, 1) := by decide +kernel
theorem dX10_counts_80 : decode cX10_counts 80 = .ok (.iaload, 1) := by decide +kernel
theorem dX10_counts_81 : decode cX10_counts 81 = .ok (.iconst 1, 1) := by decide +kernel
theorem dX10_counts_82 : decode cX10_counts 82 = .ok (.iadd, 1) := by decide +kernel
theorem dX10_counts_83 : decode cX10_counts 83 = .ok (.iastore, 1) := by decide +kernel
theorem dX10_counts_84 : decode cX10_counts 84 = .ok (.aload_n 0, 1) := by decide +kernel
theorem dX10_counts_85 : decode cX10_counts 85 = .ok (.getfield 44, 3) := by decide +kernel
theorem dX10_counts_88 : decode cX10_counts 88 = .ok (.iconst 5, 1) := by decide +kernel
theorem dX10_counts_89 : decode cX10_counts 89 = .ok (.iload_n 1, 1) := by decide +kernel
theorem dX10_counts_90 : decode cX10_counts 90 = .ok (.imul, 1) := by decide +kernel
theorem dX10_counts_91 : decode cX10_counts 91 = .ok (.iload 4, 2) := by decide +kernel
theorem dX10_counts_93 : decode cX10_counts 93 = .ok (.iadd, 1) := by decide +kernel
theorem dX10_counts_94 : decode cX10_counts 94 = .ok (.iconst 0, 1) := by decide +kernel
theorem dX10_counts_95 : decode cX10_counts 95 = .ok (.iastore, 1) := by decide +kernel
theorem dX10_counts_96 : decode cX10_counts 96 = .ok (.iinc 4 1, 3) := by decide +kernel
theorem dX10_counts_99 : decode cX10_counts 99 = .ok (.goto (-40), 3) := by decide +kernel
theorem dX10_counts_102 : decode cX10_counts 102 = .ok (.aload_n 0, 1) := by decide +kernel
theorem dX10_counts_103 : decode cX10_counts 103 = .ok (.getfield 23, 3) := by decide +kernel
theorem dX10_counts_106 : decode cX10_counts 106 = .ok (.iload_n 1, 1) := by decide +kernel
theorem dX10_counts_107 : decode cX10_counts 107 = .ok (.iaload, 1) := by decide +kernel
theorem dX10_counts_108 : decode cX10_counts 108 = .ok (.sipush 1200, 3) := by decide +kernel
theorem dX10_counts_111 : decode cX10_counts 111 = .ok (.if_icmp .ge 19, 3) := by decide +kernel
theorem dX10_counts_114 : decode cX10_counts 114 = .ok (.aload_n 0, 1) := by decide +kernel
theorem dX10_counts_115 : decode cX10_counts 115 = .ok (.iload_n 1, 1) := by decide +kernel
theorem dX10_counts_116 : decode cX10_counts 116 = .ok (.iconst 0, 1) := by decide +kernel
theorem dX10_counts_117 : decode cX10_counts 117 = .ok (.iconst 0, 1) := by decide +kernel
theorem dX10_counts_118 : decode cX10_counts 118 = .ok (.iconst 0, 1) := by decide +kernel
theorem dX10_counts_119 : decode cX10_counts 119 = .ok (.iconst 0, 1) := by decide +kernel
theorem dX10_counts_120 : decode cX10_counts 120 = .ok (.iconst 0, 1) := by decide +kernel
theorem dX10_counts_121 : decode cX10_counts 121 = .ok (.iconst 0, 1) := by decide +kernel
theorem dX10_counts_122 : decode cX10_counts 122 = .ok (.iconst 0, 1) := by decide +kernel
theorem dX10_counts_123 : decode cX10_counts 123 = .ok (.invokevirtual 209, 3) := by decide +kernel
theorem dX10_counts_126 : decode cX10_counts 126 = .ok (.ifCond .ne 4, 3) := by decide +kernel
theorem dX10_counts_129 : decode cX10_counts 129 = .ok (.return_, 1) := by decide +kernel
theorem dX10_counts_130 : decode cX10_counts 130 = .ok (.aload_n 0, 1) := by decide +kernel
theorem dX10_counts_131 : decode cX10_counts 131 = .ok (.iload_n 1, 1) := by decide +kernel
theorem dX10_counts_132 : decode cX10_counts 132 = .ok (.invokevirtual 213, 3) := by decide +kernel
theorem dX10_counts_135 : decode cX10_counts 135 = .ok (.return_, 1) := by decide +kernel
theorem dX10_appends_0 : decode cX10_appends 0 = .ok (.aload_n 0, 1) := by decide +kernel
theorem dX10_appends_1 : decode cX10_appends 1 = .ok (.getfield 32, 3) := by decide +kernel
theorem dX10_appends_4 : decode cX10_appends 4 = .ok (.iload_n 2, 1) := by decide +kernel
theorem dX10_appends_5 : decode cX10_appends 5 = .ok (.iconst 0, 1) := by decide +kernel
theorem dX10_appends_6 : decode cX10_appends 6 = .ok (.iastore, 1) := by decide +kernel
theorem dX10_appends_7 : decode cX10_appends 7 = .ok (.aload_n 0, 1) := by decide +kernel
theorem dX10_appends_8 : decode cX10_appends 8 = .ok (.getfield 66, 3) := by decide +kernel
theorem dX10_appends_11 : decode cX10_appends 11 = .ok (.iload_n 1, 1) := by decide +kernel
theorem dX10_appends_12 : decode cX10_appends 12 = .ok (.iaload, 1) := by decide +kernel
theorem dX10_appends_13 : decode cX10_appends 13 = .ok (.istore 4, 2) := by decide +kernel
theorem dX10_appends_15 : decode cX10_appends 15 = .ok (.iconst 0, 1) := by decide +kernel
theorem dX10_appends_16 : decode cX10_appends 16 = .ok (.istore 5, 2) := by decide +kernel
theorem dX10_appends_18 : decode cX10_appends 18 = .ok (.iload 4, 2) := by decide +kernel
theorem dX10_appends_20 : decode cX10_appends 20 = .ok (.aload_n 0, 1) := by decide +kernel
theorem dX10_appends_21 : decode cX10_appends 21 = .ok (.getfield 20, 3) := by decide +kernel
theorem dX10_appends_24 : decode cX10_appends 24 = .ok (.iload_n 2, 1) := by decide +kernel
theorem dX10_appends_25 : decode cX10_appends 25 = .ok (.iaload, 1) := by decide +kernel
theorem dX10_appends_26 : decode cX10_appends 26 = .ok (.if_icmp .ge 7, 3) := by decide +kernel
theorem dX10_appends_29 : decode cX10_appends 29 = .ok (.iconst 1, 1) := by decide +kernel
theorem dX10_appends_30 : decode cX10_appends 30 = .ok (.goto 4, 3) := by decide +kernel
theorem dX10_appends_33 : decode cX10_appends 33 = .ok (.iconst 0, 1) := by decide +kernel
theorem dX10_appends_34 : decode cX10_appends 34 = .ok (.istore 6, 2) := by decide +kernel
theorem dX10_appends_36 : decode cX10_appends 36 = .ok (.iload 5, 2) := by decide +kernel
theorem dX10_appends_38 : decode cX10_appends 38 = .ok (.aload_n 0, 1) := by decide +kernel
theorem dX10_appends_39 : decode cX10_appends 39 = .ok (.getfield 72, 3) := by decide +kernel
theorem dX10_appends_42 : decode cX10_appends 42 = .ok (.iload_n 1, 1) := by decide +kernel
theorem dX10_appends_43 : decode cX10_appends 43 = .ok (.iaload, 1) := by decide +kernel
theorem dX10_appends_44 : decode cX10_appends 44 = .ok (.if_icmp .ge 23, 3) := by decide +kernel
theorem dX10_appends_47 : decode cX10_appends 47 = .ok (.iload 4, 2) := by decide +kernel
theorem dX10_appends_49 : decode cX10_appends 49 = .ok (.aload_n 0, 1) := by decide +kernel
theorem dX10_appends_50 : decode cX10_appends 50 = .ok (.getfield 20, 3) := by decide +kernel
theorem dX10_appends_53 : decode cX10_appends 53 = .ok (.iload_n 2, 1) := by decide +kernel
theorem dX10_appends_54 : decode cX10_appends 54 = .ok (.iaload, 1) := by decide +kernel
theorem dX10_appends_55 : decode cX10_appends 55 = .ok (.if_icmp .ge 12, 3) := by decide +kernel
theorem dX10_appends_58 : decode cX10_appends 58 = .ok (.iinc 4 1, 3) := by decide +kernel
theorem dX10_appends_61 : decode cX10_appends 61 = .ok (.iinc 5 1, 3) := by decide +kernel
theorem dX10_appends_64 : decode cX10_appends 64 = .ok (.goto (-28), 3) := by decide +kernel
theorem dX10_appends_67 : decode cX10_appends 67 = .ok (.iload 4, 2) := by decide +kernel
theorem dX10_appends_69 : decode cX10_appends 69 = .ok (.aload_n 0, 1) := by decide +kernel
theorem dX10_appends_70 : decode cX10_appends 70 = .ok (.getfield 20, 3) := by decide +kernel
theorem dX10_appends_73 : decode cX10_appends 73 = .ok (.iload_n 2, 1) := by decide +kernel
theorem dX10_appends_74 : decode cX10_appends 74 = .ok (.iaload, 1) := by decide +kernel
theorem dX10_appends_75 : decode cX10_appends 75 = .ok (.if_icmp .ge 11, 3) := by decide +kernel
theorem dX10_appends_78 : decode cX10_appends 78 = .ok (.aload_n 0, 1) := by decide +kernel
theorem dX10_appends_79 : decode cX10_appends 79 = .ok (.getfield 20, 3) := by decide +kernel
theorem dX10_appends_82 : decode cX10_appends 82 = .ok (.iload_n 2, 1) := by decide +kernel
theorem dX10_appends_83 : decode cX10_appends 83 = .ok (.iaload, 1) := by decide +kernel
theorem dX10_appends_84 : decode cX10_appends 84 = .ok (.istore 4, 2) := by decide +kernel
theorem dX10_appends_86 : decode cX10_appends 86 = .ok (.iload 4, 2) := by decide +kernel
theorem dX10_appends_88 : decode cX10_appends 88 = .ok (.aload_n 0, 1) := by decide +kernel
theorem dX10_appends_89 : decode cX10_appends 89 = .ok (.getfield 23, 3) := by decide +kernel
theorem dX10_appends_92 : decode cX10_appends 92 = .ok (.iload_n 2, 1) := by decide +kernel
theorem dX10_appends_93 : decode cX10_appends 93 = .ok (.iaload, 1) := by decide +kernel
theorem dX10_appends_94 : decode cX10_appends 94 = .ok (.if_icmp .le 17, 3) := by decide +kernel
theorem dX10_appends_97 : decode cX10_appends 97 = .ok (.aload_n 0, 1) := by decide +kernel
theorem dX10_appends_98 : decode cX10_appends 98 = .ok (.iconst 4, 1) := by decide +kernel
theorem dX10_appends_99 : decode cX10_appends 99 = .ok (.iload_n 2, 1) := by decide +kernel
theorem dX10_appends_100 : decode cX10_appends 100 = .ok (.iload_n 3, 1) := by decide +kernel
theorem dX10_appends_101 : decode cX10_appends 101 = .ok (.aload_n 0, 1) := by decide +kernel
theorem dX10_appends_102 : decode cX10_appends 102 = .ok (.getfield 23, 3) := by decide +kernel
theorem dX10_appends_105 : decode cX10_appends 105 = .ok (.iload_n 2, 1) := by decide +kernel
theorem dX10_appends_106 : decode cX10_appends 106 = .ok (.iaload, 1) := by decide +kernel
theorem dX10_appends_107 : decode cX10_appends 107 = .ok (.invokevirtual 187, 3) := by decide +kernel
theorem dX10_appends_110 : decode cX10_appends 110 = .ok (.return_, 1) := by decide +kernel
theorem dX10_appends_111 : decode cX10_appends 111 = .ok (.iload 6, 2) := by decide +kernel
theorem dX10_appends_113 : decode cX10_appends 113 = .ok (.ifCond .ne 31, 3) := by decide +kernel
theorem dX10_appends_116 : decode cX10_appends 116 = .ok (.aload_n 0, 1) := by decide +kernel
theorem dX10_appends_117 : decode cX10_appends 117 = .ok (.iload_n 2, 1) := by decide +kernel
theorem dX10_appends_118 : decode cX10_appends 118 = .ok (.iload 4, 2) := by decide +kernel
theorem dX10_appends_120 : decode cX10_appends 120 = .ok (.invokevirtual 156, 3) := by decide +kernel
theorem dX10_appends_123 : decode cX10_appends 123 = .ok (.aload_n 0, 1) := by decide +kernel
theorem dX10_appends_124 : decode cX10_appends 124 = .ok (.getfield 69, 3) := by decide +kernel
theorem dX10_appends_127 : decode cX10_appends 127 = .ok (.iload_n 1, 1) := by decide +kernel
theorem dX10_appends_128 : decode cX10_appends 128 = .ok (.iaload, 1) := by decide +kernel
theorem dX10_appends_129 : decode cX10_appends 129 = .ok (.if_icmp .eq 15, 3) := by decide +kernel
theorem dX10_appends_132 : decode cX10_appends 132 = .ok (.aload_n 0, 1) := by decide +kernel
theorem dX10_appends_133 : decode cX10_appends 133 = .ok (.iconst 4, 1) := by decide +kernel
theorem dX10_appends_134 : decode cX10_appends 134 = .ok (.iload_n 2, 1) := by decide +kernel
theorem dX10_appends_135 : decode cX10_appends 135 = .ok (.iload_n 3, 1) := by decide +kernel
theorem dX10_appends_136 : decode cX10_appends 136 = .ok (.iload 4, 2) := by decide +kernel
theorem dX10_appends_138 : decode cX10_appends 138 = .ok (.iconst 1, 1) := by decide +kernel
theorem dX10_appends_139 : decode cX10_appends 139 = .ok (.isub, 1) := by decide +kernel
theorem dX10_appends_140 : decode cX10_appends 140 = .ok (.invokevirtual 187, 3) := by decide +kernel
theorem dX10_appends_143 : decode cX10_appends 143 = .ok (.return_, 1) := by decide +kernel
theorem dX10_appends_144 : decode cX10_appends 144 = .ok (.iload 4, 2) := by decide +kernel
theorem dX10_appends_146 : decode cX10_appends 146 = .ok (.istore 7, 2) := by decide +kernel
theorem dX10_appends_148 : decode cX10_appends 148 = .ok (.iload 5, 2) := by decide +kernel
theorem dX10_appends_150 : decode cX10_appends 150 = .ok (.istore 8, 2) := by decide +kernel
theorem dX10_appends_152 : decode cX10_appends 152 = .ok (.iload 8, 2) := by decide +kernel
theorem dX10_appends_154 : decode cX10_appends 154 = .ok (.aload_n 0, 1) := by decide +kernel
theorem dX10_appends_155 : decode cX10_appends 155 = .ok (.getfield 72, 3) := by decide +kernel
theorem dX10_appends_158 : decode cX10_appends 158 = .ok (.iload_n 1, 1) := by decide +kernel
theorem dX10_appends_159 : decode cX10_appends 159 = .ok (.iaload, 1) := by decide +kernel
theorem dX10_appends_160 : decode cX10_appends 160 = .ok (.if_icmp .ge 71, 3) := by decide +kernel
theorem dX10_appends_163 : decode cX10_appends 163 = .ok (.iinc 7 1, 3) := by decide +kernel
theorem dX10_appends_166 : decode cX10_appends 166 = .ok (.iload_n 1, 1) := by decide +kernel
theorem dX10_appends_167 : decode cX10_appends 167 = .ok (.iconst 4, 1) := by decide +kernel
theorem dX10_appends_168 : decode cX10_appends 168 = .ok (.imul, 1) := by decide +kernel
theorem dX10_appends_169 : decode cX10_appends 169 = .ok (.iload 8, 2) := by decide +kernel
theorem dX10_appends_171 : decode cX10_appends 171 = .ok (.iadd, 1) := by decide +kernel
theorem dX10_appends_172 : decode cX10_appends 172 = .ok (.bipush 8, 2) := by decide +kernel
theorem dX10_appends_174 : decode cX10_appends 174 = .ok (.imul, 1) := by decide +kernel
theorem dX10_appends_175 : decode cX10_appends 175 = .ok (.istore 9, 2) := by decide +kernel
theorem dX10_appends_177 : decode cX10_appends 177 = .ok (.iload 7, 2) := by decide +kernel
theorem dX10_appends_179 : decode cX10_appends 179 = .ok (.aload_n 0, 1) := by decide +kernel
theorem dX10_appends_180 : decode cX10_appends 180 = .ok (.getfield 23, 3) := by decide +kernel
theorem dX10_appends_183 : decode cX10_appends 183 = .ok (.iload_n 2, 1) := by decide +kernel
theorem dX10_appends_184 : decode cX10_appends 184 = .ok (.iaload, 1) := by decide +kernel
theorem dX10_appends_185 : decode cX10_appends 185 = .ok (.if_icmp .gt 23, 3) := by decide +kernel
theorem dX10_appends_188 : decode cX10_appends 188 = .ok (.aload_n 0, 1) := by decide +kernel
theorem dX10_appends_189 : decode cX10_appends 189 = .ok (.iload_n 2, 1) := by decide +kernel
theorem dX10_appends_190 : decode cX10_appends 190 = .ok (.iload 7, 2) := by decide +kernel
theorem dX10_appends_192 : decode cX10_appends 192 = .ok (.invokevirtual 156, 3) := by decide +kernel
theorem dX10_appends_195 : decode cX10_appends 195 = .ok (.aload_n 0, 1) := by decide +kernel
theorem dX10_appends_196 : decode cX10_appends 196 = .ok (.getfield 79, 3) := by decide +kernel
theorem dX10_appends_199 : decode cX10_appends 199 = .ok (.iload 9, 2) := by decide +kernel
theorem dX10_appends_201 : decode cX10_appends 201 = .ok (.iaload, 1) := by decide +kernel
theorem dX10_appends_202 : decode cX10_appends 202 = .ok (.if_icmp .ne 6, 3) := by decide +kernel
theorem dX10_appends_205 : decode cX10_appends 205 = .ok (.goto 20, 3) := by decide +kernel
theorem dX10_appends_208 : decode cX10_appends 208 = .ok (.aload_n 0, 1) := by decide +kernel
theorem dX10_appends_209 : decode cX10_appends 209 = .ok (.iload_n 2, 1) := by decide +kernel
theorem dX10_appends_210 : decode cX10_appends 210 = .ok (.iload 7, 2) := by decide +kernel
theorem dX10_appends_212 : decode cX10_appends 212 = .ok (.aload_n 0, 1) := by decide +kernel
theorem dX10_appends_213 : decode cX10_appends 213 = .ok (.getfield 79, 3) := by decide +kernel
theorem dX10_appends_216 : decode cX10_appends 216 = .ok (.iload 9, 2) := by decide +kernel
theorem dX10_appends_218 : decode cX10_appends 218 = .ok (.invokevirtual 179, 3) := by decide +kernel
theorem dX10_appends_221 : decode cX10_appends 221 = .ok (.ifCond .ne 4, 3) := by decide +kernel
theorem dX10_appends_224 : decode cX10_appends 224 = .ok (.return_, 1) := by decide +kernel
theorem dX10_appends_225 : decode cX10_appends 225 = .ok (.iinc 8 1, 3) := by decide +kernel
theorem dX10_appends_228 : decode cX10_appends 228 = .ok (.goto (-76), 3) := by decide +kernel
theorem dX10_appends_231 : decode cX10_appends 231 = .ok (.aload_n 0, 1) := by decide +kernel
theorem dX10_appends_232 : decode cX10_appends 232 = .ok (.getfield 26, 3) := by decide +kernel
theorem dX10_appends_235 : decode cX10_appends 235 = .ok (.iload_n 2, 1) := by decide +kernel
theorem dX10_appends_236 : decode cX10_appends 236 = .ok (.aload_n 0, 1) := by decide +kernel
theorem dX10_appends_237 : decode cX10_appends 237 = .ok (.getfield 26, 3) := by decide +kernel
theorem dX10_appends_240 : decode cX10_appends 240 = .ok (.iload_n 2, 1) := by decide +kernel
theorem dX10_appends_241 : decode cX10_appends 241 = .ok (.iaload, 1) := by decide +kernel
theorem dX10_appends_242 : decode cX10_appends 242 = .ok (.aload_n 0, 1) := by decide +kernel
theorem dX10_appends_243 : decode cX10_appends 243 = .ok (.getfield 75, 3) := by decide +kernel
theorem dX10_appends_246 : decode cX10_appends 246 = .ok (.iload_n 1, 1) := by decide +kernel
theorem dX10_appends_247 : decode cX10_appends 247 = .ok (.iaload, 1) := by decide +kernel
theorem dX10_appends_248 : decode cX10_appends 248 = .ok (.iload 7, 2) := by decide +kernel
theorem dX10_appends_250 : decode cX10_appends 250 = .ok (.invokestatic 159, 3) := by decide +kernel
theorem dX10_appends_253 : decode cX10_appends 253 = .ok (.invokestatic 203, 3) := by decide +kernel
theorem dX10_appends_256 : decode cX10_appends 256 = .ok (.iastore, 1) := by decide +kernel
theorem dX10_appends_257 : decode cX10_appends 257 = .ok (.aload_n 0, 1) := by decide +kernel
theorem dX10_appends_258 : decode cX10_appends 258 = .ok (.iconst 3, 1) := by decide +kernel
theorem dX10_appends_259 : decode cX10_appends 259 = .ok (.iload_n 2, 1) := by decide +kernel
theorem dX10_appends_260 : decode cX10_appends 260 = .ok (.iload_n 3, 1) := by decide +kernel
theorem dX10_appends_261 : decode cX10_appends 261 = .ok (.iload 7, 2) := by decide +kernel
theorem dX10_appends_263 : decode cX10_appends 263 = .ok (.aload_n 0, 1) := by decide +kernel
theorem dX10_appends_264 : decode cX10_appends 264 = .ok (.getfield 20, 3) := by decide +kernel
theorem dX10_appends_267 : decode cX10_appends 267 = .ok (.iload_n 2, 1) := by decide +kernel
theorem dX10_appends_268 : decode cX10_appends 268 = .ok (.iaload, 1) := by decide +kernel
theorem dX10_appends_269 : decode cX10_appends 269 = .ok (.invokestatic 203, 3) := by decide +kernel
theorem dX10_appends_272 : decode cX10_appends 272 = .ok (.invokevirtual 187, 3) := by decide +kernel
theorem dX10_appends_275 : decode cX10_appends 275 = .ok (.return_, 1) := by decide +kernel
theorem dX10_accepted_0 : decode cX10_accepted 0 = .ok (.iconst 5, 1) := by decide +kernel
theorem dX10_accepted_1 : decode cX10_accepted 1 = .ok (.iload_n 1, 1) := by decide +kernel
theorem dX10_accepted_2 : decode cX10_accepted 2 = .ok (.imul, 1) := by decide +kernel
theorem dX10_accepted_3 : decode cX10_accepted 3 = .ok (.iload_n 2, 1) := by decide +kernel
theorem dX10_accepted_4 : decode cX10_accepted 4 = .ok (.iadd, 1) := by decide +kernel
theorem dX10_accepted_5 : decode cX10_accepted 5 = .ok (.istore 4, 2) := by decide +kernel
theorem dX10_accepted_7 : decode cX10_accepted 7 = .ok (.aload_n 0, 1) := by decide +kernel
theorem dX10_accepted_8 : decode cX10_accepted 8 = .ok (.getfield 44, 3) := by decide +kernel
theorem dX10_accepted_11 : decode cX10_accepted 11 = .ok (.iload 4, 2) := by decide +kernel
theorem dX10_accepted_13 : decode cX10_accepted 13 = .ok (.iaload, 1) := by decide +kernel
theorem dX10_accepted_14 : decode cX10_accepted 14 = .ok (.iload_n 3, 1) := by decide +kernel
theorem dX10_accepted_15 : decode cX10_accepted 15 = .ok (.if_icmp .ge 21, 3) := by decide +kernel
theorem dX10_accepted_18 : decode cX10_accepted 18 = .ok (.aload_n 0, 1) := by decide +kernel
theorem dX10_accepted_19 : decode cX10_accepted 19 = .ok (.getfield 44, 3) := by decide +kernel
theorem dX10_accepted_22 : decode cX10_accepted 22 = .ok (.iload 4, 2) := by decide +kernel
theorem dX10_accepted_24 : decode cX10_accepted 24 = .ok (.iload_n 3, 1) := by decide +kernel
theorem dX10_accepted_25 : decode cX10_accepted 25 = .ok (.iastore, 1) := by decide +kernel
theorem dX10_accepted_26 : decode cX10_accepted 26 = .ok (.aload_n 0, 1) := by decide +kernel
theorem dX10_accepted_27 : decode cX10_accepted 27 = .ok (.getfield 41, 3) := by decide +kernel
theorem dX10_accepted_30 : decode cX10_accepted 30 = .ok (.iload 4, 2) := by decide +kernel
theorem dX10_accepted_32 : decode cX10_accepted 32 = .ok (.iload_n 3, 1) := by decide +kernel
theorem dX10_accepted_33 : decode cX10_accepted 33 = .ok (.iconst 1, 1) := by decide +kernel
theorem dX10_accepted_34 : decode cX10_accepted 34 = .ok (.iadd, 1) := by decide +kernel
theorem dX10_accepted_35 : decode cX10_accepted 35 = .ok (.iastore, 1) := by decide +kernel
theorem dX10_accepted_36 : decode cX10_accepted 36 = .ok (.aload_n 0, 1) := by decide +kernel
theorem dX10_accepted_37 : decode cX10_accepted 37 = .ok (.getfield 26, 3) := by decide +kernel
theorem dX10_accepted_40 : decode cX10_accepted 40 = .ok (.iload_n 1, 1) := by decide +kernel
theorem dX10_accepted_41 : decode cX10_accepted 41 = .ok (.iaload, 1) := by decide +kernel
theorem dX10_accepted_42 : decode cX10_accepted 42 = .ok (.istore 5, 2) := by decide +kernel
theorem dX10_accepted_44 : decode cX10_accepted 44 = .ok (.iload 5, 2) := by decide +kernel
theorem dX10_accepted_46 : decode cX10_accepted 46 = .ok (.iconst 1, 1) := by decide +kernel
theorem dX10_accepted_47 : decode cX10_accepted 47 = .ok (.iadd, 1) := by decide +kernel
theorem dX10_accepted_48 : decode cX10_accepted 48 = .ok (.istore 6, 2) := by decide +kernel
theorem dX10_accepted_50 : decode cX10_accepted 50 = .ok (.iload 6, 2) := by decide +kernel
theorem dX10_accepted_52 : decode cX10_accepted 52 = .ok (.aload_n 0, 1) := by decide +kernel
theorem dX10_accepted_53 : decode cX10_accepted 53 = .ok (.getfield 23, 3) := by decide +kernel
theorem dX10_accepted_56 : decode cX10_accepted 56 = .ok (.iload_n 1, 1) := by decide +kernel
theorem dX10_accepted_57 : decode cX10_accepted 57 = .ok (.iaload, 1) := by decide +kernel
theorem dX10_accepted_58 : decode cX10_accepted 58 = .ok (.if_icmp .gt 78, 3) := by decide +kernel
theorem dX10_accepted_61 : decode cX10_accepted 61 = .ok (.iconst 0, 1) := by decide +kernel
theorem dX10_accepted_62 : decode cX10_accepted 62 = .ok (.istore 7, 2) := by decide +kernel
theorem dX10_accepted_64 : decode cX10_accepted 64 = .ok (.iconst 0, 1) := by decide +kernel
theorem dX10_accepted_65 : decode cX10_accepted 65 = .ok (.istore 8, 2) := by decide +kernel
theorem dX10_accepted_67 : decode cX10_accepted 67 = .ok (.iload 8, 2) := by decide +kernel
theorem dX10_accepted_69 : decode cX10_accepted 69 = .ok (.iconst 5, 1) := by decide +kernel
theorem dX10_accepted_70 : decode cX10_accepted 70 = .ok (.if_icmp .ge 34, 3) := by decide +kernel
theorem dX10_accepted_73 : decode cX10_accepted 73 = .ok (.iload 8, 2) := by decide +kernel
theorem dX10_accepted_75 : decode cX10_accepted 75 = .ok (.iload_n 1, 1) := by decide +kernel
theorem dX10_accepted_76 : decode cX10_accepted 76 = .ok (.if_icmp .eq 22, 3) := by decide +kernel
theorem dX10_accepted_79 : decode cX10_accepted 79 = .ok (.aload_n 0, 1) := by decide +kernel
theorem dX10_accepted_80 : decode cX10_accepted 80 = .ok (.getfield 44, 3) := by decide +kernel
theorem dX10_accepted_83 : decode cX10_accepted 83 = .ok (.iconst 5, 1) := by decide +kernel
theorem dX10_accepted_84 : decode cX10_accepted 84 = .ok (.iload_n 1, 1) := by decide +kernel
theorem dX10_accepted_85 : decode cX10_accepted 85 = .ok (.imul, 1) := by decide +kernel
theorem dX10_accepted_86 : decode cX10_accepted 86 = .ok (.iload 8, 2) := by decide +kernel
theorem dX10_accepted_88 : decode cX10_accepted 88 = .ok (.iadd, 1) := by decide +kernel
theorem dX10_accepted_89 : decode cX10_accepted 89 = .ok (.iaload, 1) := by decide +kernel
theorem dX10_accepted_90 : decode cX10_accepted 90 = .ok (.iload 6, 2) := by decide +kernel
theorem dX10_accepted_92 : decode cX10_accepted 92 = .ok (.if_icmp .lt 6, 3) := by decide +kernel
theorem dX10_accepted_95 : decode cX10_accepted 95 = .ok (.iinc 7 1, 3) := by decide +kernel
theorem dX10_accepted_98 : decode cX10_accepted 98 = .ok (.iinc 8 1, 3) := by decide +kernel
theorem dX10_accepted_101 : decode cX10_accepted 101 = .ok (.goto (-34), 3) := by decide +kernel
theorem dX10_accepted_104 : decode cX10_accepted 104 = .ok (.iload 7, 2) := by decide +kernel
theorem dX10_accepted_106 : decode cX10_accepted 106 = .ok (.iconst 2, 1) := by decide +kernel
theorem dX10_accepted_107 : decode cX10_accepted 107 = .ok (.if_icmp .lt 23, 3) := by decide +kernel
theorem dX10_accepted_110 : decode cX10_accepted 110 = .ok (.aload_n 0, 1) := by decide +kernel
theorem dX10_accepted_111 : decode cX10_accepted 111 = .ok (.iload_n 1, 1) := by decide +kernel
theorem dX10_accepted_112 : decode cX10_accepted 112 = .ok (.iload 6, 2) := by decide +kernel
theorem dX10_accepted_114 : decode cX10_accepted 114 = .ok (.invokevirtual 156, 3) := by decide +kernel
theorem dX10_accepted_117 : decode cX10_accepted 117 = .ok (.aload_n 0, 1) := by decide +kernel
theorem dX10_accepted_118 : decode cX10_accepted 118 = .ok (.getfield 13, 3) := by decide +kernel
theorem dX10_accepted_121 : decode cX10_accepted 121 = .ok (.iload_n 1, 1) := by decide +kernel
theorem dX10_accepted_122 : decode cX10_accepted 122 = .ok (.iaload, 1) := by decide +kernel
theorem dX10_accepted_123 : decode cX10_accepted 123 = .ok (.if_icmp .ne 7, 3) := by decide +kernel
theorem dX10_accepted_126 : decode cX10_accepted 126 = .ok (.iload 6, 2) := by decide +kernel
theorem dX10_accepted_128 : decode cX10_accepted 128 = .ok (.istore 5, 2) := by decide +kernel
theorem dX10_accepted_130 : decode cX10_accepted 130 = .ok (.iinc 6 1, 3) := by decide +kernel
theorem dX10_accepted_133 : decode cX10_accepted 133 = .ok (.goto (-83), 3) := by decide +kernel
theorem dX10_accepted_136 : decode cX10_accepted 136 = .ok (.aload_n 0, 1) := by decide +kernel
theorem dX10_accepted_137 : decode cX10_accepted 137 = .ok (.getfield 26, 3) := by decide +kernel
theorem dX10_accepted_140 : decode cX10_accepted 140 = .ok (.iload_n 1, 1) := by decide +kernel
theorem dX10_accepted_141 : decode cX10_accepted 141 = .ok (.iload 5, 2) := by decide +kernel
theorem dX10_accepted_143 : decode cX10_accepted 143 = .ok (.iastore, 1) := by decide +kernel
theorem dX10_accepted_144 : decode cX10_accepted 144 = .ok (.aload_n 0, 1) := by decide +kernel
theorem dX10_accepted_145 : decode cX10_accepted 145 = .ok (.getfield 41, 3) := by decide +kernel
theorem dX10_accepted_148 : decode cX10_accepted 148 = .ok (.iload 4, 2) := by decide +kernel
theorem dX10_accepted_150 : decode cX10_accepted 150 = .ok (.iaload, 1) := by decide +kernel
theorem dX10_accepted_151 : decode cX10_accepted 151 = .ok (.aload_n 0, 1) := by decide +kernel
theorem dX10_accepted_152 : decode cX10_accepted 152 = .ok (.getfield 23, 3) := by decide +kernel
theorem dX10_accepted_155 : decode cX10_accepted 155 = .ok (.iload_n 1, 1) := by decide +kernel
theorem dX10_accepted_156 : decode cX10_accepted 156 = .ok (.iaload, 1) := by decide +kernel
theorem dX10_accepted_157 : decode cX10_accepted 157 = .ok (.if_icmp .gt 9, 3) := by decide +kernel
theorem dX10_accepted_160 : decode cX10_accepted 160 = .ok (.aload_n 0, 1) := by decide +kernel
theorem dX10_accepted_161 : decode cX10_accepted 161 = .ok (.iload_n 1, 1) := by decide +kernel
theorem dX10_accepted_162 : decode cX10_accepted 162 = .ok (.iload_n 2, 1) := by decide +kernel
theorem dX10_accepted_163 : decode cX10_accepted 163 = .ok (.invokevirtual 164, 3) := by decide +kernel
theorem dX10_accepted_166 : decode cX10_accepted 166 = .ok (.return_, 1) := by decide +kernel
theorem dX10_installs_0 : decode cX10_installs 0 = .ok (.aload_n 0, 1) := by decide +kernel
theorem dX10_installs_1 : decode cX10_installs 1 = .ok (.getfield 32, 3) := by decide +kernel
theorem dX10_installs_4 : decode cX10_installs 4 = .ok (.iload_n 2, 1) := by decide +kernel
theorem dX10_installs_5 : decode cX10_installs 5 = .ok (.iconst 0, 1) := by decide +kernel
theorem dX10_installs_6 : decode cX10_installs 6 = .ok (.iastore, 1) := by decide +kernel
theorem dX10_installs_7 : decode cX10_installs 7 = .ok (.aload_n 0, 1) := by decide +kernel
theorem dX10_installs_8 : decode cX10_installs 8 = .ok (.getfield 26, 3) := by decide +kernel
theorem dX10_installs_11 : decode cX10_installs 11 = .ok (.iload_n 2, 1) := by decide +kernel
theorem dX10_installs_12 : decode cX10_installs 12 = .ok (.iaload, 1) := by decide +kernel
theorem dX10_installs_13 : decode cX10_installs 13 = .ok (.aload_n 0, 1) := by decide +kernel
theorem dX10_installs_14 : decode cX10_installs 14 = .ok (.getfield 66, 3) := by decide +kernel
theorem dX10_installs_17 : decode cX10_installs 17 = .ok (.iload_n 1, 1) := by decide +kernel
theorem dX10_installs_18 : decode cX10_installs 18 = .ok (.iaload, 1) := by decide +kernel
theorem dX10_installs_19 : decode cX10_installs 19 = .ok (.if_icmp .lt 17, 3) := by decide +kernel
theorem dX10_installs_22 : decode cX10_installs 22 = .ok (.aload_n 0, 1) := by decide +kernel
theorem dX10_installs_23 : decode cX10_installs 23 = .ok (.iconst 3, 1) := by decide +kernel
theorem dX10_installs_24 : decode cX10_installs 24 = .ok (.iload_n 2, 1) := by decide +kernel
theorem dX10_installs_25 : decode cX10_installs 25 = .ok (.iload_n 3, 1) := by decide +kernel
theorem dX10_installs_26 : decode cX10_installs 26 = .ok (.aload_n 0, 1) := by decide +kernel
theorem dX10_installs_27 : decode cX10_installs 27 = .ok (.getfield 26, 3) := by decide +kernel
theorem dX10_installs_30 : decode cX10_installs 30 = .ok (.iload_n 2, 1) := by decide +kernel
theorem dX10_installs_31 : decode cX10_installs 31 = .ok (.iaload, 1) := by decide +kernel
theorem dX10_installs_32 : decode cX10_installs 32 = .ok (.invokevirtual 187, 3) := by decide +kernel
theorem dX10_installs_35 : decode cX10_installs 35 = .ok (.return_, 1) := by decide +kernel
theorem dX10_installs_36 : decode cX10_installs 36 = .ok (.aload_n 0, 1) := by decide +kernel
theorem dX10_installs_37 : decode cX10_installs 37 = .ok (.iload_n 2, 1) := by decide +kernel
theorem dX10_installs_38 : decode cX10_installs 38 = .ok (.invokevirtual 176, 3) := by decide +kernel
theorem dX10_installs_41 : decode cX10_installs 41 = .ok (.ifCond .ne 4, 3) := by decide +kernel
theorem dX10_installs_44 : decode cX10_installs 44 = .ok (.return_, 1) := by decide +kernel
theorem dX10_installs_45 : decode cX10_installs 45 = .ok (.aload_n 0, 1) := by decide +kernel
theorem dX10_installs_46 : decode cX10_installs 46 = .ok (.getfield 66, 3) := by decide +kernel
theorem dX10_installs_49 : decode cX10_installs 49 = .ok (.iload_n 1, 1) := by decide +kernel
theorem dX10_installs_50 : decode cX10_installs 50 = .ok (.iaload, 1) := by decide +kernel
theorem dX10_installs_51 : decode cX10_installs 51 = .ok (.aload_n 0, 1) := by decide +kernel
theorem dX10_installs_52 : decode cX10_installs 52 = .ok (.getfield 23, 3) := by decide +kernel
theorem dX10_installs_55 : decode cX10_installs 55 = .ok (.iload_n 2, 1) := by decide +kernel
theorem dX10_installs_56 : decode cX10_installs 56 = .ok (.iaload, 1) := by decide +kernel
theorem dX10_installs_57 : decode cX10_installs 57 = .ok (.if_icmp .gt 27, 3) := by decide +kernel
theorem dX10_installs_60 : decode cX10_installs 60 = .ok (.aload_n 0, 1) := by decide +kernel
theorem dX10_installs_61 : decode cX10_installs 61 = .ok (.iload_n 2, 1) := by decide +kernel
theorem dX10_installs_62 : decode cX10_installs 62 = .ok (.aload_n 0, 1) := by decide +kernel
theorem dX10_installs_63 : decode cX10_installs 63 = .ok (.getfield 66, 3) := by decide +kernel
theorem dX10_installs_66 : decode cX10_installs 66 = .ok (.iload_n 1, 1) := by decide +kernel
theorem dX10_installs_67 : decode cX10_installs 67 = .ok (.iaload, 1) := by decide +kernel
theorem dX10_installs_68 : decode cX10_installs 68 = .ok (.invokevirtual 156, 3) := by decide +kernel
theorem dX10_installs_71 : decode cX10_installs 71 = .ok (.aload_n 0, 1) := by decide +kernel
theorem dX10_installs_72 : decode cX10_installs 72 = .ok (.getfield 69, 3) := by decide +kernel
theorem dX10_installs_75 : decode cX10_installs 75 = .ok (.iload_n 1, 1) := by decide +kernel
theorem dX10_installs_76 : decode cX10_installs 76 = .ok (.iaload, 1) := by decide +kernel
theorem dX10_installs_77 : decode cX10_installs 77 = .ok (.if_icmp .ne 7, 3) := by decide +kernel
theorem dX10_installs_80 : decode cX10_installs 80 = .ok (.iconst 1, 1) := by decide +kernel
theorem dX10_installs_81 : decode cX10_installs 81 = .ok (.goto 4, 3) := by decide +kernel
theorem dX10_installs_84 : decode cX10_installs 84 = .ok (.iconst 0, 1) := by decide +kernel
theorem dX10_installs_85 : decode cX10_installs 85 = .ok (.istore 4, 2) := by decide +kernel
theorem dX10_installs_87 : decode cX10_installs 87 = .ok (.iconst 0, 1) := by decide +kernel
theorem dX10_installs_88 : decode cX10_installs 88 = .ok (.istore 5, 2) := by decide +kernel
theorem dX10_installs_90 : decode cX10_installs 90 = .ok (.iload 5, 2) := by decide +kernel
theorem dX10_installs_92 : decode cX10_installs 92 = .ok (.aload_n 0, 1) := by decide +kernel
theorem dX10_installs_93 : decode cX10_installs 93 = .ok (.getfield 66, 3) := by decide +kernel
theorem dX10_installs_96 : decode cX10_installs 96 = .ok (.iload_n 1, 1) := by decide +kernel
theorem dX10_installs_97 : decode cX10_installs 97 = .ok (.iaload, 1) := by decide +kernel
theorem dX10_installs_98 : decode cX10_installs 98 = .ok (.iconst 1, 1) := by decide +kernel
theorem dX10_installs_99 : decode cX10_installs 99 = .ok (.iadd, 1) := by decide +kernel
theorem dX10_installs_100 : decode cX10_installs 100 = .ok (.bipush 8, 2) := by decide +kernel
theorem dX10_installs_102 : decode cX10_installs 102 = .ok (.imul, 1) := by decide +kernel
theorem dX10_installs_103 : decode cX10_installs 103 = .ok (.if_icmp .ge 44, 3) := by decide +kernel
theorem dX10_installs_106 : decode cX10_installs 106 = .ok (.aload_n 0, 1) := by decide +kernel
theorem dX10_installs_107 : decode cX10_installs 107 = .ok (.getfield 48, 3) := by decide +kernel
theorem dX10_installs_110 : decode cX10_installs 110 = .ok (.aload_n 0, 1) := by decide +kernel
theorem dX10_installs_111 : decode cX10_installs 111 = .ok (.iload_n 2, 1) := by decide +kernel
theorem dX10_installs_112 : decode cX10_installs 112 = .ok (.iconst 0, 1) := by decide +kernel
theorem dX10_installs_113 : decode cX10_installs 113 = .ok (.invokevirtual 138, 3) := by decide +kernel
theorem dX10_installs_116 : decode cX10_installs 116 = .ok (.iload 5, 2) := by decide +kernel
theorem dX10_installs_118 : decode cX10_installs 118 = .ok (.iadd, 1) := by decide +kernel
theorem dX10_installs_119 : decode cX10_installs 119 = .ok (.aload_n 0, 1) := by decide +kernel
theorem dX10_installs_120 : decode cX10_installs 120 = .ok (.getfield 83, 3) := by decide +kernel
theorem dX10_installs_123 : decode cX10_installs 123 = .ok (.aload_n 0, 1) := by decide +kernel
theorem dX10_installs_124 : decode cX10_installs 124 = .ok (.getfield 86, 3) := by decide +kernel
theorem dX10_installs_127 : decode cX10_installs 127 = .ok (.iload_n 1, 1) := by decide +kernel
theorem dX10_installs_128 : decode cX10_installs 128 = .ok (.iaload, 1) := by decide +kernel
theorem dX10_installs_129 : decode cX10_installs 129 = .ok (.sipush 1201, 3) := by decide +kernel
theorem dX10_installs_132 : decode cX10_installs 132 = .ok (.imul, 1) := by decide +kernel
theorem dX10_installs_133 : decode cX10_installs 133 = .ok (.bipush 8, 2) := by decide +kernel
theorem dX10_installs_135 : decode cX10_installs 135 = .ok (.imul, 1) := by decide +kernel
theorem dX10_installs_136 : decode cX10_installs 136 = .ok (.iload 5, 2) := by decide +kernel
theorem dX10_installs_138 : decode cX10_installs 138 = .ok (.iadd, 1) := by decide +kernel
theorem dX10_installs_139 : decode cX10_installs 139 = .ok (.iaload, 1) := by decide +kernel
theorem dX10_installs_140 : decode cX10_installs 140 = .ok (.iastore, 1) := by decide +kernel
theorem dX10_installs_141 : decode cX10_installs 141 = .ok (.iinc 5 1, 3) := by decide +kernel
theorem dX10_installs_144 : decode cX10_installs 144 = .ok (.goto (-54), 3) := by decide +kernel
theorem dX10_installs_147 : decode cX10_installs 147 = .ok (.aload_n 0, 1) := by decide +kernel
theorem dX10_installs_148 : decode cX10_installs 148 = .ok (.getfield 20, 3) := by decide +kernel
theorem dX10_installs_151 : decode cX10_installs 151 = .ok (.iload_n 2, 1) := by decide +kernel
theorem dX10_installs_152 : decode cX10_installs 152 = .ok (.aload_n 0, 1) := by decide +kernel
theorem dX10_installs_153 : decode cX10_installs 153 = .ok (.getfield 66, 3) := by decide +kernel
theorem dX10_installs_156 : decode cX10_installs 156 = .ok (.iload_n 1, 1) := by decide +kernel
theorem dX10_installs_157 : decode cX10_installs 157 = .ok (.iaload, 1) := by decide +kernel
theorem dX10_installs_158 : decode cX10_installs 158 = .ok (.iastore, 1) := by decide +kernel
theorem dX10_installs_159 : decode cX10_installs 159 = .ok (.iload 4, 2) := by decide +kernel
theorem dX10_installs_161 : decode cX10_installs 161 = .ok (.ifCond .ne 15, 3) := by decide +kernel
theorem dX10_installs_164 : decode cX10_installs 164 = .ok (.aload_n 0, 1) := by decide +kernel
theorem dX10_installs_165 : decode cX10_installs 165 = .ok (.getfield 23, 3) := by decide +kernel
theorem dX10_installs_168 : decode cX10_installs 168 = .ok (.iload_n 2, 1) := by decide +kernel
theorem dX10_installs_169 : decode cX10_installs 169 = .ok (.aload_n 0, 1) := by decide +kernel
theorem dX10_installs_170 : decode cX10_installs 170 = .ok (.getfield 66, 3) := by decide +kernel
theorem dX10_installs_173 : decode cX10_installs 173 = .ok (.iload_n 1, 1) := by decide +kernel
theorem dX10_installs_174 : decode cX10_installs 174 = .ok (.iaload, 1) := by decide +kernel
theorem dX10_installs_175 : decode cX10_installs 175 = .ok (.iastore, 1) := by decide +kernel
theorem dX10_installs_176 : decode cX10_installs 176 = .ok (.aload_n 0, 1) := by decide +kernel
theorem dX10_installs_177 : decode cX10_installs 177 = .ok (.getfield 26, 3) := by decide +kernel
theorem dX10_installs_180 : decode cX10_installs 180 = .ok (.iload_n 2, 1) := by decide +kernel
theorem dX10_installs_181 : decode cX10_installs 181 = .ok (.aload_n 0, 1) := by decide +kernel
theorem dX10_installs_182 : decode cX10_installs 182 = .ok (.getfield 66, 3) := by decide +kernel
theorem dX10_installs_185 : decode cX10_installs 185 = .ok (.iload_n 1, 1) := by decide +kernel
theorem dX10_installs_186 : decode cX10_installs 186 = .ok (.iaload, 1) := by decide +kernel
theorem dX10_installs_187 : decode cX10_installs 187 = .ok (.iastore, 1) := by decide +kernel
theorem dX10_installs_188 : decode cX10_installs 188 = .ok (.aload_n 0, 1) := by decide +kernel
theorem dX10_installs_189 : decode cX10_installs 189 = .ok (.getfield 29, 3) := by decide +kernel
theorem dX10_installs_192 : decode cX10_installs 192 = .ok (.iload_n 2, 1) := by decide +kernel
theorem dX10_installs_193 : decode cX10_installs 193 = .ok (.aload_n 0, 1) := by decide +kernel
theorem dX10_installs_194 : decode cX10_installs 194 = .ok (.getfield 66, 3) := by decide +kernel
theorem dX10_installs_197 : decode cX10_installs 197 = .ok (.iload_n 1, 1) := by decide +kernel
theorem dX10_installs_198 : decode cX10_installs 198 = .ok (.iaload, 1) := by decide +kernel
theorem dX10_installs_199 : decode cX10_installs 199 = .ok (.iastore, 1) := by decide +kernel
theorem dX10_installs_200 : decode cX10_installs 200 = .ok (.aload_n 0, 1) := by decide +kernel
theorem dX10_installs_201 : decode cX10_installs 201 = .ok (.getfield 51, 3) := by decide +kernel
theorem dX10_installs_204 : decode cX10_installs 204 = .ok (.iload_n 2, 1) := by decide +kernel
theorem dX10_installs_205 : decode cX10_installs 205 = .ok (.dup2, 1) := by decide +kernel
theorem dX10_installs_206 : decode cX10_installs 206 = .ok (.iaload, 1) := by decide +kernel
theorem dX10_installs_207 : decode cX10_installs 207 = .ok (.iconst 1, 1) := by decide +kernel
theorem dX10_installs_208 : decode cX10_installs 208 = .ok (.iadd, 1) := by decide +kernel
theorem dX10_installs_209 : decode cX10_installs 209 = .ok (.iastore, 1) := by decide +kernel
theorem dX10_installs_210 : decode cX10_installs 210 = .ok (.aload_n 0, 1) := by decide +kernel
theorem dX10_installs_211 : decode cX10_installs 211 = .ok (.iconst 3, 1) := by decide +kernel
theorem dX10_installs_212 : decode cX10_installs 212 = .ok (.iload_n 2, 1) := by decide +kernel
theorem dX10_installs_213 : decode cX10_installs 213 = .ok (.iload_n 3, 1) := by decide +kernel
theorem dX10_installs_214 : decode cX10_installs 214 = .ok (.aload_n 0, 1) := by decide +kernel
theorem dX10_installs_215 : decode cX10_installs 215 = .ok (.getfield 66, 3) := by decide +kernel
theorem dX10_installs_218 : decode cX10_installs 218 = .ok (.iload_n 1, 1) := by decide +kernel
theorem dX10_installs_219 : decode cX10_installs 219 = .ok (.iaload, 1) := by decide +kernel
theorem dX10_installs_220 : decode cX10_installs 220 = .ok (.invokevirtual 187, 3) := by decide +kernel
theorem dX10_installs_223 : decode cX10_installs 223 = .ok (.return_, 1) := by decide +kernel
theorem dX10_more_0 : decode cX10_more 0 = .ok (.aload_n 0, 1) := by decide +kernel
theorem dX10_more_1 : decode cX10_more 1 = .ok (.iconst 0, 1) := by decide +kernel
theorem dX10_more_2 : decode cX10_more 2 = .ok (.putfield 135, 3) := by decide +kernel
theorem dX10_more_5 : decode cX10_more 5 = .ok (.aload_n 0, 1) := by decide +kernel
theorem dX10_more_6 : decode cX10_more 6 = .ok (.iload_n 1, 1) := by decide +kernel
theorem dX10_more_7 : decode cX10_more 7 = .ok (.putfield 216, 3) := by decide +kernel
theorem dX10_more_10 : decode cX10_more 10 = .ok (.aload_n 0, 1) := by decide +kernel
theorem dX10_more_11 : decode cX10_more 11 = .ok (.iload_n 2, 1) := by decide +kernel
theorem dX10_more_12 : decode cX10_more 12 = .ok (.putfield 219, 3) := by decide +kernel
theorem dX10_more_15 : decode cX10_more 15 = .ok (.aload_n 0, 1) := by decide +kernel
theorem dX10_more_16 : decode cX10_more 16 = .ok (.iload_n 3, 1) := by decide +kernel
theorem dX10_more_17 : decode cX10_more 17 = .ok (.putfield 222, 3) := by decide +kernel
theorem dX10_more_20 : decode cX10_more 20 = .ok (.aload_n 0, 1) := by decide +kernel
theorem dX10_more_21 : decode cX10_more 21 = .ok (.iload 4, 2) := by decide +kernel
theorem dX10_more_23 : decode cX10_more 23 = .ok (.putfield 225, 3) := by decide +kernel
theorem dX10_more_26 : decode cX10_more 26 = .ok (.return_, 1) := by decide +kernel
theorem dX10_isKey_0 : decode cX10_isKey 0 = .ok (.iload_n 0, 1) := by decide +kernel
theorem dX10_isKey_1 : decode cX10_isKey 1 = .ok (.ifCond .lt 13, 3) := by decide +kernel
theorem dX10_isKey_4 : decode cX10_isKey 4 = .ok (.iload_n 0, 1) := by decide +kernel
theorem dX10_isKey_5 : decode cX10_isKey 5 = .ok (.bipush 64, 2) := by decide +kernel
theorem dX10_isKey_7 : decode cX10_isKey 7 = .ok (.if_icmp .ge 7, 3) := by decide +kernel
theorem dX10_isKey_10 : decode cX10_isKey 10 = .ok (.iconst 1, 1) := by decide +kernel
theorem dX10_isKey_11 : decode cX10_isKey 11 = .ok (.goto 4, 3) := by decide +kernel
theorem dX10_isKey_14 : decode cX10_isKey 14 = .ok (.iconst 0, 1) := by decide +kernel
theorem dX10_isKey_15 : decode cX10_isKey 15 = .ok (.ireturn, 1) := by decide +kernel
theorem dX10_isRight_0 : decode cX10_isRight 0 = .ok (.iload_n 1, 1) := by decide +kernel
theorem dX10_isRight_1 : decode cX10_isRight 1 = .ok (.tableswitch 152 1 6 #[39, 68, 88, 135, 135, 135], 39) := by decide +kernel
theorem dX10_isRight_40 : decode cX10_isRight 40 = .ok (.iload_n 2, 1) := by decide +kernel
theorem dX10_isRight_41 : decode cX10_isRight 41 = .ok (.invokestatic 228, 3) := by decide +kernel
theorem dX10_isRight_44 : decode cX10_isRight 44 = .ok (.ifCond .eq 23, 3) := by decide +kernel
theorem dX10_isRight_47 : decode cX10_isRight 47 = .ok (.aload_n 0, 1) := by decide +kernel
theorem dX10_isRight_48 : decode cX10_isRight 48 = .ok (.getfield 216, 3) := by decide +kernel
theorem dX10_isRight_51 : decode cX10_isRight 51 = .ok (.ifCond .lt 16, 3) := by decide +kernel

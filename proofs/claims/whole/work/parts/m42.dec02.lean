theorem dX5_handleAccept_46 : decode cX5_handleAccept 46 = .ok (.aload_n 0, 1) := by decide +kernel
theorem dX5_handleAccept_47 : decode cX5_handleAccept 47 = .ok (.getfield 33, 3) := by decide +kernel
theorem dX5_handleAccept_50 : decode cX5_handleAccept 50 = .ok (.aload_n 1, 1) := by decide +kernel
theorem dX5_handleAccept_51 : decode cX5_handleAccept 51 = .ok (.getfield 88, 3) := by decide +kernel
theorem dX5_handleAccept_54 : decode cX5_handleAccept 54 = .ok (.iaload, 1) := by decide +kernel
theorem dX5_handleAccept_55 : decode cX5_handleAccept 55 = .ok (.iconst 1, 1) := by decide +kernel
theorem dX5_handleAccept_56 : decode cX5_handleAccept 56 = .ok (.iadd, 1) := by decide +kernel
theorem dX5_handleAccept_57 : decode cX5_handleAccept 57 = .ok (.iastore, 1) := by decide +kernel
theorem dX5_handleAccept_58 : decode cX5_handleAccept 58 = .ok (.aload_n 0, 1) := by decide +kernel
theorem dX5_handleAccept_59 : decode cX5_handleAccept 59 = .ok (.invokevirtual 201, 3) := by decide +kernel
theorem dX5_handleAccept_62 : decode cX5_handleAccept 62 = .ok (.aload_n 0, 1) := by decide +kernel
theorem dX5_handleAccept_63 : decode cX5_handleAccept 63 = .ok (.getfield 30, 3) := by decide +kernel
theorem dX5_handleAccept_66 : decode cX5_handleAccept 66 = .ok (.aload_n 1, 1) := by decide +kernel
theorem dX5_handleAccept_67 : decode cX5_handleAccept 67 = .ok (.getfield 88, 3) := by decide +kernel
theorem dX5_handleAccept_70 : decode cX5_handleAccept 70 = .ok (.iaload, 1) := by decide +kernel
theorem dX5_handleAccept_71 : decode cX5_handleAccept 71 = .ok (.aload_n 0, 1) := by decide +kernel
theorem dX5_handleAccept_72 : decode cX5_handleAccept 72 = .ok (.getfield 52, 3) := by decide +kernel
theorem dX5_handleAccept_75 : decode cX5_handleAccept 75 = .ok (.getfield 70, 3) := by decide +kernel
theorem dX5_handleAccept_78 : decode cX5_handleAccept 78 = .ok (.if_icmp .gt 11, 3) := by decide +kernel
theorem dX5_handleAccept_81 : decode cX5_handleAccept 81 = .ok (.aload_n 0, 1) := by decide +kernel
theorem dX5_handleAccept_82 : decode cX5_handleAccept 82 = .ok (.aload_n 1, 1) := by decide +kernel
theorem dX5_handleAccept_83 : decode cX5_handleAccept 83 = .ok (.getfield 88, 3) := by decide +kernel
theorem dX5_handleAccept_86 : decode cX5_handleAccept 86 = .ok (.invokevirtual 204, 3) := by decide +kernel
theorem dX5_handleAccept_89 : decode cX5_handleAccept 89 = .ok (.return_, 1) := by decide +kernel
theorem dX5_commitWhatMatches_0 : decode cX5_commitWhatMatches 0 = .ok (.iconst 0, 1) := by decide +kernel
theorem dX5_commitWhatMatches_1 : decode cX5_commitWhatMatches 1 = .ok (.istore_n 1, 1) := by decide +kernel
theorem dX5_commitWhatMatches_2 : decode cX5_commitWhatMatches 2 = .ok (.iconst 0, 1) := by decide +kernel
theorem dX5_commitWhatMatches_3 : decode cX5_commitWhatMatches 3 = .ok (.istore_n 2, 1) := by decide +kernel
theorem dX5_commitWhatMatches_4 : decode cX5_commitWhatMatches 4 = .ok (.iconst 0, 1) := by decide +kernel
theorem dX5_commitWhatMatches_5 : decode cX5_commitWhatMatches 5 = .ok (.istore_n 3, 1) := by decide +kernel
theorem dX5_commitWhatMatches_6 : decode cX5_commitWhatMatches 6 = .ok (.iload_n 3, 1) := by decide +kernel
theorem dX5_commitWhatMatches_7 : decode cX5_commitWhatMatches 7 = .ok (.iconst 5, 1) := by decide +kernel
theorem dX5_commitWhatMatches_8 : decode cX5_commitWhatMatches 8 = .ok (.if_icmp .ge 64, 3) := by decide +kernel
theorem dX5_commitWhatMatches_11 : decode cX5_commitWhatMatches 11 = .ok (.iload_n 3, 1) := by decide +kernel
theorem dX5_commitWhatMatches_12 : decode cX5_commitWhatMatches 12 = .ok (.aload_n 0, 1) := by decide +kernel
theorem dX5_commitWhatMatches_13 : decode cX5_commitWhatMatches 13 = .ok (.getfield 36, 3) := by decide +kernel
theorem dX5_commitWhatMatches_16 : decode cX5_commitWhatMatches 16 = .ok (.if_icmp .eq 25, 3) := by decide +kernel
theorem dX5_commitWhatMatches_19 : decode cX5_commitWhatMatches 19 = .ok (.aload_n 0, 1) := by decide +kernel
theorem dX5_commitWhatMatches_20 : decode cX5_commitWhatMatches 20 = .ok (.getfield 33, 3) := by decide +kernel
theorem dX5_commitWhatMatches_23 : decode cX5_commitWhatMatches 23 = .ok (.iload_n 3, 1) := by decide +kernel
theorem dX5_commitWhatMatches_24 : decode cX5_commitWhatMatches 24 = .ok (.iaload, 1) := by decide +kernel
theorem dX5_commitWhatMatches_25 : decode cX5_commitWhatMatches 25 = .ok (.iload_n 1, 1) := by decide +kernel
theorem dX5_commitWhatMatches_26 : decode cX5_commitWhatMatches 26 = .ok (.if_icmp .le 15, 3) := by decide +kernel
theorem dX5_commitWhatMatches_29 : decode cX5_commitWhatMatches 29 = .ok (.iload_n 1, 1) := by decide +kernel
theorem dX5_commitWhatMatches_30 : decode cX5_commitWhatMatches 30 = .ok (.istore_n 2, 1) := by decide +kernel
theorem dX5_commitWhatMatches_31 : decode cX5_commitWhatMatches 31 = .ok (.aload_n 0, 1) := by decide +kernel
theorem dX5_commitWhatMatches_32 : decode cX5_commitWhatMatches 32 = .ok (.getfield 33, 3) := by decide +kernel
theorem dX5_commitWhatMatches_35 : decode cX5_commitWhatMatches 35 = .ok (.iload_n 3, 1) := by decide +kernel
theorem dX5_commitWhatMatches_36 : decode cX5_commitWhatMatches 36 = .ok (.iaload, 1) := by decide +kernel
theorem dX5_commitWhatMatches_37 : decode cX5_commitWhatMatches 37 = .ok (.istore_n 1, 1) := by decide +kernel
theorem dX5_commitWhatMatches_38 : decode cX5_commitWhatMatches 38 = .ok (.goto 28, 3) := by decide +kernel
theorem dX5_commitWhatMatches_41 : decode cX5_commitWhatMatches 41 = .ok (.iload_n 3, 1) := by decide +kernel
theorem dX5_commitWhatMatches_42 : decode cX5_commitWhatMatches 42 = .ok (.aload_n 0, 1) := by decide +kernel
theorem dX5_commitWhatMatches_43 : decode cX5_commitWhatMatches 43 = .ok (.getfield 36, 3) := by decide +kernel
theorem dX5_commitWhatMatches_46 : decode cX5_commitWhatMatches 46 = .ok (.if_icmp .eq 20, 3) := by decide +kernel
theorem dX5_commitWhatMatches_49 : decode cX5_commitWhatMatches 49 = .ok (.aload_n 0, 1) := by decide +kernel
theorem dX5_commitWhatMatches_50 : decode cX5_commitWhatMatches 50 = .ok (.getfield 33, 3) := by decide +kernel
theorem dX5_commitWhatMatches_53 : decode cX5_commitWhatMatches 53 = .ok (.iload_n 3, 1) := by decide +kernel
theorem dX5_commitWhatMatches_54 : decode cX5_commitWhatMatches 54 = .ok (.iaload, 1) := by decide +kernel
theorem dX5_commitWhatMatches_55 : decode cX5_commitWhatMatches 55 = .ok (.iload_n 2, 1) := by decide +kernel
theorem dX5_commitWhatMatches_56 : decode cX5_commitWhatMatches 56 = .ok (.if_icmp .le 10, 3) := by decide +kernel
theorem dX5_commitWhatMatches_59 : decode cX5_commitWhatMatches 59 = .ok (.aload_n 0, 1) := by decide +kernel
theorem dX5_commitWhatMatches_60 : decode cX5_commitWhatMatches 60 = .ok (.getfield 33, 3) := by decide +kernel
theorem dX5_commitWhatMatches_63 : decode cX5_commitWhatMatches 63 = .ok (.iload_n 3, 1) := by decide +kernel
theorem dX5_commitWhatMatches_64 : decode cX5_commitWhatMatches 64 = .ok (.iaload, 1) := by decide +kernel
theorem dX5_commitWhatMatches_65 : decode cX5_commitWhatMatches 65 = .ok (.istore_n 2, 1) := by decide +kernel
theorem dX5_commitWhatMatches_66 : decode cX5_commitWhatMatches 66 = .ok (.iinc 3 1, 3) := by decide +kernel
theorem dX5_commitWhatMatches_69 : decode cX5_commitWhatMatches 69 = .ok (.goto (-63), 3) := by decide +kernel
theorem dX5_commitWhatMatches_72 : decode cX5_commitWhatMatches 72 = .ok (.iload_n 2, 1) := by decide +kernel
theorem dX5_commitWhatMatches_73 : decode cX5_commitWhatMatches 73 = .ok (.aload_n 0, 1) := by decide +kernel
theorem dX5_commitWhatMatches_74 : decode cX5_commitWhatMatches 74 = .ok (.getfield 52, 3) := by decide +kernel
theorem dX5_commitWhatMatches_77 : decode cX5_commitWhatMatches 77 = .ok (.getfield 70, 3) := by decide +kernel
theorem dX5_commitWhatMatches_80 : decode cX5_commitWhatMatches 80 = .ok (.invokestatic 181, 3) := by decide +kernel
theorem dX5_commitWhatMatches_83 : decode cX5_commitWhatMatches 83 = .ok (.istore_n 3, 1) := by decide +kernel
theorem dX5_commitWhatMatches_84 : decode cX5_commitWhatMatches 84 = .ok (.iload_n 3, 1) := by decide +kernel
theorem dX5_commitWhatMatches_85 : decode cX5_commitWhatMatches 85 = .ok (.aload_n 0, 1) := by decide +kernel
theorem dX5_commitWhatMatches_86 : decode cX5_commitWhatMatches 86 = .ok (.getfield 177, 3) := by decide +kernel
theorem dX5_commitWhatMatches_89 : decode cX5_commitWhatMatches 89 = .ok (.if_icmp .le 33, 3) := by decide +kernel
theorem dX5_commitWhatMatches_92 : decode cX5_commitWhatMatches 92 = .ok (.aload_n 0, 1) := by decide +kernel
theorem dX5_commitWhatMatches_93 : decode cX5_commitWhatMatches 93 = .ok (.getfield 52, 3) := by decide +kernel
theorem dX5_commitWhatMatches_96 : decode cX5_commitWhatMatches 96 = .ok (.iload_n 3, 1) := by decide +kernel
theorem dX5_commitWhatMatches_97 : decode cX5_commitWhatMatches 97 = .ok (.invokevirtual 73, 3) := by decide +kernel
theorem dX5_commitWhatMatches_100 : decode cX5_commitWhatMatches 100 = .ok (.aload_n 0, 1) := by decide +kernel
theorem dX5_commitWhatMatches_101 : decode cX5_commitWhatMatches 101 = .ok (.getfield 52, 3) := by decide +kernel
theorem dX5_commitWhatMatches_104 : decode cX5_commitWhatMatches 104 = .ok (.getfield 56, 3) := by decide +kernel
theorem dX5_commitWhatMatches_107 : decode cX5_commitWhatMatches 107 = .ok (.if_icmp .ne 9, 3) := by decide +kernel
theorem dX5_commitWhatMatches_110 : decode cX5_commitWhatMatches 110 = .ok (.aload_n 0, 1) := by decide +kernel
theorem dX5_commitWhatMatches_111 : decode cX5_commitWhatMatches 111 = .ok (.iload_n 3, 1) := by decide +kernel
theorem dX5_commitWhatMatches_112 : decode cX5_commitWhatMatches 112 = .ok (.putfield 177, 3) := by decide +kernel
theorem dX5_commitWhatMatches_115 : decode cX5_commitWhatMatches 115 = .ok (.return_, 1) := by decide +kernel
theorem dX5_commitWhatMatches_116 : decode cX5_commitWhatMatches 116 = .ok (.iinc 3 (-1), 3) := by decide +kernel
theorem dX5_commitWhatMatches_119 : decode cX5_commitWhatMatches 119 = .ok (.goto (-35), 3) := by decide +kernel
theorem dX5_commitWhatMatches_122 : decode cX5_commitWhatMatches 122 = .ok (.return_, 1) := by decide +kernel
theorem dX5_handleDenial_0 : decode cX5_handleDenial 0 = .ok (.aload_n 0, 1) := by decide +kernel
theorem dX5_handleDenial_1 : decode cX5_handleDenial 1 = .ok (.getfield 26, 3) := by decide +kernel
theorem dX5_handleDenial_4 : decode cX5_handleDenial 4 = .ok (.iconst 2, 1) := by decide +kernel
theorem dX5_handleDenial_5 : decode cX5_handleDenial 5 = .ok (.if_icmp .eq 4, 3) := by decide +kernel
theorem dX5_handleDenial_8 : decode cX5_handleDenial 8 = .ok (.return_, 1) := by decide +kernel
theorem dX5_handleDenial_9 : decode cX5_handleDenial 9 = .ok (.aload_n 0, 1) := by decide +kernel
theorem dX5_handleDenial_10 : decode cX5_handleDenial 10 = .ok (.getfield 30, 3) := by decide +kernel
theorem dX5_handleDenial_13 : decode cX5_handleDenial 13 = .ok (.aload_n 1, 1) := by decide +kernel
theorem dX5_handleDenial_14 : decode cX5_handleDenial 14 = .ok (.getfield 88, 3) := by decide +kernel
theorem dX5_handleDenial_17 : decode cX5_handleDenial 17 = .ok (.iaload, 1) := by decide +kernel
theorem dX5_handleDenial_18 : decode cX5_handleDenial 18 = .ok (.aload_n 1, 1) := by decide +kernel
theorem dX5_handleDenial_19 : decode cX5_handleDenial 19 = .ok (.getfield 133, 3) := by decide +kernel
theorem dX5_handleDenial_22 : decode cX5_handleDenial 22 = .ok (.iconst 1, 1) := by decide +kernel
theorem dX5_handleDenial_23 : decode cX5_handleDenial 23 = .ok (.iadd, 1) := by decide +kernel
theorem dX5_handleDenial_24 : decode cX5_handleDenial 24 = .ok (.if_icmp .le 30, 3) := by decide +kernel
theorem dX5_handleDenial_27 : decode cX5_handleDenial 27 = .ok (.aload_n 0, 1) := by decide +kernel
theorem dX5_handleDenial_28 : decode cX5_handleDenial 28 = .ok (.getfield 30, 3) := by decide +kernel
theorem dX5_handleDenial_31 : decode cX5_handleDenial 31 = .ok (.aload_n 1, 1) := by decide +kernel
theorem dX5_handleDenial_32 : decode cX5_handleDenial 32 = .ok (.getfield 88, 3) := by decide +kernel
theorem dX5_handleDenial_35 : decode cX5_handleDenial 35 = .ok (.aload_n 1, 1) := by decide +kernel
theorem dX5_handleDenial_36 : decode cX5_handleDenial 36 = .ok (.getfield 133, 3) := by decide +kernel
theorem dX5_handleDenial_39 : decode cX5_handleDenial 39 = .ok (.aload_n 0, 1) := by decide +kernel
theorem dX5_handleDenial_40 : decode cX5_handleDenial 40 = .ok (.getfield 33, 3) := by decide +kernel
theorem dX5_handleDenial_43 : decode cX5_handleDenial 43 = .ok (.aload_n 1, 1) := by decide +kernel
theorem dX5_handleDenial_44 : decode cX5_handleDenial 44 = .ok (.getfield 88, 3) := by decide +kernel
theorem dX5_handleDenial_47 : decode cX5_handleDenial 47 = .ok (.iaload, 1) := by decide +kernel
theorem dX5_handleDenial_48 : decode cX5_handleDenial 48 = .ok (.invokestatic 187, 3) := by decide +kernel
theorem dX5_handleDenial_51 : decode cX5_handleDenial 51 = .ok (.iconst 1, 1) := by decide +kernel
theorem dX5_handleDenial_52 : decode cX5_handleDenial 52 = .ok (.iadd, 1) := by decide +kernel
theorem dX5_handleDenial_53 : decode cX5_handleDenial 53 = .ok (.iastore, 1) := by decide +kernel
theorem dX5_handleDenial_54 : decode cX5_handleDenial 54 = .ok (.aload_n 0, 1) := by decide +kernel
theorem dX5_handleDenial_55 : decode cX5_handleDenial 55 = .ok (.aload_n 1, 1) := by decide +kernel
theorem dX5_handleDenial_56 : decode cX5_handleDenial 56 = .ok (.getfield 88, 3) := by decide +kernel
theorem dX5_handleDenial_59 : decode cX5_handleDenial 59 = .ok (.invokevirtual 204, 3) := by decide +kernel
theorem dX5_handleDenial_62 : decode cX5_handleDenial 62 = .ok (.return_, 1) := by decide +kernel
theorem dX5_handleSnapshot_0 : decode cX5_handleSnapshot 0 = .ok (.aload_n 0, 1) := by decide +kernel
theorem dX5_handleSnapshot_1 : decode cX5_handleSnapshot 1 = .ok (.iconst 0, 1) := by decide +kernel
theorem dX5_handleSnapshot_2 : decode cX5_handleSnapshot 2 = .ok (.putfield 26, 3) := by decide +kernel
theorem dX5_handleSnapshot_5 : decode cX5_handleSnapshot 5 = .ok (.aload_n 1, 1) := by decide +kernel
theorem dX5_handleSnapshot_6 : decode cX5_handleSnapshot 6 = .ok (.getfield 208, 3) := by decide +kernel
theorem dX5_handleSnapshot_9 : decode cX5_handleSnapshot 9 = .ok (.astore_n 2, 1) := by decide +kernel
theorem dX5_handleSnapshot_10 : decode cX5_handleSnapshot 10 = .ok (.aload_n 2, 1) := by decide +kernel
theorem dX5_handleSnapshot_11 : decode cX5_handleSnapshot 11 = .ok (.ifnonnull 4, 3) := by decide +kernel
theorem dX5_handleSnapshot_14 : decode cX5_handleSnapshot 14 = .ok (.return_, 1) := by decide +kernel
theorem dX5_handleSnapshot_15 : decode cX5_handleSnapshot 15 = .ok (.aload_n 0, 1) := by decide +kernel
theorem dX5_handleSnapshot_16 : decode cX5_handleSnapshot 16 = .ok (.getfield 177, 3) := by decide +kernel
theorem dX5_handleSnapshot_19 : decode cX5_handleSnapshot 19 = .ok (.aload_n 2, 1) := by decide +kernel
theorem dX5_handleSnapshot_20 : decode cX5_handleSnapshot 20 = .ok (.getfield 164, 3) := by decide +kernel
theorem dX5_handleSnapshot_23 : decode cX5_handleSnapshot 23 = .ok (.if_icmp .lt 14, 3) := by decide +kernel
theorem dX5_handleSnapshot_26 : decode cX5_handleSnapshot 26 = .ok (.aload_n 0, 1) := by decide +kernel
theorem dX5_handleSnapshot_27 : decode cX5_handleSnapshot 27 = .ok (.aload_n 1, 1) := by decide +kernel
theorem dX5_handleSnapshot_28 : decode cX5_handleSnapshot 28 = .ok (.iconst 3, 1) := by decide +kernel
theorem dX5_handleSnapshot_29 : decode cX5_handleSnapshot 29 = .ok (.aload_n 0, 1) := by decide +kernel
theorem dX5_handleSnapshot_30 : decode cX5_handleSnapshot 30 = .ok (.getfield 177, 3) := by decide +kernel
theorem dX5_handleSnapshot_33 : decode cX5_handleSnapshot 33 = .ok (.invokevirtual 123, 3) := by decide +kernel
theorem dX5_handleSnapshot_36 : decode cX5_handleSnapshot 36 = .ok (.return_, 1) := by decide +kernel
theorem dX5_handleSnapshot_37 : decode cX5_handleSnapshot 37 = .ok (.aload_n 0, 1) := by decide +kernel
theorem dX5_handleSnapshot_38 : decode cX5_handleSnapshot 38 = .ok (.aload_n 0, 1) := by decide +kernel
theorem dX5_handleSnapshot_39 : decode cX5_handleSnapshot 39 = .ok (.getfield 52, 3) := by decide +kernel
theorem dX5_handleSnapshot_42 : decode cX5_handleSnapshot 42 = .ok (.aload_n 2, 1) := by decide +kernel
theorem dX5_handleSnapshot_43 : decode cX5_handleSnapshot 43 = .ok (.invokevirtual 209, 3) := by decide +kernel
theorem dX5_handleSnapshot_46 : decode cX5_handleSnapshot 46 = .ok (.invokevirtual 63, 3) := by decide +kernel
theorem dX5_handleSnapshot_49 : decode cX5_handleSnapshot 49 = .ok (.ifCond .ne 4, 3) := by decide +kernel
theorem dX5_handleSnapshot_52 : decode cX5_handleSnapshot 52 = .ok (.return_, 1) := by decide +kernel
theorem dX5_handleSnapshot_53 : decode cX5_handleSnapshot 53 = .ok (.aload_n 0, 1) := by decide +kernel
theorem dX5_handleSnapshot_54 : decode cX5_handleSnapshot 54 = .ok (.invokevirtual 213, 3) := by decide +kernel
theorem dX5_handleSnapshot_57 : decode cX5_handleSnapshot 57 = .ok (.aload_n 0, 1) := by decide +kernel
theorem dX5_handleSnapshot_58 : decode cX5_handleSnapshot 58 = .ok (.aload_n 1, 1) := by decide +kernel
theorem dX5_handleSnapshot_59 : decode cX5_handleSnapshot 59 = .ok (.iconst 3, 1) := by decide +kernel
theorem dX5_handleSnapshot_60 : decode cX5_handleSnapshot 60 = .ok (.aload_n 2, 1) := by decide +kernel
theorem dX5_handleSnapshot_61 : decode cX5_handleSnapshot 61 = .ok (.getfield 164, 3) := by decide +kernel
theorem dX5_handleSnapshot_64 : decode cX5_handleSnapshot 64 = .ok (.invokevirtual 123, 3) := by decide +kernel
theorem dX5_handleSnapshot_67 : decode cX5_handleSnapshot 67 = .ok (.return_, 1) := by decide +kernel
theorem dX5_lengthenLog_0 : decode cX5_lengthenLog 0 = .ok (.aload_n 0, 1) := by decide +kernel
theorem dX5_lengthenLog_1 : decode cX5_lengthenLog 1 = .ok (.aload_n 0, 1) := by decide +kernel
theorem dX5_lengthenLog_2 : decode cX5_lengthenLog 2 = .ok (.getfield 52, 3) := by decide +kernel
theorem dX5_lengthenLog_5 : decode cX5_lengthenLog 5 = .ok (.aload_n 0, 1) := by decide +kernel
theorem dX5_lengthenLog_6 : decode cX5_lengthenLog 6 = .ok (.getfield 52, 3) := by decide +kernel
theorem dX5_lengthenLog_9 : decode cX5_lengthenLog 9 = .ok (.getfield 70, 3) := by decide +kernel
theorem dX5_lengthenLog_12 : decode cX5_lengthenLog 12 = .ok (.iconst 1, 1) := by decide +kernel
theorem dX5_lengthenLog_13 : decode cX5_lengthenLog 13 = .ok (.iadd, 1) := by decide +kernel
theorem dX5_lengthenLog_14 : decode cX5_lengthenLog 14 = .ok (.new 195, 3) := by decide +kernel
theorem dX5_lengthenLog_17 : decode cX5_lengthenLog 17 = .ok (.dup, 1) := by decide +kernel
theorem dX5_lengthenLog_18 : decode cX5_lengthenLog 18 = .ok (.aload_n 0, 1) := by decide +kernel
theorem dX5_lengthenLog_19 : decode cX5_lengthenLog 19 = .ok (.getfield 52, 3) := by decide +kernel
theorem dX5_lengthenLog_22 : decode cX5_lengthenLog 22 = .ok (.getfield 56, 3) := by decide +kernel
theorem dX5_lengthenLog_25 : decode cX5_lengthenLog 25 = .ok (.aload_n 1, 1) := by decide +kernel
theorem dX5_lengthenLog_26 : decode cX5_lengthenLog 26 = .ok (.invokespecial 216, 3) := by decide +kernel
theorem dX5_lengthenLog_29 : decode cX5_lengthenLog 29 = .ok (.invokevirtual 197, 3) := by decide +kernel
theorem dX5_lengthenLog_32 : decode cX5_lengthenLog 32 = .ok (.invokevirtual 63, 3) := by decide +kernel
theorem dX5_lengthenLog_35 : decode cX5_lengthenLog 35 = .ok (.ireturn, 1) := by decide +kernel
theorem dX5_sendToAll_0 : decode cX5_sendToAll 0 = .ok (.iconst 0, 1) := by decide +kernel
theorem dX5_sendToAll_1 : decode cX5_sendToAll 1 = .ok (.istore_n 1, 1) := by decide +kernel
theorem dX5_sendToAll_2 : decode cX5_sendToAll 2 = .ok (.iload_n 1, 1) := by decide +kernel
theorem dX5_sendToAll_3 : decode cX5_sendToAll 3 = .ok (.iconst 5, 1) := by decide +kernel
theorem dX5_sendToAll_4 : decode cX5_sendToAll 4 = .ok (.if_icmp .ge 22, 3) := by decide +kernel
theorem dX5_sendToAll_7 : decode cX5_sendToAll 7 = .ok (.iload_n 1, 1) := by decide +kernel
theorem dX5_sendToAll_8 : decode cX5_sendToAll 8 = .ok (.aload_n 0, 1) := by decide +kernel
theorem dX5_sendToAll_9 : decode cX5_sendToAll 9 = .ok (.getfield 36, 3) := by decide +kernel
theorem dX5_sendToAll_12 : decode cX5_sendToAll 12 = .ok (.if_icmp .eq 8, 3) := by decide +kernel
theorem dX5_sendToAll_15 : decode cX5_sendToAll 15 = .ok (.aload_n 0, 1) := by decide +kernel
theorem dX5_sendToAll_16 : decode cX5_sendToAll 16 = .ok (.iload_n 1, 1) := by decide +kernel
theorem dX5_sendToAll_17 : decode cX5_sendToAll 17 = .ok (.invokevirtual 204, 3) := by decide +kernel
theorem dX5_sendToAll_20 : decode cX5_sendToAll 20 = .ok (.iinc 1 1, 3) := by decide +kernel
theorem dX5_sendToAll_23 : decode cX5_sendToAll 23 = .ok (.goto (-21), 3) := by decide +kernel
theorem dX5_sendToAll_26 : decode cX5_sendToAll 26 = .ok (.return_, 1) := by decide +kernel
theorem dX5_sendTo_0 : decode cX5_sendTo 0 = .ok (.aload_n 0, 1) := by decide +kernel
theorem dX5_sendTo_1 : decode cX5_sendTo 1 = .ok (.getfield 30, 3) := by decide +kernel
theorem dX5_sendTo_4 : decode cX5_sendTo 4 = .ok (.iload_n 1, 1) := by decide +kernel
theorem dX5_sendTo_5 : decode cX5_sendTo 5 = .ok (.iaload, 1) := by decide +kernel
theorem dX5_sendTo_6 : decode cX5_sendTo 6 = .ok (.iconst 1, 1) := by decide +kernel
theorem dX5_sendTo_7 : decode cX5_sendTo 7 = .ok (.isub, 1) := by decide +kernel
theorem dX5_sendTo_8 : decode cX5_sendTo 8 = .ok (.istore_n 2, 1) := by decide +kernel
theorem dX5_sendTo_9 : decode cX5_sendTo 9 = .ok (.aload_n 0, 1) := by decide +kernel
theorem dX5_sendTo_10 : decode cX5_sendTo 10 = .ok (.getfield 52, 3) := by decide +kernel
theorem dX5_sendTo_13 : decode cX5_sendTo 13 = .ok (.getfield 160, 3) := by decide +kernel
theorem dX5_sendTo_16 : decode cX5_sendTo 16 = .ok (.astore_n 3, 1) := by decide +kernel
theorem dX5_sendTo_17 : decode cX5_sendTo 17 = .ok (.iload_n 2, 1) := by decide +kernel
theorem dX5_sendTo_18 : decode cX5_sendTo 18 = .ok (.aload_n 3, 1) := by decide +kernel
theorem dX5_sendTo_19 : decode cX5_sendTo 19 = .ok (.getfield 164, 3) := by decide +kernel
theorem dX5_sendTo_22 : decode cX5_sendTo 22 = .ok (.if_icmp .ge 49, 3) := by decide +kernel
theorem dX5_sendTo_25 : decode cX5_sendTo 25 = .ok (.new 77, 3) := by decide +kernel
theorem dX5_sendTo_28 : decode cX5_sendTo 28 = .ok (.dup, 1) := by decide +kernel
theorem dX5_sendTo_29 : decode cX5_sendTo 29 = .ok (.iconst 5, 1) := by decide +kernel
theorem dX5_sendTo_30 : decode cX5_sendTo 30 = .ok (.aload_n 0, 1) := by decide +kernel
theorem dX5_sendTo_31 : decode cX5_sendTo 31 = .ok (.getfield 36, 3) := by decide +kernel
theorem dX5_sendTo_34 : decode cX5_sendTo 34 = .ok (.iload_n 1, 1) := by decide +kernel
theorem dX5_sendTo_35 : decode cX5_sendTo 35 = .ok (.aload_n 0, 1) := by decide +kernel
theorem dX5_sendTo_36 : decode cX5_sendTo 36 = .ok (.getfield 52, 3) := by decide +kernel
theorem dX5_sendTo_39 : decode cX5_sendTo 39 = .ok (.getfield 56, 3) := by decide +kernel
theorem dX5_sendTo_42 : decode cX5_sendTo 42 = .ok (.aload_n 3, 1) := by decide +kernel
theorem dX5_sendTo_43 : decode cX5_sendTo 43 = .ok (.getfield 164, 3) := by decide +kernel
theorem dX5_sendTo_46 : decode cX5_sendTo 46 = .ok (.aload_n 3, 1) := by decide +kernel
theorem dX5_sendTo_47 : decode cX5_sendTo 47 = .ok (.getfield 219, 3) := by decide +kernel
theorem dX5_sendTo_50 : decode cX5_sendTo 50 = .ok (.invokespecial 79, 3) := by decide +kernel
theorem dX5_sendTo_53 : decode cX5_sendTo 53 = .ok (.astore 4, 2) := by decide +kernel
theorem dX5_sendTo_55 : decode cX5_sendTo 55 = .ok (.aload 4, 2) := by decide +kernel
theorem dX5_sendTo_57 : decode cX5_sendTo 57 = .ok (.aload_n 3, 1) := by decide +kernel
theorem dX5_sendTo_58 : decode cX5_sendTo 58 = .ok (.putfield 208, 3) := by decide +kernel
theorem dX5_sendTo_61 : decode cX5_sendTo 61 = .ok (.aload_n 0, 1) := by decide +kernel
theorem dX5_sendTo_62 : decode cX5_sendTo 62 = .ok (.getfield 39, 3) := by decide +kernel
theorem dX5_sendTo_65 : decode cX5_sendTo 65 = .ok (.aload 4, 2) := by decide +kernel
theorem dX5_sendTo_67 : decode cX5_sendTo 67 = .ok (.invokevirtual 82, 3) := by decide +kernel
theorem dX5_sendTo_70 : decode cX5_sendTo 70 = .ok (.return_, 1) := by decide +kernel
theorem dX5_sendTo_71 : decode cX5_sendTo 71 = .ok (.new 77, 3) := by decide +kernel
theorem dX5_sendTo_74 : decode cX5_sendTo 74 = .ok (.dup, 1) := by decide +kernel
theorem dX5_sendTo_75 : decode cX5_sendTo 75 = .ok (.iconst 2, 1) := by decide +kernel
theorem dX5_sendTo_76 : decode cX5_sendTo 76 = .ok (.aload_n 0, 1) := by decide +kernel
theorem dX5_sendTo_77 : decode cX5_sendTo 77 = .ok (.getfield 36, 3) := by decide +kernel
theorem dX5_sendTo_80 : decode cX5_sendTo 80 = .ok (.iload_n 1, 1) := by decide +kernel
theorem dX5_sendTo_81 : decode cX5_sendTo 81 = .ok (.aload_n 0, 1) := by decide +kernel
theorem dX5_sendTo_82 : decode cX5_sendTo 82 = .ok (.getfield 52, 3) := by decide +kernel
theorem dX5_sendTo_85 : decode cX5_sendTo 85 = .ok (.getfield 56, 3) := by decide +kernel
theorem dX5_sendTo_88 : decode cX5_sendTo 88 = .ok (.iload_n 2, 1) := by decide +kernel
theorem dX5_sendTo_89 : decode cX5_sendTo 89 = .ok (.aload_n 0, 1) := by decide +kernel
theorem dX5_sendTo_90 : decode cX5_sendTo 90 = .ok (.getfield 52, 3) := by decide +kernel
theorem dX5_sendTo_93 : decode cX5_sendTo 93 = .ok (.iload_n 2, 1) := by decide +kernel
theorem dX5_sendTo_94 : decode cX5_sendTo 94 = .ok (.invokevirtual 73, 3) := by decide +kernel
theorem dX5_sendTo_97 : decode cX5_sendTo 97 = .ok (.invokespecial 79, 3) := by decide +kernel
theorem dX5_sendTo_100 : decode cX5_sendTo 100 = .ok (.astore 4, 2) := by decide +kernel
theorem dX5_sendTo_102 : decode cX5_sendTo 102 = .ok (.aload 4, 2) := by decide +kernel
theorem dX5_sendTo_104 : decode cX5_sendTo 104 = .ok (.aload_n 0, 1) := by decide +kernel
theorem dX5_sendTo_105 : decode cX5_sendTo 105 = .ok (.getfield 52, 3) := by decide +kernel
theorem dX5_sendTo_108 : decode cX5_sendTo 108 = .ok (.iload_n 2, 1) := by decide +kernel
theorem dX5_sendTo_109 : decode cX5_sendTo 109 = .ok (.invokevirtual 220, 3) := by decide +kernel
theorem dX5_sendTo_112 : decode cX5_sendTo 112 = .ok (.putfield 190, 3) := by decide +kernel
theorem dX5_sendTo_115 : decode cX5_sendTo 115 = .ok (.aload 4, 2) := by decide +kernel
theorem dX5_sendTo_117 : decode cX5_sendTo 117 = .ok (.aload_n 0, 1) := by decide +kernel
theorem dX5_sendTo_118 : decode cX5_sendTo 118 = .ok (.getfield 177, 3) := by decide +kernel
theorem dX5_sendTo_121 : decode cX5_sendTo 121 = .ok (.putfield 180, 3) := by decide +kernel
theorem dX5_sendTo_124 : decode cX5_sendTo 124 = .ok (.aload_n 0, 1) := by decide +kernel
theorem dX5_sendTo_125 : decode cX5_sendTo 125 = .ok (.getfield 39, 3) := by decide +kernel
theorem dX5_sendTo_128 : decode cX5_sendTo 128 = .ok (.aload 4, 2) := by decide +kernel
theorem dX5_sendTo_130 : decode cX5_sendTo 130 = .ok (.invokevirtual 82, 3) := by decide +kernel
theorem dX5_sendTo_133 : decode cX5_sendTo 133 = .ok (.return_, 1) := by decide +kernel
theorem dX5_reply_0 : decode cX5_reply 0 = .ok (.aload_n 0, 1) := by decide +kernel
theorem dX5_reply_1 : decode cX5_reply 1 = .ok (.getfield 39, 3) := by decide +kernel
theorem dX5_reply_4 : decode cX5_reply 4 = .ok (.new 77, 3) := by decide +kernel
theorem dX5_reply_7 : decode cX5_reply 7 = .ok (.dup, 1) := by decide +kernel
theorem dX5_reply_8 : decode cX5_reply 8 = .ok (.iload_n 2, 1) := by decide +kernel
theorem dX5_reply_9 : decode cX5_reply 9 = .ok (.aload_n 0, 1) := by decide +kernel
theorem dX5_reply_10 : decode cX5_reply 10 = .ok (.getfield 36, 3) := by decide +kernel
theorem dX5_reply_13 : decode cX5_reply 13 = .ok (.aload_n 1, 1) := by decide +kernel
theorem dX5_reply_14 : decode cX5_reply 14 = .ok (.getfield 88, 3) := by decide +kernel
theorem dX5_reply_17 : decode cX5_reply 17 = .ok (.aload_n 0, 1) := by decide +kernel
theorem dX5_reply_18 : decode cX5_reply 18 = .ok (.getfield 52, 3) := by decide +kernel
theorem dX5_reply_21 : decode cX5_reply 21 = .ok (.getfield 56, 3) := by decide +kernel
theorem dX5_reply_24 : decode cX5_reply 24 = .ok (.iload_n 3, 1) := by decide +kernel
theorem dX5_reply_25 : decode cX5_reply 25 = .ok (.iconst 0, 1) := by decide +kernel
theorem dX5_reply_26 : decode cX5_reply 26 = .ok (.invokespecial 79, 3) := by decide +kernel
theorem dX5_reply_29 : decode cX5_reply 29 = .ok (.invokevirtual 82, 3) := by decide +kernel
theorem dX5_reply_32 : decode cX5_reply 32 = .ok (.return_, 1) := by decide +kernel
theorem dX5_takeSnapshot_0 : decode cX5_takeSnapshot 0 = .ok (.new 9, 3) := by decide +kernel
theorem dX5_takeSnapshot_3 : decode cX5_takeSnapshot 3 = .ok (.dup, 1) := by decide +kernel
theorem dX5_takeSnapshot_4 : decode cX5_takeSnapshot 4 = .ok (.invokespecial 11, 3) := by decide +kernel
theorem dX5_takeSnapshot_7 : decode cX5_takeSnapshot 7 = .ok (.astore_n 1, 1) := by decide +kernel
theorem dX5_takeSnapshot_8 : decode cX5_takeSnapshot 8 = .ok (.aload_n 1, 1) := by decide +kernel
theorem dX5_takeSnapshot_9 : decode cX5_takeSnapshot 9 = .ok (.aload_n 0, 1) := by decide +kernel
theorem dX5_takeSnapshot_10 : decode cX5_takeSnapshot 10 = .ok (.getfield 12, 3) := by decide +kernel
theorem dX5_takeSnapshot_13 : decode cX5_takeSnapshot 13 = .ok (.invokevirtual 224, 3) := by decide +kernel
theorem dX5_takeSnapshot_16 : decode cX5_takeSnapshot 16 = .ok (.aload_n 0, 1) := by decide +kernel
theorem dX5_takeSnapshot_17 : decode cX5_takeSnapshot 17 = .ok (.aload_n 0, 1) := by decide +kernel
theorem dX5_takeSnapshot_18 : decode cX5_takeSnapshot 18 = .ok (.getfield 52, 3) := by decide +kernel
theorem dX5_takeSnapshot_21 : decode cX5_takeSnapshot 21 = .ok (.new 165, 3) := by decide +kernel
theorem dX5_takeSnapshot_24 : decode cX5_takeSnapshot 24 = .ok (.dup, 1) := by decide +kernel
theorem dX5_takeSnapshot_25 : decode cX5_takeSnapshot 25 = .ok (.aload_n 1, 1) := by decide +kernel
theorem dX5_takeSnapshot_26 : decode cX5_takeSnapshot 26 = .ok (.aload_n 0, 1) := by decide +kernel
theorem dX5_takeSnapshot_27 : decode cX5_takeSnapshot 27 = .ok (.getfield 177, 3) := by decide +kernel
theorem dX5_takeSnapshot_30 : decode cX5_takeSnapshot 30 = .ok (.aload_n 0, 1) := by decide +kernel
theorem dX5_takeSnapshot_31 : decode cX5_takeSnapshot 31 = .ok (.getfield 52, 3) := by decide +kernel
theorem dX5_takeSnapshot_34 : decode cX5_takeSnapshot 34 = .ok (.aload_n 0, 1) := by decide +kernel
theorem dX5_takeSnapshot_35 : decode cX5_takeSnapshot 35 = .ok (.getfield 177, 3) := by decide +kernel
theorem dX5_takeSnapshot_38 : decode cX5_takeSnapshot 38 = .ok (.invokevirtual 73, 3) := by decide +kernel
theorem dX5_takeSnapshot_41 : decode cX5_takeSnapshot 41 = .ok (.invokespecial 228, 3) := by decide +kernel
theorem dX5_takeSnapshot_44 : decode cX5_takeSnapshot 44 = .ok (.invokevirtual 209, 3) := by decide +kernel
theorem dX5_takeSnapshot_47 : decode cX5_takeSnapshot 47 = .ok (.invokevirtual 63, 3) := by decide +kernel
theorem dX5_takeSnapshot_50 : decode cX5_takeSnapshot 50 = .ok (.pop, 1) := by decide +kernel
theorem dX5_takeSnapshot_51 : decode cX5_takeSnapshot 51 = .ok (.return_, 1) := by decide +kernel
theorem dX5_applyCommitted_0 : decode cX5_applyCommitted 0 = .ok (.aload_n 0, 1) := by decide +kernel
theorem dX5_applyCommitted_1 : decode cX5_applyCommitted 1 = .ok (.getfield 231, 3) := by decide +kernel
theorem dX5_applyCommitted_4 : decode cX5_applyCommitted 4 = .ok (.iconst 1, 1) := by decide +kernel
theorem dX5_applyCommitted_5 : decode cX5_applyCommitted 5 = .ok (.iadd, 1) := by decide +kernel
theorem dX5_applyCommitted_6 : decode cX5_applyCommitted 6 = .ok (.istore_n 1, 1) := by decide +kernel
theorem dX5_applyCommitted_7 : decode cX5_applyCommitted 7 = .ok (.iload_n 1, 1) := by decide +kernel
theorem dX5_applyCommitted_8 : decode cX5_applyCommitted 8 = .ok (.aload_n 0, 1) := by decide +kernel
theorem dX5_applyCommitted_9 : decode cX5_applyCommitted 9 = .ok (.getfield 177, 3) := by decide +kernel
theorem dX5_applyCommitted_12 : decode cX5_applyCommitted 12 = .ok (.if_icmp .gt 70, 3) := by decide +kernel
theorem dX5_applyCommitted_15 : decode cX5_applyCommitted 15 = .ok (.aload_n 0, 1) := by decide +kernel
theorem dX5_applyCommitted_16 : decode cX5_applyCommitted 16 = .ok (.getfield 52, 3) := by decide +kernel
theorem dX5_applyCommitted_19 : decode cX5_applyCommitted 19 = .ok (.iload_n 1, 1) := by decide +kernel
theorem dX5_applyCommitted_20 : decode cX5_applyCommitted 20 = .ok (.invokevirtual 234, 3) := by decide +kernel
theorem dX5_applyCommitted_23 : decode cX5_applyCommitted 23 = .ok (.astore_n 2, 1) := by decide +kernel
theorem dX5_applyCommitted_24 : decode cX5_applyCommitted 24 = .ok (.aload_n 2, 1) := by decide +kernel
theorem dX5_applyCommitted_25 : decode cX5_applyCommitted 25 = .ok (.ifnull 12, 3) := by decide +kernel
theorem dX5_applyCommitted_28 : decode cX5_applyCommitted 28 = .ok (.iload_n 1, 1) := by decide +kernel
theorem dX5_applyCommitted_29 : decode cX5_applyCommitted 29 = .ok (.aload_n 0, 1) := by decide +kernel
theorem dX5_applyCommitted_30 : decode cX5_applyCommitted 30 = .ok (.getfield 18, 3) := by decide +kernel
theorem dX5_applyCommitted_33 : decode cX5_applyCommitted 33 = .ok (.arraylength, 1) := by decide +kernel
theorem dX5_applyCommitted_34 : decode cX5_applyCommitted 34 = .ok (.if_icmp .lt 4, 3) := by decide +kernel
theorem dX5_applyCommitted_37 : decode cX5_applyCommitted 37 = .ok (.return_, 1) := by decide +kernel
theorem dX5_applyCommitted_38 : decode cX5_applyCommitted 38 = .ok (.aload_n 0, 1) := by decide +kernel
theorem dX5_applyCommitted_39 : decode cX5_applyCommitted 39 = .ok (.getfield 43, 3) := by decide +kernel
theorem dX5_applyCommitted_42 : decode cX5_applyCommitted 42 = .ok (.iload_n 1, 1) := by decide +kernel
theorem dX5_applyCommitted_43 : decode cX5_applyCommitted 43 = .ok (.aload_n 2, 1) := by decide +kernel
theorem dX5_applyCommitted_44 : decode cX5_applyCommitted 44 = .ok (.invokevirtual 238, 3) := by decide +kernel
theorem dX5_applyCommitted_47 : decode cX5_applyCommitted 47 = .ok (.aload_n 0, 1) := by decide +kernel
theorem dX5_applyCommitted_48 : decode cX5_applyCommitted 48 = .ok (.getfield 18, 3) := by decide +kernel
theorem dX5_applyCommitted_51 : decode cX5_applyCommitted 51 = .ok (.iload_n 1, 1) := by decide +kernel
theorem dX5_applyCommitted_52 : decode cX5_applyCommitted 52 = .ok (.aload_n 0, 1) := by decide +kernel
theorem dX5_applyCommitted_53 : decode cX5_applyCommitted 53 = .ok (.getfield 12, 3) := by decide +kernel
theorem dX5_applyCommitted_56 : decode cX5_applyCommitted 56 = .ok (.aload_n 2, 1) := by decide +kernel
theorem dX5_applyCommitted_57 : decode cX5_applyCommitted 57 = .ok (.getfield 242, 3) := by decide +kernel
theorem dX5_applyCommitted_60 : decode cX5_applyCommitted 60 = .ok (.invokevirtual 246, 3) := by decide +kernel
theorem dX5_applyCommitted_63 : decode cX5_applyCommitted 63 = .ok (.iastore, 1) := by decide +kernel
theorem dX5_applyCommitted_64 : decode cX5_applyCommitted 64 = .ok (.aload_n 0, 1) := by decide +kernel
theorem dX5_applyCommitted_65 : decode cX5_applyCommitted 65 = .ok (.getfield 12, 3) := by decide +kernel
theorem dX5_applyCommitted_68 : decode cX5_applyCommitted 68 = .ok (.invokevirtual 250, 3) := by decide +kernel
theorem dX5_applyCommitted_71 : decode cX5_applyCommitted 71 = .ok (.aload_n 0, 1) := by decide +kernel
theorem dX5_applyCommitted_72 : decode cX5_applyCommitted 72 = .ok (.iload_n 1, 1) := by decide +kernel
theorem dX5_applyCommitted_73 : decode cX5_applyCommitted 73 = .ok (.putfield 231, 3) := by decide +kernel
theorem dX5_applyCommitted_76 : decode cX5_applyCommitted 76 = .ok (.iinc 1 1, 3) := by decide +kernel
theorem dX5_applyCommitted_79 : decode cX5_applyCommitted 79 = .ok (.goto (-72), 3) := by decide +kernel
theorem dX5_applyCommitted_82 : decode cX5_applyCommitted 82 = .ok (.return_, 1) := by decide +kernel
theorem dX5_knowsResult_0 : decode cX5_knowsResult 0 = .ok (.aload_n 0, 1) := by decide +kernel
theorem dX5_knowsResult_1 : decode cX5_knowsResult 1 = .ok (.getfield 22, 3) := by decide +kernel
theorem dX5_knowsResult_4 : decode cX5_knowsResult 4 = .ok (.ifCond .eq 32, 3) := by decide +kernel
theorem dX5_knowsResult_7 : decode cX5_knowsResult 7 = .ok (.iload_n 1, 1) := by decide +kernel
theorem dX5_knowsResult_8 : decode cX5_knowsResult 8 = .ok (.aload_n 0, 1) := by decide +kernel
theorem dX5_knowsResult_9 : decode cX5_knowsResult 9 = .ok (.getfield 253, 3) := by decide +kernel
theorem dX5_knowsResult_12 : decode cX5_knowsResult 12 = .ok (.if_icmp .le 24, 3) := by decide +kernel
theorem dX5_knowsResult_15 : decode cX5_knowsResult 15 = .ok (.iload_n 1, 1) := by decide +kernel
theorem dX5_knowsResult_16 : decode cX5_knowsResult 16 = .ok (.aload_n 0, 1) := by decide +kernel
theorem dX5_knowsResult_17 : decode cX5_knowsResult 17 = .ok (.getfield 231, 3) := by decide +kernel
theorem dX5_knowsResult_20 : decode cX5_knowsResult 20 = .ok (.if_icmp .gt 16, 3) := by decide +kernel
theorem dX5_knowsResult_23 : decode cX5_knowsResult 23 = .ok (.iload_n 1, 1) := by decide +kernel
theorem dX5_knowsResult_24 : decode cX5_knowsResult 24 = .ok (.aload_n 0, 1) := by decide +kernel
theorem dX5_knowsResult_25 : decode cX5_knowsResult 25 = .ok (.getfield 18, 3) := by decide +kernel
theorem dX5_knowsResult_28 : decode cX5_knowsResult 28 = .ok (.arraylength, 1) := by decide +kernel
theorem dX5_knowsResult_29 : decode cX5_knowsResult 29 = .ok (.if_icmp .ge 7, 3) := by decide +kernel
theorem dX5_knowsResult_32 : decode cX5_knowsResult 32 = .ok (.iconst 1, 1) := by decide +kernel
theorem dX5_knowsResult_33 : decode cX5_knowsResult 33 = .ok (.goto 4, 3) := by decide +kernel
theorem dX5_knowsResult_36 : decode cX5_knowsResult 36 = .ok (.iconst 0, 1) := by decide +kernel
theorem dX5_knowsResult_37 : decode cX5_knowsResult 37 = .ok (.ireturn, 1) := by decide +kernel
theorem dX5_survives_0 : decode cX5_survives 0 = .ok (.iload_n 1, 1) := by decide +kernel
theorem dX5_survives_1 : decode cX5_survives 1 = .ok (.ifCond .ne 7, 3) := by decide +kernel
theorem dX5_survives_4 : decode cX5_survives 4 = .ok (.aload_n 0, 1) := by decide +kernel
theorem dX5_survives_5 : decode cX5_survives 5 = .ok (.invokevirtual 256, 3) := by decide +kernel
theorem dX5_survives_8 : decode cX5_survives 8 = .ok (.iload_n 1, 1) := by decide +kernel
theorem dX5_survives_9 : decode cX5_survives 9 = .ok (.ireturn, 1) := by decide +kernel
theorem dX5_goDown_0 : decode cX5_goDown 0 = .ok (.aload_n 0, 1) := by decide +kernel
theorem dX5_goDown_1 : decode cX5_goDown 1 = .ok (.iconst 0, 1) := by decide +kernel
theorem dX5_goDown_2 : decode cX5_goDown 2 = .ok (.putfield 22, 3) := by decide +kernel
theorem dX5_goDown_5 : decode cX5_goDown 5 = .ok (.aload_n 0, 1) := by decide +kernel
theorem dX5_goDown_6 : decode cX5_goDown 6 = .ok (.iconst 0, 1) := by decide +kernel
theorem dX5_goDown_7 : decode cX5_goDown 7 = .ok (.putfield 26, 3) := by decide +kernel
theorem dX5_goDown_10 : decode cX5_goDown 10 = .ok (.aload_n 0, 1) := by decide +kernel
theorem dX5_goDown_11 : decode cX5_goDown 11 = .ok (.iconst 0, 1) := by decide +kernel
theorem dX5_goDown_12 : decode cX5_goDown 12 = .ok (.putfield 67, 3) := by decide +kernel
theorem dX5_goDown_15 : decode cX5_goDown 15 = .ok (.aload_n 0, 1) := by decide +kernel
theorem dX5_goDown_16 : decode cX5_goDown 16 = .ok (.aload_n 0, 1) := by decide +kernel
theorem dX5_goDown_17 : decode cX5_goDown 17 = .ok (.getfield 52, 3) := by decide +kernel
theorem dX5_goDown_20 : decode cX5_goDown 20 = .ok (.getfield 160, 3) := by decide +kernel
theorem dX5_goDown_23 : decode cX5_goDown 23 = .ok (.getfield 164, 3) := by decide +kernel
theorem dX5_goDown_26 : decode cX5_goDown 26 = .ok (.putfield 177, 3) := by decide +kernel
theorem dX5_goDown_29 : decode cX5_goDown 29 = .ok (.aload_n 0, 1) := by decide +kernel
theorem dX5_goDown_30 : decode cX5_goDown 30 = .ok (.aload_n 0, 1) := by decide +kernel
theorem dX5_goDown_31 : decode cX5_goDown 31 = .ok (.getfield 177, 3) := by decide +kernel
theorem dX5_goDown_34 : decode cX5_goDown 34 = .ok (.putfield 231, 3) := by decide +kernel
theorem dX5_goDown_37 : decode cX5_goDown 37 = .ok (.aload_n 0, 1) := by decide +kernel
theorem dX5_goDown_38 : decode cX5_goDown 38 = .ok (.getfield 52, 3) := by decide +kernel
theorem dX5_goDown_41 : decode cX5_goDown 41 = .ok (.iconst (-1), 1) := by decide +kernel
theorem dX5_goDown_42 : decode cX5_goDown 42 = .ok (.putfield 259, 3) := by decide +kernel
theorem dX5_goDown_45 : decode cX5_goDown 45 = .ok (.return_, 1) := by decide +kernel
theorem dX5_comeUp_0 : decode cX5_comeUp 0 = .ok (.aload_n 0, 1) := by decide +kernel
theorem dX5_comeUp_1 : decode cX5_comeUp 1 = .ok (.iconst 1, 1) := by decide +kernel
theorem dX5_comeUp_2 : decode cX5_comeUp 2 = .ok (.putfield 22, 3) := by decide +kernel
theorem dX5_comeUp_5 : decode cX5_comeUp 5 = .ok (.aload_n 0, 1) := by decide +kernel
theorem dX5_comeUp_6 : decode cX5_comeUp 6 = .ok (.invokevirtual 213, 3) := by decide +kernel
theorem dX5_comeUp_9 : decode cX5_comeUp 9 = .ok (.return_, 1) := by decide +kernel
theorem dX5_loadSnapshot_0 : decode cX5_loadSnapshot 0 = .ok (.aload_n 0, 1) := by decide +kernel
theorem dX5_loadSnapshot_1 : decode cX5_loadSnapshot 1 = .ok (.getfield 12, 3) := by decide +kernel
theorem dX5_loadSnapshot_4 : decode cX5_loadSnapshot 4 = .ok (.aload_n 0, 1) := by decide +kernel
theorem dX5_loadSnapshot_5 : decode cX5_loadSnapshot 5 = .ok (.getfield 52, 3) := by decide +kernel
theorem dX5_loadSnapshot_8 : decode cX5_loadSnapshot 8 = .ok (.getfield 160, 3) := by decide +kernel
theorem dX5_loadSnapshot_11 : decode cX5_loadSnapshot 11 = .ok (.getfield 262, 3) := by decide +kernel
theorem dX5_loadSnapshot_14 : decode cX5_loadSnapshot 14 = .ok (.invokevirtual 224, 3) := by decide +kernel
theorem dX5_loadSnapshot_17 : decode cX5_loadSnapshot 17 = .ok (.aload_n 0, 1) := by decide +kernel
theorem dX5_loadSnapshot_18 : decode cX5_loadSnapshot 18 = .ok (.aload_n 0, 1) := by decide +kernel
theorem dX5_loadSnapshot_19 : decode cX5_loadSnapshot 19 = .ok (.getfield 52, 3) := by decide +kernel
theorem dX5_loadSnapshot_22 : decode cX5_loadSnapshot 22 = .ok (.getfield 160, 3) := by decide +kernel
theorem dX5_loadSnapshot_25 : decode cX5_loadSnapshot 25 = .ok (.getfield 164, 3) := by decide +kernel
theorem dX5_loadSnapshot_28 : decode cX5_loadSnapshot 28 = .ok (.putfield 177, 3) := by decide +kernel
theorem dX5_loadSnapshot_31 : decode cX5_loadSnapshot 31 = .ok (.aload_n 0, 1) := by decide +kernel
theorem dX5_loadSnapshot_32 : decode cX5_loadSnapshot 32 = .ok (.aload_n 0, 1) := by decide +kernel
theorem dX5_loadSnapshot_33 : decode cX5_loadSnapshot 33 = .ok (.getfield 177, 3) := by decide +kernel
theorem dX5_loadSnapshot_36 : decode cX5_loadSnapshot 36 = .ok (.putfield 231, 3) := by decide +kernel
theorem dX5_loadSnapshot_39 : decode cX5_loadSnapshot 39 = .ok (.aload_n 0, 1) := by decide +kernel
theorem dX5_loadSnapshot_40 : decode cX5_loadSnapshot 40 = .ok (.aload_n 0, 1) := by decide +kernel
theorem dX5_loadSnapshot_41 : decode cX5_loadSnapshot 41 = .ok (.getfield 177, 3) := by decide +kernel
theorem dX5_loadSnapshot_44 : decode cX5_loadSnapshot 44 = .ok (.putfield 253, 3) := by decide +kernel
theorem dX5_loadSnapshot_47 : decode cX5_loadSnapshot 47 = .ok (.return_, 1) := by decide +kernel
theorem dX5_field_0 : decode cX5_field 0 = .ok (.iload_n 1, 1) := by decide +kernel
theorem dX5_field_1 : decode cX5_field 1 = .ok (.tableswitch 101 0 6 #[43, 56, 64, 72, 77, 88, 96], 43) := by decide +kernel
theorem dX5_field_44 : decode cX5_field 44 = .ok (.aload_n 0, 1) := by decide +kernel
theorem dX5_field_45 : decode cX5_field 45 = .ok (.getfield 22, 3) := by decide +kernel
theorem dX5_field_48 : decode cX5_field 48 = .ok (.ifCond .eq 7, 3) := by decide +kernel
theorem dX5_field_51 : decode cX5_field 51 = .ok (.iconst 1, 1) := by decide +kernel
theorem dX5_field_52 : decode cX5_field 52 = .ok (.goto 4, 3) := by decide +kernel
theorem dX5_field_55 : decode cX5_field 55 = .ok (.iconst 0, 1) := by decide +kernel
theorem dX5_field_56 : decode cX5_field 56 = .ok (.ireturn, 1) := by decide +kernel
theorem dX5_field_57 : decode cX5_field 57 = .ok (.aload_n 0, 1) := by decide +kernel
theorem dX5_field_58 : decode cX5_field 58 = .ok (.getfield 52, 3) := by decide +kernel
theorem dX5_field_61 : decode cX5_field 61 = .ok (.getfield 56, 3) := by decide +kernel
theorem dX5_field_64 : decode cX5_field 64 = .ok (.ireturn, 1) := by decide +kernel
theorem dX5_field_65 : decode cX5_field 65 = .ok (.aload_n 0, 1) := by decide +kernel
theorem dX5_field_66 : decode cX5_field 66 = .ok (.getfield 52, 3) := by decide +kernel
theorem dX5_field_69 : decode cX5_field 69 = .ok (.getfield 127, 3) := by decide +kernel
theorem dX5_field_72 : decode cX5_field 72 = .ok (.ireturn, 1) := by decide +kernel
theorem dX5_field_73 : decode cX5_field 73 = .ok (.aload_n 0, 1) := by decide +kernel
theorem dX5_field_74 : decode cX5_field 74 = .ok (.getfield 26, 3) := by decide +kernel
theorem dX5_field_77 : decode cX5_field 77 = .ok (.ireturn, 1) := by decide +kernel
theorem dX5_field_78 : decode cX5_field 78 = .ok (.aload_n 0, 1) := by decide +kernel
theorem dX5_field_79 : decode cX5_field 79 = .ok (.getfield 52, 3) := by decide +kernel
theorem dX5_field_82 : decode cX5_field 82 = .ok (.getfield 160, 3) := by decide +kernel
theorem dX5_field_85 : decode cX5_field 85 = .ok (.getfield 164, 3) := by decide +kernel
theorem dX5_field_88 : decode cX5_field 88 = .ok (.ireturn, 1) := by decide +kernel
theorem dX5_field_89 : decode cX5_field 89 = .ok (.aload_n 0, 1) := by decide +kernel
theorem dX5_field_90 : decode cX5_field 90 = .ok (.getfield 52, 3) := by decide +kernel
theorem dX5_field_93 : decode cX5_field 93 = .ok (.getfield 70, 3) := by decide +kernel
theorem dX5_field_96 : decode cX5_field 96 = .ok (.ireturn, 1) := by decide +kernel
theorem dX5_field_97 : decode cX5_field 97 = .ok (.aload_n 0, 1) := by decide +kernel
theorem dX5_field_98 : decode cX5_field 98 = .ok (.getfield 177, 3) := by decide +kernel
theorem dX5_field_101 : decode cX5_field 101 = .ok (.ireturn, 1) := by decide +kernel
theorem dX5_field_102 : decode cX5_field 102 = .ok (.aload_n 0, 1) := by decide +kernel
theorem dX5_field_103 : decode cX5_field 103 = .ok (.getfield 52, 3) := by decide +kernel
theorem dX5_field_106 : decode cX5_field 106 = .ok (.aload_n 0, 1) := by decide +kernel
theorem dX5_field_107 : decode cX5_field 107 = .ok (.getfield 52, 3) := by decide +kernel
theorem dX5_field_110 : decode cX5_field 110 = .ok (.getfield 70, 3) := by decide +kernel
theorem dX5_field_113 : decode cX5_field 113 = .ok (.invokevirtual 73, 3) := by decide +kernel
theorem dX5_field_116 : decode cX5_field 116 = .ok (.ireturn, 1) := by decide +kernel
theorem dX6_init_0 : decode cX6_init 0 = .ok (.aload_n 0, 1) := by decide +kernel
theorem dX6_init_1 : decode cX6_init 1 = .ok (.invokespecial 1, 3) := by decide +kernel
theorem dX6_init_4 : decode cX6_init 4 = .ok (.aload_n 0, 1) := by decide +kernel
theorem dX6_init_5 : decode cX6_init 5 = .ok (.aload_n 1, 1) := by decide +kernel
theorem dX6_init_6 : decode cX6_init 6 = .ok (.putfield 7, 3) := by decide +kernel
theorem dX6_init_9 : decode cX6_init 9 = .ok (.aload_n 0, 1) := by decide +kernel
theorem dX6_init_10 : decode cX6_init 10 = .ok (.iload_n 2, 1) := by decide +kernel
theorem dX6_init_11 : decode cX6_init 11 = .ok (.putfield 13, 3) := by decide +kernel
theorem dX6_init_14 : decode cX6_init 14 = .ok (.aload_n 0, 1) := by decide +kernel
theorem dX6_init_15 : decode cX6_init 15 = .ok (.iload_n 3, 1) := by decide +kernel
theorem dX6_init_16 : decode cX6_init 16 = .ok (.putfield 17, 3) := by decide +kernel
theorem dX6_init_19 : decode cX6_init 19 = .ok (.return_, 1) := by decide +kernel
theorem dX7_init_0 : decode cX7_init 0 = .ok (.aload_n 0, 1) := by decide +kernel
theorem dX7_init_1 : decode cX7_init 1 = .ok (.invokespecial 3, 3) := by decide +kernel
theorem dX7_init_4 : decode cX7_init 4 = .ok (.aload_n 0, 1) := by decide +kernel
theorem dX7_init_5 : decode cX7_init 5 = .ok (.iconst 1, 1) := by decide +kernel
theorem dX7_init_6 : decode cX7_init 6 = .ok (.putfield 9, 3) := by decide +kernel
theorem dX7_init_9 : decode cX7_init 9 = .ok (.aload_n 0, 1) := by decide +kernel
theorem dX7_init_10 : decode cX7_init 10 = .ok (.sipush 464, 3) := by decide +kernel
theorem dX7_init_13 : decode cX7_init 13 = .ok (.newarray .long, 2) := by decide +kernel
theorem dX7_init_15 : decode cX7_init 15 = .ok (.putfield 15, 3) := by decide +kernel
theorem dX7_init_18 : decode cX7_init 18 = .ok (.aload_n 0, 1) := by decide +kernel
theorem dX7_init_19 : decode cX7_init 19 = .ok (.bipush 64, 2) := by decide +kernel
theorem dX7_init_21 : decode cX7_init 21 = .ok (.newarray .int, 2) := by decide +kernel
theorem dX7_init_23 : decode cX7_init 23 = .ok (.putfield 19, 3) := by decide +kernel
theorem dX7_init_26 : decode cX7_init 26 = .ok (.aload_n 0, 1) := by decide +kernel
theorem dX7_init_27 : decode cX7_init 27 = .ok (.bipush 64, 2) := by decide +kernel
theorem dX7_init_29 : decode cX7_init 29 = .ok (.newarray .int, 2) := by decide +kernel
theorem dX7_init_31 : decode cX7_init 31 = .ok (.putfield 23, 3) := by decide +kernel
theorem dX7_init_34 : decode cX7_init 34 = .ok (.aload_n 0, 1) := by decide +kernel
theorem dX7_init_35 : decode cX7_init 35 = .ok (.bipush 64, 2) := by decide +kernel
theorem dX7_init_37 : decode cX7_init 37 = .ok (.newarray .int, 2) := by decide +kernel
theorem dX7_init_39 : decode cX7_init 39 = .ok (.putfield 26, 3) := by decide +kernel
theorem dX7_init_42 : decode cX7_init 42 = .ok (.aload_n 0, 1) := by decide +kernel
theorem dX7_init_43 : decode cX7_init 43 = .ok (.bipush 64, 2) := by decide +kernel
theorem dX7_init_45 : decode cX7_init 45 = .ok (.newarray .int, 2) := by decide +kernel
theorem dX7_init_47 : decode cX7_init 47 = .ok (.putfield 29, 3) := by decide +kernel
theorem dX7_init_50 : decode cX7_init 50 = .ok (.aload_n 0, 1) := by decide +kernel
theorem dX7_init_51 : decode cX7_init 51 = .ok (.bipush 64, 2) := by decide +kernel
theorem dX7_init_53 : decode cX7_init 53 = .ok (.newarray .int, 2) := by decide +kernel
theorem dX7_init_55 : decode cX7_init 55 = .ok (.putfield 32, 3) := by decide +kernel
theorem dX7_init_58 : decode cX7_init 58 = .ok (.aload_n 0, 1) := by decide +kernel
theorem dX7_init_59 : decode cX7_init 59 = .ok (.bipush 64, 2) := by decide +kernel
theorem dX7_init_61 : decode cX7_init 61 = .ok (.newarray .int, 2) := by decide +kernel
theorem dX7_init_63 : decode cX7_init 63 = .ok (.putfield 35, 3) := by decide +kernel
theorem dX7_init_66 : decode cX7_init 66 = .ok (.aload_n 0, 1) := by decide +kernel
theorem dX7_init_67 : decode cX7_init 67 = .ok (.bipush 9, 2) := by decide +kernel
theorem dX7_init_69 : decode cX7_init 69 = .ok (.newarray .int, 2) := by decide +kernel
theorem dX7_init_71 : decode cX7_init 71 = .ok (.putfield 38, 3) := by decide +kernel
theorem dX7_init_74 : decode cX7_init 74 = .ok (.return_, 1) := by decide +kernel
theorem dX7_copyFrom_0 : decode cX7_copyFrom 0 = .ok (.aload_n 0, 1) := by decide +kernel
theorem dX7_copyFrom_1 : decode cX7_copyFrom 1 = .ok (.aload_n 1, 1) := by decide +kernel
theorem dX7_copyFrom_2 : decode cX7_copyFrom 2 = .ok (.getfield 9, 3) := by decide +kernel
theorem dX7_copyFrom_5 : decode cX7_copyFrom 5 = .ok (.putfield 9, 3) := by decide +kernel
theorem dX7_copyFrom_8 : decode cX7_copyFrom 8 = .ok (.aload_n 0, 1) := by decide +kernel
theorem dX7_copyFrom_9 : decode cX7_copyFrom 9 = .ok (.aload_n 1, 1) := by decide +kernel
theorem dX7_copyFrom_10 : decode cX7_copyFrom 10 = .ok (.getfield 41, 3) := by decide +kernel
theorem dX7_copyFrom_13 : decode cX7_copyFrom 13 = .ok (.putfield 41, 3) := by decide +kernel
theorem dX7_copyFrom_16 : decode cX7_copyFrom 16 = .ok (.aload_n 0, 1) := by decide +kernel
theorem dX7_copyFrom_17 : decode cX7_copyFrom 17 = .ok (.aload_n 1, 1) := by decide +kernel
theorem dX7_copyFrom_18 : decode cX7_copyFrom 18 = .ok (.getfield 44, 3) := by decide +kernel
theorem dX7_copyFrom_21 : decode cX7_copyFrom 21 = .ok (.putfield 44, 3) := by decide +kernel
theorem dX7_copyFrom_24 : decode cX7_copyFrom 24 = .ok (.aload_n 0, 1) := by decide +kernel
theorem dX7_copyFrom_25 : decode cX7_copyFrom 25 = .ok (.aload_n 1, 1) := by decide +kernel
theorem dX7_copyFrom_26 : decode cX7_copyFrom 26 = .ok (.getfield 47, 3) := by decide +kernel
theorem dX7_copyFrom_29 : decode cX7_copyFrom 29 = .ok (.putfield 47, 3) := by decide +kernel
theorem dX7_copyFrom_32 : decode cX7_copyFrom 32 = .ok (.aload_n 0, 1) := by decide +kernel
theorem dX7_copyFrom_33 : decode cX7_copyFrom 33 = .ok (.aload_n 1, 1) := by decide +kernel
theorem dX7_copyFrom_34 : decode cX7_copyFrom 34 = .ok (.getfield 50, 3) := by decide +kernel
theorem dX7_copyFrom_37 : decode cX7_copyFrom 37 = .ok (.putfield 50, 3) := by decide +kernel
theorem dX7_copyFrom_40 : decode cX7_copyFrom 40 = .ok (.aload_n 0, 1) := by decide +kernel
theorem dX7_copyFrom_41 : decode cX7_copyFrom 41 = .ok (.aload_n 1, 1) := by decide +kernel
theorem dX7_copyFrom_42 : decode cX7_copyFrom 42 = .ok (.getfield 54, 3) := by decide +kernel
theorem dX7_copyFrom_45 : decode cX7_copyFrom 45 = .ok (.putfield 54, 3) := by decide +kernel
theorem dX7_copyFrom_48 : decode cX7_copyFrom 48 = .ok (.aload_n 1, 1) := by decide +kernel
theorem dX7_copyFrom_49 : decode cX7_copyFrom 49 = .ok (.getfield 15, 3) := by decide +kernel
theorem dX7_copyFrom_52 : decode cX7_copyFrom 52 = .ok (.iconst 0, 1) := by decide +kernel
theorem dX7_copyFrom_53 : decode cX7_copyFrom 53 = .ok (.aload_n 0, 1) := by decide +kernel
theorem dX7_copyFrom_54 : decode cX7_copyFrom 54 = .ok (.getfield 15, 3) := by decide +kernel
theorem dX7_copyFrom_57 : decode cX7_copyFrom 57 = .ok (.iconst 0, 1) := by decide +kernel
theorem dX7_copyFrom_58 : decode cX7_copyFrom 58 = .ok (.sipush 464, 3) := by decide +kernel
theorem dX7_copyFrom_61 : decode cX7_copyFrom 61 = .ok (.invokestatic 57, 3) := by decide +kernel
theorem dX7_copyFrom_64 : decode cX7_copyFrom 64 = .ok (.aload_n 1, 1) := by decide +kernel
theorem dX7_copyFrom_65 : decode cX7_copyFrom 65 = .ok (.getfield 19, 3) := by decide +kernel
theorem dX7_copyFrom_68 : decode cX7_copyFrom 68 = .ok (.iconst 0, 1) := by decide +kernel
theorem dX7_copyFrom_69 : decode cX7_copyFrom 69 = .ok (.aload_n 0, 1) := by decide +kernel
theorem dX7_copyFrom_70 : decode cX7_copyFrom 70 = .ok (.getfield 19, 3) := by decide +kernel
theorem dX7_copyFrom_73 : decode cX7_copyFrom 73 = .ok (.iconst 0, 1) := by decide +kernel
theorem dX7_copyFrom_74 : decode cX7_copyFrom 74 = .ok (.bipush 64, 2) := by decide +kernel
theorem dX7_copyFrom_76 : decode cX7_copyFrom 76 = .ok (.invokestatic 57, 3) := by decide +kernel
theorem dX7_copyFrom_79 : decode cX7_copyFrom 79 = .ok (.aload_n 1, 1) := by decide +kernel
theorem dX7_copyFrom_80 : decode cX7_copyFrom 80 = .ok (.getfield 23, 3) := by decide +kernel
theorem dX7_copyFrom_83 : decode cX7_copyFrom 83 = .ok (.iconst 0, 1) := by decide +kernel
theorem dX7_copyFrom_84 : decode cX7_copyFrom 84 = .ok (.aload_n 0, 1) := by decide +kernel
theorem dX7_copyFrom_85 : decode cX7_copyFrom 85 = .ok (.getfield 23, 3) := by decide +kernel
theorem dX7_copyFrom_88 : decode cX7_copyFrom 88 = .ok (.iconst 0, 1) := by decide +kernel
theorem dX7_copyFrom_89 : decode cX7_copyFrom 89 = .ok (.bipush 64, 2) := by decide +kernel
theorem dX7_copyFrom_91 : decode cX7_copyFrom 91 = .ok (.invokestatic 57, 3) := by decide +kernel
theorem dX7_copyFrom_94 : decode cX7_copyFrom 94 = .ok (.aload_n 1, 1) := by decide +kernel
theorem dX7_copyFrom_95 : decode cX7_copyFrom 95 = .ok (.getfield 26, 3) := by decide +kernel
theorem dX7_copyFrom_98 : decode cX7_copyFrom 98 = .ok (.iconst 0, 1) := by decide +kernel
theorem dX7_copyFrom_99 : decode cX7_copyFrom 99 = .ok (.aload_n 0, 1) := by decide +kernel
theorem dX7_copyFrom_100 : decode cX7_copyFrom 100 = .ok (.getfield 26, 3) := by decide +kernel
theorem dX7_copyFrom_103 : decode cX7_copyFrom 103 = .ok (.iconst 0, 1) := by decide +kernel
theorem dX7_copyFrom_104 : decode cX7_copyFrom 104 = .ok (.bipush 64, 2) := by decide +kernel
theorem dX7_copyFrom_106 : decode cX7_copyFrom 106 = .ok (.invokestatic 57, 3) := by decide +kernel
theorem dX7_copyFrom_109 : decode cX7_copyFrom 109 = .ok (.aload_n 1, 1) := by decide +kernel
theorem dX7_copyFrom_110 : decode cX7_copyFrom 110 = .ok (.getfield 29, 3) := by decide +kernel
theorem dX7_copyFrom_113 : decode cX7_copyFrom 113 = .ok (.iconst 0, 1) := by decide +kernel
theorem dX7_copyFrom_114 : decode cX7_copyFrom 114 = .ok (.aload_n 0, 1) := by decide +kernel
theorem dX7_copyFrom_115 : decode cX7_copyFrom 115 = .ok (.getfield 29, 3) := by decide +kernel
theorem dX7_copyFrom_118 : decode cX7_copyFrom 118 = .ok (.iconst 0, 1) := by decide +kernel
theorem dX7_copyFrom_119 : decode cX7_copyFrom 119 = .ok (.bipush 64, 2) := by decide +kernel
theorem dX7_copyFrom_121 : decode cX7_copyFrom 121 = .ok (.invokestatic 57, 3) := by decide +kernel
theorem dX7_copyFrom_124 : decode cX7_copyFrom 124 = .ok (.aload_n 1, 1) := by decide +kernel
theorem dX7_copyFrom_125 : decode cX7_copyFrom 125 = .ok (.getfield 32, 3) := by decide +kernel
theorem dX7_copyFrom_128 : decode cX7_copyFrom 128 = .ok (.iconst 0, 1) := by decide +kernel
theorem dX7_copyFrom_129 : decode cX7_copyFrom 129 = .ok (.aload_n 0, 1) := by decide +kernel
theorem dX7_copyFrom_130 : decode cX7_copyFrom 130 = .ok (.getfield 32, 3) := by decide +kernel
theorem dX7_copyFrom_133 : decode cX7_copyFrom 133 = .ok (.iconst 0, 1) := by decide +kernel
theorem dX7_copyFrom_134 : decode cX7_copyFrom 134 = .ok (.bipush 64, 2) := by decide +kernel
theorem dX7_copyFrom_136 : decode cX7_copyFrom 136 = .ok (.invokestatic 57, 3) := by decide +kernel
theorem dX7_copyFrom_139 : decode cX7_copyFrom 139 = .ok (.aload_n 1, 1) := by decide +kernel
theorem dX7_copyFrom_140 : decode cX7_copyFrom 140 = .ok (.getfield 35, 3) := by decide +kernel
theorem dX7_copyFrom_143 : decode cX7_copyFrom 143 = .ok (.iconst 0, 1) := by decide +kernel
theorem dX7_copyFrom_144 : decode cX7_copyFrom 144 = .ok (.aload_n 0, 1) := by decide +kernel
theorem dX7_copyFrom_145 : decode cX7_copyFrom 145 = .ok (.getfield 35, 3) := by decide +kernel
theorem dX7_copyFrom_148 : decode cX7_copyFrom 148 = .ok (.iconst 0, 1) := by decide +kernel
theorem dX7_copyFrom_149 : decode cX7_copyFrom 149 = .ok (.bipush 64, 2) := by decide +kernel
theorem dX7_copyFrom_151 : decode cX7_copyFrom 151 = .ok (.invokestatic 57, 3) := by decide +kernel
theorem dX7_copyFrom_154 : decode cX7_copyFrom 154 = .ok (.aload_n 1, 1) := by decide +kernel
theorem dX7_copyFrom_155 : decode cX7_copyFrom 155 = .ok (.getfield 38, 3) := by decide +kernel
theorem dX7_copyFrom_158 : decode cX7_copyFrom 158 = .ok (.iconst 0, 1) := by decide +kernel
theorem dX7_copyFrom_159 : decode cX7_copyFrom 159 = .ok (.aload_n 0, 1) := by decide +kernel
theorem dX7_copyFrom_160 : decode cX7_copyFrom 160 = .ok (.getfield 38, 3) := by decide +kernel
theorem dX7_copyFrom_163 : decode cX7_copyFrom 163 = .ok (.iconst 0, 1) := by decide +kernel
theorem dX7_copyFrom_164 : decode cX7_copyFrom 164 = .ok (.bipush 9, 2) := by decide +kernel
theorem dX7_copyFrom_166 : decode cX7_copyFrom 166 = .ok (.invokestatic 57, 3) := by decide +kernel
theorem dX7_copyFrom_169 : decode cX7_copyFrom 169 = .ok (.return_, 1) := by decide +kernel
theorem dX7_run_0 : decode cX7_run 0 = .ok (.aload_n 1, 1) := by decide +kernel
theorem dX7_run_1 : decode cX7_run 1 = .ok (.getfield 63, 3) := by decide +kernel
theorem dX7_run_4 : decode cX7_run 4 = .ok (.tableswitch 133 1 8 #[48, 65, 78, 84, 97, 106, 119, 124], 48) := by decide +kernel
theorem dX7_run_52 : decode cX7_run 52 = .ok (.aload_n 0, 1) := by decide +kernel
theorem dX7_run_53 : decode cX7_run 53 = .ok (.aload_n 1, 1) := by decide +kernel
theorem dX7_run_54 : decode cX7_run 54 = .ok (.getfield 68, 3) := by decide +kernel
theorem dX7_run_57 : decode cX7_run 57 = .ok (.aload_n 1, 1) := by decide +kernel
theorem dX7_run_58 : decode cX7_run 58 = .ok (.getfield 71, 3) := by decide +kernel
theorem dX7_run_61 : decode cX7_run 61 = .ok (.aload_n 1, 1) := by decide +kernel
theorem dX7_run_62 : decode cX7_run 62 = .ok (.getfield 74, 3) := by decide +kernel
theorem dX7_run_65 : decode cX7_run 65 = .ok (.invokevirtual 77, 3) := by decide +kernel
theorem dX7_run_68 : decode cX7_run 68 = .ok (.ireturn, 1) := by decide +kernel
theorem dX7_run_69 : decode cX7_run 69 = .ok (.aload_n 0, 1) := by decide +kernel
theorem dX7_run_70 : decode cX7_run 70 = .ok (.aload_n 1, 1) := by decide +kernel
theorem dX7_run_71 : decode cX7_run 71 = .ok (.getfield 68, 3) := by decide +kernel
theorem dX7_run_74 : decode cX7_run 74 = .ok (.aload_n 1, 1) := by decide +kernel
theorem dX7_run_75 : decode cX7_run 75 = .ok (.getfield 71, 3) := by decide +kernel
theorem dX7_run_78 : decode cX7_run 78 = .ok (.invokevirtual 81, 3) := by decide +kernel
theorem dX7_run_81 : decode cX7_run 81 = .ok (.ireturn, 1) := by decide +kernel
theorem dX7_run_82 : decode cX7_run 82 = .ok (.aload_n 0, 1) := by decide +kernel
theorem dX7_run_83 : decode cX7_run 83 = .ok (.aload_n 1, 1) := by decide +kernel
theorem dX7_run_84 : decode cX7_run 84 = .ok (.invokevirtual 85, 3) := by decide +kernel
theorem dX7_run_87 : decode cX7_run 87 = .ok (.ireturn, 1) := by decide +kernel
theorem dX7_run_88 : decode cX7_run 88 = .ok (.aload_n 0, 1) := by decide +kernel
theorem dX7_run_89 : decode cX7_run 89 = .ok (.aload_n 1, 1) := by decide +kernel
theorem dX7_run_90 : decode cX7_run 90 = .ok (.getfield 68, 3) := by decide +kernel
theorem dX7_run_93 : decode cX7_run 93 = .ok (.aload_n 1, 1) := by decide +kernel
theorem dX7_run_94 : decode cX7_run 94 = .ok (.getfield 71, 3) := by decide +kernel
theorem dX7_run_97 : decode cX7_run 97 = .ok (.invokevirtual 89, 3) := by decide +kernel
theorem dX7_run_100 : decode cX7_run 100 = .ok (.ireturn, 1) := by decide +kernel
theorem dX7_run_101 : decode cX7_run 101 = .ok (.aload_n 0, 1) := by decide +kernel
theorem dX7_run_102 : decode cX7_run 102 = .ok (.aload_n 1, 1) := by decide +kernel
theorem dX7_run_103 : decode cX7_run 103 = .ok (.getfield 68, 3) := by decide +kernel
theorem dX7_run_106 : decode cX7_run 106 = .ok (.invokevirtual 92, 3) := by decide +kernel
theorem dX7_run_109 : decode cX7_run 109 = .ok (.ireturn, 1) := by decide +kernel
theorem dX7_run_110 : decode cX7_run 110 = .ok (.aload_n 0, 1) := by decide +kernel
theorem dX7_run_111 : decode cX7_run 111 = .ok (.aload_n 1, 1) := by decide +kernel
theorem dX7_run_112 : decode cX7_run 112 = .ok (.getfield 68, 3) := by decide +kernel
theorem dX7_run_115 : decode cX7_run 115 = .ok (.aload_n 1, 1) := by decide +kernel
theorem dX7_run_116 : decode cX7_run 116 = .ok (.getfield 71, 3) := by decide +kernel
theorem dX7_run_119 : decode cX7_run 119 = .ok (.invokevirtual 96, 3) := by decide +kernel
theorem dX7_run_122 : decode cX7_run 122 = .ok (.ireturn, 1) := by decide +kernel
theorem dX7_run_123 : decode cX7_run 123 = .ok (.aload_n 0, 1) := by decide +kernel
theorem dX7_run_124 : decode cX7_run 124 = .ok (.invokevirtual 99, 3) := by decide +kernel
theorem dX7_run_127 : decode cX7_run 127 = .ok (.ireturn, 1) := by decide +kernel
theorem dX7_run_128 : decode cX7_run 128 = .ok (.aload_n 0, 1) := by decide +kernel
theorem dX7_run_129 : decode cX7_run 129 = .ok (.aload_n 1, 1) := by decide +kernel
theorem dX7_run_130 : decode cX7_run 130 = .ok (.getfield 68, 3) := by decide +kernel
theorem dX7_run_133 : decode cX7_run 133 = .ok (.invokevirtual 103, 3) := by decide +kernel
theorem dX7_run_136 : decode cX7_run 136 = .ok (.ireturn, 1) := by decide +kernel
theorem dX7_run_137 : decode cX7_run 137 = .ok (.iconst 0, 1) := by decide +kernel
theorem dX7_run_138 : decode cX7_run 138 = .ok (.ireturn, 1) := by decide +kernel
theorem dX7_putWithLease_0 : decode cX7_putWithLease 0 = .ok (.iload_n 3, 1) := by decide +kernel
theorem dX7_putWithLease_1 : decode cX7_putWithLease 1 = .ok (.ifCond .eq 13, 3) := by decide +kernel
theorem dX7_putWithLease_4 : decode cX7_putWithLease 4 = .ok (.aload_n 0, 1) := by decide +kernel
theorem dX7_putWithLease_5 : decode cX7_putWithLease 5 = .ok (.iload_n 3, 1) := by decide +kernel
theorem dX7_putWithLease_6 : decode cX7_putWithLease 6 = .ok (.invokevirtual 106, 3) := by decide +kernel
theorem dX7_putWithLease_9 : decode cX7_putWithLease 9 = .ok (.ifCond .ne 5, 3) := by decide +kernel
theorem dX7_putWithLease_12 : decode cX7_putWithLease 12 = .ok (.iconst (-1), 1) := by decide +kernel
theorem dX7_putWithLease_13 : decode cX7_putWithLease 13 = .ok (.ireturn, 1) := by decide +kernel
theorem dX7_putWithLease_14 : decode cX7_putWithLease 14 = .ok (.aload_n 0, 1) := by decide +kernel
theorem dX7_putWithLease_15 : decode cX7_putWithLease 15 = .ok (.iload_n 1, 1) := by decide +kernel
theorem dX7_putWithLease_16 : decode cX7_putWithLease 16 = .ok (.iload_n 2, 1) := by decide +kernel
theorem dX7_putWithLease_17 : decode cX7_putWithLease 17 = .ok (.iload_n 3, 1) := by decide +kernel
theorem dX7_putWithLease_18 : decode cX7_putWithLease 18 = .ok (.invokevirtual 110, 3) := by decide +kernel
theorem dX7_putWithLease_21 : decode cX7_putWithLease 21 = .ok (.aload_n 0, 1) := by decide +kernel
theorem dX7_putWithLease_22 : decode cX7_putWithLease 22 = .ok (.getfield 9, 3) := by decide +kernel
theorem dX7_putWithLease_25 : decode cX7_putWithLease 25 = .ok (.ireturn, 1) := by decide +kernel
theorem dX7_removeRange_0 : decode cX7_removeRange 0 = .ok (.iconst 0, 1) := by decide +kernel
theorem dX7_removeRange_1 : decode cX7_removeRange 1 = .ok (.istore_n 3, 1) := by decide +kernel
theorem dX7_removeRange_2 : decode cX7_removeRange 2 = .ok (.iload_n 1, 1) := by decide +kernel
theorem dX7_removeRange_3 : decode cX7_removeRange 3 = .ok (.iconst 0, 1) := by decide +kernel
theorem dX7_removeRange_4 : decode cX7_removeRange 4 = .ok (.invokestatic 114, 3) := by decide +kernel
theorem dX7_removeRange_7 : decode cX7_removeRange 7 = .ok (.istore 4, 2) := by decide +kernel
theorem dX7_removeRange_9 : decode cX7_removeRange 9 = .ok (.iload 4, 2) := by decide +kernel
theorem dX7_removeRange_11 : decode cX7_removeRange 11 = .ok (.iload_n 2, 1) := by decide +kernel
theorem dX7_removeRange_12 : decode cX7_removeRange 12 = .ok (.if_icmp .gt 25, 3) := by decide +kernel
theorem dX7_removeRange_15 : decode cX7_removeRange 15 = .ok (.iload 4, 2) := by decide +kernel
theorem dX7_removeRange_17 : decode cX7_removeRange 17 = .ok (.bipush 64, 2) := by decide +kernel
theorem dX7_removeRange_19 : decode cX7_removeRange 19 = .ok (.if_icmp .ge 18, 3) := by decide +kernel
theorem dX7_removeRange_22 : decode cX7_removeRange 22 = .ok (.iload_n 3, 1) := by decide +kernel
theorem dX7_removeRange_23 : decode cX7_removeRange 23 = .ok (.aload_n 0, 1) := by decide +kernel
theorem dX7_removeRange_24 : decode cX7_removeRange 24 = .ok (.iload 4, 2) := by decide +kernel
theorem dX7_removeRange_26 : decode cX7_removeRange 26 = .ok (.invokevirtual 119, 3) := by decide +kernel
theorem dX7_removeRange_29 : decode cX7_removeRange 29 = .ok (.iadd, 1) := by decide +kernel
theorem dX7_removeRange_30 : decode cX7_removeRange 30 = .ok (.istore_n 3, 1) := by decide +kernel
theorem dX7_removeRange_31 : decode cX7_removeRange 31 = .ok (.iinc 4 1, 3) := by decide +kernel
theorem dX7_removeRange_34 : decode cX7_removeRange 34 = .ok (.goto (-25), 3) := by decide +kernel
theorem dX7_removeRange_37 : decode cX7_removeRange 37 = .ok (.aload_n 0, 1) := by decide +kernel
theorem dX7_removeRange_38 : decode cX7_removeRange 38 = .ok (.iload_n 3, 1) := by decide +kernel
theorem dX7_removeRange_39 : decode cX7_removeRange 39 = .ok (.invokevirtual 122, 3) := by decide +kernel
theorem dX7_removeRange_42 : decode cX7_removeRange 42 = .ok (.iload_n 3, 1) := by decide +kernel
theorem dX7_removeRange_43 : decode cX7_removeRange 43 = .ok (.ireturn, 1) := by decide +kernel
theorem dX7_compareAndPut_0 : decode cX7_compareAndPut 0 = .ok (.aload_n 0, 1) := by decide +kernel
theorem dX7_compareAndPut_1 : decode cX7_compareAndPut 1 = .ok (.aload_n 1, 1) := by decide +kernel
theorem dX7_compareAndPut_2 : decode cX7_compareAndPut 2 = .ok (.getfield 68, 3) := by decide +kernel
theorem dX7_compareAndPut_5 : decode cX7_compareAndPut 5 = .ok (.aload_n 1, 1) := by decide +kernel
theorem dX7_compareAndPut_6 : decode cX7_compareAndPut 6 = .ok (.getfield 71, 3) := by decide +kernel
theorem dX7_compareAndPut_9 : decode cX7_compareAndPut 9 = .ok (.invokevirtual 126, 3) := by decide +kernel
theorem dX7_compareAndPut_12 : decode cX7_compareAndPut 12 = .ok (.aload_n 1, 1) := by decide +kernel
theorem dX7_compareAndPut_13 : decode cX7_compareAndPut 13 = .ok (.getfield 74, 3) := by decide +kernel
theorem dX7_compareAndPut_16 : decode cX7_compareAndPut 16 = .ok (.aload_n 1, 1) := by decide +kernel
theorem dX7_compareAndPut_17 : decode cX7_compareAndPut 17 = .ok (.getfield 129, 3) := by decide +kernel
theorem dX7_compareAndPut_20 : decode cX7_compareAndPut 20 = .ok (.invokestatic 132, 3) := by decide +kernel
theorem dX7_compareAndPut_23 : decode cX7_compareAndPut 23 = .ok (.ifCond .eq 18, 3) := by decide +kernel
theorem dX7_compareAndPut_26 : decode cX7_compareAndPut 26 = .ok (.aload_n 0, 1) := by decide +kernel
theorem dX7_compareAndPut_27 : decode cX7_compareAndPut 27 = .ok (.aload_n 1, 1) := by decide +kernel
theorem dX7_compareAndPut_28 : decode cX7_compareAndPut 28 = .ok (.getfield 136, 3) := by decide +kernel
theorem dX7_compareAndPut_31 : decode cX7_compareAndPut 31 = .ok (.aload_n 1, 1) := by decide +kernel
theorem dX7_compareAndPut_32 : decode cX7_compareAndPut 32 = .ok (.getfield 139, 3) := by decide +kernel
theorem dX7_compareAndPut_35 : decode cX7_compareAndPut 35 = .ok (.iconst 0, 1) := by decide +kernel
theorem dX7_compareAndPut_36 : decode cX7_compareAndPut 36 = .ok (.invokevirtual 110, 3) := by decide +kernel
theorem dX7_compareAndPut_39 : decode cX7_compareAndPut 39 = .ok (.iconst 1, 1) := by decide +kernel
theorem dX7_compareAndPut_40 : decode cX7_compareAndPut 40 = .ok (.ireturn, 1) := by decide +kernel
theorem dX7_compareAndPut_41 : decode cX7_compareAndPut 41 = .ok (.aload_n 0, 1) := by decide +kernel
theorem dX7_compareAndPut_42 : decode cX7_compareAndPut 42 = .ok (.aload_n 0, 1) := by decide +kernel
theorem dX7_compareAndPut_43 : decode cX7_compareAndPut 43 = .ok (.aload_n 1, 1) := by decide +kernel
theorem dX7_compareAndPut_44 : decode cX7_compareAndPut 44 = .ok (.getfield 136, 3) := by decide +kernel
theorem dX7_compareAndPut_47 : decode cX7_compareAndPut 47 = .ok (.invokevirtual 119, 3) := by decide +kernel
theorem dX7_compareAndPut_50 : decode cX7_compareAndPut 50 = .ok (.invokevirtual 122, 3) := by decide +kernel
theorem dX7_compareAndPut_53 : decode cX7_compareAndPut 53 = .ok (.iconst 0, 1) := by decide +kernel
theorem dX7_compareAndPut_54 : decode cX7_compareAndPut 54 = .ok (.ireturn, 1) := by decide +kernel
theorem dX7_compares_0 : decode cX7_compares 0 = .ok (.iload_n 1, 1) := by decide +kernel
theorem dX7_compares_1 : decode cX7_compares 1 = .ok (.ifCond .ne 14, 3) := by decide +kernel
theorem dX7_compares_4 : decode cX7_compares 4 = .ok (.iload_n 0, 1) := by decide +kernel
theorem dX7_compares_5 : decode cX7_compares 5 = .ok (.iload_n 2, 1) := by decide +kernel
theorem dX7_compares_6 : decode cX7_compares 6 = .ok (.if_icmp .ne 7, 3) := by decide +kernel
theorem dX7_compares_9 : decode cX7_compares 9 = .ok (.iconst 1, 1) := by decide +kernel
theorem dX7_compares_10 : decode cX7_compares 10 = .ok (.goto 4, 3) := by decide +kernel
theorem dX7_compares_13 : decode cX7_compares 13 = .ok (.iconst 0, 1) := by decide +kernel
theorem dX7_compares_14 : decode cX7_compares 14 = .ok (.ireturn, 1) := by decide +kernel
theorem dX7_compares_15 : decode cX7_compares 15 = .ok (.iload_n 1, 1) := by decide +kernel
theorem dX7_compares_16 : decode cX7_compares 16 = .ok (.iconst 1, 1) := by decide +kernel
theorem dX7_compares_17 : decode cX7_compares 17 = .ok (.if_icmp .ne 16, 3) := by decide +kernel
theorem dX7_compares_20 : decode cX7_compares 20 = .ok (.iload_n 0, 1) := by decide +kernel
theorem dX7_compares_21 : decode cX7_compares 21 = .ok (.iload_n 2, 1) := by decide +kernel
theorem dX7_compares_22 : decode cX7_compares 22 = .ok (.if_icmp .ge 7, 3) := by decide +kernel
theorem dX7_compares_25 : decode cX7_compares 25 = .ok (.iconst 1, 1) := by decide +kernel
theorem dX7_compares_26 : decode cX7_compares 26 = .ok (.goto 17, 3) := by decide +kernel
theorem dX7_compares_29 : decode cX7_compares 29 = .ok (.iconst 0, 1) := by decide +kernel
theorem dX7_compares_30 : decode cX7_compares 30 = .ok (.goto 13, 3) := by decide +kernel
theorem dX7_compares_33 : decode cX7_compares 33 = .ok (.iload_n 0, 1) := by decide +kernel
theorem dX7_compares_34 : decode cX7_compares 34 = .ok (.iload_n 2, 1) := by decide +kernel
theorem dX7_compares_35 : decode cX7_compares 35 = .ok (.if_icmp .le 7, 3) := by decide +kernel
theorem dX7_compares_38 : decode cX7_compares 38 = .ok (.iconst 1, 1) := by decide +kernel
theorem dX7_compares_39 : decode cX7_compares 39 = .ok (.goto 4, 3) := by decide +kernel
theorem dX7_compares_42 : decode cX7_compares 42 = .ok (.iconst 0, 1) := by decide +kernel
theorem dX7_compares_43 : decode cX7_compares 43 = .ok (.ireturn, 1) := by decide +kernel
theorem dX7_grant_0 : decode cX7_grant 0 = .ok (.iload_n 1, 1) := by decide +kernel
theorem dX7_grant_1 : decode cX7_grant 1 = .ok (.invokestatic 142, 3) := by decide +kernel
theorem dX7_grant_4 : decode cX7_grant 4 = .ok (.ifCond .eq 11, 3) := by decide +kernel
theorem dX7_grant_7 : decode cX7_grant 7 = .ok (.aload_n 0, 1) := by decide +kernel
theorem dX7_grant_8 : decode cX7_grant 8 = .ok (.iload_n 1, 1) := by decide +kernel
theorem dX7_grant_9 : decode cX7_grant 9 = .ok (.invokevirtual 106, 3) := by decide +kernel
theorem dX7_grant_12 : decode cX7_grant 12 = .ok (.ifCond .eq 5, 3) := by decide +kernel
theorem dX7_grant_15 : decode cX7_grant 15 = .ok (.iconst 0, 1) := by decide +kernel
theorem dX7_grant_16 : decode cX7_grant 16 = .ok (.ireturn, 1) := by decide +kernel
theorem dX7_grant_17 : decode cX7_grant 17 = .ok (.aload_n 0, 1) := by decide +kernel
theorem dX7_grant_18 : decode cX7_grant 18 = .ok (.dup, 1) := by decide +kernel
theorem dX7_grant_19 : decode cX7_grant 19 = .ok (.getfield 54, 3) := by decide +kernel
theorem dX7_grant_22 : decode cX7_grant 22 = .ok (.iload_n 1, 1) := by decide +kernel
theorem dX7_grant_23 : decode cX7_grant 23 = .ok (.invokestatic 145, 3) := by decide +kernel
theorem dX7_grant_26 : decode cX7_grant 26 = .ok (.ior, 1) := by decide +kernel
theorem dX7_grant_27 : decode cX7_grant 27 = .ok (.putfield 54, 3) := by decide +kernel
theorem dX7_grant_30 : decode cX7_grant 30 = .ok (.aload_n 0, 1) := by decide +kernel
theorem dX7_grant_31 : decode cX7_grant 31 = .ok (.getfield 38, 3) := by decide +kernel
theorem dX7_grant_34 : decode cX7_grant 34 = .ok (.iload_n 1, 1) := by decide +kernel
theorem dX7_grant_35 : decode cX7_grant 35 = .ok (.aload_n 0, 1) := by decide +kernel
theorem dX7_grant_36 : decode cX7_grant 36 = .ok (.getfield 41, 3) := by decide +kernel
theorem dX7_grant_39 : decode cX7_grant 39 = .ok (.iload_n 2, 1) := by decide +kernel
theorem dX7_grant_40 : decode cX7_grant 40 = .ok (.iadd, 1) := by decide +kernel
theorem dX7_grant_41 : decode cX7_grant 41 = .ok (.iastore, 1) := by decide +kernel
theorem dX7_grant_42 : decode cX7_grant 42 = .ok (.iconst 1, 1) := by decide +kernel
theorem dX7_grant_43 : decode cX7_grant 43 = .ok (.ireturn, 1) := by decide +kernel
theorem dX7_revoke_0 : decode cX7_revoke 0 = .ok (.aload_n 0, 1) := by decide +kernel
theorem dX7_revoke_1 : decode cX7_revoke 1 = .ok (.iload_n 1, 1) := by decide +kernel
theorem dX7_revoke_2 : decode cX7_revoke 2 = .ok (.invokevirtual 106, 3) := by decide +kernel
theorem dX7_revoke_5 : decode cX7_revoke 5 = .ok (.ifCond .ne 5, 3) := by decide +kernel
theorem dX7_revoke_8 : decode cX7_revoke 8 = .ok (.iconst (-1), 1) := by decide +kernel
theorem dX7_revoke_9 : decode cX7_revoke 9 = .ok (.ireturn, 1) := by decide +kernel
theorem dX7_revoke_10 : decode cX7_revoke 10 = .ok (.aload_n 0, 1) := by decide +kernel
theorem dX7_revoke_11 : decode cX7_revoke 11 = .ok (.dup, 1) := by decide +kernel
theorem dX7_revoke_12 : decode cX7_revoke 12 = .ok (.getfield 54, 3) := by decide +kernel
theorem dX7_revoke_15 : decode cX7_revoke 15 = .ok (.iload_n 1, 1) := by decide +kernel
theorem dX7_revoke_16 : decode cX7_revoke 16 = .ok (.invokestatic 145, 3) := by decide +kernel
theorem dX7_revoke_19 : decode cX7_revoke 19 = .ok (.iconst (-1), 1) := by decide +kernel
theorem dX7_revoke_20 : decode cX7_revoke 20 = .ok (.ixor, 1) := by decide +kernel
theorem dX7_revoke_21 : decode cX7_revoke 21 = .ok (.iand, 1) := by decide +kernel
theorem dX7_revoke_22 : decode cX7_revoke 22 = .ok (.putfield 54, 3) := by decide +kernel
theorem dX7_revoke_25 : decode cX7_revoke 25 = .ok (.iconst 0, 1) := by decide +kernel
theorem dX7_revoke_26 : decode cX7_revoke 26 = .ok (.istore_n 2, 1) := by decide +kernel
theorem dX7_revoke_27 : decode cX7_revoke 27 = .ok (.iconst 0, 1) := by decide +kernel
theorem dX7_revoke_28 : decode cX7_revoke 28 = .ok (.istore_n 3, 1) := by decide +kernel
theorem dX7_revoke_29 : decode cX7_revoke 29 = .ok (.iload_n 3, 1) := by decide +kernel
theorem dX7_revoke_30 : decode cX7_revoke 30 = .ok (.bipush 64, 2) := by decide +kernel
theorem dX7_revoke_32 : decode cX7_revoke 32 = .ok (.if_icmp .ge 27, 3) := by decide +kernel
theorem dX7_revoke_35 : decode cX7_revoke 35 = .ok (.aload_n 0, 1) := by decide +kernel
theorem dX7_revoke_36 : decode cX7_revoke 36 = .ok (.getfield 32, 3) := by decide +kernel
theorem dX7_revoke_39 : decode cX7_revoke 39 = .ok (.iload_n 3, 1) := by decide +kernel
theorem dX7_revoke_40 : decode cX7_revoke 40 = .ok (.iaload, 1) := by decide +kernel
theorem dX7_revoke_41 : decode cX7_revoke 41 = .ok (.iload_n 1, 1) := by decide +kernel
theorem dX7_revoke_42 : decode cX7_revoke 42 = .ok (.if_icmp .ne 11, 3) := by decide +kernel
theorem dX7_revoke_45 : decode cX7_revoke 45 = .ok (.iload_n 2, 1) := by decide +kernel
theorem dX7_revoke_46 : decode cX7_revoke 46 = .ok (.aload_n 0, 1) := by decide +kernel
theorem dX7_revoke_47 : decode cX7_revoke 47 = .ok (.iload_n 3, 1) := by decide +kernel
theorem dX7_revoke_48 : decode cX7_revoke 48 = .ok (.invokevirtual 119, 3) := by decide +kernel
theorem dX7_revoke_51 : decode cX7_revoke 51 = .ok (.iadd, 1) := by decide +kernel
theorem dX7_revoke_52 : decode cX7_revoke 52 = .ok (.istore_n 2, 1) := by decide +kernel
theorem dX7_revoke_53 : decode cX7_revoke 53 = .ok (.iinc 3 1, 3) := by decide +kernel
theorem dX7_revoke_56 : decode cX7_revoke 56 = .ok (.goto (-27), 3) := by decide +kernel
theorem dX7_revoke_59 : decode cX7_revoke 59 = .ok (.aload_n 0, 1) := by decide +kernel
theorem dX7_revoke_60 : decode cX7_revoke 60 = .ok (.iload_n 2, 1) := by decide +kernel
theorem dX7_revoke_61 : decode cX7_revoke 61 = .ok (.invokevirtual 122, 3) := by decide +kernel
theorem dX7_revoke_64 : decode cX7_revoke 64 = .ok (.iload_n 2, 1) := by decide +kernel
theorem dX7_revoke_65 : decode cX7_revoke 65 = .ok (.ireturn, 1) := by decide +kernel
theorem dX7_renew_0 : decode cX7_renew 0 = .ok (.aload_n 0, 1) := by decide +kernel
theorem dX7_renew_1 : decode cX7_renew 1 = .ok (.iload_n 1, 1) := by decide +kernel
theorem dX7_renew_2 : decode cX7_renew 2 = .ok (.invokevirtual 106, 3) := by decide +kernel
theorem dX7_renew_5 : decode cX7_renew 5 = .ok (.ifCond .ne 5, 3) := by decide +kernel
theorem dX7_renew_8 : decode cX7_renew 8 = .ok (.iconst 0, 1) := by decide +kernel
theorem dX7_renew_9 : decode cX7_renew 9 = .ok (.ireturn, 1) := by decide +kernel
theorem dX7_renew_10 : decode cX7_renew 10 = .ok (.aload_n 0, 1) := by decide +kernel
theorem dX7_renew_11 : decode cX7_renew 11 = .ok (.getfield 38, 3) := by decide +kernel
theorem dX7_renew_14 : decode cX7_renew 14 = .ok (.iload_n 1, 1) := by decide +kernel
theorem dX7_renew_15 : decode cX7_renew 15 = .ok (.aload_n 0, 1) := by decide +kernel
theorem dX7_renew_16 : decode cX7_renew 16 = .ok (.getfield 41, 3) := by decide +kernel
theorem dX7_renew_19 : decode cX7_renew 19 = .ok (.iload_n 2, 1) := by decide +kernel
theorem dX7_renew_20 : decode cX7_renew 20 = .ok (.iadd, 1) := by decide +kernel
theorem dX7_renew_21 : decode cX7_renew 21 = .ok (.iastore, 1) := by decide +kernel
theorem dX7_renew_22 : decode cX7_renew 22 = .ok (.iconst 1, 1) := by decide +kernel
theorem dX7_renew_23 : decode cX7_renew 23 = .ok (.ireturn, 1) := by decide +kernel
theorem dX7_tick_0 : decode cX7_tick 0 = .ok (.aload_n 0, 1) := by decide +kernel
theorem dX7_tick_1 : decode cX7_tick 1 = .ok (.dup, 1) := by decide +kernel
theorem dX7_tick_2 : decode cX7_tick 2 = .ok (.getfield 41, 3) := by decide +kernel
theorem dX7_tick_5 : decode cX7_tick 5 = .ok (.iconst 1, 1) := by decide +kernel
theorem dX7_tick_6 : decode cX7_tick 6 = .ok (.iadd, 1) := by decide +kernel
theorem dX7_tick_7 : decode cX7_tick 7 = .ok (.putfield 41, 3) := by decide +kernel
theorem dX7_tick_10 : decode cX7_tick 10 = .ok (.iconst 1, 1) := by decide +kernel
theorem dX7_tick_11 : decode cX7_tick 11 = .ok (.istore_n 1, 1) := by decide +kernel
theorem dX7_tick_12 : decode cX7_tick 12 = .ok (.iload_n 1, 1) := by decide +kernel
theorem dX7_tick_13 : decode cX7_tick 13 = .ok (.bipush 8, 2) := by decide +kernel
theorem dX7_tick_15 : decode cX7_tick 15 = .ok (.if_icmp .gt 36, 3) := by decide +kernel
theorem dX7_tick_18 : decode cX7_tick 18 = .ok (.aload_n 0, 1) := by decide +kernel
theorem dX7_tick_19 : decode cX7_tick 19 = .ok (.iload_n 1, 1) := by decide +kernel
theorem dX7_tick_20 : decode cX7_tick 20 = .ok (.invokevirtual 106, 3) := by decide +kernel
theorem dX7_tick_23 : decode cX7_tick 23 = .ok (.ifCond .eq 22, 3) := by decide +kernel
theorem dX7_tick_26 : decode cX7_tick 26 = .ok (.aload_n 0, 1) := by decide +kernel
theorem dX7_tick_27 : decode cX7_tick 27 = .ok (.getfield 38, 3) := by decide +kernel
theorem dX7_tick_30 : decode cX7_tick 30 = .ok (.iload_n 1, 1) := by decide +kernel
theorem dX7_tick_31 : decode cX7_tick 31 = .ok (.iaload, 1) := by decide +kernel
theorem dX7_tick_32 : decode cX7_tick 32 = .ok (.aload_n 0, 1) := by decide +kernel
theorem dX7_tick_33 : decode cX7_tick 33 = .ok (.getfield 41, 3) := by decide +kernel
theorem dX7_tick_36 : decode cX7_tick 36 = .ok (.if_icmp .gt 9, 3) := by decide +kernel
theorem dX7_tick_39 : decode cX7_tick 39 = .ok (.aload_n 0, 1) := by decide +kernel
theorem dX7_tick_40 : decode cX7_tick 40 = .ok (.iload_n 1, 1) := by decide +kernel
theorem dX7_tick_41 : decode cX7_tick 41 = .ok (.invokevirtual 92, 3) := by decide +kernel
theorem dX7_tick_44 : decode cX7_tick 44 = .ok (.pop, 1) := by decide +kernel
theorem dX7_tick_45 : decode cX7_tick 45 = .ok (.iinc 1 1, 3) := by decide +kernel
theorem dX7_tick_48 : decode cX7_tick 48 = .ok (.goto (-36), 3) := by decide +kernel
theorem dX7_tick_51 : decode cX7_tick 51 = .ok (.aload_n 0, 1) := by decide +kernel
theorem dX7_tick_52 : decode cX7_tick 52 = .ok (.getfield 41, 3) := by decide +kernel
theorem dX7_tick_55 : decode cX7_tick 55 = .ok (.ireturn, 1) := by decide +kernel
theorem dX7_compact_0 : decode cX7_compact 0 = .ok (.iload_n 1, 1) := by decide +kernel
theorem dX7_compact_1 : decode cX7_compact 1 = .ok (.aload_n 0, 1) := by decide +kernel
theorem dX7_compact_2 : decode cX7_compact 2 = .ok (.getfield 44, 3) := by decide +kernel
theorem dX7_compact_5 : decode cX7_compact 5 = .ok (.if_icmp .le 11, 3) := by decide +kernel
theorem dX7_compact_8 : decode cX7_compact 8 = .ok (.iload_n 1, 1) := by decide +kernel
theorem dX7_compact_9 : decode cX7_compact 9 = .ok (.aload_n 0, 1) := by decide +kernel
theorem dX7_compact_10 : decode cX7_compact 10 = .ok (.getfield 9, 3) := by decide +kernel
theorem dX7_compact_13 : decode cX7_compact 13 = .ok (.if_icmp .le 5, 3) := by decide +kernel
theorem dX7_compact_16 : decode cX7_compact 16 = .ok (.iconst 0, 1) := by decide +kernel
theorem dX7_compact_17 : decode cX7_compact 17 = .ok (.ireturn, 1) := by decide +kernel
theorem dX7_compact_18 : decode cX7_compact 18 = .ok (.aload_n 0, 1) := by decide +kernel
theorem dX7_compact_19 : decode cX7_compact 19 = .ok (.iload_n 1, 1) := by decide +kernel
theorem dX7_compact_20 : decode cX7_compact 20 = .ok (.putfield 44, 3) := by decide +kernel
theorem dX7_compact_23 : decode cX7_compact 23 = .ok (.aload_n 0, 1) := by decide +kernel
theorem dX7_compact_24 : decode cX7_compact 24 = .ok (.invokevirtual 148, 3) := by decide +kernel
theorem dX7_compact_27 : decode cX7_compact 27 = .ok (.iconst 1, 1) := by decide +kernel
theorem dX7_compact_28 : decode cX7_compact 28 = .ok (.ireturn, 1) := by decide +kernel
theorem dX7_hasLease_0 : decode cX7_hasLease 0 = .ok (.iload_n 1, 1) := by decide +kernel
theorem dX7_hasLease_1 : decode cX7_hasLease 1 = .ok (.invokestatic 142, 3) := by decide +kernel
theorem dX7_hasLease_4 : decode cX7_hasLease 4 = .ok (.ifCond .eq 19, 3) := by decide +kernel
theorem dX7_hasLease_7 : decode cX7_hasLease 7 = .ok (.aload_n 0, 1) := by decide +kernel
theorem dX7_hasLease_8 : decode cX7_hasLease 8 = .ok (.getfield 54, 3) := by decide +kernel
theorem dX7_hasLease_11 : decode cX7_hasLease 11 = .ok (.iload_n 1, 1) := by decide +kernel
theorem dX7_hasLease_12 : decode cX7_hasLease 12 = .ok (.invokestatic 145, 3) := by decide +kernel
theorem dX7_hasLease_15 : decode cX7_hasLease 15 = .ok (.iand, 1) := by decide +kernel
theorem dX7_hasLease_16 : decode cX7_hasLease 16 = .ok (.ifCond .eq 7, 3) := by decide +kernel

theorem dX7_hasLease_19 : decode cX7_hasLease 19 = .ok (.iconst 1, 1) := by decide +kernel
theorem dX7_hasLease_20 : decode cX7_hasLease 20 = .ok (.goto 4, 3) := by decide +kernel
theorem dX7_hasLease_23 : decode cX7_hasLease 23 = .ok (.iconst 0, 1) := by decide +kernel
theorem dX7_hasLease_24 : decode cX7_hasLease 24 = .ok (.ireturn, 1) := by decide +kernel
theorem dX7_bitOfLease_0 : decode cX7_bitOfLease 0 = .ok (.iconst 1, 1) := by decide +kernel
theorem dX7_bitOfLease_1 : decode cX7_bitOfLease 1 = .ok (.iload_n 0, 1) := by decide +kernel
theorem dX7_bitOfLease_2 : decode cX7_bitOfLease 2 = .ok (.iconst 1, 1) := by decide +kernel
theorem dX7_bitOfLease_3 : decode cX7_bitOfLease 3 = .ok (.isub, 1) := by decide +kernel
theorem dX7_bitOfLease_4 : decode cX7_bitOfLease 4 = .ok (.ishl, 1) := by decide +kernel
theorem dX7_bitOfLease_5 : decode cX7_bitOfLease 5 = .ok (.ireturn, 1) := by decide +kernel
theorem dX7_put_0 : decode cX7_put 0 = .ok (.iload_n 1, 1) := by decide +kernel
theorem dX7_put_1 : decode cX7_put 1 = .ok (.invokestatic 151, 3) := by decide +kernel
theorem dX7_put_4 : decode cX7_put 4 = .ok (.ifCond .ne 4, 3) := by decide +kernel
theorem dX7_put_7 : decode cX7_put 7 = .ok (.return_, 1) := by decide +kernel
theorem dX7_put_8 : decode cX7_put 8 = .ok (.aload_n 0, 1) := by decide +kernel
theorem dX7_put_9 : decode cX7_put 9 = .ok (.getfield 9, 3) := by decide +kernel
theorem dX7_put_12 : decode cX7_put 12 = .ok (.iconst 1, 1) := by decide +kernel
theorem dX7_put_13 : decode cX7_put 13 = .ok (.iadd, 1) := by decide +kernel
theorem dX7_put_14 : decode cX7_put 14 = .ok (.istore 4, 2) := by decide +kernel
theorem dX7_put_16 : decode cX7_put 16 = .ok (.aload_n 0, 1) := by decide +kernel
theorem dX7_put_17 : decode cX7_put 17 = .ok (.getfield 19, 3) := by decide +kernel
theorem dX7_put_20 : decode cX7_put 20 = .ok (.iload_n 1, 1) := by decide +kernel
theorem dX7_put_21 : decode cX7_put 21 = .ok (.iaload, 1) := by decide +kernel
theorem dX7_put_22 : decode cX7_put 22 = .ok (.ifCond .ne 11, 3) := by decide +kernel
theorem dX7_put_25 : decode cX7_put 25 = .ok (.aload_n 0, 1) := by decide +kernel
theorem dX7_put_26 : decode cX7_put 26 = .ok (.getfield 23, 3) := by decide +kernel
theorem dX7_put_29 : decode cX7_put 29 = .ok (.iload_n 1, 1) := by decide +kernel
theorem dX7_put_30 : decode cX7_put 30 = .ok (.iload 4, 2) := by decide +kernel
theorem dX7_put_32 : decode cX7_put 32 = .ok (.iastore, 1) := by decide +kernel
theorem dX7_put_33 : decode cX7_put 33 = .ok (.aload_n 0, 1) := by decide +kernel
theorem dX7_put_34 : decode cX7_put 34 = .ok (.getfield 19, 3) := by decide +kernel
theorem dX7_put_37 : decode cX7_put 37 = .ok (.iload_n 1, 1) := by decide +kernel
theorem dX7_put_38 : decode cX7_put 38 = .ok (.dup2, 1) := by decide +kernel
theorem dX7_put_39 : decode cX7_put 39 = .ok (.iaload, 1) := by decide +kernel
theorem dX7_put_40 : decode cX7_put 40 = .ok (.iconst 1, 1) := by decide +kernel
theorem dX7_put_41 : decode cX7_put 41 = .ok (.iadd, 1) := by decide +kernel
theorem dX7_put_42 : decode cX7_put 42 = .ok (.iastore, 1) := by decide +kernel
theorem dX7_put_43 : decode cX7_put 43 = .ok (.aload_n 0, 1) := by decide +kernel
theorem dX7_put_44 : decode cX7_put 44 = .ok (.getfield 26, 3) := by decide +kernel
theorem dX7_put_47 : decode cX7_put 47 = .ok (.iload_n 1, 1) := by decide +kernel
theorem dX7_put_48 : decode cX7_put 48 = .ok (.iload 4, 2) := by decide +kernel
theorem dX7_put_50 : decode cX7_put 50 = .ok (.iastore, 1) := by decide +kernel
theorem dX7_put_51 : decode cX7_put 51 = .ok (.aload_n 0, 1) := by decide +kernel
theorem dX7_put_52 : decode cX7_put 52 = .ok (.getfield 29, 3) := by decide +kernel
theorem dX7_put_55 : decode cX7_put 55 = .ok (.iload_n 1, 1) := by decide +kernel
theorem dX7_put_56 : decode cX7_put 56 = .ok (.iload_n 2, 1) := by decide +kernel
theorem dX7_put_57 : decode cX7_put 57 = .ok (.iastore, 1) := by decide +kernel
theorem dX7_put_58 : decode cX7_put 58 = .ok (.aload_n 0, 1) := by decide +kernel
theorem dX7_put_59 : decode cX7_put 59 = .ok (.getfield 32, 3) := by decide +kernel
theorem dX7_put_62 : decode cX7_put 62 = .ok (.iload_n 1, 1) := by decide +kernel
theorem dX7_put_63 : decode cX7_put 63 = .ok (.iload_n 3, 1) := by decide +kernel
theorem dX7_put_64 : decode cX7_put 64 = .ok (.iastore, 1) := by decide +kernel
theorem dX7_put_65 : decode cX7_put 65 = .ok (.aload_n 0, 1) := by decide +kernel
theorem dX7_put_66 : decode cX7_put 66 = .ok (.iload 4, 2) := by decide +kernel
theorem dX7_put_68 : decode cX7_put 68 = .ok (.i2l, 1) := by decide +kernel
theorem dX7_put_69 : decode cX7_put 69 = .ok (.bipush 38, 2) := by decide +kernel
theorem dX7_put_71 : decode cX7_put 71 = .ok (.lshl, 1) := by decide +kernel
theorem dX7_put_72 : decode cX7_put 72 = .ok (.iload_n 1, 1) := by decide +kernel
theorem dX7_put_73 : decode cX7_put 73 = .ok (.i2l, 1) := by decide +kernel
theorem dX7_put_74 : decode cX7_put 74 = .ok (.bipush 32, 2) := by decide +kernel
theorem dX7_put_76 : decode cX7_put 76 = .ok (.lshl, 1) := by decide +kernel
theorem dX7_put_77 : decode cX7_put 77 = .ok (.ladd, 1) := by decide +kernel
theorem dX7_put_78 : decode cX7_put 78 = .ok (.iload_n 2, 1) := by decide +kernel
theorem dX7_put_79 : decode cX7_put 79 = .ok (.i2l, 1) := by decide +kernel
theorem dX7_put_80 : decode cX7_put 80 = .ok (.ldc2_w 154, 3) := by decide +kernel
theorem dX7_put_83 : decode cX7_put 83 = .ok (.land, 1) := by decide +kernel
theorem dX7_put_84 : decode cX7_put 84 = .ok (.ladd, 1) := by decide +kernel
theorem dX7_put_85 : decode cX7_put 85 = .ok (.invokevirtual 156, 3) := by decide +kernel
theorem dX7_put_88 : decode cX7_put 88 = .ok (.aload_n 0, 1) := by decide +kernel
theorem dX7_put_89 : decode cX7_put 89 = .ok (.iconst 1, 1) := by decide +kernel
theorem dX7_put_90 : decode cX7_put 90 = .ok (.invokevirtual 122, 3) := by decide +kernel
theorem dX7_put_93 : decode cX7_put 93 = .ok (.return_, 1) := by decide +kernel
theorem dX7_remove_0 : decode cX7_remove 0 = .ok (.iload_n 1, 1) := by decide +kernel
theorem dX7_remove_1 : decode cX7_remove 1 = .ok (.invokestatic 151, 3) := by decide +kernel
theorem dX7_remove_4 : decode cX7_remove 4 = .ok (.ifCond .eq 12, 3) := by decide +kernel
theorem dX7_remove_7 : decode cX7_remove 7 = .ok (.aload_n 0, 1) := by decide +kernel
theorem dX7_remove_8 : decode cX7_remove 8 = .ok (.getfield 19, 3) := by decide +kernel
theorem dX7_remove_11 : decode cX7_remove 11 = .ok (.iload_n 1, 1) := by decide +kernel
theorem dX7_remove_12 : decode cX7_remove 12 = .ok (.iaload, 1) := by decide +kernel
theorem dX7_remove_13 : decode cX7_remove 13 = .ok (.ifCond .ne 5, 3) := by decide +kernel
theorem dX7_remove_16 : decode cX7_remove 16 = .ok (.iconst 0, 1) := by decide +kernel
theorem dX7_remove_17 : decode cX7_remove 17 = .ok (.ireturn, 1) := by decide +kernel
theorem dX7_remove_18 : decode cX7_remove 18 = .ok (.aload_n 0, 1) := by decide +kernel
theorem dX7_remove_19 : decode cX7_remove 19 = .ok (.getfield 19, 3) := by decide +kernel
theorem dX7_remove_22 : decode cX7_remove 22 = .ok (.iload_n 1, 1) := by decide +kernel
theorem dX7_remove_23 : decode cX7_remove 23 = .ok (.iconst 0, 1) := by decide +kernel
theorem dX7_remove_24 : decode cX7_remove 24 = .ok (.iastore, 1) := by decide +kernel
theorem dX7_remove_25 : decode cX7_remove 25 = .ok (.aload_n 0, 1) := by decide +kernel
theorem dX7_remove_26 : decode cX7_remove 26 = .ok (.getfield 23, 3) := by decide +kernel
theorem dX7_remove_29 : decode cX7_remove 29 = .ok (.iload_n 1, 1) := by decide +kernel
theorem dX7_remove_30 : decode cX7_remove 30 = .ok (.iconst 0, 1) := by decide +kernel
theorem dX7_remove_31 : decode cX7_remove 31 = .ok (.iastore, 1) := by decide +kernel
theorem dX7_remove_32 : decode cX7_remove 32 = .ok (.aload_n 0, 1) := by decide +kernel
theorem dX7_remove_33 : decode cX7_remove 33 = .ok (.getfield 26, 3) := by decide +kernel
theorem dX7_remove_36 : decode cX7_remove 36 = .ok (.iload_n 1, 1) := by decide +kernel
theorem dX7_remove_37 : decode cX7_remove 37 = .ok (.iconst 0, 1) := by decide +kernel
theorem dX7_remove_38 : decode cX7_remove 38 = .ok (.iastore, 1) := by decide +kernel
theorem dX7_remove_39 : decode cX7_remove 39 = .ok (.aload_n 0, 1) := by decide +kernel
theorem dX7_remove_40 : decode cX7_remove 40 = .ok (.getfield 29, 3) := by decide +kernel
theorem dX7_remove_43 : decode cX7_remove 43 = .ok (.iload_n 1, 1) := by decide +kernel
theorem dX7_remove_44 : decode cX7_remove 44 = .ok (.iconst 0, 1) := by decide +kernel
theorem dX7_remove_45 : decode cX7_remove 45 = .ok (.iastore, 1) := by decide +kernel
theorem dX7_remove_46 : decode cX7_remove 46 = .ok (.aload_n 0, 1) := by decide +kernel
theorem dX7_remove_47 : decode cX7_remove 47 = .ok (.getfield 32, 3) := by decide +kernel
theorem dX7_remove_50 : decode cX7_remove 50 = .ok (.iload_n 1, 1) := by decide +kernel
theorem dX7_remove_51 : decode cX7_remove 51 = .ok (.iconst 0, 1) := by decide +kernel
theorem dX7_remove_52 : decode cX7_remove 52 = .ok (.iastore, 1) := by decide +kernel
theorem dX7_remove_53 : decode cX7_remove 53 = .ok (.aload_n 0, 1) := by decide +kernel
theorem dX7_remove_54 : decode cX7_remove 54 = .ok (.ldc2_w 160, 3) := by decide +kernel
theorem dX7_remove_57 : decode cX7_remove 57 = .ok (.ldc2_w 162, 3) := by decide +kernel
theorem dX7_remove_60 : decode cX7_remove 60 = .ok (.aload_n 0, 1) := by decide +kernel
theorem dX7_remove_61 : decode cX7_remove 61 = .ok (.getfield 9, 3) := by decide +kernel
theorem dX7_remove_64 : decode cX7_remove 64 = .ok (.iconst 1, 1) := by decide +kernel
theorem dX7_remove_65 : decode cX7_remove 65 = .ok (.iadd, 1) := by decide +kernel
theorem dX7_remove_66 : decode cX7_remove 66 = .ok (.i2l, 1) := by decide +kernel
theorem dX7_remove_67 : decode cX7_remove 67 = .ok (.lmul, 1) := by decide +kernel
theorem dX7_remove_68 : decode cX7_remove 68 = .ok (.iload_n 1, 1) := by decide +kernel
theorem dX7_remove_69 : decode cX7_remove 69 = .ok (.i2l, 1) := by decide +kernel
theorem dX7_remove_70 : decode cX7_remove 70 = .ok (.ladd, 1) := by decide +kernel
theorem dX7_remove_71 : decode cX7_remove 71 = .ok (.lsub, 1) := by decide +kernel
theorem dX7_remove_72 : decode cX7_remove 72 = .ok (.invokevirtual 156, 3) := by decide +kernel
theorem dX7_remove_75 : decode cX7_remove 75 = .ok (.iconst 1, 1) := by decide +kernel
theorem dX7_remove_76 : decode cX7_remove 76 = .ok (.ireturn, 1) := by decide +kernel
theorem dX7_endRevision_0 : decode cX7_endRevision 0 = .ok (.iload_n 1, 1) := by decide +kernel
theorem dX7_endRevision_1 : decode cX7_endRevision 1 = .ok (.ifCond .le 13, 3) := by decide +kernel
theorem dX7_endRevision_4 : decode cX7_endRevision 4 = .ok (.aload_n 0, 1) := by decide +kernel
theorem dX7_endRevision_5 : decode cX7_endRevision 5 = .ok (.dup, 1) := by decide +kernel
theorem dX7_endRevision_6 : decode cX7_endRevision 6 = .ok (.getfield 9, 3) := by decide +kernel
theorem dX7_endRevision_9 : decode cX7_endRevision 9 = .ok (.iconst 1, 1) := by decide +kernel
theorem dX7_endRevision_10 : decode cX7_endRevision 10 = .ok (.iadd, 1) := by decide +kernel
theorem dX7_endRevision_11 : decode cX7_endRevision 11 = .ok (.putfield 9, 3) := by decide +kernel
theorem dX7_endRevision_14 : decode cX7_endRevision 14 = .ok (.return_, 1) := by decide +kernel
theorem dX7_addEvent_0 : decode cX7_addEvent 0 = .ok (.aload_n 0, 1) := by decide +kernel
theorem dX7_addEvent_1 : decode cX7_addEvent 1 = .ok (.getfield 47, 3) := by decide +kernel
theorem dX7_addEvent_4 : decode cX7_addEvent 4 = .ok (.sipush 464, 3) := by decide +kernel
theorem dX7_addEvent_7 : decode cX7_addEvent 7 = .ok (.if_icmp .ge 23, 3) := by decide +kernel
theorem dX7_addEvent_10 : decode cX7_addEvent 10 = .ok (.aload_n 0, 1) := by decide +kernel
theorem dX7_addEvent_11 : decode cX7_addEvent 11 = .ok (.getfield 15, 3) := by decide +kernel
theorem dX7_addEvent_14 : decode cX7_addEvent 14 = .ok (.aload_n 0, 1) := by decide +kernel
theorem dX7_addEvent_15 : decode cX7_addEvent 15 = .ok (.getfield 47, 3) := by decide +kernel
theorem dX7_addEvent_18 : decode cX7_addEvent 18 = .ok (.lload_n 1, 1) := by decide +kernel
theorem dX7_addEvent_19 : decode cX7_addEvent 19 = .ok (.lastore, 1) := by decide +kernel
theorem dX7_addEvent_20 : decode cX7_addEvent 20 = .ok (.aload_n 0, 1) := by decide +kernel
theorem dX7_addEvent_21 : decode cX7_addEvent 21 = .ok (.dup, 1) := by decide +kernel
theorem dX7_addEvent_22 : decode cX7_addEvent 22 = .ok (.getfield 47, 3) := by decide +kernel
theorem dX7_addEvent_25 : decode cX7_addEvent 25 = .ok (.iconst 1, 1) := by decide +kernel
theorem dX7_addEvent_26 : decode cX7_addEvent 26 = .ok (.iadd, 1) := by decide +kernel
theorem dX7_addEvent_27 : decode cX7_addEvent 27 = .ok (.putfield 47, 3) := by decide +kernel
theorem dX7_addEvent_30 : decode cX7_addEvent 30 = .ok (.return_, 1) := by decide +kernel
theorem dX7_forgetBeyondLimit_0 : decode cX7_forgetBeyondLimit 0 = .ok (.iconst 0, 1) := by decide +kernel
theorem dX7_forgetBeyondLimit_1 : decode cX7_forgetBeyondLimit 1 = .ok (.istore_n 1, 1) := by decide +kernel
theorem dX7_forgetBeyondLimit_2 : decode cX7_forgetBeyondLimit 2 = .ok (.iload_n 1, 1) := by decide +kernel
theorem dX7_forgetBeyondLimit_3 : decode cX7_forgetBeyondLimit 3 = .ok (.sipush 464, 3) := by decide +kernel
theorem dX7_forgetBeyondLimit_6 : decode cX7_forgetBeyondLimit 6 = .ok (.if_icmp .ge 36, 3) := by decide +kernel
theorem dX7_forgetBeyondLimit_9 : decode cX7_forgetBeyondLimit 9 = .ok (.aload_n 0, 1) := by decide +kernel
theorem dX7_forgetBeyondLimit_10 : decode cX7_forgetBeyondLimit 10 = .ok (.getfield 47, 3) := by decide +kernel
theorem dX7_forgetBeyondLimit_13 : decode cX7_forgetBeyondLimit 13 = .ok (.sipush 400, 3) := by decide +kernel
theorem dX7_forgetBeyondLimit_16 : decode cX7_forgetBeyondLimit 16 = .ok (.if_icmp .le 26, 3) := by decide +kernel
theorem dX7_forgetBeyondLimit_19 : decode cX7_forgetBeyondLimit 19 = .ok (.aload_n 0, 1) := by decide +kernel
theorem dX7_forgetBeyondLimit_20 : decode cX7_forgetBeyondLimit 20 = .ok (.aload_n 0, 1) := by decide +kernel
theorem dX7_forgetBeyondLimit_21 : decode cX7_forgetBeyondLimit 21 = .ok (.getfield 15, 3) := by decide +kernel
theorem dX7_forgetBeyondLimit_24 : decode cX7_forgetBeyondLimit 24 = .ok (.iconst 0, 1) := by decide +kernel
theorem dX7_forgetBeyondLimit_25 : decode cX7_forgetBeyondLimit 25 = .ok (.laload, 1) := by decide +kernel
theorem dX7_forgetBeyondLimit_26 : decode cX7_forgetBeyondLimit 26 = .ok (.invokestatic 164, 3) := by decide +kernel
theorem dX7_forgetBeyondLimit_29 : decode cX7_forgetBeyondLimit 29 = .ok (.putfield 44, 3) := by decide +kernel
theorem dX7_forgetBeyondLimit_32 : decode cX7_forgetBeyondLimit 32 = .ok (.aload_n 0, 1) := by decide +kernel
theorem dX7_forgetBeyondLimit_33 : decode cX7_forgetBeyondLimit 33 = .ok (.invokevirtual 148, 3) := by decide +kernel
theorem dX7_forgetBeyondLimit_36 : decode cX7_forgetBeyondLimit 36 = .ok (.iinc 1 1, 3) := by decide +kernel
theorem dX7_forgetBeyondLimit_39 : decode cX7_forgetBeyondLimit 39 = .ok (.goto (-37), 3) := by decide +kernel
theorem dX7_forgetBeyondLimit_42 : decode cX7_forgetBeyondLimit 42 = .ok (.return_, 1) := by decide +kernel
theorem dX7_forgetCompacted_0 : decode cX7_forgetCompacted 0 = .ok (.iconst 0, 1) := by decide +kernel
theorem dX7_forgetCompacted_1 : decode cX7_forgetCompacted 1 = .ok (.istore_n 1, 1) := by decide +kernel
theorem dX7_forgetCompacted_2 : decode cX7_forgetCompacted 2 = .ok (.iload_n 1, 1) := by decide +kernel
theorem dX7_forgetCompacted_3 : decode cX7_forgetCompacted 3 = .ok (.aload_n 0, 1) := by decide +kernel
theorem dX7_forgetCompacted_4 : decode cX7_forgetCompacted 4 = .ok (.getfield 47, 3) := by decide +kernel
theorem dX7_forgetCompacted_7 : decode cX7_forgetCompacted 7 = .ok (.if_icmp .ge 89, 3) := by decide +kernel
theorem dX7_forgetCompacted_10 : decode cX7_forgetCompacted 10 = .ok (.aload_n 0, 1) := by decide +kernel
theorem dX7_forgetCompacted_11 : decode cX7_forgetCompacted 11 = .ok (.getfield 15, 3) := by decide +kernel
theorem dX7_forgetCompacted_14 : decode cX7_forgetCompacted 14 = .ok (.iload_n 1, 1) := by decide +kernel
theorem dX7_forgetCompacted_15 : decode cX7_forgetCompacted 15 = .ok (.laload, 1) := by decide +kernel
theorem dX7_forgetCompacted_16 : decode cX7_forgetCompacted 16 = .ok (.invokestatic 164, 3) := by decide +kernel
theorem dX7_forgetCompacted_19 : decode cX7_forgetCompacted 19 = .ok (.aload_n 0, 1) := by decide +kernel
theorem dX7_forgetCompacted_20 : decode cX7_forgetCompacted 20 = .ok (.getfield 44, 3) := by decide +kernel
theorem dX7_forgetCompacted_23 : decode cX7_forgetCompacted 23 = .ok (.if_icmp .gt 73, 3) := by decide +kernel
theorem dX7_forgetCompacted_26 : decode cX7_forgetCompacted 26 = .ok (.aload_n 0, 1) := by decide +kernel
theorem dX7_forgetCompacted_27 : decode cX7_forgetCompacted 27 = .ok (.getfield 15, 3) := by decide +kernel
theorem dX7_forgetCompacted_30 : decode cX7_forgetCompacted 30 = .ok (.iload_n 1, 1) := by decide +kernel
theorem dX7_forgetCompacted_31 : decode cX7_forgetCompacted 31 = .ok (.laload, 1) := by decide +kernel
theorem dX7_forgetCompacted_32 : decode cX7_forgetCompacted 32 = .ok (.invokestatic 168, 3) := by decide +kernel
theorem dX7_forgetCompacted_35 : decode cX7_forgetCompacted 35 = .ok (.istore_n 2, 1) := by decide +kernel
theorem dX7_forgetCompacted_36 : decode cX7_forgetCompacted 36 = .ok (.aload_n 0, 1) := by decide +kernel
theorem dX7_forgetCompacted_37 : decode cX7_forgetCompacted 37 = .ok (.aload_n 0, 1) := by decide +kernel
theorem dX7_forgetCompacted_38 : decode cX7_forgetCompacted 38 = .ok (.getfield 15, 3) := by decide +kernel
theorem dX7_forgetCompacted_41 : decode cX7_forgetCompacted 41 = .ok (.iload_n 1, 1) := by decide +kernel
theorem dX7_forgetCompacted_42 : decode cX7_forgetCompacted 42 = .ok (.laload, 1) := by decide +kernel
theorem dX7_forgetCompacted_43 : decode cX7_forgetCompacted 43 = .ok (.invokestatic 171, 3) := by decide +kernel
theorem dX7_forgetCompacted_46 : decode cX7_forgetCompacted 46 = .ok (.ifCond .eq 14, 3) := by decide +kernel
theorem dX7_forgetCompacted_49 : decode cX7_forgetCompacted 49 = .ok (.aload_n 0, 1) := by decide +kernel
theorem dX7_forgetCompacted_50 : decode cX7_forgetCompacted 50 = .ok (.getfield 50, 3) := by decide +kernel
theorem dX7_forgetCompacted_53 : decode cX7_forgetCompacted 53 = .ok (.lconst 1, 1) := by decide +kernel
theorem dX7_forgetCompacted_54 : decode cX7_forgetCompacted 54 = .ok (.iload_n 2, 1) := by decide +kernel
theorem dX7_forgetCompacted_55 : decode cX7_forgetCompacted 55 = .ok (.lshl, 1) := by decide +kernel
theorem dX7_forgetCompacted_56 : decode cX7_forgetCompacted 56 = .ok (.lor, 1) := by decide +kernel
theorem dX7_forgetCompacted_57 : decode cX7_forgetCompacted 57 = .ok (.goto 15, 3) := by decide +kernel
theorem dX7_forgetCompacted_60 : decode cX7_forgetCompacted 60 = .ok (.aload_n 0, 1) := by decide +kernel
theorem dX7_forgetCompacted_61 : decode cX7_forgetCompacted 61 = .ok (.getfield 50, 3) := by decide +kernel
theorem dX7_forgetCompacted_64 : decode cX7_forgetCompacted 64 = .ok (.lconst 1, 1) := by decide +kernel
theorem dX7_forgetCompacted_65 : decode cX7_forgetCompacted 65 = .ok (.iload_n 2, 1) := by decide +kernel
theorem dX7_forgetCompacted_66 : decode cX7_forgetCompacted 66 = .ok (.lshl, 1) := by decide +kernel
theorem dX7_forgetCompacted_67 : decode cX7_forgetCompacted 67 = .ok (.ldc2_w 160, 3) := by decide +kernel
theorem dX7_forgetCompacted_70 : decode cX7_forgetCompacted 70 = .ok (.lxor, 1) := by decide +kernel
theorem dX7_forgetCompacted_71 : decode cX7_forgetCompacted 71 = .ok (.land, 1) := by decide +kernel
theorem dX7_forgetCompacted_72 : decode cX7_forgetCompacted 72 = .ok (.putfield 50, 3) := by decide +kernel
theorem dX7_forgetCompacted_75 : decode cX7_forgetCompacted 75 = .ok (.aload_n 0, 1) := by decide +kernel
theorem dX7_forgetCompacted_76 : decode cX7_forgetCompacted 76 = .ok (.getfield 35, 3) := by decide +kernel
theorem dX7_forgetCompacted_79 : decode cX7_forgetCompacted 79 = .ok (.iload_n 2, 1) := by decide +kernel
theorem dX7_forgetCompacted_80 : decode cX7_forgetCompacted 80 = .ok (.aload_n 0, 1) := by decide +kernel
theorem dX7_forgetCompacted_81 : decode cX7_forgetCompacted 81 = .ok (.getfield 15, 3) := by decide +kernel
theorem dX7_forgetCompacted_84 : decode cX7_forgetCompacted 84 = .ok (.iload_n 1, 1) := by decide +kernel
theorem dX7_forgetCompacted_85 : decode cX7_forgetCompacted 85 = .ok (.laload, 1) := by decide +kernel
theorem dX7_forgetCompacted_86 : decode cX7_forgetCompacted 86 = .ok (.invokestatic 175, 3) := by decide +kernel
theorem dX7_forgetCompacted_89 : decode cX7_forgetCompacted 89 = .ok (.iastore, 1) := by decide +kernel
theorem dX7_forgetCompacted_90 : decode cX7_forgetCompacted 90 = .ok (.iinc 1 1, 3) := by decide +kernel
theorem dX7_forgetCompacted_93 : decode cX7_forgetCompacted 93 = .ok (.goto (-91), 3) := by decide +kernel
theorem dX7_forgetCompacted_96 : decode cX7_forgetCompacted 96 = .ok (.aload_n 0, 1) := by decide +kernel
theorem dX7_forgetCompacted_97 : decode cX7_forgetCompacted 97 = .ok (.getfield 15, 3) := by decide +kernel
theorem dX7_forgetCompacted_100 : decode cX7_forgetCompacted 100 = .ok (.iload_n 1, 1) := by decide +kernel
theorem dX7_forgetCompacted_101 : decode cX7_forgetCompacted 101 = .ok (.aload_n 0, 1) := by decide +kernel
theorem dX7_forgetCompacted_102 : decode cX7_forgetCompacted 102 = .ok (.getfield 15, 3) := by decide +kernel
theorem dX7_forgetCompacted_105 : decode cX7_forgetCompacted 105 = .ok (.iconst 0, 1) := by decide +kernel
theorem dX7_forgetCompacted_106 : decode cX7_forgetCompacted 106 = .ok (.aload_n 0, 1) := by decide +kernel
theorem dX7_forgetCompacted_107 : decode cX7_forgetCompacted 107 = .ok (.getfield 47, 3) := by decide +kernel
theorem dX7_forgetCompacted_110 : decode cX7_forgetCompacted 110 = .ok (.iload_n 1, 1) := by decide +kernel
theorem dX7_forgetCompacted_111 : decode cX7_forgetCompacted 111 = .ok (.isub, 1) := by decide +kernel
theorem dX7_forgetCompacted_112 : decode cX7_forgetCompacted 112 = .ok (.invokestatic 57, 3) := by decide +kernel
theorem dX7_forgetCompacted_115 : decode cX7_forgetCompacted 115 = .ok (.aload_n 0, 1) := by decide +kernel
theorem dX7_forgetCompacted_116 : decode cX7_forgetCompacted 116 = .ok (.dup, 1) := by decide +kernel
theorem dX7_forgetCompacted_117 : decode cX7_forgetCompacted 117 = .ok (.getfield 47, 3) := by decide +kernel
theorem dX7_forgetCompacted_120 : decode cX7_forgetCompacted 120 = .ok (.iload_n 1, 1) := by decide +kernel
theorem dX7_forgetCompacted_121 : decode cX7_forgetCompacted 121 = .ok (.isub, 1) := by decide +kernel
theorem dX7_forgetCompacted_122 : decode cX7_forgetCompacted 122 = .ok (.putfield 47, 3) := by decide +kernel
theorem dX7_forgetCompacted_125 : decode cX7_forgetCompacted 125 = .ok (.return_, 1) := by decide +kernel
theorem dX7_isPut_0 : decode cX7_isPut 0 = .ok (.lload_n 0, 1) := by decide +kernel
theorem dX7_isPut_1 : decode cX7_isPut 1 = .ok (.lconst 0, 1) := by decide +kernel
theorem dX7_isPut_2 : decode cX7_isPut 2 = .ok (.lcmp, 1) := by decide +kernel
theorem dX7_isPut_3 : decode cX7_isPut 3 = .ok (.ifCond .lt 7, 3) := by decide +kernel
theorem dX7_isPut_6 : decode cX7_isPut 6 = .ok (.iconst 1, 1) := by decide +kernel
theorem dX7_isPut_7 : decode cX7_isPut 7 = .ok (.goto 4, 3) := by decide +kernel
theorem dX7_isPut_10 : decode cX7_isPut 10 = .ok (.iconst 0, 1) := by decide +kernel
theorem dX7_isPut_11 : decode cX7_isPut 11 = .ok (.ireturn, 1) := by decide +kernel
theorem dX7_revisionOf_0 : decode cX7_revisionOf 0 = .ok (.lload_n 0, 1) := by decide +kernel
theorem dX7_revisionOf_1 : decode cX7_revisionOf 1 = .ok (.invokestatic 171, 3) := by decide +kernel
theorem dX7_revisionOf_4 : decode cX7_revisionOf 4 = .ok (.ifCond .eq 10, 3) := by decide +kernel
theorem dX7_revisionOf_7 : decode cX7_revisionOf 7 = .ok (.lload_n 0, 1) := by decide +kernel
theorem dX7_revisionOf_8 : decode cX7_revisionOf 8 = .ok (.bipush 38, 2) := by decide +kernel
theorem dX7_revisionOf_10 : decode cX7_revisionOf 10 = .ok (.lshr, 1) := by decide +kernel
theorem dX7_revisionOf_11 : decode cX7_revisionOf 11 = .ok (.goto 11, 3) := by decide +kernel
theorem dX7_revisionOf_14 : decode cX7_revisionOf 14 = .ok (.ldc2_w 160, 3) := by decide +kernel
theorem dX7_revisionOf_17 : decode cX7_revisionOf 17 = .ok (.lload_n 0, 1) := by decide +kernel
theorem dX7_revisionOf_18 : decode cX7_revisionOf 18 = .ok (.lsub, 1) := by decide +kernel
theorem dX7_revisionOf_19 : decode cX7_revisionOf 19 = .ok (.bipush 6, 2) := by decide +kernel
theorem dX7_revisionOf_21 : decode cX7_revisionOf 21 = .ok (.lshr, 1) := by decide +kernel
theorem dX7_revisionOf_22 : decode cX7_revisionOf 22 = .ok (.l2i, 1) := by decide +kernel
theorem dX7_revisionOf_23 : decode cX7_revisionOf 23 = .ok (.ireturn, 1) := by decide +kernel
theorem dX7_keyOf_0 : decode cX7_keyOf 0 = .ok (.lload_n 0, 1) := by decide +kernel
theorem dX7_keyOf_1 : decode cX7_keyOf 1 = .ok (.invokestatic 171, 3) := by decide +kernel
theorem dX7_keyOf_4 : decode cX7_keyOf 4 = .ok (.ifCond .eq 10, 3) := by decide +kernel
theorem dX7_keyOf_7 : decode cX7_keyOf 7 = .ok (.lload_n 0, 1) := by decide +kernel
theorem dX7_keyOf_8 : decode cX7_keyOf 8 = .ok (.bipush 32, 2) := by decide +kernel
theorem dX7_keyOf_10 : decode cX7_keyOf 10 = .ok (.lshr, 1) := by decide +kernel
theorem dX7_keyOf_11 : decode cX7_keyOf 11 = .ok (.goto 8, 3) := by decide +kernel
theorem dX7_keyOf_14 : decode cX7_keyOf 14 = .ok (.ldc2_w 160, 3) := by decide +kernel
theorem dX7_keyOf_17 : decode cX7_keyOf 17 = .ok (.lload_n 0, 1) := by decide +kernel
theorem dX7_keyOf_18 : decode cX7_keyOf 18 = .ok (.lsub, 1) := by decide +kernel
theorem dX7_keyOf_19 : decode cX7_keyOf 19 = .ok (.ldc2_w 178, 3) := by decide +kernel
theorem dX7_keyOf_22 : decode cX7_keyOf 22 = .ok (.land, 1) := by decide +kernel
theorem dX7_keyOf_23 : decode cX7_keyOf 23 = .ok (.l2i, 1) := by decide +kernel
theorem dX7_keyOf_24 : decode cX7_keyOf 24 = .ok (.ireturn, 1) := by decide +kernel
theorem dX7_valueOf_0 : decode cX7_valueOf 0 = .ok (.lload_n 0, 1) := by decide +kernel
theorem dX7_valueOf_1 : decode cX7_valueOf 1 = .ok (.invokestatic 171, 3) := by decide +kernel
theorem dX7_valueOf_4 : decode cX7_valueOf 4 = .ok (.ifCond .eq 8, 3) := by decide +kernel
theorem dX7_valueOf_7 : decode cX7_valueOf 7 = .ok (.lload_n 0, 1) := by decide +kernel
theorem dX7_valueOf_8 : decode cX7_valueOf 8 = .ok (.l2i, 1) := by decide +kernel
theorem dX7_valueOf_9 : decode cX7_valueOf 9 = .ok (.goto 4, 3) := by decide +kernel
theorem dX7_valueOf_12 : decode cX7_valueOf 12 = .ok (.iconst 0, 1) := by decide +kernel
theorem dX7_valueOf_13 : decode cX7_valueOf 13 = .ok (.ireturn, 1) := by decide +kernel
theorem dX7_keyField_0 : decode cX7_keyField 0 = .ok (.iload_n 1, 1) := by decide +kernel
theorem dX7_keyField_1 : decode cX7_keyField 1 = .ok (.invokestatic 151, 3) := by decide +kernel
theorem dX7_keyField_4 : decode cX7_keyField 4 = .ok (.ifCond .ne 5, 3) := by decide +kernel
theorem dX7_keyField_7 : decode cX7_keyField 7 = .ok (.iconst 0, 1) := by decide +kernel
theorem dX7_keyField_8 : decode cX7_keyField 8 = .ok (.ireturn, 1) := by decide +kernel
theorem dX7_keyField_9 : decode cX7_keyField 9 = .ok (.iload_n 2, 1) := by decide +kernel
theorem dX7_keyField_10 : decode cX7_keyField 10 = .ok (.tableswitch 58 0 3 #[30, 37, 44, 51], 30) := by decide +kernel
theorem dX7_keyField_40 : decode cX7_keyField 40 = .ok (.aload_n 0, 1) := by decide +kernel
theorem dX7_keyField_41 : decode cX7_keyField 41 = .ok (.getfield 19, 3) := by decide +kernel
theorem dX7_keyField_44 : decode cX7_keyField 44 = .ok (.iload_n 1, 1) := by decide +kernel
theorem dX7_keyField_45 : decode cX7_keyField 45 = .ok (.iaload, 1) := by decide +kernel
theorem dX7_keyField_46 : decode cX7_keyField 46 = .ok (.ireturn, 1) := by decide +kernel
theorem dX7_keyField_47 : decode cX7_keyField 47 = .ok (.aload_n 0, 1) := by decide +kernel
theorem dX7_keyField_48 : decode cX7_keyField 48 = .ok (.getfield 23, 3) := by decide +kernel
theorem dX7_keyField_51 : decode cX7_keyField 51 = .ok (.iload_n 1, 1) := by decide +kernel
theorem dX7_keyField_52 : decode cX7_keyField 52 = .ok (.iaload, 1) := by decide +kernel
theorem dX7_keyField_53 : decode cX7_keyField 53 = .ok (.ireturn, 1) := by decide +kernel
theorem dX7_keyField_54 : decode cX7_keyField 54 = .ok (.aload_n 0, 1) := by decide +kernel
theorem dX7_keyField_55 : decode cX7_keyField 55 = .ok (.getfield 26, 3) := by decide +kernel
theorem dX7_keyField_58 : decode cX7_keyField 58 = .ok (.iload_n 1, 1) := by decide +kernel
theorem dX7_keyField_59 : decode cX7_keyField 59 = .ok (.iaload, 1) := by decide +kernel
theorem dX7_keyField_60 : decode cX7_keyField 60 = .ok (.ireturn, 1) := by decide +kernel
theorem dX7_keyField_61 : decode cX7_keyField 61 = .ok (.aload_n 0, 1) := by decide +kernel
theorem dX7_keyField_62 : decode cX7_keyField 62 = .ok (.getfield 29, 3) := by decide +kernel
theorem dX7_keyField_65 : decode cX7_keyField 65 = .ok (.iload_n 1, 1) := by decide +kernel
theorem dX7_keyField_66 : decode cX7_keyField 66 = .ok (.iaload, 1) := by decide +kernel
theorem dX7_keyField_67 : decode cX7_keyField 67 = .ok (.ireturn, 1) := by decide +kernel
theorem dX7_keyField_68 : decode cX7_keyField 68 = .ok (.aload_n 0, 1) := by decide +kernel
theorem dX7_keyField_69 : decode cX7_keyField 69 = .ok (.getfield 32, 3) := by decide +kernel
theorem dX7_keyField_72 : decode cX7_keyField 72 = .ok (.iload_n 1, 1) := by decide +kernel
theorem dX7_keyField_73 : decode cX7_keyField 73 = .ok (.iaload, 1) := by decide +kernel
theorem dX7_keyField_74 : decode cX7_keyField 74 = .ok (.ireturn, 1) := by decide +kernel
theorem dX7_latestEventOfKey_0 : decode cX7_latestEventOfKey 0 = .ok (.aload_n 0, 1) := by decide +kernel
theorem dX7_latestEventOfKey_1 : decode cX7_latestEventOfKey 1 = .ok (.iload_n 2, 1) := by decide +kernel
theorem dX7_latestEventOfKey_2 : decode cX7_latestEventOfKey 2 = .ok (.iconst 1, 1) := by decide +kernel
theorem dX7_latestEventOfKey_3 : decode cX7_latestEventOfKey 3 = .ok (.iadd, 1) := by decide +kernel
theorem dX7_latestEventOfKey_4 : decode cX7_latestEventOfKey 4 = .ok (.invokevirtual 180, 3) := by decide +kernel
theorem dX7_latestEventOfKey_7 : decode cX7_latestEventOfKey 7 = .ok (.iconst 1, 1) := by decide +kernel
theorem dX7_latestEventOfKey_8 : decode cX7_latestEventOfKey 8 = .ok (.isub, 1) := by decide +kernel
theorem dX7_latestEventOfKey_9 : decode cX7_latestEventOfKey 9 = .ok (.istore_n 3, 1) := by decide +kernel
theorem dX7_latestEventOfKey_10 : decode cX7_latestEventOfKey 10 = .ok (.iload_n 3, 1) := by decide +kernel
theorem dX7_latestEventOfKey_11 : decode cX7_latestEventOfKey 11 = .ok (.ifCond .lt 24, 3) := by decide +kernel
theorem dX7_latestEventOfKey_14 : decode cX7_latestEventOfKey 14 = .ok (.aload_n 0, 1) := by decide +kernel
theorem dX7_latestEventOfKey_15 : decode cX7_latestEventOfKey 15 = .ok (.getfield 15, 3) := by decide +kernel
theorem dX7_latestEventOfKey_18 : decode cX7_latestEventOfKey 18 = .ok (.iload_n 3, 1) := by decide +kernel
theorem dX7_latestEventOfKey_19 : decode cX7_latestEventOfKey 19 = .ok (.laload, 1) := by decide +kernel
theorem dX7_latestEventOfKey_20 : decode cX7_latestEventOfKey 20 = .ok (.invokestatic 168, 3) := by decide +kernel
theorem dX7_latestEventOfKey_23 : decode cX7_latestEventOfKey 23 = .ok (.iload_n 1, 1) := by decide +kernel
theorem dX7_latestEventOfKey_24 : decode cX7_latestEventOfKey 24 = .ok (.if_icmp .ne 5, 3) := by decide +kernel
theorem dX7_latestEventOfKey_27 : decode cX7_latestEventOfKey 27 = .ok (.iload_n 3, 1) := by decide +kernel
theorem dX7_latestEventOfKey_28 : decode cX7_latestEventOfKey 28 = .ok (.ireturn, 1) := by decide +kernel
theorem dX7_latestEventOfKey_29 : decode cX7_latestEventOfKey 29 = .ok (.iinc 3 (-1), 3) := by decide +kernel
theorem dX7_latestEventOfKey_32 : decode cX7_latestEventOfKey 32 = .ok (.goto (-22), 3) := by decide +kernel
theorem dX7_latestEventOfKey_35 : decode cX7_latestEventOfKey 35 = .ok (.iconst (-1), 1) := by decide +kernel
theorem dX7_latestEventOfKey_36 : decode cX7_latestEventOfKey 36 = .ok (.ireturn, 1) := by decide +kernel
theorem dX7_wasThere_0 : decode cX7_wasThere 0 = .ok (.iload_n 2, 1) := by decide +kernel
theorem dX7_wasThere_1 : decode cX7_wasThere 1 = .ok (.ifCond .lt 21, 3) := by decide +kernel
theorem dX7_wasThere_4 : decode cX7_wasThere 4 = .ok (.iload_n 2, 1) := by decide +kernel
theorem dX7_wasThere_5 : decode cX7_wasThere 5 = .ok (.aload_n 0, 1) := by decide +kernel
theorem dX7_wasThere_6 : decode cX7_wasThere 6 = .ok (.getfield 47, 3) := by decide +kernel
theorem dX7_wasThere_9 : decode cX7_wasThere 9 = .ok (.if_icmp .ge 13, 3) := by decide +kernel
theorem dX7_wasThere_12 : decode cX7_wasThere 12 = .ok (.aload_n 0, 1) := by decide +kernel
theorem dX7_wasThere_13 : decode cX7_wasThere 13 = .ok (.getfield 15, 3) := by decide +kernel
theorem dX7_wasThere_16 : decode cX7_wasThere 16 = .ok (.iload_n 2, 1) := by decide +kernel
theorem dX7_wasThere_17 : decode cX7_wasThere 17 = .ok (.laload, 1) := by decide +kernel
theorem dX7_wasThere_18 : decode cX7_wasThere 18 = .ok (.invokestatic 171, 3) := by decide +kernel
theorem dX7_wasThere_21 : decode cX7_wasThere 21 = .ok (.ireturn, 1) := by decide +kernel
theorem dX7_wasThere_22 : decode cX7_wasThere 22 = .ok (.aload_n 0, 1) := by decide +kernel
theorem dX7_wasThere_23 : decode cX7_wasThere 23 = .ok (.getfield 50, 3) := by decide +kernel
theorem dX7_wasThere_26 : decode cX7_wasThere 26 = .ok (.lconst 1, 1) := by decide +kernel
theorem dX7_wasThere_27 : decode cX7_wasThere 27 = .ok (.iload_n 1, 1) := by decide +kernel
theorem dX7_wasThere_28 : decode cX7_wasThere 28 = .ok (.lshl, 1) := by decide +kernel
theorem dX7_wasThere_29 : decode cX7_wasThere 29 = .ok (.land, 1) := by decide +kernel
theorem dX7_wasThere_30 : decode cX7_wasThere 30 = .ok (.lconst 0, 1) := by decide +kernel
theorem dX7_wasThere_31 : decode cX7_wasThere 31 = .ok (.lcmp, 1) := by decide +kernel
theorem dX7_wasThere_32 : decode cX7_wasThere 32 = .ok (.ifCond .eq 7, 3) := by decide +kernel
theorem dX7_wasThere_35 : decode cX7_wasThere 35 = .ok (.iconst 1, 1) := by decide +kernel
theorem dX7_wasThere_36 : decode cX7_wasThere 36 = .ok (.goto 4, 3) := by decide +kernel
theorem dX7_wasThere_39 : decode cX7_wasThere 39 = .ok (.iconst 0, 1) := by decide +kernel
theorem dX7_wasThere_40 : decode cX7_wasThere 40 = .ok (.ireturn, 1) := by decide +kernel
theorem dX7_valueThen_0 : decode cX7_valueThen 0 = .ok (.iload_n 2, 1) := by decide +kernel
theorem dX7_valueThen_1 : decode cX7_valueThen 1 = .ok (.ifCond .lt 21, 3) := by decide +kernel
theorem dX7_valueThen_4 : decode cX7_valueThen 4 = .ok (.iload_n 2, 1) := by decide +kernel
theorem dX7_valueThen_5 : decode cX7_valueThen 5 = .ok (.aload_n 0, 1) := by decide +kernel
theorem dX7_valueThen_6 : decode cX7_valueThen 6 = .ok (.getfield 47, 3) := by decide +kernel
theorem dX7_valueThen_9 : decode cX7_valueThen 9 = .ok (.if_icmp .ge 13, 3) := by decide +kernel
theorem dX7_valueThen_12 : decode cX7_valueThen 12 = .ok (.aload_n 0, 1) := by decide +kernel
theorem dX7_valueThen_13 : decode cX7_valueThen 13 = .ok (.getfield 15, 3) := by decide +kernel
theorem dX7_valueThen_16 : decode cX7_valueThen 16 = .ok (.iload_n 2, 1) := by decide +kernel
theorem dX7_valueThen_17 : decode cX7_valueThen 17 = .ok (.laload, 1) := by decide +kernel
theorem dX7_valueThen_18 : decode cX7_valueThen 18 = .ok (.invokestatic 175, 3) := by decide +kernel
theorem dX7_valueThen_21 : decode cX7_valueThen 21 = .ok (.ireturn, 1) := by decide +kernel
theorem dX7_valueThen_22 : decode cX7_valueThen 22 = .ok (.iload_n 1, 1) := by decide +kernel
theorem dX7_valueThen_23 : decode cX7_valueThen 23 = .ok (.invokestatic 151, 3) := by decide +kernel
theorem dX7_valueThen_26 : decode cX7_valueThen 26 = .ok (.ifCond .eq 12, 3) := by decide +kernel
theorem dX7_valueThen_29 : decode cX7_valueThen 29 = .ok (.aload_n 0, 1) := by decide +kernel
theorem dX7_valueThen_30 : decode cX7_valueThen 30 = .ok (.getfield 35, 3) := by decide +kernel
theorem dX7_valueThen_33 : decode cX7_valueThen 33 = .ok (.iload_n 1, 1) := by decide +kernel
theorem dX7_valueThen_34 : decode cX7_valueThen 34 = .ok (.iaload, 1) := by decide +kernel
theorem dX7_valueThen_35 : decode cX7_valueThen 35 = .ok (.goto 4, 3) := by decide +kernel
theorem dX7_valueThen_38 : decode cX7_valueThen 38 = .ok (.iconst 0, 1) := by decide +kernel
theorem dX7_valueThen_39 : decode cX7_valueThen 39 = .ok (.ireturn, 1) := by decide +kernel
theorem dX7_firstEventFrom_0 : decode cX7_firstEventFrom 0 = .ok (.iconst 0, 1) := by decide +kernel
theorem dX7_firstEventFrom_1 : decode cX7_firstEventFrom 1 = .ok (.istore_n 2, 1) := by decide +kernel
theorem dX7_firstEventFrom_2 : decode cX7_firstEventFrom 2 = .ok (.iload_n 2, 1) := by decide +kernel
theorem dX7_firstEventFrom_3 : decode cX7_firstEventFrom 3 = .ok (.aload_n 0, 1) := by decide +kernel
theorem dX7_firstEventFrom_4 : decode cX7_firstEventFrom 4 = .ok (.getfield 47, 3) := by decide +kernel
theorem dX7_firstEventFrom_7 : decode cX7_firstEventFrom 7 = .ok (.if_icmp .ge 22, 3) := by decide +kernel
theorem dX7_firstEventFrom_10 : decode cX7_firstEventFrom 10 = .ok (.aload_n 0, 1) := by decide +kernel
theorem dX7_firstEventFrom_11 : decode cX7_firstEventFrom 11 = .ok (.getfield 15, 3) := by decide +kernel
theorem dX7_firstEventFrom_14 : decode cX7_firstEventFrom 14 = .ok (.iload_n 2, 1) := by decide +kernel
theorem dX7_firstEventFrom_15 : decode cX7_firstEventFrom 15 = .ok (.laload, 1) := by decide +kernel
theorem dX7_firstEventFrom_16 : decode cX7_firstEventFrom 16 = .ok (.invokestatic 164, 3) := by decide +kernel
theorem dX7_firstEventFrom_19 : decode cX7_firstEventFrom 19 = .ok (.iload_n 1, 1) := by decide +kernel
theorem dX7_firstEventFrom_20 : decode cX7_firstEventFrom 20 = .ok (.if_icmp .ge 9, 3) := by decide +kernel
theorem dX7_firstEventFrom_23 : decode cX7_firstEventFrom 23 = .ok (.iinc 2 1, 3) := by decide +kernel
theorem dX7_firstEventFrom_26 : decode cX7_firstEventFrom 26 = .ok (.goto (-24), 3) := by decide +kernel
theorem dX7_firstEventFrom_29 : decode cX7_firstEventFrom 29 = .ok (.iload_n 2, 1) := by decide +kernel
theorem dX7_firstEventFrom_30 : decode cX7_firstEventFrom 30 = .ok (.ireturn, 1) := by decide +kernel
theorem dX7_field_0 : decode cX7_field 0 = .ok (.iload_n 1, 1) := by decide +kernel
theorem dX7_field_1 : decode cX7_field 1 = .ok (.tableswitch 60 8 12 #[35, 40, 45, 50, 55], 35) := by decide +kernel
theorem dX7_field_36 : decode cX7_field 36 = .ok (.aload_n 0, 1) := by decide +kernel
theorem dX7_field_37 : decode cX7_field 37 = .ok (.getfield 9, 3) := by decide +kernel
theorem dX7_field_40 : decode cX7_field 40 = .ok (.ireturn, 1) := by decide +kernel
theorem dX7_field_41 : decode cX7_field 41 = .ok (.aload_n 0, 1) := by decide +kernel
theorem dX7_field_42 : decode cX7_field 42 = .ok (.getfield 41, 3) := by decide +kernel
theorem dX7_field_45 : decode cX7_field 45 = .ok (.ireturn, 1) := by decide +kernel
theorem dX7_field_46 : decode cX7_field 46 = .ok (.aload_n 0, 1) := by decide +kernel
theorem dX7_field_47 : decode cX7_field 47 = .ok (.getfield 44, 3) := by decide +kernel
theorem dX7_field_50 : decode cX7_field 50 = .ok (.ireturn, 1) := by decide +kernel
theorem dX7_field_51 : decode cX7_field 51 = .ok (.aload_n 0, 1) := by decide +kernel
theorem dX7_field_52 : decode cX7_field 52 = .ok (.invokevirtual 183, 3) := by decide +kernel
theorem dX7_field_55 : decode cX7_field 55 = .ok (.ireturn, 1) := by decide +kernel
theorem dX7_field_56 : decode cX7_field 56 = .ok (.aload_n 0, 1) := by decide +kernel
theorem dX7_field_57 : decode cX7_field 57 = .ok (.getfield 54, 3) := by decide +kernel
theorem dX7_field_60 : decode cX7_field 60 = .ok (.ireturn, 1) := by decide +kernel
theorem dX7_field_61 : decode cX7_field 61 = .ok (.aload_n 0, 1) := by decide +kernel
theorem dX7_field_62 : decode cX7_field 62 = .ok (.getfield 47, 3) := by decide +kernel
theorem dX7_field_65 : decode cX7_field 65 = .ok (.ireturn, 1) := by decide +kernel
theorem dX7_keysThere_0 : decode cX7_keysThere 0 = .ok (.iconst 0, 1) := by decide +kernel
theorem dX7_keysThere_1 : decode cX7_keysThere 1 = .ok (.istore_n 1, 1) := by decide +kernel
theorem dX7_keysThere_2 : decode cX7_keysThere 2 = .ok (.iconst 0, 1) := by decide +kernel
theorem dX7_keysThere_3 : decode cX7_keysThere 3 = .ok (.istore_n 2, 1) := by decide +kernel
theorem dX7_keysThere_4 : decode cX7_keysThere 4 = .ok (.iload_n 2, 1) := by decide +kernel
theorem dX7_keysThere_5 : decode cX7_keysThere 5 = .ok (.bipush 64, 2) := by decide +kernel
theorem dX7_keysThere_7 : decode cX7_keysThere 7 = .ok (.if_icmp .ge 21, 3) := by decide +kernel
theorem dX7_keysThere_10 : decode cX7_keysThere 10 = .ok (.aload_n 0, 1) := by decide +kernel
theorem dX7_keysThere_11 : decode cX7_keysThere 11 = .ok (.getfield 19, 3) := by decide +kernel
theorem dX7_keysThere_14 : decode cX7_keysThere 14 = .ok (.iload_n 2, 1) := by decide +kernel
theorem dX7_keysThere_15 : decode cX7_keysThere 15 = .ok (.iaload, 1) := by decide +kernel
theorem dX7_keysThere_16 : decode cX7_keysThere 16 = .ok (.ifCond .eq 6, 3) := by decide +kernel
theorem dX7_keysThere_19 : decode cX7_keysThere 19 = .ok (.iinc 1 1, 3) := by decide +kernel
theorem dX7_keysThere_22 : decode cX7_keysThere 22 = .ok (.iinc 2 1, 3) := by decide +kernel
theorem dX7_keysThere_25 : decode cX7_keysThere 25 = .ok (.goto (-21), 3) := by decide +kernel
theorem dX7_keysThere_28 : decode cX7_keysThere 28 = .ok (.iload_n 1, 1) := by decide +kernel
theorem dX7_keysThere_29 : decode cX7_keysThere 29 = .ok (.ireturn, 1) := by decide +kernel
theorem dX7_fingerprint_0 : decode cX7_fingerprint 0 = .ok (.ldc2_w 186, 3) := by decide +kernel
theorem dX7_fingerprint_3 : decode cX7_fingerprint 3 = .ok (.lstore_n 1, 1) := by decide +kernel
theorem dX7_fingerprint_4 : decode cX7_fingerprint 4 = .ok (.iconst 0, 1) := by decide +kernel
theorem dX7_fingerprint_5 : decode cX7_fingerprint 5 = .ok (.istore_n 3, 1) := by decide +kernel
theorem dX7_fingerprint_6 : decode cX7_fingerprint 6 = .ok (.iload_n 3, 1) := by decide +kernel
theorem dX7_fingerprint_7 : decode cX7_fingerprint 7 = .ok (.bipush 64, 2) := by decide +kernel
theorem dX7_fingerprint_9 : decode cX7_fingerprint 9 = .ok (.if_icmp .ge 97, 3) := by decide +kernel
theorem dX7_fingerprint_12 : decode cX7_fingerprint 12 = .ok (.aload_n 0, 1) := by decide +kernel
theorem dX7_fingerprint_13 : decode cX7_fingerprint 13 = .ok (.getfield 19, 3) := by decide +kernel
theorem dX7_fingerprint_16 : decode cX7_fingerprint 16 = .ok (.iload_n 3, 1) := by decide +kernel
theorem dX7_fingerprint_17 : decode cX7_fingerprint 17 = .ok (.iaload, 1) := by decide +kernel
theorem dX7_fingerprint_18 : decode cX7_fingerprint 18 = .ok (.ifCond .eq 82, 3) := by decide +kernel
theorem dX7_fingerprint_21 : decode cX7_fingerprint 21 = .ok (.lload_n 1, 1) := by decide +kernel
theorem dX7_fingerprint_22 : decode cX7_fingerprint 22 = .ok (.ldc2_w 188, 3) := by decide +kernel
theorem dX7_fingerprint_25 : decode cX7_fingerprint 25 = .ok (.lmul, 1) := by decide +kernel
theorem dX7_fingerprint_26 : decode cX7_fingerprint 26 = .ok (.iload_n 3, 1) := by decide +kernel
theorem dX7_fingerprint_27 : decode cX7_fingerprint 27 = .ok (.i2l, 1) := by decide +kernel
theorem dX7_fingerprint_28 : decode cX7_fingerprint 28 = .ok (.ladd, 1) := by decide +kernel
theorem dX7_fingerprint_29 : decode cX7_fingerprint 29 = .ok (.lstore_n 1, 1) := by decide +kernel
theorem dX7_fingerprint_30 : decode cX7_fingerprint 30 = .ok (.lload_n 1, 1) := by decide +kernel
theorem dX7_fingerprint_31 : decode cX7_fingerprint 31 = .ok (.ldc2_w 188, 3) := by decide +kernel
theorem dX7_fingerprint_34 : decode cX7_fingerprint 34 = .ok (.lmul, 1) := by decide +kernel
theorem dX7_fingerprint_35 : decode cX7_fingerprint 35 = .ok (.aload_n 0, 1) := by decide +kernel
theorem dX7_fingerprint_36 : decode cX7_fingerprint 36 = .ok (.getfield 29, 3) := by decide +kernel
theorem dX7_fingerprint_39 : decode cX7_fingerprint 39 = .ok (.iload_n 3, 1) := by decide +kernel
theorem dX7_fingerprint_40 : decode cX7_fingerprint 40 = .ok (.iaload, 1) := by decide +kernel
theorem dX7_fingerprint_41 : decode cX7_fingerprint 41 = .ok (.i2l, 1) := by decide +kernel
theorem dX7_fingerprint_42 : decode cX7_fingerprint 42 = .ok (.ladd, 1) := by decide +kernel
theorem dX7_fingerprint_43 : decode cX7_fingerprint 43 = .ok (.lstore_n 1, 1) := by decide +kernel
theorem dX7_fingerprint_44 : decode cX7_fingerprint 44 = .ok (.lload_n 1, 1) := by decide +kernel
theorem dX7_fingerprint_45 : decode cX7_fingerprint 45 = .ok (.ldc2_w 188, 3) := by decide +kernel
theorem dX7_fingerprint_48 : decode cX7_fingerprint 48 = .ok (.lmul, 1) := by decide +kernel
theorem dX7_fingerprint_49 : decode cX7_fingerprint 49 = .ok (.aload_n 0, 1) := by decide +kernel
theorem dX7_fingerprint_50 : decode cX7_fingerprint 50 = .ok (.getfield 19, 3) := by decide +kernel
theorem dX7_fingerprint_53 : decode cX7_fingerprint 53 = .ok (.iload_n 3, 1) := by decide +kernel
theorem dX7_fingerprint_54 : decode cX7_fingerprint 54 = .ok (.iaload, 1) := by decide +kernel
theorem dX7_fingerprint_55 : decode cX7_fingerprint 55 = .ok (.i2l, 1) := by decide +kernel
theorem dX7_fingerprint_56 : decode cX7_fingerprint 56 = .ok (.ladd, 1) := by decide +kernel
theorem dX7_fingerprint_57 : decode cX7_fingerprint 57 = .ok (.lstore_n 1, 1) := by decide +kernel
theorem dX7_fingerprint_58 : decode cX7_fingerprint 58 = .ok (.lload_n 1, 1) := by decide +kernel
theorem dX7_fingerprint_59 : decode cX7_fingerprint 59 = .ok (.ldc2_w 188, 3) := by decide +kernel
theorem dX7_fingerprint_62 : decode cX7_fingerprint 62 = .ok (.lmul, 1) := by decide +kernel
theorem dX7_fingerprint_63 : decode cX7_fingerprint 63 = .ok (.aload_n 0, 1) := by decide +kernel
theorem dX7_fingerprint_64 : decode cX7_fingerprint 64 = .ok (.getfield 23, 3) := by decide +kernel
theorem dX7_fingerprint_67 : decode cX7_fingerprint 67 = .ok (.iload_n 3, 1) := by decide +kernel
theorem dX7_fingerprint_68 : decode cX7_fingerprint 68 = .ok (.iaload, 1) := by decide +kernel
theorem dX7_fingerprint_69 : decode cX7_fingerprint 69 = .ok (.i2l, 1) := by decide +kernel
theorem dX7_fingerprint_70 : decode cX7_fingerprint 70 = .ok (.ladd, 1) := by decide +kernel
theorem dX7_fingerprint_71 : decode cX7_fingerprint 71 = .ok (.lstore_n 1, 1) := by decide +kernel
theorem dX7_fingerprint_72 : decode cX7_fingerprint 72 = .ok (.lload_n 1, 1) := by decide +kernel
theorem dX7_fingerprint_73 : decode cX7_fingerprint 73 = .ok (.ldc2_w 188, 3) := by decide +kernel
theorem dX7_fingerprint_76 : decode cX7_fingerprint 76 = .ok (.lmul, 1) := by decide +kernel
theorem dX7_fingerprint_77 : decode cX7_fingerprint 77 = .ok (.aload_n 0, 1) := by decide +kernel
theorem dX7_fingerprint_78 : decode cX7_fingerprint 78 = .ok (.getfield 26, 3) := by decide +kernel
theorem dX7_fingerprint_81 : decode cX7_fingerprint 81 = .ok (.iload_n 3, 1) := by decide +kernel
theorem dX7_fingerprint_82 : decode cX7_fingerprint 82 = .ok (.iaload, 1) := by decide +kernel
theorem dX7_fingerprint_83 : decode cX7_fingerprint 83 = .ok (.i2l, 1) := by decide +kernel
theorem dX7_fingerprint_84 : decode cX7_fingerprint 84 = .ok (.ladd, 1) := by decide +kernel
theorem dX7_fingerprint_85 : decode cX7_fingerprint 85 = .ok (.lstore_n 1, 1) := by decide +kernel
theorem dX7_fingerprint_86 : decode cX7_fingerprint 86 = .ok (.lload_n 1, 1) := by decide +kernel
theorem dX7_fingerprint_87 : decode cX7_fingerprint 87 = .ok (.ldc2_w 188, 3) := by decide +kernel
theorem dX7_fingerprint_90 : decode cX7_fingerprint 90 = .ok (.lmul, 1) := by decide +kernel
theorem dX7_fingerprint_91 : decode cX7_fingerprint 91 = .ok (.aload_n 0, 1) := by decide +kernel
theorem dX7_fingerprint_92 : decode cX7_fingerprint 92 = .ok (.getfield 32, 3) := by decide +kernel
theorem dX7_fingerprint_95 : decode cX7_fingerprint 95 = .ok (.iload_n 3, 1) := by decide +kernel
theorem dX7_fingerprint_96 : decode cX7_fingerprint 96 = .ok (.iaload, 1) := by decide +kernel
theorem dX7_fingerprint_97 : decode cX7_fingerprint 97 = .ok (.i2l, 1) := by decide +kernel
theorem dX7_fingerprint_98 : decode cX7_fingerprint 98 = .ok (.ladd, 1) := by decide +kernel
theorem dX7_fingerprint_99 : decode cX7_fingerprint 99 = .ok (.lstore_n 1, 1) := by decide +kernel
theorem dX7_fingerprint_100 : decode cX7_fingerprint 100 = .ok (.iinc 3 1, 3) := by decide +kernel
theorem dX7_fingerprint_103 : decode cX7_fingerprint 103 = .ok (.goto (-97), 3) := by decide +kernel
theorem dX7_fingerprint_106 : decode cX7_fingerprint 106 = .ok (.iconst 0, 1) := by decide +kernel
theorem dX7_fingerprint_107 : decode cX7_fingerprint 107 = .ok (.istore_n 3, 1) := by decide +kernel
theorem dX7_fingerprint_108 : decode cX7_fingerprint 108 = .ok (.iload_n 3, 1) := by decide +kernel
theorem dX7_fingerprint_109 : decode cX7_fingerprint 109 = .ok (.aload_n 0, 1) := by decide +kernel
theorem dX7_fingerprint_110 : decode cX7_fingerprint 110 = .ok (.getfield 47, 3) := by decide +kernel
theorem dX7_fingerprint_113 : decode cX7_fingerprint 113 = .ok (.if_icmp .ge 22, 3) := by decide +kernel
theorem dX7_fingerprint_116 : decode cX7_fingerprint 116 = .ok (.lload_n 1, 1) := by decide +kernel
theorem dX7_fingerprint_117 : decode cX7_fingerprint 117 = .ok (.ldc2_w 188, 3) := by decide +kernel
theorem dX7_fingerprint_120 : decode cX7_fingerprint 120 = .ok (.lmul, 1) := by decide +kernel
theorem dX7_fingerprint_121 : decode cX7_fingerprint 121 = .ok (.aload_n 0, 1) := by decide +kernel
theorem dX7_fingerprint_122 : decode cX7_fingerprint 122 = .ok (.getfield 15, 3) := by decide +kernel
theorem dX7_fingerprint_125 : decode cX7_fingerprint 125 = .ok (.iload_n 3, 1) := by decide +kernel
theorem dX7_fingerprint_126 : decode cX7_fingerprint 126 = .ok (.laload, 1) := by decide +kernel
theorem dX7_fingerprint_127 : decode cX7_fingerprint 127 = .ok (.ladd, 1) := by decide +kernel
theorem dX7_fingerprint_128 : decode cX7_fingerprint 128 = .ok (.lstore_n 1, 1) := by decide +kernel
theorem dX7_fingerprint_129 : decode cX7_fingerprint 129 = .ok (.iinc 3 1, 3) := by decide +kernel
theorem dX7_fingerprint_132 : decode cX7_fingerprint 132 = .ok (.goto (-24), 3) := by decide +kernel
theorem dX7_fingerprint_135 : decode cX7_fingerprint 135 = .ok (.lload_n 1, 1) := by decide +kernel
theorem dX7_fingerprint_136 : decode cX7_fingerprint 136 = .ok (.ldc2_w 188, 3) := by decide +kernel
theorem dX7_fingerprint_139 : decode cX7_fingerprint 139 = .ok (.lmul, 1) := by decide +kernel
theorem dX7_fingerprint_140 : decode cX7_fingerprint 140 = .ok (.aload_n 0, 1) := by decide +kernel
theorem dX7_fingerprint_141 : decode cX7_fingerprint 141 = .ok (.getfield 9, 3) := by decide +kernel
theorem dX7_fingerprint_144 : decode cX7_fingerprint 144 = .ok (.i2l, 1) := by decide +kernel
theorem dX7_fingerprint_145 : decode cX7_fingerprint 145 = .ok (.ladd, 1) := by decide +kernel
theorem dX7_fingerprint_146 : decode cX7_fingerprint 146 = .ok (.lreturn, 1) := by decide +kernel
theorem dX8_init_0 : decode cX8_init 0 = .ok (.aload_n 0, 1) := by decide +kernel
theorem dX8_init_1 : decode cX8_init 1 = .ok (.invokespecial 3, 3) := by decide +kernel
theorem dX8_init_4 : decode cX8_init 4 = .ok (.aload_n 0, 1) := by decide +kernel
theorem dX8_init_5 : decode cX8_init 5 = .ok (.sipush 1024, 3) := by decide +kernel
theorem dX8_init_8 : decode cX8_init 8 = .ok (.newarray .int, 2) := by decide +kernel
theorem dX8_init_10 : decode cX8_init 10 = .ok (.putfield 9, 3) := by decide +kernel
theorem dX8_init_13 : decode cX8_init 13 = .ok (.aload_n 0, 1) := by decide +kernel
theorem dX8_init_14 : decode cX8_init 14 = .ok (.sipush 1201, 3) := by decide +kernel
theorem dX8_init_17 : decode cX8_init 17 = .ok (.anewarray 15, 3) := by decide +kernel
theorem dX8_init_20 : decode cX8_init 20 = .ok (.putfield 17, 3) := by decide +kernel
theorem dX8_init_23 : decode cX8_init 23 = .ok (.return_, 1) := by decide +kernel
theorem dX8_seeLeader_0 : decode cX8_seeLeader 0 = .ok (.iload_n 1, 1) := by decide +kernel
theorem dX8_seeLeader_1 : decode cX8_seeLeader 1 = .ok (.ifCond .lt 12, 3) := by decide +kernel
theorem dX8_seeLeader_4 : decode cX8_seeLeader 4 = .ok (.iload_n 1, 1) := by decide +kernel
theorem dX8_seeLeader_5 : decode cX8_seeLeader 5 = .ok (.aload_n 0, 1) := by decide +kernel
theorem dX8_seeLeader_6 : decode cX8_seeLeader 6 = .ok (.getfield 9, 3) := by decide +kernel
theorem dX8_seeLeader_9 : decode cX8_seeLeader 9 = .ok (.arraylength, 1) := by decide +kernel
theorem dX8_seeLeader_10 : decode cX8_seeLeader 10 = .ok (.if_icmp .lt 4, 3) := by decide +kernel
theorem dX8_seeLeader_13 : decode cX8_seeLeader 13 = .ok (.return_, 1) := by decide +kernel
theorem dX8_seeLeader_14 : decode cX8_seeLeader 14 = .ok (.aload_n 0, 1) := by decide +kernel
theorem dX8_seeLeader_15 : decode cX8_seeLeader 15 = .ok (.getfield 9, 3) := by decide +kernel
theorem dX8_seeLeader_18 : decode cX8_seeLeader 18 = .ok (.iload_n 1, 1) := by decide +kernel
theorem dX8_seeLeader_19 : decode cX8_seeLeader 19 = .ok (.iaload, 1) := by decide +kernel
theorem dX8_seeLeader_20 : decode cX8_seeLeader 20 = .ok (.ifCond .eq 25, 3) := by decide +kernel
theorem dX8_seeLeader_23 : decode cX8_seeLeader 23 = .ok (.aload_n 0, 1) := by decide +kernel
theorem dX8_seeLeader_24 : decode cX8_seeLeader 24 = .ok (.getfield 9, 3) := by decide +kernel
theorem dX8_seeLeader_27 : decode cX8_seeLeader 27 = .ok (.iload_n 1, 1) := by decide +kernel
theorem dX8_seeLeader_28 : decode cX8_seeLeader 28 = .ok (.iaload, 1) := by decide +kernel
theorem dX8_seeLeader_29 : decode cX8_seeLeader 29 = .ok (.iload_n 2, 1) := by decide +kernel
theorem dX8_seeLeader_30 : decode cX8_seeLeader 30 = .ok (.iconst 1, 1) := by decide +kernel
theorem dX8_seeLeader_31 : decode cX8_seeLeader 31 = .ok (.iadd, 1) := by decide +kernel
theorem dX8_seeLeader_32 : decode cX8_seeLeader 32 = .ok (.if_icmp .eq 13, 3) := by decide +kernel
theorem dX8_seeLeader_35 : decode cX8_seeLeader 35 = .ok (.aload_n 0, 1) := by decide +kernel
theorem dX8_seeLeader_36 : decode cX8_seeLeader 36 = .ok (.dup, 1) := by decide +kernel
theorem dX8_seeLeader_37 : decode cX8_seeLeader 37 = .ok (.getfield 21, 3) := by decide +kernel
theorem dX8_seeLeader_40 : decode cX8_seeLeader 40 = .ok (.iconst 1, 1) := by decide +kernel
theorem dX8_seeLeader_41 : decode cX8_seeLeader 41 = .ok (.iadd, 1) := by decide +kernel
theorem dX8_seeLeader_42 : decode cX8_seeLeader 42 = .ok (.putfield 21, 3) := by decide +kernel
theorem dX8_seeLeader_45 : decode cX8_seeLeader 45 = .ok (.aload_n 0, 1) := by decide +kernel
theorem dX8_seeLeader_46 : decode cX8_seeLeader 46 = .ok (.getfield 9, 3) := by decide +kernel
theorem dX8_seeLeader_49 : decode cX8_seeLeader 49 = .ok (.iload_n 1, 1) := by decide +kernel
theorem dX8_seeLeader_50 : decode cX8_seeLeader 50 = .ok (.iload_n 2, 1) := by decide +kernel
theorem dX8_seeLeader_51 : decode cX8_seeLeader 51 = .ok (.iconst 1, 1) := by decide +kernel
theorem dX8_seeLeader_52 : decode cX8_seeLeader 52 = .ok (.iadd, 1) := by decide +kernel
theorem dX8_seeLeader_53 : decode cX8_seeLeader 53 = .ok (.iastore, 1) := by decide +kernel
theorem dX8_seeLeader_54 : decode cX8_seeLeader 54 = .ok (.return_, 1) := by decide +kernel
theorem dX8_seeApplied_0 : decode cX8_seeApplied 0 = .ok (.iload_n 1, 1) := by decide +kernel
theorem dX8_seeApplied_1 : decode cX8_seeApplied 1 = .ok (.ifCond .lt 12, 3) := by decide +kernel
theorem dX8_seeApplied_4 : decode cX8_seeApplied 4 = .ok (.iload_n 1, 1) := by decide +kernel
theorem dX8_seeApplied_5 : decode cX8_seeApplied 5 = .ok (.aload_n 0, 1) := by decide +kernel
theorem dX8_seeApplied_6 : decode cX8_seeApplied 6 = .ok (.getfield 17, 3) := by decide +kernel
theorem dX8_seeApplied_9 : decode cX8_seeApplied 9 = .ok (.arraylength, 1) := by decide +kernel
theorem dX8_seeApplied_10 : decode cX8_seeApplied 10 = .ok (.if_icmp .lt 4, 3) := by decide +kernel
theorem dX8_seeApplied_13 : decode cX8_seeApplied 13 = .ok (.return_, 1) := by decide +kernel
theorem dX8_seeApplied_14 : decode cX8_seeApplied 14 = .ok (.aload_n 0, 1) := by decide +kernel
theorem dX8_seeApplied_15 : decode cX8_seeApplied 15 = .ok (.getfield 17, 3) := by decide +kernel
theorem dX8_seeApplied_18 : decode cX8_seeApplied 18 = .ok (.iload_n 1, 1) := by decide +kernel
theorem dX8_seeApplied_19 : decode cX8_seeApplied 19 = .ok (.aaload, 1) := by decide +kernel
theorem dX8_seeApplied_20 : decode cX8_seeApplied 20 = .ok (.astore_n 3, 1) := by decide +kernel
theorem dX8_seeApplied_21 : decode cX8_seeApplied 21 = .ok (.aload_n 3, 1) := by decide +kernel
theorem dX8_seeApplied_22 : decode cX8_seeApplied 22 = .ok (.ifnonnull 13, 3) := by decide +kernel
theorem dX8_seeApplied_25 : decode cX8_seeApplied 25 = .ok (.aload_n 0, 1) := by decide +kernel
theorem dX8_seeApplied_26 : decode cX8_seeApplied 26 = .ok (.getfield 17, 3) := by decide +kernel
theorem dX8_seeApplied_29 : decode cX8_seeApplied 29 = .ok (.iload_n 1, 1) := by decide +kernel
theorem dX8_seeApplied_30 : decode cX8_seeApplied 30 = .ok (.aload_n 2, 1) := by decide +kernel
theorem dX8_seeApplied_31 : decode cX8_seeApplied 31 = .ok (.aastore, 1) := by decide +kernel
theorem dX8_seeApplied_32 : decode cX8_seeApplied 32 = .ok (.goto 21, 3) := by decide +kernel
theorem dX8_seeApplied_35 : decode cX8_seeApplied 35 = .ok (.aload_n 3, 1) := by decide +kernel
theorem dX8_seeApplied_36 : decode cX8_seeApplied 36 = .ok (.aload_n 2, 1) := by decide +kernel
theorem dX8_seeApplied_37 : decode cX8_seeApplied 37 = .ok (.invokevirtual 25, 3) := by decide +kernel
theorem dX8_seeApplied_40 : decode cX8_seeApplied 40 = .ok (.ifCond .ne 13, 3) := by decide +kernel
theorem dX8_seeApplied_43 : decode cX8_seeApplied 43 = .ok (.aload_n 0, 1) := by decide +kernel
theorem dX8_seeApplied_44 : decode cX8_seeApplied 44 = .ok (.dup, 1) := by decide +kernel
theorem dX8_seeApplied_45 : decode cX8_seeApplied 45 = .ok (.getfield 21, 3) := by decide +kernel
theorem dX8_seeApplied_48 : decode cX8_seeApplied 48 = .ok (.iconst 1, 1) := by decide +kernel
theorem dX8_seeApplied_49 : decode cX8_seeApplied 49 = .ok (.iadd, 1) := by decide +kernel
theorem dX8_seeApplied_50 : decode cX8_seeApplied 50 = .ok (.putfield 21, 3) := by decide +kernel
theorem dX8_seeApplied_53 : decode cX8_seeApplied 53 = .ok (.return_, 1) := by decide +kernel
theorem dX9_init_0 : decode cX9_init 0 = .ok (.aload_n 0, 1) := by decide +kernel
theorem dX9_init_1 : decode cX9_init 1 = .ok (.invokespecial 3, 3) := by decide +kernel
theorem dX9_init_4 : decode cX9_init 4 = .ok (.new 9, 3) := by decide +kernel
theorem dX9_init_7 : decode cX9_init 7 = .ok (.dup, 1) := by decide +kernel
theorem dX9_init_8 : decode cX9_init 8 = .ok (.invokespecial 11, 3) := by decide +kernel
theorem dX9_init_11 : decode cX9_init 11 = .ok (.astore_n 1, 1) := by decide +kernel
theorem dX9_init_12 : decode cX9_init 12 = .ok (.new 12, 3) := by decide +kernel
theorem dX9_init_15 : decode cX9_init 15 = .ok (.dup, 1) := by decide +kernel
theorem dX9_init_16 : decode cX9_init 16 = .ok (.invokespecial 14, 3) := by decide +kernel
theorem dX9_init_19 : decode cX9_init 19 = .ok (.astore_n 2, 1) := by decide +kernel
theorem dX9_init_20 : decode cX9_init 20 = .ok (.new 15, 3) := by decide +kernel
theorem dX9_init_23 : decode cX9_init 23 = .ok (.dup, 1) := by decide +kernel
theorem dX9_init_24 : decode cX9_init 24 = .ok (.new 17, 3) := by decide +kernel
theorem dX9_init_27 : decode cX9_init 27 = .ok (.dup, 1) := by decide +kernel
theorem dX9_init_28 : decode cX9_init 28 = .ok (.invokespecial 19, 3) := by decide +kernel
theorem dX9_init_31 : decode cX9_init 31 = .ok (.iconst 0, 1) := by decide +kernel
theorem dX9_init_32 : decode cX9_init 32 = .ok (.iconst 0, 1) := by decide +kernel
theorem dX9_init_33 : decode cX9_init 33 = .ok (.invokespecial 20, 3) := by decide +kernel
theorem dX9_init_36 : decode cX9_init 36 = .ok (.astore_n 3, 1) := by decide +kernel
theorem dX9_init_37 : decode cX9_init 37 = .ok (.aload_n 0, 1) := by decide +kernel
theorem dX9_init_38 : decode cX9_init 38 = .ok (.iconst 5, 1) := by decide +kernel
theorem dX9_init_39 : decode cX9_init 39 = .ok (.anewarray 23, 3) := by decide +kernel
theorem dX9_init_42 : decode cX9_init 42 = .ok (.putfield 25, 3) := by decide +kernel
theorem dX9_init_45 : decode cX9_init 45 = .ok (.iconst 0, 1) := by decide +kernel
theorem dX9_init_46 : decode cX9_init 46 = .ok (.istore 4, 2) := by decide +kernel
theorem dX9_init_48 : decode cX9_init 48 = .ok (.iload 4, 2) := by decide +kernel
theorem dX9_init_50 : decode cX9_init 50 = .ok (.iconst 5, 1) := by decide +kernel
theorem dX9_init_51 : decode cX9_init 51 = .ok (.if_icmp .ge 28, 3) := by decide +kernel
theorem dX9_init_54 : decode cX9_init 54 = .ok (.aload_n 0, 1) := by decide +kernel
theorem dX9_init_55 : decode cX9_init 55 = .ok (.getfield 25, 3) := by decide +kernel
theorem dX9_init_58 : decode cX9_init 58 = .ok (.iload 4, 2) := by decide +kernel
theorem dX9_init_60 : decode cX9_init 60 = .ok (.new 23, 3) := by decide +kernel
theorem dX9_init_63 : decode cX9_init 63 = .ok (.dup, 1) := by decide +kernel
theorem dX9_init_64 : decode cX9_init 64 = .ok (.iload 4, 2) := by decide +kernel
theorem dX9_init_66 : decode cX9_init 66 = .ok (.aload_n 1, 1) := by decide +kernel
theorem dX9_init_67 : decode cX9_init 67 = .ok (.aload_n 2, 1) := by decide +kernel
theorem dX9_init_68 : decode cX9_init 68 = .ok (.aload_n 3, 1) := by decide +kernel
theorem dX9_init_69 : decode cX9_init 69 = .ok (.invokespecial 29, 3) := by decide +kernel
theorem dX9_init_72 : decode cX9_init 72 = .ok (.aastore, 1) := by decide +kernel
theorem dX9_init_73 : decode cX9_init 73 = .ok (.iinc 4 1, 3) := by decide +kernel
theorem dX9_init_76 : decode cX9_init 76 = .ok (.goto (-28), 3) := by decide +kernel
theorem dX9_init_79 : decode cX9_init 79 = .ok (.aload_n 0, 1) := by decide +kernel
theorem dX9_init_80 : decode cX9_init 80 = .ok (.aload_n 1, 1) := by decide +kernel
theorem dX9_init_81 : decode cX9_init 81 = .ok (.putfield 32, 3) := by decide +kernel
theorem dX9_init_84 : decode cX9_init 84 = .ok (.aload_n 0, 1) := by decide +kernel
theorem dX9_init_85 : decode cX9_init 85 = .ok (.aload_n 2, 1) := by decide +kernel
theorem dX9_init_86 : decode cX9_init 86 = .ok (.putfield 36, 3) := by decide +kernel
theorem dX9_init_89 : decode cX9_init 89 = .ok (.return_, 1) := by decide +kernel
theorem dX9_expire_0 : decode cX9_expire 0 = .ok (.aload_n 0, 1) := by decide +kernel
theorem dX9_expire_1 : decode cX9_expire 1 = .ok (.iload_n 1, 1) := by decide +kernel
theorem dX9_expire_2 : decode cX9_expire 2 = .ok (.invokevirtual 40, 3) := by decide +kernel
theorem dX9_expire_5 : decode cX9_expire 5 = .ok (.astore_n 2, 1) := by decide +kernel
theorem dX9_expire_6 : decode cX9_expire 6 = .ok (.aload_n 2, 1) := by decide +kernel
theorem dX9_expire_7 : decode cX9_expire 7 = .ok (.getfield 44, 3) := by decide +kernel
theorem dX9_expire_10 : decode cX9_expire 10 = .ok (.ifCond .eq 11, 3) := by decide +kernel
theorem dX9_expire_13 : decode cX9_expire 13 = .ok (.aload_n 2, 1) := by decide +kernel
theorem dX9_expire_14 : decode cX9_expire 14 = .ok (.getfield 48, 3) := by decide +kernel
theorem dX9_expire_17 : decode cX9_expire 17 = .ok (.iconst 2, 1) := by decide +kernel
theorem dX9_expire_18 : decode cX9_expire 18 = .ok (.if_icmp .ne 13, 3) := by decide +kernel
theorem dX9_expire_21 : decode cX9_expire 21 = .ok (.new 52, 3) := by decide +kernel
theorem dX9_expire_24 : decode cX9_expire 24 = .ok (.dup, 1) := by decide +kernel
theorem dX9_expire_25 : decode cX9_expire 25 = .ok (.ldc 54, 2) := by decide +kernel
theorem dX9_expire_27 : decode cX9_expire 27 = .ok (.invokespecial 56, 3) := by decide +kernel
theorem dX9_expire_30 : decode cX9_expire 30 = .ok (.athrow, 1) := by decide +kernel
theorem dX9_expire_31 : decode cX9_expire 31 = .ok (.aload_n 0, 1) := by decide +kernel
theorem dX9_expire_32 : decode cX9_expire 32 = .ok (.getfield 32, 3) := by decide +kernel
theorem dX9_expire_35 : decode cX9_expire 35 = .ok (.getfield 59, 3) := by decide +kernel
theorem dX9_expire_38 : decode cX9_expire 38 = .ok (.istore_n 3, 1) := by decide +kernel
theorem dX9_expire_39 : decode cX9_expire 39 = .ok (.aload_n 2, 1) := by decide +kernel
theorem dX9_expire_40 : decode cX9_expire 40 = .ok (.invokevirtual 62, 3) := by decide +kernel
theorem dX9_expire_43 : decode cX9_expire 43 = .ok (.aload_n 0, 1) := by decide +kernel
theorem dX9_expire_44 : decode cX9_expire 44 = .ok (.getfield 32, 3) := by decide +kernel
theorem dX9_expire_47 : decode cX9_expire 47 = .ok (.getfield 59, 3) := by decide +kernel
theorem dX9_expire_50 : decode cX9_expire 50 = .ok (.iload_n 3, 1) := by decide +kernel
theorem dX9_expire_51 : decode cX9_expire 51 = .ok (.isub, 1) := by decide +kernel
theorem dX9_expire_52 : decode cX9_expire 52 = .ok (.ireturn, 1) := by decide +kernel
theorem dX9_deliver_0 : decode cX9_deliver 0 = .ok (.aload_n 0, 1) := by decide +kernel
theorem dX9_deliver_1 : decode cX9_deliver 1 = .ok (.iload_n 1, 1) := by decide +kernel
theorem dX9_deliver_2 : decode cX9_deliver 2 = .ok (.invokevirtual 65, 3) := by decide +kernel
theorem dX9_deliver_5 : decode cX9_deliver 5 = .ok (.astore_n 2, 1) := by decide +kernel
theorem dX9_deliver_6 : decode cX9_deliver 6 = .ok (.aload_n 0, 1) := by decide +kernel
theorem dX9_deliver_7 : decode cX9_deliver 7 = .ok (.aload_n 2, 1) := by decide +kernel
theorem dX9_deliver_8 : decode cX9_deliver 8 = .ok (.getfield 69, 3) := by decide +kernel
theorem dX9_deliver_11 : decode cX9_deliver 11 = .ok (.invokevirtual 40, 3) := by decide +kernel
theorem dX9_deliver_14 : decode cX9_deliver 14 = .ok (.astore_n 3, 1) := by decide +kernel
theorem dX9_deliver_15 : decode cX9_deliver 15 = .ok (.aload_n 0, 1) := by decide +kernel
theorem dX9_deliver_16 : decode cX9_deliver 16 = .ok (.getfield 32, 3) := by decide +kernel
theorem dX9_deliver_19 : decode cX9_deliver 19 = .ok (.getfield 59, 3) := by decide +kernel
theorem dX9_deliver_22 : decode cX9_deliver 22 = .ok (.istore 4, 2) := by decide +kernel
theorem dX9_deliver_24 : decode cX9_deliver 24 = .ok (.aload_n 3, 1) := by decide +kernel
theorem dX9_deliver_25 : decode cX9_deliver 25 = .ok (.aload_n 2, 1) := by decide +kernel
theorem dX9_deliver_26 : decode cX9_deliver 26 = .ok (.invokevirtual 74, 3) := by decide +kernel
theorem dX9_deliver_29 : decode cX9_deliver 29 = .ok (.aload_n 0, 1) := by decide +kernel
theorem dX9_deliver_30 : decode cX9_deliver 30 = .ok (.getfield 32, 3) := by decide +kernel
theorem dX9_deliver_33 : decode cX9_deliver 33 = .ok (.getfield 59, 3) := by decide +kernel
theorem dX9_deliver_36 : decode cX9_deliver 36 = .ok (.iload 4, 2) := by decide +kernel
theorem dX9_deliver_38 : decode cX9_deliver 38 = .ok (.isub, 1) := by decide +kernel
theorem dX9_deliver_39 : decode cX9_deliver 39 = .ok (.ireturn, 1) := by decide +kernel
theorem dX9_more_0 : decode cX9_more 0 = .ok (.aload_n 0, 1) := by decide +kernel
theorem dX9_more_1 : decode cX9_more 1 = .ok (.iload_n 1, 1) := by decide +kernel
theorem dX9_more_2 : decode cX9_more 2 = .ok (.putfield 78, 3) := by decide +kernel
theorem dX9_more_5 : decode cX9_more 5 = .ok (.aload_n 0, 1) := by decide +kernel
theorem dX9_more_6 : decode cX9_more 6 = .ok (.iload_n 2, 1) := by decide +kernel
theorem dX9_more_7 : decode cX9_more 7 = .ok (.putfield 81, 3) := by decide +kernel
theorem dX9_more_10 : decode cX9_more 10 = .ok (.aload_n 0, 1) := by decide +kernel
theorem dX9_more_11 : decode cX9_more 11 = .ok (.iload_n 3, 1) := by decide +kernel
theorem dX9_more_12 : decode cX9_more 12 = .ok (.putfield 84, 3) := by decide +kernel
theorem dX9_more_15 : decode cX9_more 15 = .ok (.aload_n 0, 1) := by decide +kernel
theorem dX9_more_16 : decode cX9_more 16 = .ok (.iload 4, 2) := by decide +kernel
theorem dX9_more_18 : decode cX9_more 18 = .ok (.putfield 87, 3) := by decide +kernel
theorem dX9_more_21 : decode cX9_more 21 = .ok (.return_, 1) := by decide +kernel
theorem dX9_propose_0 : decode cX9_propose 0 = .ok (.aload_n 0, 1) := by decide +kernel
theorem dX9_propose_1 : decode cX9_propose 1 = .ok (.iload_n 1, 1) := by decide +kernel
theorem dX9_propose_2 : decode cX9_propose 2 = .ok (.invokevirtual 40, 3) := by decide +kernel
theorem dX9_propose_5 : decode cX9_propose 5 = .ok (.astore 5, 2) := by decide +kernel
theorem dX9_propose_7 : decode cX9_propose 7 = .ok (.new 90, 3) := by decide +kernel
theorem dX9_propose_10 : decode cX9_propose 10 = .ok (.dup, 1) := by decide +kernel
theorem dX9_propose_11 : decode cX9_propose 11 = .ok (.iload_n 2, 1) := by decide +kernel
theorem dX9_propose_12 : decode cX9_propose 12 = .ok (.iload_n 3, 1) := by decide +kernel
theorem dX9_propose_13 : decode cX9_propose 13 = .ok (.iload 4, 2) := by decide +kernel
theorem dX9_propose_15 : decode cX9_propose 15 = .ok (.aload_n 0, 1) := by decide +kernel
theorem dX9_propose_16 : decode cX9_propose 16 = .ok (.getfield 78, 3) := by decide +kernel
theorem dX9_propose_19 : decode cX9_propose 19 = .ok (.aload_n 0, 1) := by decide +kernel
theorem dX9_propose_20 : decode cX9_propose 20 = .ok (.getfield 81, 3) := by decide +kernel
theorem dX9_propose_23 : decode cX9_propose 23 = .ok (.aload_n 0, 1) := by decide +kernel
theorem dX9_propose_24 : decode cX9_propose 24 = .ok (.getfield 84, 3) := by decide +kernel
theorem dX9_propose_27 : decode cX9_propose 27 = .ok (.aload_n 0, 1) := by decide +kernel
theorem dX9_propose_28 : decode cX9_propose 28 = .ok (.getfield 87, 3) := by decide +kernel
theorem dX9_propose_31 : decode cX9_propose 31 = .ok (.invokespecial 92, 3) := by decide +kernel
theorem dX9_propose_34 : decode cX9_propose 34 = .ok (.astore 6, 2) := by decide +kernel
theorem dX9_propose_36 : decode cX9_propose 36 = .ok (.aload 6, 2) := by decide +kernel
theorem dX9_propose_38 : decode cX9_propose 38 = .ok (.invokevirtual 95, 3) := by decide +kernel
theorem dX9_propose_41 : decode cX9_propose 41 = .ok (.ifCond .ne 13, 3) := by decide +kernel
theorem dX9_propose_44 : decode cX9_propose 44 = .ok (.new 99, 3) := by decide +kernel
theorem dX9_propose_47 : decode cX9_propose 47 = .ok (.dup, 1) := by decide +kernel
theorem dX9_propose_48 : decode cX9_propose 48 = .ok (.ldc 101, 2) := by decide +kernel
theorem dX9_propose_50 : decode cX9_propose 50 = .ok (.invokespecial 103, 3) := by decide +kernel
theorem dX9_propose_53 : decode cX9_propose 53 = .ok (.athrow, 1) := by decide +kernel
theorem dX9_propose_54 : decode cX9_propose 54 = .ok (.aload 5, 2) := by decide +kernel
theorem dX9_propose_56 : decode cX9_propose 56 = .ok (.invokestatic 104, 3) := by decide +kernel
theorem dX9_propose_59 : decode cX9_propose 59 = .ok (.aload 5, 2) := by decide +kernel
theorem dX9_propose_61 : decode cX9_propose 61 = .ok (.aload 6, 2) := by decide +kernel
theorem dX9_propose_63 : decode cX9_propose 63 = .ok (.invokevirtual 108, 3) := by decide +kernel
theorem dX9_propose_66 : decode cX9_propose 66 = .ok (.ifCond .eq 14, 3) := by decide +kernel
theorem dX9_propose_69 : decode cX9_propose 69 = .ok (.aload 5, 2) := by decide +kernel
theorem dX9_propose_71 : decode cX9_propose 71 = .ok (.getfield 112, 3) := by decide +kernel
theorem dX9_propose_74 : decode cX9_propose 74 = .ok (.getfield 116, 3) := by decide +kernel
theorem dX9_propose_77 : decode cX9_propose 77 = .ok (.goto 4, 3) := by decide +kernel
theorem dX9_propose_80 : decode cX9_propose 80 = .ok (.iconst 0, 1) := by decide +kernel
theorem dX9_propose_81 : decode cX9_propose 81 = .ok (.ireturn, 1) := by decide +kernel
theorem dX9_beat_0 : decode cX9_beat 0 = .ok (.aload_n 0, 1) := by decide +kernel
theorem dX9_beat_1 : decode cX9_beat 1 = .ok (.iload_n 1, 1) := by decide +kernel
theorem dX9_beat_2 : decode cX9_beat 2 = .ok (.invokevirtual 40, 3) := by decide +kernel
theorem dX9_beat_5 : decode cX9_beat 5 = .ok (.astore_n 2, 1) := by decide +kernel
theorem dX9_beat_6 : decode cX9_beat 6 = .ok (.aload_n 2, 1) := by decide +kernel
theorem dX9_beat_7 : decode cX9_beat 7 = .ok (.invokestatic 104, 3) := by decide +kernel
theorem dX9_beat_10 : decode cX9_beat 10 = .ok (.aload_n 0, 1) := by decide +kernel
theorem dX9_beat_11 : decode cX9_beat 11 = .ok (.getfield 32, 3) := by decide +kernel
theorem dX9_beat_14 : decode cX9_beat 14 = .ok (.getfield 59, 3) := by decide +kernel
theorem dX9_beat_17 : decode cX9_beat 17 = .ok (.istore_n 3, 1) := by decide +kernel
theorem dX9_beat_18 : decode cX9_beat 18 = .ok (.aload_n 2, 1) := by decide +kernel
theorem dX9_beat_19 : decode cX9_beat 19 = .ok (.invokevirtual 121, 3) := by decide +kernel
theorem dX9_beat_22 : decode cX9_beat 22 = .ok (.aload_n 0, 1) := by decide +kernel
theorem dX9_beat_23 : decode cX9_beat 23 = .ok (.getfield 32, 3) := by decide +kernel
theorem dX9_beat_26 : decode cX9_beat 26 = .ok (.getfield 59, 3) := by decide +kernel
theorem dX9_beat_29 : decode cX9_beat 29 = .ok (.iload_n 3, 1) := by decide +kernel
theorem dX9_beat_30 : decode cX9_beat 30 = .ok (.isub, 1) := by decide +kernel
theorem dX9_beat_31 : decode cX9_beat 31 = .ok (.ireturn, 1) := by decide +kernel
theorem dX9_shrink_0 : decode cX9_shrink 0 = .ok (.aload_n 0, 1) := by decide +kernel
theorem dX9_shrink_1 : decode cX9_shrink 1 = .ok (.iload_n 1, 1) := by decide +kernel
theorem dX9_shrink_2 : decode cX9_shrink 2 = .ok (.invokevirtual 40, 3) := by decide +kernel
theorem dX9_shrink_5 : decode cX9_shrink 5 = .ok (.astore_n 2, 1) := by decide +kernel
theorem dX9_shrink_6 : decode cX9_shrink 6 = .ok (.aload_n 2, 1) := by decide +kernel
theorem dX9_shrink_7 : decode cX9_shrink 7 = .ok (.invokestatic 124, 3) := by decide +kernel
theorem dX9_shrink_10 : decode cX9_shrink 10 = .ok (.aload_n 2, 1) := by decide +kernel
theorem dX9_shrink_11 : decode cX9_shrink 11 = .ok (.getfield 127, 3) := by decide +kernel
theorem dX9_shrink_14 : decode cX9_shrink 14 = .ok (.aload_n 2, 1) := by decide +kernel
theorem dX9_shrink_15 : decode cX9_shrink 15 = .ok (.getfield 112, 3) := by decide +kernel
theorem dX9_shrink_18 : decode cX9_shrink 18 = .ok (.getfield 130, 3) := by decide +kernel
theorem dX9_shrink_21 : decode cX9_shrink 21 = .ok (.getfield 134, 3) := by decide +kernel
theorem dX9_shrink_24 : decode cX9_shrink 24 = .ok (.if_icmp .ne 13, 3) := by decide +kernel
theorem dX9_shrink_27 : decode cX9_shrink 27 = .ok (.new 52, 3) := by decide +kernel
theorem dX9_shrink_30 : decode cX9_shrink 30 = .ok (.dup, 1) := by decide +kernel
theorem dX9_shrink_31 : decode cX9_shrink 31 = .ok (.ldc 137, 2) := by decide +kernel
theorem dX9_shrink_33 : decode cX9_shrink 33 = .ok (.invokespecial 56, 3) := by decide +kernel
theorem dX9_shrink_36 : decode cX9_shrink 36 = .ok (.athrow, 1) := by decide +kernel
theorem dX9_shrink_37 : decode cX9_shrink 37 = .ok (.aload_n 2, 1) := by decide +kernel
theorem dX9_shrink_38 : decode cX9_shrink 38 = .ok (.invokevirtual 139, 3) := by decide +kernel
theorem dX9_shrink_41 : decode cX9_shrink 41 = .ok (.aload_n 2, 1) := by decide +kernel
theorem dX9_shrink_42 : decode cX9_shrink 42 = .ok (.getfield 112, 3) := by decide +kernel
theorem dX9_shrink_45 : decode cX9_shrink 45 = .ok (.getfield 130, 3) := by decide +kernel
theorem dX9_shrink_48 : decode cX9_shrink 48 = .ok (.getfield 134, 3) := by decide +kernel
theorem dX9_shrink_51 : decode cX9_shrink 51 = .ok (.ireturn, 1) := by decide +kernel
theorem dX9_crash_0 : decode cX9_crash 0 = .ok (.aload_n 0, 1) := by decide +kernel
theorem dX9_crash_1 : decode cX9_crash 1 = .ok (.iload_n 1, 1) := by decide +kernel
theorem dX9_crash_2 : decode cX9_crash 2 = .ok (.invokevirtual 40, 3) := by decide +kernel
theorem dX9_crash_5 : decode cX9_crash 5 = .ok (.astore_n 2, 1) := by decide +kernel
theorem dX9_crash_6 : decode cX9_crash 6 = .ok (.aload_n 2, 1) := by decide +kernel
theorem dX9_crash_7 : decode cX9_crash 7 = .ok (.invokestatic 124, 3) := by decide +kernel
theorem dX9_crash_10 : decode cX9_crash 10 = .ok (.aload_n 2, 1) := by decide +kernel
theorem dX9_crash_11 : decode cX9_crash 11 = .ok (.invokevirtual 142, 3) := by decide +kernel
theorem dX9_crash_14 : decode cX9_crash 14 = .ok (.return_, 1) := by decide +kernel
theorem dX9_start_0 : decode cX9_start 0 = .ok (.aload_n 0, 1) := by decide +kernel
theorem dX9_start_1 : decode cX9_start 1 = .ok (.iload_n 1, 1) := by decide +kernel
theorem dX9_start_2 : decode cX9_start 2 = .ok (.invokevirtual 40, 3) := by decide +kernel
theorem dX9_start_5 : decode cX9_start 5 = .ok (.astore_n 2, 1) := by decide +kernel
theorem dX9_start_6 : decode cX9_start 6 = .ok (.aload_n 2, 1) := by decide +kernel
theorem dX9_start_7 : decode cX9_start 7 = .ok (.getfield 44, 3) := by decide +kernel
theorem dX9_start_10 : decode cX9_start 10 = .ok (.ifCond .eq 13, 3) := by decide +kernel
theorem dX9_start_13 : decode cX9_start 13 = .ok (.new 52, 3) := by decide +kernel
theorem dX9_start_16 : decode cX9_start 16 = .ok (.dup, 1) := by decide +kernel
theorem dX9_start_17 : decode cX9_start 17 = .ok (.ldc 145, 2) := by decide +kernel
theorem dX9_start_19 : decode cX9_start 19 = .ok (.invokespecial 56, 3) := by decide +kernel
theorem dX9_start_22 : decode cX9_start 22 = .ok (.athrow, 1) := by decide +kernel
theorem dX9_start_23 : decode cX9_start 23 = .ok (.aload_n 2, 1) := by decide +kernel
theorem dX9_start_24 : decode cX9_start 24 = .ok (.invokevirtual 147, 3) := by decide +kernel
theorem dX9_start_27 : decode cX9_start 27 = .ok (.aload_n 2, 1) := by decide +kernel
theorem dX9_start_28 : decode cX9_start 28 = .ok (.getfield 112, 3) := by decide +kernel
theorem dX9_start_31 : decode cX9_start 31 = .ok (.getfield 116, 3) := by decide +kernel
theorem dX9_start_34 : decode cX9_start 34 = .ok (.ireturn, 1) := by decide +kernel
theorem dX9_power_0 : decode cX9_power 0 = .ok (.aload_n 0, 1) := by decide +kernel
theorem dX9_power_1 : decode cX9_power 1 = .ok (.iload_n 1, 1) := by decide +kernel
theorem dX9_power_2 : decode cX9_power 2 = .ok (.invokevirtual 40, 3) := by decide +kernel
theorem dX9_power_5 : decode cX9_power 5 = .ok (.astore_n 3, 1) := by decide +kernel
theorem dX9_power_6 : decode cX9_power 6 = .ok (.iload_n 2, 1) := by decide +kernel
theorem dX9_power_7 : decode cX9_power 7 = .ok (.iconst (-1), 1) := by decide +kernel
theorem dX9_power_8 : decode cX9_power 8 = .ok (.if_icmp .lt 9, 3) := by decide +kernel
theorem dX9_power_11 : decode cX9_power 11 = .ok (.iload_n 2, 1) := by decide +kernel
theorem dX9_power_12 : decode cX9_power 12 = .ok (.bipush 100, 2) := by decide +kernel
theorem dX9_power_14 : decode cX9_power 14 = .ok (.if_icmp .le 13, 3) := by decide +kernel
theorem dX9_power_17 : decode cX9_power 17 = .ok (.new 99, 3) := by decide +kernel
theorem dX9_power_20 : decode cX9_power 20 = .ok (.dup, 1) := by decide +kernel
theorem dX9_power_21 : decode cX9_power 21 = .ok (.ldc 150, 2) := by decide +kernel
theorem dX9_power_23 : decode cX9_power 23 = .ok (.invokespecial 103, 3) := by decide +kernel
theorem dX9_power_26 : decode cX9_power 26 = .ok (.athrow, 1) := by decide +kernel
theorem dX9_power_27 : decode cX9_power 27 = .ok (.aload_n 3, 1) := by decide +kernel
theorem dX9_power_28 : decode cX9_power 28 = .ok (.getfield 112, 3) := by decide +kernel
theorem dX9_power_31 : decode cX9_power 31 = .ok (.iload_n 2, 1) := by decide +kernel
theorem dX9_power_32 : decode cX9_power 32 = .ok (.putfield 152, 3) := by decide +kernel
theorem dX9_power_35 : decode cX9_power 35 = .ok (.return_, 1) := by decide +kernel
theorem dX9_result_0 : decode cX9_result 0 = .ok (.aload_n 0, 1) := by decide +kernel
theorem dX9_result_1 : decode cX9_result 1 = .ok (.iload_n 1, 1) := by decide +kernel
theorem dX9_result_2 : decode cX9_result 2 = .ok (.invokevirtual 40, 3) := by decide +kernel
theorem dX9_result_5 : decode cX9_result 5 = .ok (.astore_n 3, 1) := by decide +kernel
theorem dX9_result_6 : decode cX9_result 6 = .ok (.aload_n 3, 1) := by decide +kernel
theorem dX9_result_7 : decode cX9_result 7 = .ok (.iload_n 2, 1) := by decide +kernel
theorem dX9_result_8 : decode cX9_result 8 = .ok (.invokevirtual 155, 3) := by decide +kernel
theorem dX9_result_11 : decode cX9_result 11 = .ok (.ifCond .ne 13, 3) := by decide +kernel
theorem dX9_result_14 : decode cX9_result 14 = .ok (.new 159, 3) := by decide +kernel
theorem dX9_result_17 : decode cX9_result 17 = .ok (.dup, 1) := by decide +kernel
theorem dX9_result_18 : decode cX9_result 18 = .ok (.ldc 161, 2) := by decide +kernel
theorem dX9_result_20 : decode cX9_result 20 = .ok (.invokespecial 163, 3) := by decide +kernel
theorem dX9_result_23 : decode cX9_result 23 = .ok (.athrow, 1) := by decide +kernel
theorem dX9_result_24 : decode cX9_result 24 = .ok (.aload_n 3, 1) := by decide +kernel
theorem dX9_result_25 : decode cX9_result 25 = .ok (.getfield 164, 3) := by decide +kernel
theorem dX9_result_28 : decode cX9_result 28 = .ok (.iload_n 2, 1) := by decide +kernel
theorem dX9_result_29 : decode cX9_result 29 = .ok (.iaload, 1) := by decide +kernel
theorem dX9_result_30 : decode cX9_result 30 = .ok (.ireturn, 1) := by decide +kernel
theorem dX9_key_0 : decode cX9_key 0 = .ok (.aload_n 0, 1) := by decide +kernel
theorem dX9_key_1 : decode cX9_key 1 = .ok (.iload_n 1, 1) := by decide +kernel
theorem dX9_key_2 : decode cX9_key 2 = .ok (.iload_n 2, 1) := by decide +kernel
theorem dX9_key_3 : decode cX9_key 3 = .ok (.invokevirtual 168, 3) := by decide +kernel
theorem dX9_key_6 : decode cX9_key 6 = .ok (.astore 4, 2) := by decide +kernel
theorem dX9_key_8 : decode cX9_key 8 = .ok (.iload_n 3, 1) := by decide +kernel
theorem dX9_key_9 : decode cX9_key 9 = .ok (.ifCond .lt 8, 3) := by decide +kernel
theorem dX9_key_12 : decode cX9_key 12 = .ok (.iload_n 3, 1) := by decide +kernel
theorem dX9_key_13 : decode cX9_key 13 = .ok (.iconst 4, 1) := by decide +kernel
theorem dX9_key_14 : decode cX9_key 14 = .ok (.if_icmp .le 13, 3) := by decide +kernel
theorem dX9_key_17 : decode cX9_key 17 = .ok (.new 99, 3) := by decide +kernel
theorem dX9_key_20 : decode cX9_key 20 = .ok (.dup, 1) := by decide +kernel
theorem dX9_key_21 : decode cX9_key 21 = .ok (.ldc 172, 2) := by decide +kernel
theorem dX9_key_23 : decode cX9_key 23 = .ok (.invokespecial 103, 3) := by decide +kernel
theorem dX9_key_26 : decode cX9_key 26 = .ok (.athrow, 1) := by decide +kernel
theorem dX9_key_27 : decode cX9_key 27 = .ok (.aload 4, 2) := by decide +kernel
theorem dX9_key_29 : decode cX9_key 29 = .ok (.iload_n 2, 1) := by decide +kernel
theorem dX9_key_30 : decode cX9_key 30 = .ok (.iload_n 3, 1) := by decide +kernel
theorem dX9_key_31 : decode cX9_key 31 = .ok (.invokevirtual 174, 3) := by decide +kernel
theorem dX9_key_34 : decode cX9_key 34 = .ok (.ireturn, 1) := by decide +kernel
theorem dX9_past_0 : decode cX9_past 0 = .ok (.aload_n 0, 1) := by decide +kernel
theorem dX9_past_1 : decode cX9_past 1 = .ok (.iload_n 1, 1) := by decide +kernel
theorem dX9_past_2 : decode cX9_past 2 = .ok (.iload_n 2, 1) := by decide +kernel
theorem dX9_past_3 : decode cX9_past 3 = .ok (.invokevirtual 168, 3) := by decide +kernel
theorem dX9_past_6 : decode cX9_past 6 = .ok (.astore 4, 2) := by decide +kernel
theorem dX9_past_8 : decode cX9_past 8 = .ok (.iload_n 3, 1) := by decide +kernel

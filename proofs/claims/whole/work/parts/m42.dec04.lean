theorem dX9_past_9 : decode cX9_past 9 = .ok (.aload 4, 2) := by decide +kernel
theorem dX9_past_11 : decode cX9_past 11 = .ok (.getfield 178, 3) := by decide +kernel
theorem dX9_past_14 : decode cX9_past 14 = .ok (.if_icmp .lt 12, 3) := by decide +kernel
theorem dX9_past_17 : decode cX9_past 17 = .ok (.iload_n 3, 1) := by decide +kernel
theorem dX9_past_18 : decode cX9_past 18 = .ok (.aload 4, 2) := by decide +kernel
theorem dX9_past_20 : decode cX9_past 20 = .ok (.getfield 181, 3) := by decide +kernel
theorem dX9_past_23 : decode cX9_past 23 = .ok (.if_icmp .le 13, 3) := by decide +kernel
theorem dX9_past_26 : decode cX9_past 26 = .ok (.new 99, 3) := by decide +kernel
theorem dX9_past_29 : decode cX9_past 29 = .ok (.dup, 1) := by decide +kernel
theorem dX9_past_30 : decode cX9_past 30 = .ok (.ldc 184, 2) := by decide +kernel
theorem dX9_past_32 : decode cX9_past 32 = .ok (.invokespecial 103, 3) := by decide +kernel
theorem dX9_past_35 : decode cX9_past 35 = .ok (.athrow, 1) := by decide +kernel
theorem dX9_past_36 : decode cX9_past 36 = .ok (.aload 4, 2) := by decide +kernel
theorem dX9_past_38 : decode cX9_past 38 = .ok (.iload_n 2, 1) := by decide +kernel
theorem dX9_past_39 : decode cX9_past 39 = .ok (.iload_n 3, 1) := by decide +kernel
theorem dX9_past_40 : decode cX9_past 40 = .ok (.invokevirtual 186, 3) := by decide +kernel
theorem dX9_past_43 : decode cX9_past 43 = .ok (.istore 5, 2) := by decide +kernel
theorem dX9_past_45 : decode cX9_past 45 = .ok (.aload 4, 2) := by decide +kernel
theorem dX9_past_47 : decode cX9_past 47 = .ok (.iload_n 2, 1) := by decide +kernel
theorem dX9_past_48 : decode cX9_past 48 = .ok (.iload 5, 2) := by decide +kernel
theorem dX9_past_50 : decode cX9_past 50 = .ok (.invokevirtual 189, 3) := by decide +kernel
theorem dX9_past_53 : decode cX9_past 53 = .ok (.ifCond .ne 13, 3) := by decide +kernel
theorem dX9_past_56 : decode cX9_past 56 = .ok (.new 159, 3) := by decide +kernel
theorem dX9_past_59 : decode cX9_past 59 = .ok (.dup, 1) := by decide +kernel
theorem dX9_past_60 : decode cX9_past 60 = .ok (.ldc 193, 2) := by decide +kernel
theorem dX9_past_62 : decode cX9_past 62 = .ok (.invokespecial 163, 3) := by decide +kernel
theorem dX9_past_65 : decode cX9_past 65 = .ok (.athrow, 1) := by decide +kernel
theorem dX9_past_66 : decode cX9_past 66 = .ok (.aload 4, 2) := by decide +kernel
theorem dX9_past_68 : decode cX9_past 68 = .ok (.iload_n 2, 1) := by decide +kernel
theorem dX9_past_69 : decode cX9_past 69 = .ok (.iload 5, 2) := by decide +kernel
theorem dX9_past_71 : decode cX9_past 71 = .ok (.invokevirtual 195, 3) := by decide +kernel
theorem dX9_past_74 : decode cX9_past 74 = .ok (.ireturn, 1) := by decide +kernel
theorem dX9_event_0 : decode cX9_event 0 = .ok (.aload_n 0, 1) := by decide +kernel
theorem dX9_event_1 : decode cX9_event 1 = .ok (.iload_n 1, 1) := by decide +kernel
theorem dX9_event_2 : decode cX9_event 2 = .ok (.invokevirtual 40, 3) := by decide +kernel
theorem dX9_event_5 : decode cX9_event 5 = .ok (.astore 4, 2) := by decide +kernel
theorem dX9_event_7 : decode cX9_event 7 = .ok (.aload 4, 2) := by decide +kernel
theorem dX9_event_9 : decode cX9_event 9 = .ok (.invokestatic 124, 3) := by decide +kernel
theorem dX9_event_12 : decode cX9_event 12 = .ok (.aload 4, 2) := by decide +kernel
theorem dX9_event_14 : decode cX9_event 14 = .ok (.getfield 198, 3) := by decide +kernel
theorem dX9_event_17 : decode cX9_event 17 = .ok (.astore 5, 2) := by decide +kernel
theorem dX9_event_19 : decode cX9_event 19 = .ok (.iload_n 2, 1) := by decide +kernel
theorem dX9_event_20 : decode cX9_event 20 = .ok (.aload 5, 2) := by decide +kernel
theorem dX9_event_22 : decode cX9_event 22 = .ok (.getfield 178, 3) := by decide +kernel
theorem dX9_event_25 : decode cX9_event 25 = .ok (.if_icmp .gt 13, 3) := by decide +kernel
theorem dX9_event_28 : decode cX9_event 28 = .ok (.new 99, 3) := by decide +kernel
theorem dX9_event_31 : decode cX9_event 31 = .ok (.dup, 1) := by decide +kernel
theorem dX9_event_32 : decode cX9_event 32 = .ok (.ldc 202, 2) := by decide +kernel
theorem dX9_event_34 : decode cX9_event 34 = .ok (.invokespecial 103, 3) := by decide +kernel
theorem dX9_event_37 : decode cX9_event 37 = .ok (.athrow, 1) := by decide +kernel
theorem dX9_event_38 : decode cX9_event 38 = .ok (.aload 5, 2) := by decide +kernel
theorem dX9_event_40 : decode cX9_event 40 = .ok (.iload_n 2, 1) := by decide +kernel
theorem dX9_event_41 : decode cX9_event 41 = .ok (.invokevirtual 204, 3) := by decide +kernel
theorem dX9_event_44 : decode cX9_event 44 = .ok (.istore 6, 2) := by decide +kernel
theorem dX9_event_46 : decode cX9_event 46 = .ok (.iload_n 3, 1) := by decide +kernel
theorem dX9_event_47 : decode cX9_event 47 = .ok (.ifCond .lt 15, 3) := by decide +kernel
theorem dX9_event_50 : decode cX9_event 50 = .ok (.iload_n 3, 1) := by decide +kernel
theorem dX9_event_51 : decode cX9_event 51 = .ok (.aload 5, 2) := by decide +kernel
theorem dX9_event_53 : decode cX9_event 53 = .ok (.getfield 208, 3) := by decide +kernel
theorem dX9_event_56 : decode cX9_event 56 = .ok (.iload 6, 2) := by decide +kernel
theorem dX9_event_58 : decode cX9_event 58 = .ok (.isub, 1) := by decide +kernel
theorem dX9_event_59 : decode cX9_event 59 = .ok (.if_icmp .lt 13, 3) := by decide +kernel
theorem dX9_event_62 : decode cX9_event 62 = .ok (.new 211, 3) := by decide +kernel
theorem dX9_event_65 : decode cX9_event 65 = .ok (.dup, 1) := by decide +kernel
theorem dX9_event_66 : decode cX9_event 66 = .ok (.ldc 213, 2) := by decide +kernel
theorem dX9_event_68 : decode cX9_event 68 = .ok (.invokespecial 215, 3) := by decide +kernel
theorem dX9_event_71 : decode cX9_event 71 = .ok (.athrow, 1) := by decide +kernel
theorem dX9_event_72 : decode cX9_event 72 = .ok (.aload 5, 2) := by decide +kernel
theorem dX9_event_74 : decode cX9_event 74 = .ok (.getfield 216, 3) := by decide +kernel
theorem dX9_event_77 : decode cX9_event 77 = .ok (.iload 6, 2) := by decide +kernel
theorem dX9_event_79 : decode cX9_event 79 = .ok (.iload_n 3, 1) := by decide +kernel
theorem dX9_event_80 : decode cX9_event 80 = .ok (.iadd, 1) := by decide +kernel
theorem dX9_event_81 : decode cX9_event 81 = .ok (.laload, 1) := by decide +kernel
theorem dX9_event_82 : decode cX9_event 82 = .ok (.lreturn, 1) := by decide +kernel
theorem dX9_message_0 : decode cX9_message 0 = .ok (.aload_n 0, 1) := by decide +kernel
theorem dX9_message_1 : decode cX9_message 1 = .ok (.iload_n 1, 1) := by decide +kernel
theorem dX9_message_2 : decode cX9_message 2 = .ok (.invokevirtual 65, 3) := by decide +kernel
theorem dX9_message_5 : decode cX9_message 5 = .ok (.astore_n 3, 1) := by decide +kernel
theorem dX9_message_6 : decode cX9_message 6 = .ok (.iload_n 2, 1) := by decide +kernel
theorem dX9_message_7 : decode cX9_message 7 = .ok (.ifCond .lt 9, 3) := by decide +kernel
theorem dX9_message_10 : decode cX9_message 10 = .ok (.iload_n 2, 1) := by decide +kernel
theorem dX9_message_11 : decode cX9_message 11 = .ok (.bipush 8, 2) := by decide +kernel
theorem dX9_message_13 : decode cX9_message 13 = .ok (.if_icmp .lt 13, 3) := by decide +kernel
theorem dX9_message_16 : decode cX9_message 16 = .ok (.new 99, 3) := by decide +kernel
theorem dX9_message_19 : decode cX9_message 19 = .ok (.dup, 1) := by decide +kernel
theorem dX9_message_20 : decode cX9_message 20 = .ok (.ldc 220, 2) := by decide +kernel
theorem dX9_message_22 : decode cX9_message 22 = .ok (.invokespecial 103, 3) := by decide +kernel
theorem dX9_message_25 : decode cX9_message 25 = .ok (.athrow, 1) := by decide +kernel
theorem dX9_message_26 : decode cX9_message 26 = .ok (.aload_n 3, 1) := by decide +kernel
theorem dX9_message_27 : decode cX9_message 27 = .ok (.iload_n 2, 1) := by decide +kernel
theorem dX9_message_28 : decode cX9_message 28 = .ok (.invokevirtual 222, 3) := by decide +kernel
theorem dX9_message_31 : decode cX9_message 31 = .ok (.ireturn, 1) := by decide +kernel
theorem dX9_node_0 : decode cX9_node 0 = .ok (.aload_n 0, 1) := by decide +kernel
theorem dX9_node_1 : decode cX9_node 1 = .ok (.iload_n 1, 1) := by decide +kernel
theorem dX9_node_2 : decode cX9_node 2 = .ok (.invokevirtual 40, 3) := by decide +kernel
theorem dX9_node_5 : decode cX9_node 5 = .ok (.astore_n 3, 1) := by decide +kernel
theorem dX9_node_6 : decode cX9_node 6 = .ok (.iload_n 2, 1) := by decide +kernel
theorem dX9_node_7 : decode cX9_node 7 = .ok (.ifCond .lt 9, 3) := by decide +kernel
theorem dX9_node_10 : decode cX9_node 10 = .ok (.iload_n 2, 1) := by decide +kernel
theorem dX9_node_11 : decode cX9_node 11 = .ok (.bipush 14, 2) := by decide +kernel
theorem dX9_node_13 : decode cX9_node 13 = .ok (.if_icmp .lt 13, 3) := by decide +kernel
theorem dX9_node_16 : decode cX9_node 16 = .ok (.new 99, 3) := by decide +kernel
theorem dX9_node_19 : decode cX9_node 19 = .ok (.dup, 1) := by decide +kernel
theorem dX9_node_20 : decode cX9_node 20 = .ok (.ldc 225, 2) := by decide +kernel
theorem dX9_node_22 : decode cX9_node 22 = .ok (.invokespecial 103, 3) := by decide +kernel
theorem dX9_node_25 : decode cX9_node 25 = .ok (.athrow, 1) := by decide +kernel
theorem dX9_node_26 : decode cX9_node 26 = .ok (.iload_n 2, 1) := by decide +kernel
theorem dX9_node_27 : decode cX9_node 27 = .ok (.bipush 8, 2) := by decide +kernel
theorem dX9_node_29 : decode cX9_node 29 = .ok (.if_icmp .ge 9, 3) := by decide +kernel
theorem dX9_node_32 : decode cX9_node 32 = .ok (.aload_n 3, 1) := by decide +kernel
theorem dX9_node_33 : decode cX9_node 33 = .ok (.iload_n 2, 1) := by decide +kernel
theorem dX9_node_34 : decode cX9_node 34 = .ok (.invokevirtual 227, 3) := by decide +kernel
theorem dX9_node_37 : decode cX9_node 37 = .ok (.ireturn, 1) := by decide +kernel
theorem dX9_node_38 : decode cX9_node 38 = .ok (.aload_n 3, 1) := by decide +kernel
theorem dX9_node_39 : decode cX9_node 39 = .ok (.getfield 44, 3) := by decide +kernel
theorem dX9_node_42 : decode cX9_node 42 = .ok (.ifCond .eq 14, 3) := by decide +kernel
theorem dX9_node_45 : decode cX9_node 45 = .ok (.aload_n 3, 1) := by decide +kernel
theorem dX9_node_46 : decode cX9_node 46 = .ok (.getfield 198, 3) := by decide +kernel
theorem dX9_node_49 : decode cX9_node 49 = .ok (.iload_n 2, 1) := by decide +kernel
theorem dX9_node_50 : decode cX9_node 50 = .ok (.invokevirtual 228, 3) := by decide +kernel
theorem dX9_node_53 : decode cX9_node 53 = .ok (.goto 4, 3) := by decide +kernel
theorem dX9_node_56 : decode cX9_node 56 = .ok (.iconst 0, 1) := by decide +kernel
theorem dX9_node_57 : decode cX9_node 57 = .ok (.ireturn, 1) := by decide +kernel
theorem dX9_entry_0 : decode cX9_entry 0 = .ok (.aload_n 0, 1) := by decide +kernel
theorem dX9_entry_1 : decode cX9_entry 1 = .ok (.iload_n 1, 1) := by decide +kernel
theorem dX9_entry_2 : decode cX9_entry 2 = .ok (.invokevirtual 40, 3) := by decide +kernel
theorem dX9_entry_5 : decode cX9_entry 5 = .ok (.getfield 112, 3) := by decide +kernel
theorem dX9_entry_8 : decode cX9_entry 8 = .ok (.iload_n 2, 1) := by decide +kernel
theorem dX9_entry_9 : decode cX9_entry 9 = .ok (.invokevirtual 229, 3) := by decide +kernel
theorem dX9_entry_12 : decode cX9_entry 12 = .ok (.ireturn, 1) := by decide +kernel
theorem dX9_digest_0 : decode cX9_digest 0 = .ok (.aload_n 0, 1) := by decide +kernel
theorem dX9_digest_1 : decode cX9_digest 1 = .ok (.iload_n 1, 1) := by decide +kernel
theorem dX9_digest_2 : decode cX9_digest 2 = .ok (.invokevirtual 40, 3) := by decide +kernel
theorem dX9_digest_5 : decode cX9_digest 5 = .ok (.astore_n 2, 1) := by decide +kernel
theorem dX9_digest_6 : decode cX9_digest 6 = .ok (.aload_n 2, 1) := by decide +kernel
theorem dX9_digest_7 : decode cX9_digest 7 = .ok (.invokestatic 124, 3) := by decide +kernel
theorem dX9_digest_10 : decode cX9_digest 10 = .ok (.aload_n 2, 1) := by decide +kernel
theorem dX9_digest_11 : decode cX9_digest 11 = .ok (.getfield 198, 3) := by decide +kernel
theorem dX9_digest_14 : decode cX9_digest 14 = .ok (.invokevirtual 232, 3) := by decide +kernel
theorem dX9_digest_17 : decode cX9_digest 17 = .ok (.lreturn, 1) := by decide +kernel
theorem dX9_messages_0 : decode cX9_messages 0 = .ok (.aload_n 0, 1) := by decide +kernel
theorem dX9_messages_1 : decode cX9_messages 1 = .ok (.getfield 32, 3) := by decide +kernel
theorem dX9_messages_4 : decode cX9_messages 4 = .ok (.getfield 59, 3) := by decide +kernel
theorem dX9_messages_7 : decode cX9_messages 7 = .ok (.ireturn, 1) := by decide +kernel
theorem dX9_check_0 : decode cX9_check 0 = .ok (.aload_n 0, 1) := by decide +kernel
theorem dX9_check_1 : decode cX9_check 1 = .ok (.getfield 36, 3) := by decide +kernel
theorem dX9_check_4 : decode cX9_check 4 = .ok (.getfield 236, 3) := by decide +kernel
theorem dX9_check_7 : decode cX9_check 7 = .ok (.ireturn, 1) := by decide +kernel
theorem dX9_nodeAt_0 : decode cX9_nodeAt 0 = .ok (.iload_n 1, 1) := by decide +kernel
theorem dX9_nodeAt_1 : decode cX9_nodeAt 1 = .ok (.ifCond .lt 12, 3) := by decide +kernel
theorem dX9_nodeAt_4 : decode cX9_nodeAt 4 = .ok (.iload_n 1, 1) := by decide +kernel
theorem dX9_nodeAt_5 : decode cX9_nodeAt 5 = .ok (.aload_n 0, 1) := by decide +kernel
theorem dX9_nodeAt_6 : decode cX9_nodeAt 6 = .ok (.getfield 25, 3) := by decide +kernel
theorem dX9_nodeAt_9 : decode cX9_nodeAt 9 = .ok (.arraylength, 1) := by decide +kernel
theorem dX9_nodeAt_10 : decode cX9_nodeAt 10 = .ok (.if_icmp .lt 13, 3) := by decide +kernel
theorem dX9_nodeAt_13 : decode cX9_nodeAt 13 = .ok (.new 211, 3) := by decide +kernel
theorem dX9_nodeAt_16 : decode cX9_nodeAt 16 = .ok (.dup, 1) := by decide +kernel
theorem dX9_nodeAt_17 : decode cX9_nodeAt 17 = .ok (.ldc 239, 2) := by decide +kernel
theorem dX9_nodeAt_19 : decode cX9_nodeAt 19 = .ok (.invokespecial 215, 3) := by decide +kernel
theorem dX9_nodeAt_22 : decode cX9_nodeAt 22 = .ok (.athrow, 1) := by decide +kernel
theorem dX9_nodeAt_23 : decode cX9_nodeAt 23 = .ok (.aload_n 0, 1) := by decide +kernel
theorem dX9_nodeAt_24 : decode cX9_nodeAt 24 = .ok (.getfield 25, 3) := by decide +kernel
theorem dX9_nodeAt_27 : decode cX9_nodeAt 27 = .ok (.iload_n 1, 1) := by decide +kernel
theorem dX9_nodeAt_28 : decode cX9_nodeAt 28 = .ok (.aaload, 1) := by decide +kernel
theorem dX9_nodeAt_29 : decode cX9_nodeAt 29 = .ok (.areturn, 1) := by decide +kernel
theorem dX9_messageAt_0 : decode cX9_messageAt 0 = .ok (.iload_n 1, 1) := by decide +kernel
theorem dX9_messageAt_1 : decode cX9_messageAt 1 = .ok (.ifCond .lt 14, 3) := by decide +kernel
theorem dX9_messageAt_4 : decode cX9_messageAt 4 = .ok (.iload_n 1, 1) := by decide +kernel
theorem dX9_messageAt_5 : decode cX9_messageAt 5 = .ok (.aload_n 0, 1) := by decide +kernel
theorem dX9_messageAt_6 : decode cX9_messageAt 6 = .ok (.getfield 32, 3) := by decide +kernel
theorem dX9_messageAt_9 : decode cX9_messageAt 9 = .ok (.getfield 59, 3) := by decide +kernel
theorem dX9_messageAt_12 : decode cX9_messageAt 12 = .ok (.if_icmp .lt 13, 3) := by decide +kernel
theorem dX9_messageAt_15 : decode cX9_messageAt 15 = .ok (.new 211, 3) := by decide +kernel
theorem dX9_messageAt_18 : decode cX9_messageAt 18 = .ok (.dup, 1) := by decide +kernel
theorem dX9_messageAt_19 : decode cX9_messageAt 19 = .ok (.ldc 241, 2) := by decide +kernel
theorem dX9_messageAt_21 : decode cX9_messageAt 21 = .ok (.invokespecial 215, 3) := by decide +kernel
theorem dX9_messageAt_24 : decode cX9_messageAt 24 = .ok (.athrow, 1) := by decide +kernel
theorem dX9_messageAt_25 : decode cX9_messageAt 25 = .ok (.aload_n 0, 1) := by decide +kernel
theorem dX9_messageAt_26 : decode cX9_messageAt 26 = .ok (.getfield 32, 3) := by decide +kernel
theorem dX9_messageAt_29 : decode cX9_messageAt 29 = .ok (.getfield 243, 3) := by decide +kernel
theorem dX9_messageAt_32 : decode cX9_messageAt 32 = .ok (.iload_n 1, 1) := by decide +kernel
theorem dX9_messageAt_33 : decode cX9_messageAt 33 = .ok (.aaload, 1) := by decide +kernel
theorem dX9_messageAt_34 : decode cX9_messageAt 34 = .ok (.areturn, 1) := by decide +kernel
theorem dX9_storeWithKey_0 : decode cX9_storeWithKey 0 = .ok (.aload_n 0, 1) := by decide +kernel
theorem dX9_storeWithKey_1 : decode cX9_storeWithKey 1 = .ok (.iload_n 1, 1) := by decide +kernel
theorem dX9_storeWithKey_2 : decode cX9_storeWithKey 2 = .ok (.invokevirtual 40, 3) := by decide +kernel
theorem dX9_storeWithKey_5 : decode cX9_storeWithKey 5 = .ok (.astore_n 3, 1) := by decide +kernel
theorem dX9_storeWithKey_6 : decode cX9_storeWithKey 6 = .ok (.iload_n 2, 1) := by decide +kernel
theorem dX9_storeWithKey_7 : decode cX9_storeWithKey 7 = .ok (.invokestatic 247, 3) := by decide +kernel
theorem dX9_storeWithKey_10 : decode cX9_storeWithKey 10 = .ok (.ifCond .ne 13, 3) := by decide +kernel
theorem dX9_storeWithKey_13 : decode cX9_storeWithKey 13 = .ok (.new 211, 3) := by decide +kernel
theorem dX9_storeWithKey_16 : decode cX9_storeWithKey 16 = .ok (.dup, 1) := by decide +kernel
theorem dX9_storeWithKey_17 : decode cX9_storeWithKey 17 = .ok (.ldc 250, 2) := by decide +kernel
theorem dX9_storeWithKey_19 : decode cX9_storeWithKey 19 = .ok (.invokespecial 215, 3) := by decide +kernel
theorem dX9_storeWithKey_22 : decode cX9_storeWithKey 22 = .ok (.athrow, 1) := by decide +kernel
theorem dX9_storeWithKey_23 : decode cX9_storeWithKey 23 = .ok (.aload_n 3, 1) := by decide +kernel
theorem dX9_storeWithKey_24 : decode cX9_storeWithKey 24 = .ok (.invokestatic 124, 3) := by decide +kernel
theorem dX9_storeWithKey_27 : decode cX9_storeWithKey 27 = .ok (.aload_n 3, 1) := by decide +kernel
theorem dX9_storeWithKey_28 : decode cX9_storeWithKey 28 = .ok (.getfield 198, 3) := by decide +kernel
theorem dX9_storeWithKey_31 : decode cX9_storeWithKey 31 = .ok (.areturn, 1) := by decide +kernel
theorem dX9_requireUp_0 : decode cX9_requireUp 0 = .ok (.aload_n 0, 1) := by decide +kernel
theorem dX9_requireUp_1 : decode cX9_requireUp 1 = .ok (.getfield 44, 3) := by decide +kernel
theorem dX9_requireUp_4 : decode cX9_requireUp 4 = .ok (.ifCond .ne 13, 3) := by decide +kernel
theorem dX9_requireUp_7 : decode cX9_requireUp 7 = .ok (.new 52, 3) := by decide +kernel
theorem dX9_requireUp_10 : decode cX9_requireUp 10 = .ok (.dup, 1) := by decide +kernel
theorem dX9_requireUp_11 : decode cX9_requireUp 11 = .ok (.ldc 252, 2) := by decide +kernel
theorem dX9_requireUp_13 : decode cX9_requireUp 13 = .ok (.invokespecial 56, 3) := by decide +kernel
theorem dX9_requireUp_16 : decode cX9_requireUp 16 = .ok (.athrow, 1) := by decide +kernel
theorem dX9_requireUp_17 : decode cX9_requireUp 17 = .ok (.return_, 1) := by decide +kernel
theorem dX9_requireWorkingLeader_0 : decode cX9_requireWorkingLeader 0 = .ok (.aload_n 0, 1) := by decide +kernel
theorem dX9_requireWorkingLeader_1 : decode cX9_requireWorkingLeader 1 = .ok (.getfield 44, 3) := by decide +kernel
theorem dX9_requireWorkingLeader_4 : decode cX9_requireWorkingLeader 4 = .ok (.ifCond .eq 24, 3) := by decide +kernel
theorem dX9_requireWorkingLeader_7 : decode cX9_requireWorkingLeader 7 = .ok (.aload_n 0, 1) := by decide +kernel
theorem dX9_requireWorkingLeader_8 : decode cX9_requireWorkingLeader 8 = .ok (.getfield 48, 3) := by decide +kernel
theorem dX9_requireWorkingLeader_11 : decode cX9_requireWorkingLeader 11 = .ok (.iconst 2, 1) := by decide +kernel
theorem dX9_requireWorkingLeader_12 : decode cX9_requireWorkingLeader 12 = .ok (.if_icmp .ne 16, 3) := by decide +kernel
theorem dX9_requireWorkingLeader_15 : decode cX9_requireWorkingLeader 15 = .ok (.aload_n 0, 1) := by decide +kernel
theorem dX9_requireWorkingLeader_16 : decode cX9_requireWorkingLeader 16 = .ok (.getfield 112, 3) := by decide +kernel
theorem dX9_requireWorkingLeader_19 : decode cX9_requireWorkingLeader 19 = .ok (.getfield 116, 3) := by decide +kernel
theorem dX9_requireWorkingLeader_22 : decode cX9_requireWorkingLeader 22 = .ok (.sipush 1200, 3) := by decide +kernel
theorem dX9_requireWorkingLeader_25 : decode cX9_requireWorkingLeader 25 = .ok (.if_icmp .lt 13, 3) := by decide +kernel
theorem dX9_requireWorkingLeader_28 : decode cX9_requireWorkingLeader 28 = .ok (.new 52, 3) := by decide +kernel
theorem dX9_requireWorkingLeader_31 : decode cX9_requireWorkingLeader 31 = .ok (.dup, 1) := by decide +kernel
theorem dX9_requireWorkingLeader_32 : decode cX9_requireWorkingLeader 32 = .ok (.ldc 254, 2) := by decide +kernel
theorem dX9_requireWorkingLeader_34 : decode cX9_requireWorkingLeader 34 = .ok (.invokespecial 56, 3) := by decide +kernel
theorem dX9_requireWorkingLeader_37 : decode cX9_requireWorkingLeader 37 = .ok (.athrow, 1) := by decide +kernel
theorem dX9_requireWorkingLeader_38 : decode cX9_requireWorkingLeader 38 = .ok (.return_, 1) := by decide +kernel
theorem dX9_isKey_0 : decode cX9_isKey 0 = .ok (.iload_n 0, 1) := by decide +kernel
theorem dX9_isKey_1 : decode cX9_isKey 1 = .ok (.ifCond .lt 13, 3) := by decide +kernel
theorem dX9_isKey_4 : decode cX9_isKey 4 = .ok (.iload_n 0, 1) := by decide +kernel
theorem dX9_isKey_5 : decode cX9_isKey 5 = .ok (.bipush 64, 2) := by decide +kernel
theorem dX9_isKey_7 : decode cX9_isKey 7 = .ok (.if_icmp .ge 7, 3) := by decide +kernel
theorem dX9_isKey_10 : decode cX9_isKey 10 = .ok (.iconst 1, 1) := by decide +kernel
theorem dX9_isKey_11 : decode cX9_isKey 11 = .ok (.goto 4, 3) := by decide +kernel
theorem dX9_isKey_14 : decode cX9_isKey 14 = .ok (.iconst 0, 1) := by decide +kernel
theorem dX9_isKey_15 : decode cX9_isKey 15 = .ok (.ireturn, 1) := by decide +kernel
theorem dX9_isLease_0 : decode cX9_isLease 0 = .ok (.iload_n 0, 1) := by decide +kernel
theorem dX9_isLease_1 : decode cX9_isLease 1 = .ok (.iconst 1, 1) := by decide +kernel
theorem dX9_isLease_2 : decode cX9_isLease 2 = .ok (.if_icmp .lt 13, 3) := by decide +kernel
theorem dX9_isLease_5 : decode cX9_isLease 5 = .ok (.iload_n 0, 1) := by decide +kernel
theorem dX9_isLease_6 : decode cX9_isLease 6 = .ok (.bipush 8, 2) := by decide +kernel
theorem dX9_isLease_8 : decode cX9_isLease 8 = .ok (.if_icmp .gt 7, 3) := by decide +kernel
theorem dX9_isLease_11 : decode cX9_isLease 11 = .ok (.iconst 1, 1) := by decide +kernel
theorem dX9_isLease_12 : decode cX9_isLease 12 = .ok (.goto 4, 3) := by decide +kernel
theorem dX9_isLease_15 : decode cX9_isLease 15 = .ok (.iconst 0, 1) := by decide +kernel
theorem dX9_isLease_16 : decode cX9_isLease 16 = .ok (.ireturn, 1) := by decide +kernel
theorem dX9_isNode_0 : decode cX9_isNode 0 = .ok (.iload_n 0, 1) := by decide +kernel
theorem dX9_isNode_1 : decode cX9_isNode 1 = .ok (.ifCond .lt 12, 3) := by decide +kernel
theorem dX9_isNode_4 : decode cX9_isNode 4 = .ok (.iload_n 0, 1) := by decide +kernel
theorem dX9_isNode_5 : decode cX9_isNode 5 = .ok (.iconst 5, 1) := by decide +kernel
theorem dX9_isNode_6 : decode cX9_isNode 6 = .ok (.if_icmp .ge 7, 3) := by decide +kernel
theorem dX9_isNode_9 : decode cX9_isNode 9 = .ok (.iconst 1, 1) := by decide +kernel
theorem dX9_isNode_10 : decode cX9_isNode 10 = .ok (.goto 4, 3) := by decide +kernel
theorem dX9_isNode_13 : decode cX9_isNode 13 = .ok (.iconst 0, 1) := by decide +kernel
theorem dX9_isNode_14 : decode cX9_isNode 14 = .ok (.ireturn, 1) := by decide +kernel
theorem dX10_init_0 : decode cX10_init 0 = .ok (.aload_n 0, 1) := by decide +kernel
theorem dX10_init_1 : decode cX10_init 1 = .ok (.invokespecial 1, 3) := by decide +kernel
theorem dX10_init_4 : decode cX10_init 4 = .ok (.aload_n 0, 1) := by decide +kernel
theorem dX10_init_5 : decode cX10_init 5 = .ok (.iconst 5, 1) := by decide +kernel
theorem dX10_init_6 : decode cX10_init 6 = .ok (.newarray .boolean, 2) := by decide +kernel
theorem dX10_init_8 : decode cX10_init 8 = .ok (.putfield 7, 3) := by decide +kernel
theorem dX10_init_11 : decode cX10_init 11 = .ok (.aload_n 0, 1) := by decide +kernel
theorem dX10_init_12 : decode cX10_init 12 = .ok (.iconst 5, 1) := by decide +kernel
theorem dX10_init_13 : decode cX10_init 13 = .ok (.newarray .int, 2) := by decide +kernel
theorem dX10_init_15 : decode cX10_init 15 = .ok (.putfield 13, 3) := by decide +kernel
theorem dX10_init_18 : decode cX10_init 18 = .ok (.aload_n 0, 1) := by decide +kernel
theorem dX10_init_19 : decode cX10_init 19 = .ok (.iconst 5, 1) := by decide +kernel
theorem dX10_init_20 : decode cX10_init 20 = .ok (.newarray .int, 2) := by decide +kernel
theorem dX10_init_22 : decode cX10_init 22 = .ok (.putfield 17, 3) := by decide +kernel
theorem dX10_init_25 : decode cX10_init 25 = .ok (.aload_n 0, 1) := by decide +kernel
theorem dX10_init_26 : decode cX10_init 26 = .ok (.iconst 5, 1) := by decide +kernel
theorem dX10_init_27 : decode cX10_init 27 = .ok (.newarray .int, 2) := by decide +kernel
theorem dX10_init_29 : decode cX10_init 29 = .ok (.putfield 20, 3) := by decide +kernel
theorem dX10_init_32 : decode cX10_init 32 = .ok (.aload_n 0, 1) := by decide +kernel
theorem dX10_init_33 : decode cX10_init 33 = .ok (.iconst 5, 1) := by decide +kernel
theorem dX10_init_34 : decode cX10_init 34 = .ok (.newarray .int, 2) := by decide +kernel
theorem dX10_init_36 : decode cX10_init 36 = .ok (.putfield 23, 3) := by decide +kernel
theorem dX10_init_39 : decode cX10_init 39 = .ok (.aload_n 0, 1) := by decide +kernel
theorem dX10_init_40 : decode cX10_init 40 = .ok (.iconst 5, 1) := by decide +kernel
theorem dX10_init_41 : decode cX10_init 41 = .ok (.newarray .int, 2) := by decide +kernel
theorem dX10_init_43 : decode cX10_init 43 = .ok (.putfield 26, 3) := by decide +kernel
theorem dX10_init_46 : decode cX10_init 46 = .ok (.aload_n 0, 1) := by decide +kernel
theorem dX10_init_47 : decode cX10_init 47 = .ok (.iconst 5, 1) := by decide +kernel
theorem dX10_init_48 : decode cX10_init 48 = .ok (.newarray .int, 2) := by decide +kernel
theorem dX10_init_50 : decode cX10_init 50 = .ok (.putfield 29, 3) := by decide +kernel
theorem dX10_init_53 : decode cX10_init 53 = .ok (.aload_n 0, 1) := by decide +kernel
theorem dX10_init_54 : decode cX10_init 54 = .ok (.iconst 5, 1) := by decide +kernel
theorem dX10_init_55 : decode cX10_init 55 = .ok (.newarray .int, 2) := by decide +kernel
theorem dX10_init_57 : decode cX10_init 57 = .ok (.putfield 32, 3) := by decide +kernel
theorem dX10_init_60 : decode cX10_init 60 = .ok (.aload_n 0, 1) := by decide +kernel
theorem dX10_init_61 : decode cX10_init 61 = .ok (.iconst 5, 1) := by decide +kernel
theorem dX10_init_62 : decode cX10_init 62 = .ok (.newarray .int, 2) := by decide +kernel
theorem dX10_init_64 : decode cX10_init 64 = .ok (.putfield 35, 3) := by decide +kernel
theorem dX10_init_67 : decode cX10_init 67 = .ok (.aload_n 0, 1) := by decide +kernel
theorem dX10_init_68 : decode cX10_init 68 = .ok (.iconst 5, 1) := by decide +kernel
theorem dX10_init_69 : decode cX10_init 69 = .ok (.newarray .int, 2) := by decide +kernel
theorem dX10_init_71 : decode cX10_init 71 = .ok (.putfield 38, 3) := by decide +kernel
theorem dX10_init_74 : decode cX10_init 74 = .ok (.aload_n 0, 1) := by decide +kernel
theorem dX10_init_75 : decode cX10_init 75 = .ok (.bipush 25, 2) := by decide +kernel
theorem dX10_init_77 : decode cX10_init 77 = .ok (.newarray .int, 2) := by decide +kernel
theorem dX10_init_79 : decode cX10_init 79 = .ok (.putfield 41, 3) := by decide +kernel
theorem dX10_init_82 : decode cX10_init 82 = .ok (.aload_n 0, 1) := by decide +kernel
theorem dX10_init_83 : decode cX10_init 83 = .ok (.bipush 25, 2) := by decide +kernel
theorem dX10_init_85 : decode cX10_init 85 = .ok (.newarray .int, 2) := by decide +kernel
theorem dX10_init_87 : decode cX10_init 87 = .ok (.putfield 44, 3) := by decide +kernel
theorem dX10_init_90 : decode cX10_init 90 = .ok (.aload_n 0, 1) := by decide +kernel
theorem dX10_init_91 : decode cX10_init 91 = .ok (.ldc 47, 2) := by decide +kernel
theorem dX10_init_93 : decode cX10_init 93 = .ok (.newarray .int, 2) := by decide +kernel
theorem dX10_init_95 : decode cX10_init 95 = .ok (.putfield 48, 3) := by decide +kernel
theorem dX10_init_98 : decode cX10_init 98 = .ok (.aload_n 0, 1) := by decide +kernel
theorem dX10_init_99 : decode cX10_init 99 = .ok (.iconst 5, 1) := by decide +kernel
theorem dX10_init_100 : decode cX10_init 100 = .ok (.newarray .int, 2) := by decide +kernel
theorem dX10_init_102 : decode cX10_init 102 = .ok (.putfield 51, 3) := by decide +kernel
theorem dX10_init_105 : decode cX10_init 105 = .ok (.aload_n 0, 1) := by decide +kernel
theorem dX10_init_106 : decode cX10_init 106 = .ok (.sipush 3000, 3) := by decide +kernel
theorem dX10_init_109 : decode cX10_init 109 = .ok (.newarray .int, 2) := by decide +kernel
theorem dX10_init_111 : decode cX10_init 111 = .ok (.putfield 54, 3) := by decide +kernel
theorem dX10_init_114 : decode cX10_init 114 = .ok (.aload_n 0, 1) := by decide +kernel
theorem dX10_init_115 : decode cX10_init 115 = .ok (.sipush 3000, 3) := by decide +kernel
theorem dX10_init_118 : decode cX10_init 118 = .ok (.newarray .int, 2) := by decide +kernel
theorem dX10_init_120 : decode cX10_init 120 = .ok (.putfield 57, 3) := by decide +kernel
theorem dX10_init_123 : decode cX10_init 123 = .ok (.aload_n 0, 1) := by decide +kernel
theorem dX10_init_124 : decode cX10_init 124 = .ok (.sipush 3000, 3) := by decide +kernel
theorem dX10_init_127 : decode cX10_init 127 = .ok (.newarray .int, 2) := by decide +kernel
theorem dX10_init_129 : decode cX10_init 129 = .ok (.putfield 60, 3) := by decide +kernel
theorem dX10_init_132 : decode cX10_init 132 = .ok (.aload_n 0, 1) := by decide +kernel
theorem dX10_init_133 : decode cX10_init 133 = .ok (.sipush 3000, 3) := by decide +kernel
theorem dX10_init_136 : decode cX10_init 136 = .ok (.newarray .int, 2) := by decide +kernel
theorem dX10_init_138 : decode cX10_init 138 = .ok (.putfield 63, 3) := by decide +kernel
theorem dX10_init_141 : decode cX10_init 141 = .ok (.aload_n 0, 1) := by decide +kernel
theorem dX10_init_142 : decode cX10_init 142 = .ok (.sipush 3000, 3) := by decide +kernel
theorem dX10_init_145 : decode cX10_init 145 = .ok (.newarray .int, 2) := by decide +kernel
theorem dX10_init_147 : decode cX10_init 147 = .ok (.putfield 66, 3) := by decide +kernel
theorem dX10_init_150 : decode cX10_init 150 = .ok (.aload_n 0, 1) := by decide +kernel
theorem dX10_init_151 : decode cX10_init 151 = .ok (.sipush 3000, 3) := by decide +kernel
theorem dX10_init_154 : decode cX10_init 154 = .ok (.newarray .int, 2) := by decide +kernel
theorem dX10_init_156 : decode cX10_init 156 = .ok (.putfield 69, 3) := by decide +kernel
theorem dX10_init_159 : decode cX10_init 159 = .ok (.aload_n 0, 1) := by decide +kernel
theorem dX10_init_160 : decode cX10_init 160 = .ok (.sipush 3000, 3) := by decide +kernel
theorem dX10_init_163 : decode cX10_init 163 = .ok (.newarray .int, 2) := by decide +kernel
theorem dX10_init_165 : decode cX10_init 165 = .ok (.putfield 72, 3) := by decide +kernel
theorem dX10_init_168 : decode cX10_init 168 = .ok (.aload_n 0, 1) := by decide +kernel
theorem dX10_init_169 : decode cX10_init 169 = .ok (.sipush 3000, 3) := by decide +kernel
theorem dX10_init_172 : decode cX10_init 172 = .ok (.newarray .int, 2) := by decide +kernel
theorem dX10_init_174 : decode cX10_init 174 = .ok (.putfield 75, 3) := by decide +kernel
theorem dX10_init_177 : decode cX10_init 177 = .ok (.aload_n 0, 1) := by decide +kernel
theorem dX10_init_178 : decode cX10_init 178 = .ok (.ldc 78, 2) := by decide +kernel
theorem dX10_init_180 : decode cX10_init 180 = .ok (.newarray .int, 2) := by decide +kernel
theorem dX10_init_182 : decode cX10_init 182 = .ok (.putfield 79, 3) := by decide +kernel
theorem dX10_init_185 : decode cX10_init 185 = .ok (.aload_n 0, 1) := by decide +kernel
theorem dX10_init_186 : decode cX10_init 186 = .ok (.ldc 82, 2) := by decide +kernel
theorem dX10_init_188 : decode cX10_init 188 = .ok (.newarray .int, 2) := by decide +kernel
theorem dX10_init_190 : decode cX10_init 190 = .ok (.putfield 83, 3) := by decide +kernel
theorem dX10_init_193 : decode cX10_init 193 = .ok (.aload_n 0, 1) := by decide +kernel
theorem dX10_init_194 : decode cX10_init 194 = .ok (.sipush 3000, 3) := by decide +kernel
theorem dX10_init_197 : decode cX10_init 197 = .ok (.newarray .int, 2) := by decide +kernel
theorem dX10_init_199 : decode cX10_init 199 = .ok (.putfield 86, 3) := by decide +kernel
theorem dX10_init_202 : decode cX10_init 202 = .ok (.aload_n 0, 1) := by decide +kernel
theorem dX10_init_203 : decode cX10_init 203 = .ok (.bipush 8, 2) := by decide +kernel
theorem dX10_init_205 : decode cX10_init 205 = .ok (.newarray .int, 2) := by decide +kernel
theorem dX10_init_207 : decode cX10_init 207 = .ok (.putfield 89, 3) := by decide +kernel
theorem dX10_init_210 : decode cX10_init 210 = .ok (.aload_n 0, 1) := by decide +kernel
theorem dX10_init_211 : decode cX10_init 211 = .ok (.bipush 64, 2) := by decide +kernel
theorem dX10_init_213 : decode cX10_init 213 = .ok (.newarray .int, 2) := by decide +kernel
theorem dX10_init_215 : decode cX10_init 215 = .ok (.putfield 92, 3) := by decide +kernel
theorem dX10_init_218 : decode cX10_init 218 = .ok (.aload_n 0, 1) := by decide +kernel
theorem dX10_init_219 : decode cX10_init 219 = .ok (.bipush 64, 2) := by decide +kernel
theorem dX10_init_221 : decode cX10_init 221 = .ok (.newarray .int, 2) := by decide +kernel
theorem dX10_init_223 : decode cX10_init 223 = .ok (.putfield 95, 3) := by decide +kernel
theorem dX10_init_226 : decode cX10_init 226 = .ok (.aload_n 0, 1) := by decide +kernel
theorem dX10_init_227 : decode cX10_init 227 = .ok (.bipush 64, 2) := by decide +kernel
theorem dX10_init_229 : decode cX10_init 229 = .ok (.newarray .int, 2) := by decide +kernel
theorem dX10_init_231 : decode cX10_init 231 = .ok (.putfield 98, 3) := by decide +kernel
theorem dX10_init_234 : decode cX10_init 234 = .ok (.aload_n 0, 1) := by decide +kernel
theorem dX10_init_235 : decode cX10_init 235 = .ok (.bipush 64, 2) := by decide +kernel
theorem dX10_init_237 : decode cX10_init 237 = .ok (.newarray .int, 2) := by decide +kernel
theorem dX10_init_239 : decode cX10_init 239 = .ok (.putfield 101, 3) := by decide +kernel
theorem dX10_init_242 : decode cX10_init 242 = .ok (.aload_n 0, 1) := by decide +kernel
theorem dX10_init_243 : decode cX10_init 243 = .ok (.bipush 64, 2) := by decide +kernel
theorem dX10_init_245 : decode cX10_init 245 = .ok (.newarray .int, 2) := by decide +kernel
theorem dX10_init_247 : decode cX10_init 247 = .ok (.putfield 104, 3) := by decide +kernel
theorem dX10_init_250 : decode cX10_init 250 = .ok (.aload_n 0, 1) := by decide +kernel
theorem dX10_init_251 : decode cX10_init 251 = .ok (.bipush 9, 2) := by decide +kernel
theorem dX10_init_253 : decode cX10_init 253 = .ok (.newarray .boolean, 2) := by decide +kernel
theorem dX10_init_255 : decode cX10_init 255 = .ok (.putfield 107, 3) := by decide +kernel
theorem dX10_init_258 : decode cX10_init 258 = .ok (.aload_n 0, 1) := by decide +kernel
theorem dX10_init_259 : decode cX10_init 259 = .ok (.bipush 9, 2) := by decide +kernel
theorem dX10_init_261 : decode cX10_init 261 = .ok (.newarray .int, 2) := by decide +kernel
theorem dX10_init_263 : decode cX10_init 263 = .ok (.putfield 110, 3) := by decide +kernel
theorem dX10_init_266 : decode cX10_init 266 = .ok (.aload_n 0, 1) := by decide +kernel
theorem dX10_init_267 : decode cX10_init 267 = .ok (.sipush 5000, 3) := by decide +kernel
theorem dX10_init_270 : decode cX10_init 270 = .ok (.newarray .int, 2) := by decide +kernel
theorem dX10_init_272 : decode cX10_init 272 = .ok (.putfield 113, 3) := by decide +kernel
theorem dX10_init_275 : decode cX10_init 275 = .ok (.aload_n 0, 1) := by decide +kernel
theorem dX10_init_276 : decode cX10_init 276 = .ok (.sipush 5000, 3) := by decide +kernel
theorem dX10_init_279 : decode cX10_init 279 = .ok (.newarray .int, 2) := by decide +kernel
theorem dX10_init_281 : decode cX10_init 281 = .ok (.putfield 116, 3) := by decide +kernel
theorem dX10_init_284 : decode cX10_init 284 = .ok (.aload_n 0, 1) := by decide +kernel
theorem dX10_init_285 : decode cX10_init 285 = .ok (.sipush 5000, 3) := by decide +kernel
theorem dX10_init_288 : decode cX10_init 288 = .ok (.newarray .int, 2) := by decide +kernel
theorem dX10_init_290 : decode cX10_init 290 = .ok (.putfield 119, 3) := by decide +kernel
theorem dX10_init_293 : decode cX10_init 293 = .ok (.aload_n 0, 1) := by decide +kernel
theorem dX10_init_294 : decode cX10_init 294 = .ok (.sipush 5000, 3) := by decide +kernel
theorem dX10_init_297 : decode cX10_init 297 = .ok (.newarray .boolean, 2) := by decide +kernel
theorem dX10_init_299 : decode cX10_init 299 = .ok (.putfield 122, 3) := by decide +kernel
theorem dX10_init_302 : decode cX10_init 302 = .ok (.aload_n 0, 1) := by decide +kernel
theorem dX10_init_303 : decode cX10_init 303 = .ok (.sipush 1201, 3) := by decide +kernel
theorem dX10_init_306 : decode cX10_init 306 = .ok (.newarray .int, 2) := by decide +kernel
theorem dX10_init_308 : decode cX10_init 308 = .ok (.putfield 125, 3) := by decide +kernel
theorem dX10_init_311 : decode cX10_init 311 = .ok (.aload_n 0, 1) := by decide +kernel
theorem dX10_init_312 : decode cX10_init 312 = .ok (.iconst (-1), 1) := by decide +kernel
theorem dX10_init_313 : decode cX10_init 313 = .ok (.putfield 128, 3) := by decide +kernel
theorem dX10_init_316 : decode cX10_init 316 = .ok (.aload_n 0, 1) := by decide +kernel
theorem dX10_init_317 : decode cX10_init 317 = .ok (.iconst (-1), 1) := by decide +kernel
theorem dX10_init_318 : decode cX10_init 318 = .ok (.putfield 132, 3) := by decide +kernel
theorem dX10_init_321 : decode cX10_init 321 = .ok (.iconst 0, 1) := by decide +kernel
theorem dX10_init_322 : decode cX10_init 322 = .ok (.istore_n 1, 1) := by decide +kernel
theorem dX10_init_323 : decode cX10_init 323 = .ok (.iload_n 1, 1) := by decide +kernel
theorem dX10_init_324 : decode cX10_init 324 = .ok (.iconst 5, 1) := by decide +kernel
theorem dX10_init_325 : decode cX10_init 325 = .ok (.if_icmp .ge 30, 3) := by decide +kernel
theorem dX10_init_328 : decode cX10_init 328 = .ok (.aload_n 0, 1) := by decide +kernel
theorem dX10_init_329 : decode cX10_init 329 = .ok (.getfield 7, 3) := by decide +kernel
theorem dX10_init_332 : decode cX10_init 332 = .ok (.iload_n 1, 1) := by decide +kernel
theorem dX10_init_333 : decode cX10_init 333 = .ok (.iconst 1, 1) := by decide +kernel
theorem dX10_init_334 : decode cX10_init 334 = .ok (.bastore, 1) := by decide +kernel
theorem dX10_init_335 : decode cX10_init 335 = .ok (.aload_n 0, 1) := by decide +kernel
theorem dX10_init_336 : decode cX10_init 336 = .ok (.getfield 17, 3) := by decide +kernel
theorem dX10_init_339 : decode cX10_init 339 = .ok (.iload_n 1, 1) := by decide +kernel
theorem dX10_init_340 : decode cX10_init 340 = .ok (.iconst (-1), 1) := by decide +kernel
theorem dX10_init_341 : decode cX10_init 341 = .ok (.iastore, 1) := by decide +kernel
theorem dX10_init_342 : decode cX10_init 342 = .ok (.aload_n 0, 1) := by decide +kernel
theorem dX10_init_343 : decode cX10_init 343 = .ok (.getfield 38, 3) := by decide +kernel
theorem dX10_init_346 : decode cX10_init 346 = .ok (.iload_n 1, 1) := by decide +kernel
theorem dX10_init_347 : decode cX10_init 347 = .ok (.iconst (-1), 1) := by decide +kernel
theorem dX10_init_348 : decode cX10_init 348 = .ok (.iastore, 1) := by decide +kernel
theorem dX10_init_349 : decode cX10_init 349 = .ok (.iinc 1 1, 3) := by decide +kernel
theorem dX10_init_352 : decode cX10_init 352 = .ok (.goto (-29), 3) := by decide +kernel
theorem dX10_init_355 : decode cX10_init 355 = .ok (.return_, 1) := by decide +kernel
theorem dX10_thrown_0 : decode cX10_thrown 0 = .ok (.aload_n 0, 1) := by decide +kernel
theorem dX10_thrown_1 : decode cX10_thrown 1 = .ok (.getfield 135, 3) := by decide +kernel
theorem dX10_thrown_4 : decode cX10_thrown 4 = .ok (.ireturn, 1) := by decide +kernel
theorem dX10_bad_0 : decode cX10_bad 0 = .ok (.aload_n 0, 1) := by decide +kernel
theorem dX10_bad_1 : decode cX10_bad 1 = .ok (.iload_n 1, 1) := by decide +kernel
theorem dX10_bad_2 : decode cX10_bad 2 = .ok (.ifCond .eq 7, 3) := by decide +kernel
theorem dX10_bad_5 : decode cX10_bad 5 = .ok (.iload_n 2, 1) := by decide +kernel
theorem dX10_bad_6 : decode cX10_bad 6 = .ok (.goto 4, 3) := by decide +kernel
theorem dX10_bad_9 : decode cX10_bad 9 = .ok (.iconst 0, 1) := by decide +kernel
theorem dX10_bad_10 : decode cX10_bad 10 = .ok (.putfield 135, 3) := by decide +kernel
theorem dX10_bad_13 : decode cX10_bad 13 = .ok (.iload_n 1, 1) := by decide +kernel
theorem dX10_bad_14 : decode cX10_bad 14 = .ok (.ireturn, 1) := by decide +kernel
theorem dX10_isNode_0 : decode cX10_isNode 0 = .ok (.iload_n 0, 1) := by decide +kernel
theorem dX10_isNode_1 : decode cX10_isNode 1 = .ok (.ifCond .lt 12, 3) := by decide +kernel
theorem dX10_isNode_4 : decode cX10_isNode 4 = .ok (.iload_n 0, 1) := by decide +kernel
theorem dX10_isNode_5 : decode cX10_isNode 5 = .ok (.iconst 5, 1) := by decide +kernel
theorem dX10_isNode_6 : decode cX10_isNode 6 = .ok (.if_icmp .ge 7, 3) := by decide +kernel
theorem dX10_isNode_9 : decode cX10_isNode 9 = .ok (.iconst 1, 1) := by decide +kernel
theorem dX10_isNode_10 : decode cX10_isNode 10 = .ok (.goto 4, 3) := by decide +kernel
theorem dX10_isNode_13 : decode cX10_isNode 13 = .ok (.iconst 0, 1) := by decide +kernel
theorem dX10_isNode_14 : decode cX10_isNode 14 = .ok (.ireturn, 1) := by decide +kernel
theorem dX10_at_0 : decode cX10_at 0 = .ok (.iload_n 1, 1) := by decide +kernel
theorem dX10_at_1 : decode cX10_at 1 = .ok (.sipush 1201, 3) := by decide +kernel
theorem dX10_at_4 : decode cX10_at 4 = .ok (.imul, 1) := by decide +kernel
theorem dX10_at_5 : decode cX10_at 5 = .ok (.iload_n 2, 1) := by decide +kernel
theorem dX10_at_6 : decode cX10_at 6 = .ok (.iadd, 1) := by decide +kernel
theorem dX10_at_7 : decode cX10_at 7 = .ok (.bipush 8, 2) := by decide +kernel
theorem dX10_at_9 : decode cX10_at 9 = .ok (.imul, 1) := by decide +kernel
theorem dX10_at_10 : decode cX10_at 10 = .ok (.ireturn, 1) := by decide +kernel
theorem dX10_termAt_0 : decode cX10_termAt 0 = .ok (.aload_n 0, 1) := by decide +kernel
theorem dX10_termAt_1 : decode cX10_termAt 1 = .ok (.getfield 48, 3) := by decide +kernel
theorem dX10_termAt_4 : decode cX10_termAt 4 = .ok (.aload_n 0, 1) := by decide +kernel
theorem dX10_termAt_5 : decode cX10_termAt 5 = .ok (.iload_n 1, 1) := by decide +kernel
theorem dX10_termAt_6 : decode cX10_termAt 6 = .ok (.iload_n 2, 1) := by decide +kernel
theorem dX10_termAt_7 : decode cX10_termAt 7 = .ok (.invokevirtual 138, 3) := by decide +kernel
theorem dX10_termAt_10 : decode cX10_termAt 10 = .ok (.iaload, 1) := by decide +kernel
theorem dX10_termAt_11 : decode cX10_termAt 11 = .ok (.ireturn, 1) := by decide +kernel
theorem dX10_down_0 : decode cX10_down 0 = .ok (.aload_n 0, 1) := by decide +kernel
theorem dX10_down_1 : decode cX10_down 1 = .ok (.getfield 7, 3) := by decide +kernel
theorem dX10_down_4 : decode cX10_down 4 = .ok (.iload_n 1, 1) := by decide +kernel
theorem dX10_down_5 : decode cX10_down 5 = .ok (.iconst 0, 1) := by decide +kernel
theorem dX10_down_6 : decode cX10_down 6 = .ok (.bastore, 1) := by decide +kernel
theorem dX10_down_7 : decode cX10_down 7 = .ok (.aload_n 0, 1) := by decide +kernel
theorem dX10_down_8 : decode cX10_down 8 = .ok (.getfield 32, 3) := by decide +kernel
theorem dX10_down_11 : decode cX10_down 11 = .ok (.iload_n 1, 1) := by decide +kernel
theorem dX10_down_12 : decode cX10_down 12 = .ok (.iconst 0, 1) := by decide +kernel
theorem dX10_down_13 : decode cX10_down 13 = .ok (.iastore, 1) := by decide +kernel
theorem dX10_down_14 : decode cX10_down 14 = .ok (.aload_n 0, 1) := by decide +kernel
theorem dX10_down_15 : decode cX10_down 15 = .ok (.getfield 38, 3) := by decide +kernel
theorem dX10_down_18 : decode cX10_down 18 = .ok (.iload_n 1, 1) := by decide +kernel
theorem dX10_down_19 : decode cX10_down 19 = .ok (.iconst (-1), 1) := by decide +kernel
theorem dX10_down_20 : decode cX10_down 20 = .ok (.iastore, 1) := by decide +kernel
theorem dX10_down_21 : decode cX10_down 21 = .ok (.return_, 1) := by decide +kernel
theorem dX10_record_0 : decode cX10_record 0 = .ok (.aload_n 0, 1) := by decide +kernel
theorem dX10_record_1 : decode cX10_record 1 = .ok (.getfield 38, 3) := by decide +kernel
theorem dX10_record_4 : decode cX10_record 4 = .ok (.iload_n 1, 1) := by decide +kernel
theorem dX10_record_5 : decode cX10_record 5 = .ok (.iaload, 1) := by decide +kernel
theorem dX10_record_6 : decode cX10_record 6 = .ok (.ifCond .ne 10, 3) := by decide +kernel
theorem dX10_record_9 : decode cX10_record 9 = .ok (.aload_n 0, 1) := by decide +kernel
theorem dX10_record_10 : decode cX10_record 10 = .ok (.iload_n 1, 1) := by decide +kernel
theorem dX10_record_11 : decode cX10_record 11 = .ok (.invokevirtual 142, 3) := by decide +kernel
theorem dX10_record_14 : decode cX10_record 14 = .ok (.iconst 0, 1) := by decide +kernel
theorem dX10_record_15 : decode cX10_record 15 = .ok (.ireturn, 1) := by decide +kernel
theorem dX10_record_16 : decode cX10_record 16 = .ok (.aload_n 0, 1) := by decide +kernel
theorem dX10_record_17 : decode cX10_record 17 = .ok (.getfield 38, 3) := by decide +kernel
theorem dX10_record_20 : decode cX10_record 20 = .ok (.iload_n 1, 1) := by decide +kernel
theorem dX10_record_21 : decode cX10_record 21 = .ok (.iaload, 1) := by decide +kernel
theorem dX10_record_22 : decode cX10_record 22 = .ok (.ifCond .le 13, 3) := by decide +kernel
theorem dX10_record_25 : decode cX10_record 25 = .ok (.aload_n 0, 1) := by decide +kernel
theorem dX10_record_26 : decode cX10_record 26 = .ok (.getfield 38, 3) := by decide +kernel
theorem dX10_record_29 : decode cX10_record 29 = .ok (.iload_n 1, 1) := by decide +kernel
theorem dX10_record_30 : decode cX10_record 30 = .ok (.dup2, 1) := by decide +kernel
theorem dX10_record_31 : decode cX10_record 31 = .ok (.iaload, 1) := by decide +kernel
theorem dX10_record_32 : decode cX10_record 32 = .ok (.iconst 1, 1) := by decide +kernel
theorem dX10_record_33 : decode cX10_record 33 = .ok (.isub, 1) := by decide +kernel
theorem dX10_record_34 : decode cX10_record 34 = .ok (.iastore, 1) := by decide +kernel
theorem dX10_record_35 : decode cX10_record 35 = .ok (.iconst 1, 1) := by decide +kernel
theorem dX10_record_36 : decode cX10_record 36 = .ok (.ireturn, 1) := by decide +kernel
theorem dX10_made_0 : decode cX10_made 0 = .ok (.aload_n 0, 1) := by decide +kernel
theorem dX10_made_1 : decode cX10_made 1 = .ok (.getfield 146, 3) := by decide +kernel
theorem dX10_made_4 : decode cX10_made 4 = .ok (.sipush 3000, 3) := by decide +kernel
theorem dX10_made_7 : decode cX10_made 7 = .ok (.if_icmp .ne 5, 3) := by decide +kernel
theorem dX10_made_10 : decode cX10_made 10 = .ok (.iconst (-1), 1) := by decide +kernel
theorem dX10_made_11 : decode cX10_made 11 = .ok (.ireturn, 1) := by decide +kernel
theorem dX10_made_12 : decode cX10_made 12 = .ok (.aload_n 0, 1) := by decide +kernel
theorem dX10_made_13 : decode cX10_made 13 = .ok (.getfield 54, 3) := by decide +kernel
theorem dX10_made_16 : decode cX10_made 16 = .ok (.aload_n 0, 1) := by decide +kernel
theorem dX10_made_17 : decode cX10_made 17 = .ok (.getfield 146, 3) := by decide +kernel
theorem dX10_made_20 : decode cX10_made 20 = .ok (.iload_n 1, 1) := by decide +kernel
theorem dX10_made_21 : decode cX10_made 21 = .ok (.iastore, 1) := by decide +kernel
theorem dX10_made_22 : decode cX10_made 22 = .ok (.aload_n 0, 1) := by decide +kernel
theorem dX10_made_23 : decode cX10_made 23 = .ok (.getfield 57, 3) := by decide +kernel
theorem dX10_made_26 : decode cX10_made 26 = .ok (.aload_n 0, 1) := by decide +kernel
theorem dX10_made_27 : decode cX10_made 27 = .ok (.getfield 146, 3) := by decide +kernel
theorem dX10_made_30 : decode cX10_made 30 = .ok (.iload_n 2, 1) := by decide +kernel
theorem dX10_made_31 : decode cX10_made 31 = .ok (.iastore, 1) := by decide +kernel
theorem dX10_made_32 : decode cX10_made 32 = .ok (.aload_n 0, 1) := by decide +kernel
theorem dX10_made_33 : decode cX10_made 33 = .ok (.getfield 60, 3) := by decide +kernel
theorem dX10_made_36 : decode cX10_made 36 = .ok (.aload_n 0, 1) := by decide +kernel
theorem dX10_made_37 : decode cX10_made 37 = .ok (.getfield 146, 3) := by decide +kernel
theorem dX10_made_40 : decode cX10_made 40 = .ok (.iload_n 3, 1) := by decide +kernel
theorem dX10_made_41 : decode cX10_made 41 = .ok (.iastore, 1) := by decide +kernel
theorem dX10_made_42 : decode cX10_made 42 = .ok (.aload_n 0, 1) := by decide +kernel
theorem dX10_made_43 : decode cX10_made 43 = .ok (.getfield 63, 3) := by decide +kernel
theorem dX10_made_46 : decode cX10_made 46 = .ok (.aload_n 0, 1) := by decide +kernel
theorem dX10_made_47 : decode cX10_made 47 = .ok (.getfield 146, 3) := by decide +kernel
theorem dX10_made_50 : decode cX10_made 50 = .ok (.aload_n 0, 1) := by decide +kernel
theorem dX10_made_51 : decode cX10_made 51 = .ok (.getfield 13, 3) := by decide +kernel
theorem dX10_made_54 : decode cX10_made 54 = .ok (.iload_n 2, 1) := by decide +kernel
theorem dX10_made_55 : decode cX10_made 55 = .ok (.iaload, 1) := by decide +kernel
theorem dX10_made_56 : decode cX10_made 56 = .ok (.iastore, 1) := by decide +kernel
theorem dX10_made_57 : decode cX10_made 57 = .ok (.aload_n 0, 1) := by decide +kernel
theorem dX10_made_58 : decode cX10_made 58 = .ok (.getfield 66, 3) := by decide +kernel
theorem dX10_made_61 : decode cX10_made 61 = .ok (.aload_n 0, 1) := by decide +kernel
theorem dX10_made_62 : decode cX10_made 62 = .ok (.getfield 146, 3) := by decide +kernel
theorem dX10_made_65 : decode cX10_made 65 = .ok (.iconst 0, 1) := by decide +kernel
theorem dX10_made_66 : decode cX10_made 66 = .ok (.iastore, 1) := by decide +kernel
theorem dX10_made_67 : decode cX10_made 67 = .ok (.aload_n 0, 1) := by decide +kernel
theorem dX10_made_68 : decode cX10_made 68 = .ok (.getfield 69, 3) := by decide +kernel
theorem dX10_made_71 : decode cX10_made 71 = .ok (.aload_n 0, 1) := by decide +kernel
theorem dX10_made_72 : decode cX10_made 72 = .ok (.getfield 146, 3) := by decide +kernel
theorem dX10_made_75 : decode cX10_made 75 = .ok (.iconst 0, 1) := by decide +kernel
theorem dX10_made_76 : decode cX10_made 76 = .ok (.iastore, 1) := by decide +kernel
theorem dX10_made_77 : decode cX10_made 77 = .ok (.aload_n 0, 1) := by decide +kernel
theorem dX10_made_78 : decode cX10_made 78 = .ok (.getfield 72, 3) := by decide +kernel
theorem dX10_made_81 : decode cX10_made 81 = .ok (.aload_n 0, 1) := by decide +kernel
theorem dX10_made_82 : decode cX10_made 82 = .ok (.getfield 146, 3) := by decide +kernel
theorem dX10_made_85 : decode cX10_made 85 = .ok (.iconst 0, 1) := by decide +kernel
theorem dX10_made_86 : decode cX10_made 86 = .ok (.iastore, 1) := by decide +kernel
theorem dX10_made_87 : decode cX10_made 87 = .ok (.aload_n 0, 1) := by decide +kernel
theorem dX10_made_88 : decode cX10_made 88 = .ok (.getfield 75, 3) := by decide +kernel
theorem dX10_made_91 : decode cX10_made 91 = .ok (.aload_n 0, 1) := by decide +kernel
theorem dX10_made_92 : decode cX10_made 92 = .ok (.getfield 146, 3) := by decide +kernel
theorem dX10_made_95 : decode cX10_made 95 = .ok (.iconst 0, 1) := by decide +kernel
theorem dX10_made_96 : decode cX10_made 96 = .ok (.iastore, 1) := by decide +kernel
theorem dX10_made_97 : decode cX10_made 97 = .ok (.aload_n 0, 1) := by decide +kernel
theorem dX10_made_98 : decode cX10_made 98 = .ok (.dup, 1) := by decide +kernel
theorem dX10_made_99 : decode cX10_made 99 = .ok (.getfield 146, 3) := by decide +kernel
theorem dX10_made_102 : decode cX10_made 102 = .ok (.iconst 1, 1) := by decide +kernel
theorem dX10_made_103 : decode cX10_made 103 = .ok (.iadd, 1) := by decide +kernel
theorem dX10_made_104 : decode cX10_made 104 = .ok (.putfield 146, 3) := by decide +kernel
theorem dX10_made_107 : decode cX10_made 107 = .ok (.aload_n 0, 1) := by decide +kernel
theorem dX10_made_108 : decode cX10_made 108 = .ok (.getfield 146, 3) := by decide +kernel
theorem dX10_made_111 : decode cX10_made 111 = .ok (.iconst 1, 1) := by decide +kernel
theorem dX10_made_112 : decode cX10_made 112 = .ok (.isub, 1) := by decide +kernel
theorem dX10_made_113 : decode cX10_made 113 = .ok (.ireturn, 1) := by decide +kernel
theorem dX10_answer_0 : decode cX10_answer 0 = .ok (.aload_n 0, 1) := by decide +kernel
theorem dX10_answer_1 : decode cX10_answer 1 = .ok (.iload_n 1, 1) := by decide +kernel
theorem dX10_answer_2 : decode cX10_answer 2 = .ok (.iload_n 2, 1) := by decide +kernel
theorem dX10_answer_3 : decode cX10_answer 3 = .ok (.iload_n 3, 1) := by decide +kernel
theorem dX10_answer_4 : decode cX10_answer 4 = .ok (.invokevirtual 149, 3) := by decide +kernel
theorem dX10_answer_7 : decode cX10_answer 7 = .ok (.istore 5, 2) := by decide +kernel
theorem dX10_answer_9 : decode cX10_answer 9 = .ok (.iload 5, 2) := by decide +kernel
theorem dX10_answer_11 : decode cX10_answer 11 = .ok (.ifCond .lt 12, 3) := by decide +kernel
theorem dX10_answer_14 : decode cX10_answer 14 = .ok (.aload_n 0, 1) := by decide +kernel
theorem dX10_answer_15 : decode cX10_answer 15 = .ok (.getfield 66, 3) := by decide +kernel
theorem dX10_answer_18 : decode cX10_answer 18 = .ok (.iload 5, 2) := by decide +kernel
theorem dX10_answer_20 : decode cX10_answer 20 = .ok (.iload 4, 2) := by decide +kernel
theorem dX10_answer_22 : decode cX10_answer 22 = .ok (.iastore, 1) := by decide +kernel
theorem dX10_answer_23 : decode cX10_answer 23 = .ok (.return_, 1) := by decide +kernel
theorem dX10_send_0 : decode cX10_send 0 = .ok (.aload_n 0, 1) := by decide +kernel
theorem dX10_send_1 : decode cX10_send 1 = .ok (.getfield 41, 3) := by decide +kernel
theorem dX10_send_4 : decode cX10_send 4 = .ok (.iconst 5, 1) := by decide +kernel
theorem dX10_send_5 : decode cX10_send 5 = .ok (.iload_n 1, 1) := by decide +kernel
theorem dX10_send_6 : decode cX10_send 6 = .ok (.imul, 1) := by decide +kernel
theorem dX10_send_7 : decode cX10_send 7 = .ok (.iload_n 2, 1) := by decide +kernel
theorem dX10_send_8 : decode cX10_send 8 = .ok (.iadd, 1) := by decide +kernel
theorem dX10_send_9 : decode cX10_send 9 = .ok (.iaload, 1) := by decide +kernel
theorem dX10_send_10 : decode cX10_send 10 = .ok (.iconst 1, 1) := by decide +kernel
theorem dX10_send_11 : decode cX10_send 11 = .ok (.isub, 1) := by decide +kernel
theorem dX10_send_12 : decode cX10_send 12 = .ok (.istore_n 3, 1) := by decide +kernel
theorem dX10_send_13 : decode cX10_send 13 = .ok (.iload_n 3, 1) := by decide +kernel
theorem dX10_send_14 : decode cX10_send 14 = .ok (.aload_n 0, 1) := by decide +kernel
theorem dX10_send_15 : decode cX10_send 15 = .ok (.getfield 20, 3) := by decide +kernel
theorem dX10_send_18 : decode cX10_send 18 = .ok (.iload_n 1, 1) := by decide +kernel
theorem dX10_send_19 : decode cX10_send 19 = .ok (.iaload, 1) := by decide +kernel
theorem dX10_send_20 : decode cX10_send 20 = .ok (.if_icmp .ge 139, 3) := by decide +kernel
theorem dX10_send_23 : decode cX10_send 23 = .ok (.aload_n 0, 1) := by decide +kernel
theorem dX10_send_24 : decode cX10_send 24 = .ok (.getfield 153, 3) := by decide +kernel
theorem dX10_send_27 : decode cX10_send 27 = .ok (.bipush 60, 2) := by decide +kernel
theorem dX10_send_29 : decode cX10_send 29 = .ok (.if_icmp .ne 4, 3) := by decide +kernel
theorem dX10_send_32 : decode cX10_send 32 = .ok (.return_, 1) := by decide +kernel
theorem dX10_send_33 : decode cX10_send 33 = .ok (.aload_n 0, 1) := by decide +kernel
theorem dX10_send_34 : decode cX10_send 34 = .ok (.iconst 5, 1) := by decide +kernel
theorem dX10_send_35 : decode cX10_send 35 = .ok (.iload_n 1, 1) := by decide +kernel
theorem dX10_send_36 : decode cX10_send 36 = .ok (.iload_n 2, 1) := by decide +kernel
theorem dX10_send_37 : decode cX10_send 37 = .ok (.invokevirtual 149, 3) := by decide +kernel
theorem dX10_send_40 : decode cX10_send 40 = .ok (.istore 4, 2) := by decide +kernel
theorem dX10_send_42 : decode cX10_send 42 = .ok (.iload 4, 2) := by decide +kernel
theorem dX10_send_44 : decode cX10_send 44 = .ok (.ifCond .ge 4, 3) := by decide +kernel
theorem dX10_send_47 : decode cX10_send 47 = .ok (.return_, 1) := by decide +kernel
theorem dX10_send_48 : decode cX10_send 48 = .ok (.aload_n 0, 1) := by decide +kernel
theorem dX10_send_49 : decode cX10_send 49 = .ok (.getfield 66, 3) := by decide +kernel
theorem dX10_send_52 : decode cX10_send 52 = .ok (.iload 4, 2) := by decide +kernel
theorem dX10_send_54 : decode cX10_send 54 = .ok (.aload_n 0, 1) := by decide +kernel
theorem dX10_send_55 : decode cX10_send 55 = .ok (.getfield 20, 3) := by decide +kernel
theorem dX10_send_58 : decode cX10_send 58 = .ok (.iload_n 1, 1) := by decide +kernel
theorem dX10_send_59 : decode cX10_send 59 = .ok (.iaload, 1) := by decide +kernel
theorem dX10_send_60 : decode cX10_send 60 = .ok (.iastore, 1) := by decide +kernel
theorem dX10_send_61 : decode cX10_send 61 = .ok (.aload_n 0, 1) := by decide +kernel
theorem dX10_send_62 : decode cX10_send 62 = .ok (.getfield 69, 3) := by decide +kernel
theorem dX10_send_65 : decode cX10_send 65 = .ok (.iload 4, 2) := by decide +kernel
theorem dX10_send_67 : decode cX10_send 67 = .ok (.aload_n 0, 1) := by decide +kernel
theorem dX10_send_68 : decode cX10_send 68 = .ok (.iload_n 1, 1) := by decide +kernel
theorem dX10_send_69 : decode cX10_send 69 = .ok (.aload_n 0, 1) := by decide +kernel
theorem dX10_send_70 : decode cX10_send 70 = .ok (.getfield 20, 3) := by decide +kernel
theorem dX10_send_73 : decode cX10_send 73 = .ok (.iload_n 1, 1) := by decide +kernel
theorem dX10_send_74 : decode cX10_send 74 = .ok (.iaload, 1) := by decide +kernel
theorem dX10_send_75 : decode cX10_send 75 = .ok (.invokevirtual 156, 3) := by decide +kernel
theorem dX10_send_78 : decode cX10_send 78 = .ok (.iastore, 1) := by decide +kernel
theorem dX10_send_79 : decode cX10_send 79 = .ok (.aload_n 0, 1) := by decide +kernel
theorem dX10_send_80 : decode cX10_send 80 = .ok (.getfield 86, 3) := by decide +kernel
theorem dX10_send_83 : decode cX10_send 83 = .ok (.iload 4, 2) := by decide +kernel
theorem dX10_send_85 : decode cX10_send 85 = .ok (.aload_n 0, 1) := by decide +kernel
theorem dX10_send_86 : decode cX10_send 86 = .ok (.getfield 153, 3) := by decide +kernel
theorem dX10_send_89 : decode cX10_send 89 = .ok (.iastore, 1) := by decide +kernel
theorem dX10_send_90 : decode cX10_send 90 = .ok (.iconst 0, 1) := by decide +kernel
theorem dX10_send_91 : decode cX10_send 91 = .ok (.istore 5, 2) := by decide +kernel
theorem dX10_send_93 : decode cX10_send 93 = .ok (.iload 5, 2) := by decide +kernel
theorem dX10_send_95 : decode cX10_send 95 = .ok (.aload_n 0, 1) := by decide +kernel
theorem dX10_send_96 : decode cX10_send 96 = .ok (.getfield 20, 3) := by decide +kernel
theorem dX10_send_99 : decode cX10_send 99 = .ok (.iload_n 1, 1) := by decide +kernel
theorem dX10_send_100 : decode cX10_send 100 = .ok (.iaload, 1) := by decide +kernel
theorem dX10_send_101 : decode cX10_send 101 = .ok (.iconst 1, 1) := by decide +kernel
theorem dX10_send_102 : decode cX10_send 102 = .ok (.iadd, 1) := by decide +kernel
theorem dX10_send_103 : decode cX10_send 103 = .ok (.bipush 8, 2) := by decide +kernel
theorem dX10_send_105 : decode cX10_send 105 = .ok (.imul, 1) := by decide +kernel
theorem dX10_send_106 : decode cX10_send 106 = .ok (.if_icmp .ge 42, 3) := by decide +kernel
theorem dX10_send_109 : decode cX10_send 109 = .ok (.aload_n 0, 1) := by decide +kernel
theorem dX10_send_110 : decode cX10_send 110 = .ok (.getfield 83, 3) := by decide +kernel
theorem dX10_send_113 : decode cX10_send 113 = .ok (.aload_n 0, 1) := by decide +kernel
theorem dX10_send_114 : decode cX10_send 114 = .ok (.getfield 153, 3) := by decide +kernel
theorem dX10_send_117 : decode cX10_send 117 = .ok (.sipush 1201, 3) := by decide +kernel
theorem dX10_send_120 : decode cX10_send 120 = .ok (.imul, 1) := by decide +kernel
theorem dX10_send_121 : decode cX10_send 121 = .ok (.bipush 8, 2) := by decide +kernel
theorem dX10_send_123 : decode cX10_send 123 = .ok (.imul, 1) := by decide +kernel
theorem dX10_send_124 : decode cX10_send 124 = .ok (.iload 5, 2) := by decide +kernel
theorem dX10_send_126 : decode cX10_send 126 = .ok (.iadd, 1) := by decide +kernel
theorem dX10_send_127 : decode cX10_send 127 = .ok (.aload_n 0, 1) := by decide +kernel
theorem dX10_send_128 : decode cX10_send 128 = .ok (.getfield 48, 3) := by decide +kernel
theorem dX10_send_131 : decode cX10_send 131 = .ok (.aload_n 0, 1) := by decide +kernel
theorem dX10_send_132 : decode cX10_send 132 = .ok (.iload_n 1, 1) := by decide +kernel
theorem dX10_send_133 : decode cX10_send 133 = .ok (.iconst 0, 1) := by decide +kernel
theorem dX10_send_134 : decode cX10_send 134 = .ok (.invokevirtual 138, 3) := by decide +kernel
theorem dX10_send_137 : decode cX10_send 137 = .ok (.iload 5, 2) := by decide +kernel
theorem dX10_send_139 : decode cX10_send 139 = .ok (.iadd, 1) := by decide +kernel
theorem dX10_send_140 : decode cX10_send 140 = .ok (.iaload, 1) := by decide +kernel
theorem dX10_send_141 : decode cX10_send 141 = .ok (.iastore, 1) := by decide +kernel
theorem dX10_send_142 : decode cX10_send 142 = .ok (.iinc 5 1, 3) := by decide +kernel
theorem dX10_send_145 : decode cX10_send 145 = .ok (.goto (-52), 3) := by decide +kernel
theorem dX10_send_148 : decode cX10_send 148 = .ok (.aload_n 0, 1) := by decide +kernel
theorem dX10_send_149 : decode cX10_send 149 = .ok (.dup, 1) := by decide +kernel
theorem dX10_send_150 : decode cX10_send 150 = .ok (.getfield 153, 3) := by decide +kernel
theorem dX10_send_153 : decode cX10_send 153 = .ok (.iconst 1, 1) := by decide +kernel
theorem dX10_send_154 : decode cX10_send 154 = .ok (.iadd, 1) := by decide +kernel
theorem dX10_send_155 : decode cX10_send 155 = .ok (.putfield 153, 3) := by decide +kernel
theorem dX10_send_158 : decode cX10_send 158 = .ok (.return_, 1) := by decide +kernel
theorem dX10_send_159 : decode cX10_send 159 = .ok (.aload_n 0, 1) := by decide +kernel
theorem dX10_send_160 : decode cX10_send 160 = .ok (.iconst 2, 1) := by decide +kernel
theorem dX10_send_161 : decode cX10_send 161 = .ok (.iload_n 1, 1) := by decide +kernel
theorem dX10_send_162 : decode cX10_send 162 = .ok (.iload_n 2, 1) := by decide +kernel
theorem dX10_send_163 : decode cX10_send 163 = .ok (.invokevirtual 149, 3) := by decide +kernel
theorem dX10_send_166 : decode cX10_send 166 = .ok (.istore 4, 2) := by decide +kernel
theorem dX10_send_168 : decode cX10_send 168 = .ok (.iload 4, 2) := by decide +kernel
theorem dX10_send_170 : decode cX10_send 170 = .ok (.ifCond .ge 4, 3) := by decide +kernel
theorem dX10_send_173 : decode cX10_send 173 = .ok (.return_, 1) := by decide +kernel
theorem dX10_send_174 : decode cX10_send 174 = .ok (.aload_n 0, 1) := by decide +kernel
theorem dX10_send_175 : decode cX10_send 175 = .ok (.getfield 66, 3) := by decide +kernel
theorem dX10_send_178 : decode cX10_send 178 = .ok (.iload 4, 2) := by decide +kernel
theorem dX10_send_180 : decode cX10_send 180 = .ok (.iload_n 3, 1) := by decide +kernel
theorem dX10_send_181 : decode cX10_send 181 = .ok (.iastore, 1) := by decide +kernel
theorem dX10_send_182 : decode cX10_send 182 = .ok (.aload_n 0, 1) := by decide +kernel
theorem dX10_send_183 : decode cX10_send 183 = .ok (.getfield 69, 3) := by decide +kernel
theorem dX10_send_186 : decode cX10_send 186 = .ok (.iload 4, 2) := by decide +kernel
theorem dX10_send_188 : decode cX10_send 188 = .ok (.aload_n 0, 1) := by decide +kernel
theorem dX10_send_189 : decode cX10_send 189 = .ok (.iload_n 1, 1) := by decide +kernel
theorem dX10_send_190 : decode cX10_send 190 = .ok (.iload_n 3, 1) := by decide +kernel
theorem dX10_send_191 : decode cX10_send 191 = .ok (.invokevirtual 156, 3) := by decide +kernel
theorem dX10_send_194 : decode cX10_send 194 = .ok (.iastore, 1) := by decide +kernel
theorem dX10_send_195 : decode cX10_send 195 = .ok (.aload_n 0, 1) := by decide +kernel
theorem dX10_send_196 : decode cX10_send 196 = .ok (.getfield 72, 3) := by decide +kernel
theorem dX10_send_199 : decode cX10_send 199 = .ok (.iload 4, 2) := by decide +kernel
theorem dX10_send_201 : decode cX10_send 201 = .ok (.iconst 4, 1) := by decide +kernel
theorem dX10_send_202 : decode cX10_send 202 = .ok (.aload_n 0, 1) := by decide +kernel
theorem dX10_send_203 : decode cX10_send 203 = .ok (.getfield 23, 3) := by decide +kernel
theorem dX10_send_206 : decode cX10_send 206 = .ok (.iload_n 1, 1) := by decide +kernel
theorem dX10_send_207 : decode cX10_send 207 = .ok (.iaload, 1) := by decide +kernel
theorem dX10_send_208 : decode cX10_send 208 = .ok (.iload_n 3, 1) := by decide +kernel
theorem dX10_send_209 : decode cX10_send 209 = .ok (.isub, 1) := by decide +kernel
theorem dX10_send_210 : decode cX10_send 210 = .ok (.invokestatic 159, 3) := by decide +kernel
theorem dX10_send_213 : decode cX10_send 213 = .ok (.iastore, 1) := by decide +kernel
theorem dX10_send_214 : decode cX10_send 214 = .ok (.aload_n 0, 1) := by decide +kernel
theorem dX10_send_215 : decode cX10_send 215 = .ok (.getfield 75, 3) := by decide +kernel
theorem dX10_send_218 : decode cX10_send 218 = .ok (.iload 4, 2) := by decide +kernel
theorem dX10_send_220 : decode cX10_send 220 = .ok (.aload_n 0, 1) := by decide +kernel
theorem dX10_send_221 : decode cX10_send 221 = .ok (.getfield 26, 3) := by decide +kernel
theorem dX10_send_224 : decode cX10_send 224 = .ok (.iload_n 1, 1) := by decide +kernel
theorem dX10_send_225 : decode cX10_send 225 = .ok (.iaload, 1) := by decide +kernel
theorem dX10_send_226 : decode cX10_send 226 = .ok (.iastore, 1) := by decide +kernel
theorem dX10_send_227 : decode cX10_send 227 = .ok (.iconst 0, 1) := by decide +kernel
theorem dX10_send_228 : decode cX10_send 228 = .ok (.istore 5, 2) := by decide +kernel
theorem dX10_send_230 : decode cX10_send 230 = .ok (.iload 5, 2) := by decide +kernel
theorem dX10_send_232 : decode cX10_send 232 = .ok (.aload_n 0, 1) := by decide +kernel
theorem dX10_send_233 : decode cX10_send 233 = .ok (.getfield 72, 3) := by decide +kernel
theorem dX10_send_236 : decode cX10_send 236 = .ok (.iload 4, 2) := by decide +kernel
theorem dX10_send_238 : decode cX10_send 238 = .ok (.iaload, 1) := by decide +kernel
theorem dX10_send_239 : decode cX10_send 239 = .ok (.bipush 8, 2) := by decide +kernel
theorem dX10_send_241 : decode cX10_send 241 = .ok (.imul, 1) := by decide +kernel
theorem dX10_send_242 : decode cX10_send 242 = .ok (.if_icmp .ge 40, 3) := by decide +kernel
theorem dX10_send_245 : decode cX10_send 245 = .ok (.aload_n 0, 1) := by decide +kernel
theorem dX10_send_246 : decode cX10_send 246 = .ok (.getfield 79, 3) := by decide +kernel
theorem dX10_send_249 : decode cX10_send 249 = .ok (.iload 4, 2) := by decide +kernel
theorem dX10_send_251 : decode cX10_send 251 = .ok (.iconst 4, 1) := by decide +kernel
theorem dX10_send_252 : decode cX10_send 252 = .ok (.imul, 1) := by decide +kernel
theorem dX10_send_253 : decode cX10_send 253 = .ok (.bipush 8, 2) := by decide +kernel
theorem dX10_send_255 : decode cX10_send 255 = .ok (.imul, 1) := by decide +kernel
theorem dX10_send_256 : decode cX10_send 256 = .ok (.iload 5, 2) := by decide +kernel
theorem dX10_send_258 : decode cX10_send 258 = .ok (.iadd, 1) := by decide +kernel
theorem dX10_send_259 : decode cX10_send 259 = .ok (.aload_n 0, 1) := by decide +kernel
theorem dX10_send_260 : decode cX10_send 260 = .ok (.getfield 48, 3) := by decide +kernel
theorem dX10_send_263 : decode cX10_send 263 = .ok (.aload_n 0, 1) := by decide +kernel
theorem dX10_send_264 : decode cX10_send 264 = .ok (.iload_n 1, 1) := by decide +kernel
theorem dX10_send_265 : decode cX10_send 265 = .ok (.iload_n 3, 1) := by decide +kernel
theorem dX10_send_266 : decode cX10_send 266 = .ok (.iconst 1, 1) := by decide +kernel
theorem dX10_send_267 : decode cX10_send 267 = .ok (.iadd, 1) := by decide +kernel
theorem dX10_send_268 : decode cX10_send 268 = .ok (.invokevirtual 138, 3) := by decide +kernel
theorem dX10_send_271 : decode cX10_send 271 = .ok (.iload 5, 2) := by decide +kernel
theorem dX10_send_273 : decode cX10_send 273 = .ok (.iadd, 1) := by decide +kernel
theorem dX10_send_274 : decode cX10_send 274 = .ok (.iaload, 1) := by decide +kernel
theorem dX10_send_275 : decode cX10_send 275 = .ok (.iastore, 1) := by decide +kernel
theorem dX10_send_276 : decode cX10_send 276 = .ok (.iinc 5 1, 3) := by decide +kernel
theorem dX10_send_279 : decode cX10_send 279 = .ok (.goto (-49), 3) := by decide +kernel
theorem dX10_send_282 : decode cX10_send 282 = .ok (.return_, 1) := by decide +kernel
theorem dX10_sendAll_0 : decode cX10_sendAll 0 = .ok (.iconst 0, 1) := by decide +kernel
theorem dX10_sendAll_1 : decode cX10_sendAll 1 = .ok (.istore_n 2, 1) := by decide +kernel
theorem dX10_sendAll_2 : decode cX10_sendAll 2 = .ok (.iload_n 2, 1) := by decide +kernel
theorem dX10_sendAll_3 : decode cX10_sendAll 3 = .ok (.iconst 5, 1) := by decide +kernel
theorem dX10_sendAll_4 : decode cX10_sendAll 4 = .ok (.if_icmp .ge 20, 3) := by decide +kernel
theorem dX10_sendAll_7 : decode cX10_sendAll 7 = .ok (.iload_n 2, 1) := by decide +kernel
theorem dX10_sendAll_8 : decode cX10_sendAll 8 = .ok (.iload_n 1, 1) := by decide +kernel
theorem dX10_sendAll_9 : decode cX10_sendAll 9 = .ok (.if_icmp .eq 9, 3) := by decide +kernel
theorem dX10_sendAll_12 : decode cX10_sendAll 12 = .ok (.aload_n 0, 1) := by decide +kernel
theorem dX10_sendAll_13 : decode cX10_sendAll 13 = .ok (.iload_n 1, 1) := by decide +kernel
theorem dX10_sendAll_14 : decode cX10_sendAll 14 = .ok (.iload_n 2, 1) := by decide +kernel
theorem dX10_sendAll_15 : decode cX10_sendAll 15 = .ok (.invokevirtual 164, 3) := by decide +kernel
theorem dX10_sendAll_18 : decode cX10_sendAll 18 = .ok (.iinc 2 1, 3) := by decide +kernel
theorem dX10_sendAll_21 : decode cX10_sendAll 21 = .ok (.goto (-19), 3) := by decide +kernel
theorem dX10_sendAll_24 : decode cX10_sendAll 24 = .ok (.return_, 1) := by decide +kernel
theorem dX10_expire_0 : decode cX10_expire 0 = .ok (.aload_n 0, 1) := by decide +kernel
theorem dX10_expire_1 : decode cX10_expire 1 = .ok (.iload_n 1, 1) := by decide +kernel
theorem dX10_expire_2 : decode cX10_expire 2 = .ok (.invokestatic 168, 3) := by decide +kernel
theorem dX10_expire_5 : decode cX10_expire 5 = .ok (.ifCond .ne 7, 3) := by decide +kernel
theorem dX10_expire_8 : decode cX10_expire 8 = .ok (.iconst 1, 1) := by decide +kernel
theorem dX10_expire_9 : decode cX10_expire 9 = .ok (.goto 4, 3) := by decide +kernel
theorem dX10_expire_12 : decode cX10_expire 12 = .ok (.iconst 0, 1) := by decide +kernel
theorem dX10_expire_13 : decode cX10_expire 13 = .ok (.iconst 1, 1) := by decide +kernel
theorem dX10_expire_14 : decode cX10_expire 14 = .ok (.invokevirtual 172, 3) := by decide +kernel
theorem dX10_expire_17 : decode cX10_expire 17 = .ok (.ifCond .ne 35, 3) := by decide +kernel
theorem dX10_expire_20 : decode cX10_expire 20 = .ok (.aload_n 0, 1) := by decide +kernel
theorem dX10_expire_21 : decode cX10_expire 21 = .ok (.aload_n 0, 1) := by decide +kernel
theorem dX10_expire_22 : decode cX10_expire 22 = .ok (.getfield 7, 3) := by decide +kernel
theorem dX10_expire_25 : decode cX10_expire 25 = .ok (.iload_n 1, 1) := by decide +kernel
theorem dX10_expire_26 : decode cX10_expire 26 = .ok (.baload, 1) := by decide +kernel
theorem dX10_expire_27 : decode cX10_expire 27 = .ok (.ifCond .eq 13, 3) := by decide +kernel
theorem dX10_expire_30 : decode cX10_expire 30 = .ok (.aload_n 0, 1) := by decide +kernel
theorem dX10_expire_31 : decode cX10_expire 31 = .ok (.getfield 32, 3) := by decide +kernel
theorem dX10_expire_34 : decode cX10_expire 34 = .ok (.iload_n 1, 1) := by decide +kernel
theorem dX10_expire_35 : decode cX10_expire 35 = .ok (.iaload, 1) := by decide +kernel
theorem dX10_expire_36 : decode cX10_expire 36 = .ok (.iconst 2, 1) := by decide +kernel
theorem dX10_expire_37 : decode cX10_expire 37 = .ok (.if_icmp .ne 7, 3) := by decide +kernel
theorem dX10_expire_40 : decode cX10_expire 40 = .ok (.iconst 1, 1) := by decide +kernel
theorem dX10_expire_41 : decode cX10_expire 41 = .ok (.goto 4, 3) := by decide +kernel
theorem dX10_expire_44 : decode cX10_expire 44 = .ok (.iconst 0, 1) := by decide +kernel
theorem dX10_expire_45 : decode cX10_expire 45 = .ok (.iconst 2, 1) := by decide +kernel
theorem dX10_expire_46 : decode cX10_expire 46 = .ok (.invokevirtual 172, 3) := by decide +kernel
theorem dX10_expire_49 : decode cX10_expire 49 = .ok (.ifCond .eq 5, 3) := by decide +kernel
theorem dX10_expire_52 : decode cX10_expire 52 = .ok (.iconst 0, 1) := by decide +kernel
theorem dX10_expire_53 : decode cX10_expire 53 = .ok (.ireturn, 1) := by decide +kernel
theorem dX10_expire_54 : decode cX10_expire 54 = .ok (.aload_n 0, 1) := by decide +kernel
theorem dX10_expire_55 : decode cX10_expire 55 = .ok (.getfield 146, 3) := by decide +kernel
theorem dX10_expire_58 : decode cX10_expire 58 = .ok (.istore_n 2, 1) := by decide +kernel
theorem dX10_expire_59 : decode cX10_expire 59 = .ok (.aload_n 0, 1) := by decide +kernel
theorem dX10_expire_60 : decode cX10_expire 60 = .ok (.iload_n 1, 1) := by decide +kernel
theorem dX10_expire_61 : decode cX10_expire 61 = .ok (.invokevirtual 176, 3) := by decide +kernel
theorem dX10_expire_64 : decode cX10_expire 64 = .ok (.ifCond .ne 5, 3) := by decide +kernel
theorem dX10_expire_67 : decode cX10_expire 67 = .ok (.iconst 0, 1) := by decide +kernel
theorem dX10_expire_68 : decode cX10_expire 68 = .ok (.ireturn, 1) := by decide +kernel
theorem dX10_expire_69 : decode cX10_expire 69 = .ok (.aload_n 0, 1) := by decide +kernel
theorem dX10_expire_70 : decode cX10_expire 70 = .ok (.getfield 13, 3) := by decide +kernel
theorem dX10_expire_73 : decode cX10_expire 73 = .ok (.iload_n 1, 1) := by decide +kernel
theorem dX10_expire_74 : decode cX10_expire 74 = .ok (.dup2, 1) := by decide +kernel
theorem dX10_expire_75 : decode cX10_expire 75 = .ok (.iaload, 1) := by decide +kernel
theorem dX10_expire_76 : decode cX10_expire 76 = .ok (.iconst 1, 1) := by decide +kernel
theorem dX10_expire_77 : decode cX10_expire 77 = .ok (.iadd, 1) := by decide +kernel
theorem dX10_expire_78 : decode cX10_expire 78 = .ok (.iastore, 1) := by decide +kernel
theorem dX10_expire_79 : decode cX10_expire 79 = .ok (.aload_n 0, 1) := by decide +kernel
theorem dX10_expire_80 : decode cX10_expire 80 = .ok (.getfield 17, 3) := by decide +kernel
theorem dX10_expire_83 : decode cX10_expire 83 = .ok (.iload_n 1, 1) := by decide +kernel
theorem dX10_expire_84 : decode cX10_expire 84 = .ok (.iload_n 1, 1) := by decide +kernel
theorem dX10_expire_85 : decode cX10_expire 85 = .ok (.iastore, 1) := by decide +kernel
theorem dX10_expire_86 : decode cX10_expire 86 = .ok (.aload_n 0, 1) := by decide +kernel
theorem dX10_expire_87 : decode cX10_expire 87 = .ok (.getfield 32, 3) := by decide +kernel
theorem dX10_expire_90 : decode cX10_expire 90 = .ok (.iload_n 1, 1) := by decide +kernel
theorem dX10_expire_91 : decode cX10_expire 91 = .ok (.iconst 1, 1) := by decide +kernel
theorem dX10_expire_92 : decode cX10_expire 92 = .ok (.iastore, 1) := by decide +kernel
theorem dX10_expire_93 : decode cX10_expire 93 = .ok (.aload_n 0, 1) := by decide +kernel
theorem dX10_expire_94 : decode cX10_expire 94 = .ok (.getfield 35, 3) := by decide +kernel
theorem dX10_expire_97 : decode cX10_expire 97 = .ok (.iload_n 1, 1) := by decide +kernel
theorem dX10_expire_98 : decode cX10_expire 98 = .ok (.iconst 1, 1) := by decide +kernel
theorem dX10_expire_99 : decode cX10_expire 99 = .ok (.iload_n 1, 1) := by decide +kernel
theorem dX10_expire_100 : decode cX10_expire 100 = .ok (.ishl, 1) := by decide +kernel
theorem dX10_expire_101 : decode cX10_expire 101 = .ok (.iastore, 1) := by decide +kernel
theorem dX10_expire_102 : decode cX10_expire 102 = .ok (.iconst 0, 1) := by decide +kernel
theorem dX10_expire_103 : decode cX10_expire 103 = .ok (.istore_n 3, 1) := by decide +kernel
theorem dX10_expire_104 : decode cX10_expire 104 = .ok (.iload_n 3, 1) := by decide +kernel
theorem dX10_expire_105 : decode cX10_expire 105 = .ok (.iconst 5, 1) := by decide +kernel
theorem dX10_expire_106 : decode cX10_expire 106 = .ok (.if_icmp .ge 65, 3) := by decide +kernel
theorem dX10_expire_109 : decode cX10_expire 109 = .ok (.iload_n 3, 1) := by decide +kernel
theorem dX10_expire_110 : decode cX10_expire 110 = .ok (.iload_n 1, 1) := by decide +kernel
theorem dX10_expire_111 : decode cX10_expire 111 = .ok (.if_icmp .ne 6, 3) := by decide +kernel
theorem dX10_expire_114 : decode cX10_expire 114 = .ok (.goto 51, 3) := by decide +kernel
theorem dX10_expire_117 : decode cX10_expire 117 = .ok (.aload_n 0, 1) := by decide +kernel
theorem dX10_expire_118 : decode cX10_expire 118 = .ok (.iconst 0, 1) := by decide +kernel
theorem dX10_expire_119 : decode cX10_expire 119 = .ok (.iload_n 1, 1) := by decide +kernel
theorem dX10_expire_120 : decode cX10_expire 120 = .ok (.iload_n 3, 1) := by decide +kernel
theorem dX10_expire_121 : decode cX10_expire 121 = .ok (.invokevirtual 149, 3) := by decide +kernel
theorem dX10_expire_124 : decode cX10_expire 124 = .ok (.istore 4, 2) := by decide +kernel
theorem dX10_expire_126 : decode cX10_expire 126 = .ok (.iload 4, 2) := by decide +kernel
theorem dX10_expire_128 : decode cX10_expire 128 = .ok (.ifCond .ge 6, 3) := by decide +kernel
theorem dX10_expire_131 : decode cX10_expire 131 = .ok (.goto 34, 3) := by decide +kernel
theorem dX10_expire_134 : decode cX10_expire 134 = .ok (.aload_n 0, 1) := by decide +kernel
theorem dX10_expire_135 : decode cX10_expire 135 = .ok (.getfield 66, 3) := by decide +kernel
theorem dX10_expire_138 : decode cX10_expire 138 = .ok (.iload 4, 2) := by decide +kernel
theorem dX10_expire_140 : decode cX10_expire 140 = .ok (.aload_n 0, 1) := by decide +kernel
theorem dX10_expire_141 : decode cX10_expire 141 = .ok (.getfield 23, 3) := by decide +kernel
theorem dX10_expire_144 : decode cX10_expire 144 = .ok (.iload_n 1, 1) := by decide +kernel
theorem dX10_expire_145 : decode cX10_expire 145 = .ok (.iaload, 1) := by decide +kernel
theorem dX10_expire_146 : decode cX10_expire 146 = .ok (.iastore, 1) := by decide +kernel
theorem dX10_expire_147 : decode cX10_expire 147 = .ok (.aload_n 0, 1) := by decide +kernel
theorem dX10_expire_148 : decode cX10_expire 148 = .ok (.getfield 69, 3) := by decide +kernel
theorem dX10_expire_151 : decode cX10_expire 151 = .ok (.iload 4, 2) := by decide +kernel
theorem dX10_expire_153 : decode cX10_expire 153 = .ok (.aload_n 0, 1) := by decide +kernel
theorem dX10_expire_154 : decode cX10_expire 154 = .ok (.iload_n 1, 1) := by decide +kernel
theorem dX10_expire_155 : decode cX10_expire 155 = .ok (.aload_n 0, 1) := by decide +kernel
theorem dX10_expire_156 : decode cX10_expire 156 = .ok (.getfield 23, 3) := by decide +kernel
theorem dX10_expire_159 : decode cX10_expire 159 = .ok (.iload_n 1, 1) := by decide +kernel
theorem dX10_expire_160 : decode cX10_expire 160 = .ok (.iaload, 1) := by decide +kernel
theorem dX10_expire_161 : decode cX10_expire 161 = .ok (.invokevirtual 156, 3) := by decide +kernel
theorem dX10_expire_164 : decode cX10_expire 164 = .ok (.iastore, 1) := by decide +kernel
theorem dX10_expire_165 : decode cX10_expire 165 = .ok (.iinc 3 1, 3) := by decide +kernel
theorem dX10_expire_168 : decode cX10_expire 168 = .ok (.goto (-64), 3) := by decide +kernel
theorem dX10_expire_171 : decode cX10_expire 171 = .ok (.aload_n 0, 1) := by decide +kernel
theorem dX10_expire_172 : decode cX10_expire 172 = .ok (.getfield 146, 3) := by decide +kernel
theorem dX10_expire_175 : decode cX10_expire 175 = .ok (.iload_n 2, 1) := by decide +kernel
theorem dX10_expire_176 : decode cX10_expire 176 = .ok (.isub, 1) := by decide +kernel
theorem dX10_expire_177 : decode cX10_expire 177 = .ok (.ireturn, 1) := by decide +kernel
theorem dX10_comes_0 : decode cX10_comes 0 = .ok (.aload_n 0, 1) := by decide +kernel
theorem dX10_comes_1 : decode cX10_comes 1 = .ok (.iload_n 1, 1) := by decide +kernel
theorem dX10_comes_2 : decode cX10_comes 2 = .ok (.invokevirtual 176, 3) := by decide +kernel
theorem dX10_comes_5 : decode cX10_comes 5 = .ok (.ifCond .ne 5, 3) := by decide +kernel
theorem dX10_comes_8 : decode cX10_comes 8 = .ok (.iconst 0, 1) := by decide +kernel
theorem dX10_comes_9 : decode cX10_comes 9 = .ok (.ireturn, 1) := by decide +kernel

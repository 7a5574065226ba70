theorem d_L_unit_0 : decode b_L_unit 0 = .ok (.aload 5, 2) := by decide +kernel
theorem d_L_unit_2 : decode b_L_unit 2 = .ok (.iconst 0, 1) := by decide +kernel
theorem d_L_unit_3 : decode b_L_unit 3 = .ok (.aload_n 0, 1) := by decide +kernel
theorem d_L_unit_4 : decode b_L_unit 4 = .ok (.iload_n 1, 1) := by decide +kernel
theorem d_L_unit_5 : decode b_L_unit 5 = .ok (.iload_n 2, 1) := by decide +kernel
theorem d_L_unit_6 : decode b_L_unit 6 = .ok (.iload_n 3, 1) := by decide +kernel
theorem d_L_unit_7 : decode b_L_unit 7 = .ok (.iload 4, 2) := by decide +kernel
theorem d_L_unit_9 : decode b_L_unit 9 = .ok (.invokevirtual 7, 3) := by decide +kernel
theorem d_L_unit_12 : decode b_L_unit 12 = .ok (.i2l, 1) := by decide +kernel
theorem d_L_unit_13 : decode b_L_unit 13 = .ok (.lastore, 1) := by decide +kernel
theorem d_L_unit_14 : decode b_L_unit 14 = .ok (.goto 11, 3) := by decide +kernel
theorem d_L_unit_17 : decode b_L_unit 17 = .ok (.astore 6, 2) := by decide +kernel
theorem d_L_unit_19 : decode b_L_unit 19 = .ok (.iconst 1, 1) := by decide +kernel
theorem d_L_unit_20 : decode b_L_unit 20 = .ok (.ireturn, 1) := by decide +kernel
theorem d_L_unit_21 : decode b_L_unit 21 = .ok (.astore 6, 2) := by decide +kernel
theorem d_L_unit_23 : decode b_L_unit 23 = .ok (.iconst 2, 1) := by decide +kernel
theorem d_L_unit_24 : decode b_L_unit 24 = .ok (.ireturn, 1) := by decide +kernel
theorem d_L_unit_25 : decode b_L_unit 25 = .ok (.iconst 0, 1) := by decide +kernel
theorem d_L_unit_26 : decode b_L_unit 26 = .ok (.ireturn, 1) := by decide +kernel
theorem d_L_home_0 : decode b_L_home 0 = .ok (.aload_n 0, 1) := by decide +kernel
theorem d_L_home_1 : decode b_L_home 1 = .ok (.iload_n 1, 1) := by decide +kernel
theorem d_L_home_2 : decode b_L_home 2 = .ok (.iload_n 2, 1) := by decide +kernel
theorem d_L_home_3 : decode b_L_home 3 = .ok (.invokevirtual 17, 3) := by decide +kernel
theorem d_L_home_6 : decode b_L_home 6 = .ok (.goto 9, 3) := by decide +kernel
theorem d_L_home_9 : decode b_L_home 9 = .ok (.astore_n 3, 1) := by decide +kernel
theorem d_L_home_10 : decode b_L_home 10 = .ok (.iconst 1, 1) := by decide +kernel
theorem d_L_home_11 : decode b_L_home 11 = .ok (.ireturn, 1) := by decide +kernel
theorem d_L_home_12 : decode b_L_home 12 = .ok (.astore_n 3, 1) := by decide +kernel
theorem d_L_home_13 : decode b_L_home 13 = .ok (.iconst 2, 1) := by decide +kernel
theorem d_L_home_14 : decode b_L_home 14 = .ok (.ireturn, 1) := by decide +kernel
theorem d_L_home_15 : decode b_L_home 15 = .ok (.iconst 0, 1) := by decide +kernel
theorem d_L_home_16 : decode b_L_home 16 = .ok (.ireturn, 1) := by decide +kernel
theorem d_L_span_0 : decode b_L_span 0 = .ok (.aload_n 0, 1) := by decide +kernel
theorem d_L_span_1 : decode b_L_span 1 = .ok (.iload_n 1, 1) := by decide +kernel
theorem d_L_span_2 : decode b_L_span 2 = .ok (.invokevirtual 23, 3) := by decide +kernel
theorem d_L_span_5 : decode b_L_span 5 = .ok (.goto 6, 3) := by decide +kernel
theorem d_L_span_8 : decode b_L_span 8 = .ok (.astore_n 2, 1) := by decide +kernel
theorem d_L_span_9 : decode b_L_span 9 = .ok (.iconst 1, 1) := by decide +kernel
theorem d_L_span_10 : decode b_L_span 10 = .ok (.ireturn, 1) := by decide +kernel
theorem d_L_span_11 : decode b_L_span 11 = .ok (.iconst 0, 1) := by decide +kernel
theorem d_L_span_12 : decode b_L_span 12 = .ok (.ireturn, 1) := by decide +kernel
theorem d_L_call_0 : decode b_L_call 0 = .ok (.aload_n 3, 1) := by decide +kernel
theorem d_L_call_1 : decode b_L_call 1 = .ok (.iconst 0, 1) := by decide +kernel
theorem d_L_call_2 : decode b_L_call 2 = .ok (.aload_n 0, 1) := by decide +kernel
theorem d_L_call_3 : decode b_L_call 3 = .ok (.iload_n 1, 1) := by decide +kernel
theorem d_L_call_4 : decode b_L_call 4 = .ok (.iload_n 2, 1) := by decide +kernel
theorem d_L_call_5 : decode b_L_call 5 = .ok (.invokevirtual 27, 3) := by decide +kernel
theorem d_L_call_8 : decode b_L_call 8 = .ok (.i2l, 1) := by decide +kernel
theorem d_L_call_9 : decode b_L_call 9 = .ok (.lastore, 1) := by decide +kernel
theorem d_L_call_10 : decode b_L_call 10 = .ok (.goto 11, 3) := by decide +kernel
theorem d_L_call_13 : decode b_L_call 13 = .ok (.astore 4, 2) := by decide +kernel
theorem d_L_call_15 : decode b_L_call 15 = .ok (.iconst 1, 1) := by decide +kernel
theorem d_L_call_16 : decode b_L_call 16 = .ok (.ireturn, 1) := by decide +kernel
theorem d_L_call_17 : decode b_L_call 17 = .ok (.astore 4, 2) := by decide +kernel
theorem d_L_call_19 : decode b_L_call 19 = .ok (.iconst 2, 1) := by decide +kernel
theorem d_L_call_20 : decode b_L_call 20 = .ok (.ireturn, 1) := by decide +kernel
theorem d_L_call_21 : decode b_L_call 21 = .ok (.iconst 0, 1) := by decide +kernel
theorem d_L_call_22 : decode b_L_call 22 = .ok (.ireturn, 1) := by decide +kernel
theorem d_L_send_0 : decode b_L_send 0 = .ok (.aload_n 0, 1) := by decide +kernel
theorem d_L_send_1 : decode b_L_send 1 = .ok (.iload_n 1, 1) := by decide +kernel
theorem d_L_send_2 : decode b_L_send 2 = .ok (.iload_n 2, 1) := by decide +kernel
theorem d_L_send_3 : decode b_L_send 3 = .ok (.invokevirtual 31, 3) := by decide +kernel
theorem d_L_send_6 : decode b_L_send 6 = .ok (.goto 9, 3) := by decide +kernel
theorem d_L_send_9 : decode b_L_send 9 = .ok (.astore_n 3, 1) := by decide +kernel
theorem d_L_send_10 : decode b_L_send 10 = .ok (.iconst 1, 1) := by decide +kernel
theorem d_L_send_11 : decode b_L_send 11 = .ok (.ireturn, 1) := by decide +kernel
theorem d_L_send_12 : decode b_L_send 12 = .ok (.astore_n 3, 1) := by decide +kernel
theorem d_L_send_13 : decode b_L_send 13 = .ok (.iconst 2, 1) := by decide +kernel
theorem d_L_send_14 : decode b_L_send 14 = .ok (.ireturn, 1) := by decide +kernel
theorem d_L_send_15 : decode b_L_send 15 = .ok (.iconst 0, 1) := by decide +kernel
theorem d_L_send_16 : decode b_L_send 16 = .ok (.ireturn, 1) := by decide +kernel
theorem d_L_release_0 : decode b_L_release 0 = .ok (.aload_n 3, 1) := by decide +kernel
theorem d_L_release_1 : decode b_L_release 1 = .ok (.iconst 0, 1) := by decide +kernel
theorem d_L_release_2 : decode b_L_release 2 = .ok (.aload_n 0, 1) := by decide +kernel
theorem d_L_release_3 : decode b_L_release 3 = .ok (.iload_n 1, 1) := by decide +kernel
theorem d_L_release_4 : decode b_L_release 4 = .ok (.iload_n 2, 1) := by decide +kernel
theorem d_L_release_5 : decode b_L_release 5 = .ok (.invokevirtual 36, 3) := by decide +kernel
theorem d_L_release_8 : decode b_L_release 8 = .ok (.i2l, 1) := by decide +kernel
theorem d_L_release_9 : decode b_L_release 9 = .ok (.lastore, 1) := by decide +kernel
theorem d_L_release_10 : decode b_L_release 10 = .ok (.goto 15, 3) := by decide +kernel
theorem d_L_release_13 : decode b_L_release 13 = .ok (.astore 4, 2) := by decide +kernel
theorem d_L_release_15 : decode b_L_release 15 = .ok (.iconst 1, 1) := by decide +kernel
theorem d_L_release_16 : decode b_L_release 16 = .ok (.ireturn, 1) := by decide +kernel
theorem d_L_release_17 : decode b_L_release 17 = .ok (.astore 4, 2) := by decide +kernel
theorem d_L_release_19 : decode b_L_release 19 = .ok (.iconst 2, 1) := by decide +kernel
theorem d_L_release_20 : decode b_L_release 20 = .ok (.ireturn, 1) := by decide +kernel
theorem d_L_release_21 : decode b_L_release 21 = .ok (.astore 4, 2) := by decide +kernel
theorem d_L_release_23 : decode b_L_release 23 = .ok (.iconst 3, 1) := by decide +kernel
theorem d_L_release_24 : decode b_L_release 24 = .ok (.ireturn, 1) := by decide +kernel
theorem d_L_release_25 : decode b_L_release 25 = .ok (.iconst 0, 1) := by decide +kernel
theorem d_L_release_26 : decode b_L_release 26 = .ok (.ireturn, 1) := by decide +kernel
theorem d_L_back_0 : decode b_L_back 0 = .ok (.aload_n 0, 1) := by decide +kernel
theorem d_L_back_1 : decode b_L_back 1 = .ok (.iload_n 1, 1) := by decide +kernel
theorem d_L_back_2 : decode b_L_back 2 = .ok (.invokevirtual 40, 3) := by decide +kernel
theorem d_L_back_5 : decode b_L_back 5 = .ok (.goto 9, 3) := by decide +kernel
theorem d_L_back_8 : decode b_L_back 8 = .ok (.astore_n 2, 1) := by decide +kernel
theorem d_L_back_9 : decode b_L_back 9 = .ok (.iconst 1, 1) := by decide +kernel
theorem d_L_back_10 : decode b_L_back 10 = .ok (.ireturn, 1) := by decide +kernel
theorem d_L_back_11 : decode b_L_back 11 = .ok (.astore_n 2, 1) := by decide +kernel
theorem d_L_back_12 : decode b_L_back 12 = .ok (.iconst 2, 1) := by decide +kernel
theorem d_L_back_13 : decode b_L_back 13 = .ok (.ireturn, 1) := by decide +kernel
theorem d_L_back_14 : decode b_L_back 14 = .ok (.iconst 0, 1) := by decide +kernel
theorem d_L_back_15 : decode b_L_back 15 = .ok (.ireturn, 1) := by decide +kernel
theorem d_L_use_0 : decode b_L_use 0 = .ok (.aload 4, 2) := by decide +kernel
theorem d_L_use_2 : decode b_L_use 2 = .ok (.iconst 0, 1) := by decide +kernel
theorem d_L_use_3 : decode b_L_use 3 = .ok (.aload_n 0, 1) := by decide +kernel
theorem d_L_use_4 : decode b_L_use 4 = .ok (.iload_n 1, 1) := by decide +kernel
theorem d_L_use_5 : decode b_L_use 5 = .ok (.iload_n 2, 1) := by decide +kernel
theorem d_L_use_6 : decode b_L_use 6 = .ok (.iload_n 3, 1) := by decide +kernel
theorem d_L_use_7 : decode b_L_use 7 = .ok (.invokevirtual 43, 3) := by decide +kernel
theorem d_L_use_10 : decode b_L_use 10 = .ok (.i2l, 1) := by decide +kernel
theorem d_L_use_11 : decode b_L_use 11 = .ok (.lastore, 1) := by decide +kernel
theorem d_L_use_12 : decode b_L_use 12 = .ok (.goto 19, 3) := by decide +kernel
theorem d_L_use_15 : decode b_L_use 15 = .ok (.astore 5, 2) := by decide +kernel
theorem d_L_use_17 : decode b_L_use 17 = .ok (.iconst 1, 1) := by decide +kernel
theorem d_L_use_18 : decode b_L_use 18 = .ok (.ireturn, 1) := by decide +kernel
theorem d_L_use_19 : decode b_L_use 19 = .ok (.astore 5, 2) := by decide +kernel
theorem d_L_use_21 : decode b_L_use 21 = .ok (.iconst 2, 1) := by decide +kernel
theorem d_L_use_22 : decode b_L_use 22 = .ok (.ireturn, 1) := by decide +kernel
theorem d_L_use_23 : decode b_L_use 23 = .ok (.astore 5, 2) := by decide +kernel
theorem d_L_use_25 : decode b_L_use 25 = .ok (.iconst 3, 1) := by decide +kernel
theorem d_L_use_26 : decode b_L_use 26 = .ok (.ireturn, 1) := by decide +kernel
theorem d_L_use_27 : decode b_L_use 27 = .ok (.astore 5, 2) := by decide +kernel
theorem d_L_use_29 : decode b_L_use 29 = .ok (.iconst 4, 1) := by decide +kernel
theorem d_L_use_30 : decode b_L_use 30 = .ok (.ireturn, 1) := by decide +kernel
theorem d_L_use_31 : decode b_L_use 31 = .ok (.iconst 0, 1) := by decide +kernel
theorem d_L_use_32 : decode b_L_use 32 = .ok (.ireturn, 1) := by decide +kernel
theorem d_L_deliver_0 : decode b_L_deliver 0 = .ok (.aload_n 3, 1) := by decide +kernel
theorem d_L_deliver_1 : decode b_L_deliver 1 = .ok (.iconst 0, 1) := by decide +kernel
theorem d_L_deliver_2 : decode b_L_deliver 2 = .ok (.aload_n 0, 1) := by decide +kernel
theorem d_L_deliver_3 : decode b_L_deliver 3 = .ok (.iload_n 1, 1) := by decide +kernel
theorem d_L_deliver_4 : decode b_L_deliver 4 = .ok (.iload_n 2, 1) := by decide +kernel
theorem d_L_deliver_5 : decode b_L_deliver 5 = .ok (.invokevirtual 47, 3) := by decide +kernel
theorem d_L_deliver_8 : decode b_L_deliver 8 = .ok (.i2l, 1) := by decide +kernel
theorem d_L_deliver_9 : decode b_L_deliver 9 = .ok (.lastore, 1) := by decide +kernel
theorem d_L_deliver_10 : decode b_L_deliver 10 = .ok (.goto 15, 3) := by decide +kernel
theorem d_L_deliver_13 : decode b_L_deliver 13 = .ok (.astore 4, 2) := by decide +kernel
theorem d_L_deliver_15 : decode b_L_deliver 15 = .ok (.iconst 1, 1) := by decide +kernel
theorem d_L_deliver_16 : decode b_L_deliver 16 = .ok (.ireturn, 1) := by decide +kernel
theorem d_L_deliver_17 : decode b_L_deliver 17 = .ok (.astore 4, 2) := by decide +kernel
theorem d_L_deliver_19 : decode b_L_deliver 19 = .ok (.iconst 2, 1) := by decide +kernel
theorem d_L_deliver_20 : decode b_L_deliver 20 = .ok (.ireturn, 1) := by decide +kernel
theorem d_L_deliver_21 : decode b_L_deliver 21 = .ok (.astore 4, 2) := by decide +kernel
theorem d_L_deliver_23 : decode b_L_deliver 23 = .ok (.iconst 3, 1) := by decide +kernel
theorem d_L_deliver_24 : decode b_L_deliver 24 = .ok (.ireturn, 1) := by decide +kernel
theorem d_L_deliver_25 : decode b_L_deliver 25 = .ok (.iconst 0, 1) := by decide +kernel
theorem d_L_deliver_26 : decode b_L_deliver 26 = .ok (.ireturn, 1) := by decide +kernel
theorem d_L_check_0 : decode b_L_check 0 = .ok (.aload_n 0, 1) := by decide +kernel
theorem d_L_check_1 : decode b_L_check 1 = .ok (.iload_n 1, 1) := by decide +kernel
theorem d_L_check_2 : decode b_L_check 2 = .ok (.iload_n 2, 1) := by decide +kernel
theorem d_L_check_3 : decode b_L_check 3 = .ok (.invokevirtual 50, 3) := by decide +kernel
theorem d_L_check_6 : decode b_L_check 6 = .ok (.goto 12, 3) := by decide +kernel
theorem d_L_check_9 : decode b_L_check 9 = .ok (.astore_n 3, 1) := by decide +kernel
theorem d_L_check_10 : decode b_L_check 10 = .ok (.iconst 1, 1) := by decide +kernel
theorem d_L_check_11 : decode b_L_check 11 = .ok (.ireturn, 1) := by decide +kernel
theorem d_L_check_12 : decode b_L_check 12 = .ok (.astore_n 3, 1) := by decide +kernel
theorem d_L_check_13 : decode b_L_check 13 = .ok (.iconst 2, 1) := by decide +kernel
theorem d_L_check_14 : decode b_L_check 14 = .ok (.ireturn, 1) := by decide +kernel
theorem d_L_check_15 : decode b_L_check 15 = .ok (.astore_n 3, 1) := by decide +kernel
theorem d_L_check_16 : decode b_L_check 16 = .ok (.iconst 3, 1) := by decide +kernel
theorem d_L_check_17 : decode b_L_check 17 = .ok (.ireturn, 1) := by decide +kernel
theorem d_L_check_18 : decode b_L_check 18 = .ok (.iconst 0, 1) := by decide +kernel
theorem d_L_check_19 : decode b_L_check 19 = .ok (.ireturn, 1) := by decide +kernel
theorem d_L_inside_0 : decode b_L_inside 0 = .ok (.aload_n 0, 1) := by decide +kernel
theorem d_L_inside_1 : decode b_L_inside 1 = .ok (.iload_n 1, 1) := by decide +kernel
theorem d_L_inside_2 : decode b_L_inside 2 = .ok (.iload_n 2, 1) := by decide +kernel
theorem d_L_inside_3 : decode b_L_inside 3 = .ok (.invokevirtual 53, 3) := by decide +kernel
theorem d_L_inside_6 : decode b_L_inside 6 = .ok (.goto 12, 3) := by decide +kernel
theorem d_L_inside_9 : decode b_L_inside 9 = .ok (.astore_n 3, 1) := by decide +kernel
theorem d_L_inside_10 : decode b_L_inside 10 = .ok (.iconst 1, 1) := by decide +kernel
theorem d_L_inside_11 : decode b_L_inside 11 = .ok (.ireturn, 1) := by decide +kernel
theorem d_L_inside_12 : decode b_L_inside 12 = .ok (.astore_n 3, 1) := by decide +kernel
theorem d_L_inside_13 : decode b_L_inside 13 = .ok (.iconst 2, 1) := by decide +kernel
theorem d_L_inside_14 : decode b_L_inside 14 = .ok (.ireturn, 1) := by decide +kernel
theorem d_L_inside_15 : decode b_L_inside 15 = .ok (.astore_n 3, 1) := by decide +kernel
theorem d_L_inside_16 : decode b_L_inside 16 = .ok (.iconst 3, 1) := by decide +kernel
theorem d_L_inside_17 : decode b_L_inside 17 = .ok (.ireturn, 1) := by decide +kernel
theorem d_L_inside_18 : decode b_L_inside 18 = .ok (.iconst 0, 1) := by decide +kernel
theorem d_L_inside_19 : decode b_L_inside 19 = .ok (.ireturn, 1) := by decide +kernel
theorem d_L_report_0 : decode b_L_report 0 = .ok (.aload_n 0, 1) := by decide +kernel
theorem d_L_report_1 : decode b_L_report 1 = .ok (.iload_n 1, 1) := by decide +kernel
theorem d_L_report_2 : decode b_L_report 2 = .ok (.iload_n 2, 1) := by decide +kernel
theorem d_L_report_3 : decode b_L_report 3 = .ok (.invokevirtual 56, 3) := by decide +kernel
theorem d_L_report_6 : decode b_L_report 6 = .ok (.goto 9, 3) := by decide +kernel
theorem d_L_report_9 : decode b_L_report 9 = .ok (.astore_n 3, 1) := by decide +kernel
theorem d_L_report_10 : decode b_L_report 10 = .ok (.iconst 1, 1) := by decide +kernel
theorem d_L_report_11 : decode b_L_report 11 = .ok (.ireturn, 1) := by decide +kernel
theorem d_L_report_12 : decode b_L_report 12 = .ok (.astore_n 3, 1) := by decide +kernel
theorem d_L_report_13 : decode b_L_report 13 = .ok (.iconst 2, 1) := by decide +kernel
theorem d_L_report_14 : decode b_L_report 14 = .ok (.ireturn, 1) := by decide +kernel
theorem d_L_report_15 : decode b_L_report 15 = .ok (.iconst 0, 1) := by decide +kernel
theorem d_L_report_16 : decode b_L_report 16 = .ok (.ireturn, 1) := by decide +kernel
theorem d_L_watch_0 : decode b_L_watch 0 = .ok (.aload_n 0, 1) := by decide +kernel
theorem d_L_watch_1 : decode b_L_watch 1 = .ok (.iload_n 1, 1) := by decide +kernel
theorem d_L_watch_2 : decode b_L_watch 2 = .ok (.iload_n 2, 1) := by decide +kernel
theorem d_L_watch_3 : decode b_L_watch 3 = .ok (.invokevirtual 59, 3) := by decide +kernel
theorem d_L_watch_6 : decode b_L_watch 6 = .ok (.goto 12, 3) := by decide +kernel
theorem d_L_watch_9 : decode b_L_watch 9 = .ok (.astore_n 3, 1) := by decide +kernel
theorem d_L_watch_10 : decode b_L_watch 10 = .ok (.iconst 1, 1) := by decide +kernel
theorem d_L_watch_11 : decode b_L_watch 11 = .ok (.ireturn, 1) := by decide +kernel
theorem d_L_watch_12 : decode b_L_watch 12 = .ok (.astore_n 3, 1) := by decide +kernel
theorem d_L_watch_13 : decode b_L_watch 13 = .ok (.iconst 2, 1) := by decide +kernel
theorem d_L_watch_14 : decode b_L_watch 14 = .ok (.ireturn, 1) := by decide +kernel
theorem d_L_watch_15 : decode b_L_watch 15 = .ok (.astore_n 3, 1) := by decide +kernel
theorem d_L_watch_16 : decode b_L_watch 16 = .ok (.iconst 3, 1) := by decide +kernel
theorem d_L_watch_17 : decode b_L_watch 17 = .ok (.ireturn, 1) := by decide +kernel
theorem d_L_watch_18 : decode b_L_watch 18 = .ok (.iconst 0, 1) := by decide +kernel
theorem d_L_watch_19 : decode b_L_watch 19 = .ok (.ireturn, 1) := by decide +kernel
theorem d_L_tick_0 : decode b_L_tick 0 = .ok (.aload_n 2, 1) := by decide +kernel
theorem d_L_tick_1 : decode b_L_tick 1 = .ok (.iconst 0, 1) := by decide +kernel
theorem d_L_tick_2 : decode b_L_tick 2 = .ok (.aload_n 0, 1) := by decide +kernel
theorem d_L_tick_3 : decode b_L_tick 3 = .ok (.iload_n 1, 1) := by decide +kernel
theorem d_L_tick_4 : decode b_L_tick 4 = .ok (.invokevirtual 62, 3) := by decide +kernel
theorem d_L_tick_7 : decode b_L_tick 7 = .ok (.i2l, 1) := by decide +kernel
theorem d_L_tick_8 : decode b_L_tick 8 = .ok (.lastore, 1) := by decide +kernel
theorem d_L_tick_9 : decode b_L_tick 9 = .ok (.goto 6, 3) := by decide +kernel
theorem d_L_tick_12 : decode b_L_tick 12 = .ok (.astore_n 3, 1) := by decide +kernel
theorem d_L_tick_13 : decode b_L_tick 13 = .ok (.iconst 1, 1) := by decide +kernel
theorem d_L_tick_14 : decode b_L_tick 14 = .ok (.ireturn, 1) := by decide +kernel
theorem d_L_tick_15 : decode b_L_tick 15 = .ok (.iconst 0, 1) := by decide +kernel
theorem d_L_tick_16 : decode b_L_tick 16 = .ok (.ireturn, 1) := by decide +kernel
theorem d_L_unitAt_0 : decode b_L_unitAt 0 = .ok (.aload_n 3, 1) := by decide +kernel
theorem d_L_unitAt_1 : decode b_L_unitAt 1 = .ok (.iconst 0, 1) := by decide +kernel
theorem d_L_unitAt_2 : decode b_L_unitAt 2 = .ok (.aload_n 0, 1) := by decide +kernel
theorem d_L_unitAt_3 : decode b_L_unitAt 3 = .ok (.iload_n 1, 1) := by decide +kernel
theorem d_L_unitAt_4 : decode b_L_unitAt 4 = .ok (.iload_n 2, 1) := by decide +kernel
theorem d_L_unitAt_5 : decode b_L_unitAt 5 = .ok (.invokevirtual 66, 3) := by decide +kernel
theorem d_L_unitAt_8 : decode b_L_unitAt 8 = .ok (.i2l, 1) := by decide +kernel
theorem d_L_unitAt_9 : decode b_L_unitAt 9 = .ok (.lastore, 1) := by decide +kernel
theorem d_L_unitAt_10 : decode b_L_unitAt 10 = .ok (.goto 7, 3) := by decide +kernel
theorem d_L_unitAt_13 : decode b_L_unitAt 13 = .ok (.astore 4, 2) := by decide +kernel
theorem d_L_unitAt_15 : decode b_L_unitAt 15 = .ok (.iconst 1, 1) := by decide +kernel
theorem d_L_unitAt_16 : decode b_L_unitAt 16 = .ok (.ireturn, 1) := by decide +kernel
theorem d_L_unitAt_17 : decode b_L_unitAt 17 = .ok (.iconst 0, 1) := by decide +kernel
theorem d_L_unitAt_18 : decode b_L_unitAt 18 = .ok (.ireturn, 1) := by decide +kernel
theorem d_L_incidentAt_0 : decode b_L_incidentAt 0 = .ok (.aload_n 3, 1) := by decide +kernel
theorem d_L_incidentAt_1 : decode b_L_incidentAt 1 = .ok (.iconst 0, 1) := by decide +kernel
theorem d_L_incidentAt_2 : decode b_L_incidentAt 2 = .ok (.aload_n 0, 1) := by decide +kernel
theorem d_L_incidentAt_3 : decode b_L_incidentAt 3 = .ok (.iload_n 1, 1) := by decide +kernel
theorem d_L_incidentAt_4 : decode b_L_incidentAt 4 = .ok (.iload_n 2, 1) := by decide +kernel
theorem d_L_incidentAt_5 : decode b_L_incidentAt 5 = .ok (.invokevirtual 69, 3) := by decide +kernel
theorem d_L_incidentAt_8 : decode b_L_incidentAt 8 = .ok (.i2l, 1) := by decide +kernel
theorem d_L_incidentAt_9 : decode b_L_incidentAt 9 = .ok (.lastore, 1) := by decide +kernel
theorem d_L_incidentAt_10 : decode b_L_incidentAt 10 = .ok (.goto 7, 3) := by decide +kernel
theorem d_L_incidentAt_13 : decode b_L_incidentAt 13 = .ok (.astore 4, 2) := by decide +kernel
theorem d_L_incidentAt_15 : decode b_L_incidentAt 15 = .ok (.iconst 1, 1) := by decide +kernel
theorem d_L_incidentAt_16 : decode b_L_incidentAt 16 = .ok (.ireturn, 1) := by decide +kernel
theorem d_L_incidentAt_17 : decode b_L_incidentAt 17 = .ok (.iconst 0, 1) := by decide +kernel
theorem d_L_incidentAt_18 : decode b_L_incidentAt 18 = .ok (.ireturn, 1) := by decide +kernel
theorem d_L_count_0 : decode b_L_count 0 = .ok (.aload_n 2, 1) := by decide +kernel
theorem d_L_count_1 : decode b_L_count 1 = .ok (.iconst 0, 1) := by decide +kernel
theorem d_L_count_2 : decode b_L_count 2 = .ok (.aload_n 0, 1) := by decide +kernel
theorem d_L_count_3 : decode b_L_count 3 = .ok (.iload_n 1, 1) := by decide +kernel
theorem d_L_count_4 : decode b_L_count 4 = .ok (.invokevirtual 72, 3) := by decide +kernel
theorem d_L_count_7 : decode b_L_count 7 = .ok (.i2l, 1) := by decide +kernel
theorem d_L_count_8 : decode b_L_count 8 = .ok (.lastore, 1) := by decide +kernel
theorem d_L_count_9 : decode b_L_count 9 = .ok (.goto 6, 3) := by decide +kernel
theorem d_L_count_12 : decode b_L_count 12 = .ok (.astore_n 3, 1) := by decide +kernel
theorem d_L_count_13 : decode b_L_count 13 = .ok (.iconst 1, 1) := by decide +kernel
theorem d_L_count_14 : decode b_L_count 14 = .ok (.ireturn, 1) := by decide +kernel
theorem d_L_count_15 : decode b_L_count 15 = .ok (.iconst 0, 1) := by decide +kernel
theorem d_L_count_16 : decode b_L_count 16 = .ok (.ireturn, 1) := by decide +kernel
def wp_L_unit (xR : St) (xU : St) (xI : St) (xW : St) (xo : (Nat → Int64)) (a1 : Int32) (a2 : Int32) (a3 : Int32) (a4 : Int32) (post : Int32 → (St × St × St × St × (Nat → Int64)) → Prop) : Prop := wp_R_unit xR xU xI xW a1 a2 a3 a4 (fun r9 u9 => (vp_in (0 : Int32) 1 ∧ (post (0 : Int32) (u9.1, u9.2.1, u9.2.2.1, u9.2.2.2, (vp_updL xo (0 : Int32).toNatClampNeg r9.toInt64))))) (fun E u9 => ((E = "java/lang/IndexOutOfBoundsException" → (post (1 : Int32) (u9.1, u9.2.1, u9.2.2.1, u9.2.2.2, xo))) ∧ (¬ E = "java/lang/IndexOutOfBoundsException" → ((E = "java/lang/UnsupportedOperationException" → (post (2 : Int32) (u9.1, u9.2.1, u9.2.2.1, u9.2.2.2, xo))) ∧ (¬ E = "java/lang/UnsupportedOperationException" → (False))))))
set_option maxHeartbeats 4000000 in
set_option maxRecDepth 100000 in
theorem c_L_unit (l : Launch) (hl9 : l.stackTraces = false) (sa : Nat → Nat) (dC : Nat → ClassId) (dI : Nat → Nat → Nat) (cI cZ cL : ClassId) (qR : Nat → Nat) (qU : Nat → Nat) (qI : Nat → Nat) (qW : Nat → Nat) (qo : Nat) (sz : Nat) (xR : St) (xU : St) (xI : St) (xW : St) (xo : (Nat → Int64)) (a1 : Int32) (a2 : Int32) (a3 : Int32) (a4 : Int32) (post : Int32 → (St × St × St × St × (Nat → Int64)) → Prop) (hw : wp_L_unit xR xU xI xW xo a1 a2 a3 a4 post) : Met l y_L_unit w_L_unit ({ frames := 8, cells := 1, slots := 6, locals := 149 } : Room) (va_Pc [.ref (qR 0), .int a1, .int a2, .int a3, .int a4, .ref qo] (fun U => (xP (dC, dI) vwCl [(cI, .int), (cZ, .boolean), (cL, .long)] (wd_RUIWo qR qU qI qW qo cI cZ cL xR xU xI xW xo) sz U ∧ xE "ReleaseRows" xTx sa (va_A (wd_RUIWo qR qU qI qW qo cI cZ cL xR xU xI xW xo) sz) U.heap U) ∧ xN U)) (va_Qi post (xB (dC, dI) vwCl [(cI, .int), (cZ, .boolean), (cL, .long)] (va_A (wd_RUIWo qR qU qI qW qo cI cZ cL xR xU xI xW xo) sz) (fun u => (wd_RUIWo qR qU qI qW qo cI cZ cL u.1 u.2.1 u.2.2.1 u.2.2.2.1 u.2.2.2.2))) (va_A (wd_RUIWo qR qU qI qW qo cI cZ cL xR xU xI xW xo) sz)) 1 6 (va_A (wd_RUIWo qR qU qI qW qo cI cZ cL xR xU xI xW xo) sz) := by
  refine x_ofN (cc := b_L_unit) (maxL := 7) (by decide) rfl (Nat.le_of_ble_eq_true rfl) (fun p e s m below meth c A Q hx hb hml hts hown htab hK hA hP hD hS hE hN hret ls hl => ?_)
  have hl : lv_has ls 7 [(0, .ref (qR 0)), (1, .int a1), (2, .int a2), (3, .int a3), (4, .int a4), (5, .ref qo)] := hl
  unfold wp_L_unit at hw
  refine lv_aload hx hb d_L_unit_0 (lv_at hl 5 rfl) ?_
  refine lv_iconst (v := (0 : Int32)) hx hb d_L_unit_2 (by decide) ?_
  refine lv_aload_n hx hb d_L_unit_3 rfl (lv_at hl 0 rfl) ?_
  refine lv_iload_n hx hb d_L_unit_4 rfl (lv_at hl 1 rfl) ?_
  refine lv_iload_n hx hb d_L_unit_5 rfl (lv_at hl 2 rfl) ?_
  refine lv_iload_n hx hb d_L_unit_6 rfl (lv_at hl 3 rfl) ?_
  refine lv_iload hx hb d_L_unit_7 (lv_at hl 4 rfl) ?_
  refine x_cxi (w2 := fun u9 => (wd_RUIWo qR qU qI qW qo cI cZ cL u9.1 u9.2.1 u9.2.2.1 u9.2.2.2 xo)) (v2 := fun u9 => (wd_RUIWo qR qU qI qW qo cI cZ cL u9.1 u9.2.1 u9.2.2.1 u9.2.2.2 xo)) [0, 1, 2, 3, 4, 5, 6, 7, 8, 9, 10, 11, 12, 13, 14, 15, 16, 17, 18, 19, 20, 21, 22, 23, 24] [25] [1, 2, 3, 4, 5, 6, 7, 8, 9, 10, 11, 12, 13, 14, 15, 16, 17, 18, 19, 20, 21, 22, 23, 24, 25, 0] (vx_runV (As := [.int a1, .int a2, .int a3, .int a4]) (rest := [.int (0 : Int32), .ref qo]) ⟨hx, hb, hml, hown, hts⟩ (c_R_unit l hl9 sa dC dI cI cZ cL qR qU qI qW _ xR xU xI xW a1 a2 a3 a4 _ _ hw) (cwV 4 hts (x_gV k_181 k_182 k_183 k_26 k_184) rfl rfl rfl (by decide +kernel) ⟨Nat.le_of_ble_eq_true rfl, Nat.le_of_ble_eq_true rfl⟩) ⟨x_blindX, va_recv hK hP (ci := 3) (q0 := 0) rfl rfl, fun U hU hW => x_preX (isC := [0, 1, 2, 3, 4, 5, 6, 7, 8, 9, 10, 11, 12, 13, 14, 15, 16, 17, 18, 19, 20, 21, 22, 23, 24]) hK hP hD hS hA hE rfl rfl hU hW⟩ rfl rfl hl.1 rfl (lv_room (Nat.le_of_ble_eq_true rfl)) d_L_unit_9 ⟨Nat.le_of_ble_eq_true rfl, Nat.le_of_ble_eq_true rfl⟩) hP hD hS hA rfl rfl rfl (by decide) (fun _ => rfl) (fun _ => rfl) rfl (fun E u9 ce q9 H locs hw hP hD hS h1 h2 h3 => ?_) (fun r9 u9 H locs hw hP hD hS => ?_)
  · by_cases e0 : E = "java/lang/IndexOutOfBoundsException"
    · have hw := hw.1 e0
      rw [e0] at h3
      refine vx_catch hown [] ⟨0, 14, 17, 13⟩ [⟨0, 14, 21, 15⟩] htab (fun _ h => absurd h List.not_mem_nil) (by decide) (by decide) (hts _ k_179) (va_Nw.use rfl (hE.2.2.2.1 _ (by decide))) h1 h2 h3 ?_
      refine W.eq (g2 := F0 m 17 ls [.ref q9]) rfl ?_
      refine lv_astore (lv' := [(6, .ref q9), (0, .ref (qR 0)), (1, .int a1), (2, .int a2), (3, .int a3), (4, .int a4), (5, .ref qo)]) hx hb d_L_unit_17 hl (by decide) rfl (fun ls hl => ?_)
      refine lv_iconst (v := (1 : Int32)) hx hb d_L_unit_19 (by decide) ?_
      exact hret (1 : Int32) (u9.1, u9.2.1, u9.2.2.1, u9.2.2.2, xo) _ _ _ _ _ _ rfl hw hP hD hS (Nat.le_of_ble_eq_true rfl) (Nat.le_of_ble_eq_true rfl) d_L_unit_20
    · have hw := hw.2 e0
      by_cases e1 : E = "java/lang/UnsupportedOperationException"
      · have hw := hw.1 e1
        rw [e1] at h3
        refine vx_catch hown [⟨0, 14, 17, 13⟩] ⟨0, 14, 21, 15⟩ [] htab (List.forall_mem_cons.mpr ⟨Or.inr ⟨by decide, "java/lang/IndexOutOfBoundsException", hts _ k_179, hN _ (by decide) _ (by decide) (by decide)⟩, fun _ h => absurd h List.not_mem_nil⟩) (by decide) (by decide) (hts _ k_180) (va_Nw.use rfl (hE.2.2.2.1 _ (by decide))) h1 h2 h3 ?_
        refine W.eq (g2 := F0 m 21 ls [.ref q9]) rfl ?_
        refine lv_astore (lv' := [(6, .ref q9), (0, .ref (qR 0)), (1, .int a1), (2, .int a2), (3, .int a3), (4, .int a4), (5, .ref qo)]) hx hb d_L_unit_21 hl (by decide) rfl (fun ls hl => ?_)
        refine lv_iconst (v := (2 : Int32)) hx hb d_L_unit_23 (by decide) ?_
        exact hret (2 : Int32) (u9.1, u9.2.1, u9.2.2.1, u9.2.2.2, xo) _ _ _ _ _ _ rfl hw hP hD hS (Nat.le_of_ble_eq_true rfl) (Nat.le_of_ble_eq_true rfl) d_L_unit_24
      · have hw := hw.2 e1
        exact hw.elim
  · refine lv_i2l (v := r9.toInt64) hx hb d_L_unit_12 rfl ?_
    obtain ⟨h13, hw⟩ := hw
    refine va_last hx hb hK hP hD hS 25 2 rfl rfl h13 d_L_unit_13 (fun H locs hP hD hS => ?_)
    have hP := wsP_RUIWo_o hP
    have hD := wsD_RUIWo_o hD
    refine lv_goto (tgt := 25) hx hb d_L_unit_14 (by decide) ?_
    refine lv_iconst (v := (0 : Int32)) hx hb d_L_unit_25 (by decide) ?_
    exact hret (0 : Int32) (u9.1, u9.2.1, u9.2.2.1, u9.2.2.2, (vp_updL xo (0 : Int32).toNatClampNeg r9.toInt64)) _ _ _ _ _ _ rfl hw hP hD hS (Nat.le_of_ble_eq_true rfl) (Nat.le_of_ble_eq_true rfl) d_L_unit_26

def wp_L_home (xR : St) (xU : St) (xI : St) (xW : St) (a1 : Int32) (a2 : Int32) (post : Int32 → St → Prop) : Prop := wp_R_home xR xU xI xW a1 a2 (fun u3 => (post (0 : Int32) u3)) (fun E u3 => ((E = "java/lang/IllegalArgumentException" → (post (1 : Int32) u3)) ∧ (¬ E = "java/lang/IllegalArgumentException" → ((E = "java/lang/IndexOutOfBoundsException" → (post (2 : Int32) u3)) ∧ (¬ E = "java/lang/IndexOutOfBoundsException" → (False))))))
set_option maxHeartbeats 4000000 in
set_option maxRecDepth 100000 in
theorem c_L_home (l : Launch) (hl9 : l.stackTraces = false) (sa : Nat → Nat) (dC : Nat → ClassId) (dI : Nat → Nat → Nat) (cI cZ cL : ClassId) (qR : Nat → Nat) (qU : Nat → Nat) (qI : Nat → Nat) (qW : Nat → Nat) (sz : Nat) (xR : St) (xU : St) (xI : St) (xW : St) (a1 : Int32) (a2 : Int32) (post : Int32 → St → Prop) (hw : wp_L_home xR xU xI xW a1 a2 post) : Met l y_L_home w_L_home ({ frames := 8, cells := 1, slots := 6, locals := 134 } : Room) (va_Pc [.ref (qR 0), .int a1, .int a2] (fun U => (xP (dC, dI) vwCl [(cI, .int), (cZ, .boolean), (cL, .long)] (wd_RUIW qR qU qI qW cI cZ cL xR xU xI xW) sz U ∧ xE "ReleaseRows" xTx sa (va_A (wd_RUIW qR qU qI qW cI cZ cL xR xU xI xW) sz) U.heap U) ∧ xN U)) (va_Qi post (xB (dC, dI) vwCl [(cI, .int), (cZ, .boolean), (cL, .long)] (va_A (wd_RUIW qR qU qI qW cI cZ cL xR xU xI xW) sz) (fun u => (wd_RUIW qR qU qI qW cI cZ cL xR u xI xW))) (va_A (wd_RUIW qR qU qI qW cI cZ cL xR xU xI xW) sz)) 1 6 (va_A (wd_RUIW qR qU qI qW cI cZ cL xR xU xI xW) sz) := by
  refine x_ofN (cc := b_L_home) (maxL := 4) (by decide) rfl (Nat.le_of_ble_eq_true rfl) (fun p e s m below meth c A Q hx hb hml hts hown htab hK hA hP hD hS hE hN hret ls hl => ?_)
  have hl : lv_has ls 4 [(0, .ref (qR 0)), (1, .int a1), (2, .int a2)] := hl
  unfold wp_L_home at hw
  refine lv_aload_n hx hb d_L_home_0 rfl (lv_at hl 0 rfl) ?_
  refine lv_iload_n hx hb d_L_home_1 rfl (lv_at hl 1 rfl) ?_
  refine lv_iload_n hx hb d_L_home_2 rfl (lv_at hl 2 rfl) ?_
  refine x_cxv (w2 := fun u3 => (wd_RUIW qR qU qI qW cI cZ cL xR u3 xI xW)) (v2 := fun u3 => (wd_RUIW qR qU qI qW cI cZ cL xR u3 xI xW)) [0, 1, 2, 3, 4, 5, 6, 7, 8, 9, 10, 11, 12, 13, 14, 15, 16, 17, 18, 19, 20, 21, 22, 23, 24] [] [0, 1, 2, 3, 4, 5, 6, 7, 8, 9, 10, 11, 12, 13, 14, 15, 16, 17, 18, 19, 20, 21, 22, 23, 24] (vx_runV (As := [.int a1, .int a2]) (rest := []) ⟨hx, hb, hml, hown, hts⟩ (c_R_home l hl9 sa dC dI cI cZ cL qR qU qI qW _ xR xU xI xW a1 a2 _ _ hw) (cwV 2 hts (x_gV k_360 k_361 k_362 k_26 k_363) rfl rfl rfl (by decide +kernel) ⟨Nat.le_of_ble_eq_true rfl, Nat.le_of_ble_eq_true rfl⟩) ⟨x_blindX, va_recv hK hP (ci := 3) (q0 := 0) rfl rfl, fun U hU hW => x_preX (isC := [0, 1, 2, 3, 4, 5, 6, 7, 8, 9, 10, 11, 12, 13, 14, 15, 16, 17, 18, 19, 20, 21, 22, 23, 24]) hK hP hD hS hA hE rfl rfl hU hW⟩ rfl rfl hl.1 rfl (lv_room (Nat.le_of_ble_eq_true rfl)) d_L_home_3 ⟨Nat.le_of_ble_eq_true rfl, Nat.le_of_ble_eq_true rfl⟩) hP hD hS hA rfl rfl rfl (by decide) (fun _ => rfl) (fun _ => rfl) rfl (fun E u3 ce q9 H locs hw hP hD hS h1 h2 h3 => ?_) (fun u3 H locs hw hP hD hS => ?_)
  · by_cases e0 : E = "java/lang/IllegalArgumentException"
    · have hw := hw.1 e0
      rw [e0] at h3
      refine vx_catch hown [] ⟨0, 6, 9, 21⟩ [⟨0, 6, 12, 13⟩] htab (fun _ h => absurd h List.not_mem_nil) (by decide) (by decide) (hts _ k_359) (va_Nw.use rfl (hE.2.2.2.1 _ (by decide))) h1 h2 h3 ?_
      refine W.eq (g2 := F0 m 9 ls [.ref q9]) rfl ?_
      refine lv_astore_n (lv' := [(3, .ref q9), (0, .ref (qR 0)), (1, .int a1), (2, .int a2)]) hx hb d_L_home_9 rfl hl (by decide) rfl (fun ls hl => ?_)
      refine lv_iconst (v := (1 : Int32)) hx hb d_L_home_10 (by decide) ?_
      exact hret (1 : Int32) u3 _ _ _ _ _ _ rfl hw hP hD hS (Nat.le_of_ble_eq_true rfl) (Nat.le_of_ble_eq_true rfl) d_L_home_11
    · have hw := hw.2 e0
      by_cases e1 : E = "java/lang/IndexOutOfBoundsException"
      · have hw := hw.1 e1
        rw [e1] at h3
        refine vx_catch hown [⟨0, 6, 9, 21⟩] ⟨0, 6, 12, 13⟩ [] htab (List.forall_mem_cons.mpr ⟨Or.inr ⟨by decide, "java/lang/IllegalArgumentException", hts _ k_359, hN _ (by decide) _ (by decide) (by decide)⟩, fun _ h => absurd h List.not_mem_nil⟩) (by decide) (by decide) (hts _ k_179) (va_Nw.use rfl (hE.2.2.2.1 _ (by decide))) h1 h2 h3 ?_
        refine W.eq (g2 := F0 m 12 ls [.ref q9]) rfl ?_
        refine lv_astore_n (lv' := [(3, .ref q9), (0, .ref (qR 0)), (1, .int a1), (2, .int a2)]) hx hb d_L_home_12 rfl hl (by decide) rfl (fun ls hl => ?_)
        refine lv_iconst (v := (2 : Int32)) hx hb d_L_home_13 (by decide) ?_
        exact hret (2 : Int32) u3 _ _ _ _ _ _ rfl hw hP hD hS (Nat.le_of_ble_eq_true rfl) (Nat.le_of_ble_eq_true rfl) d_L_home_14
      · have hw := hw.2 e1
        exact hw.elim
  · refine lv_goto (tgt := 15) hx hb d_L_home_6 (by decide) ?_
    refine lv_iconst (v := (0 : Int32)) hx hb d_L_home_15 (by decide) ?_
    exact hret (0 : Int32) u3 _ _ _ _ _ _ rfl hw hP hD hS (Nat.le_of_ble_eq_true rfl) (Nat.le_of_ble_eq_true rfl) d_L_home_16

def wp_L_span (xR : St) (xU : St) (xI : St) (xW : St) (a1 : Int32) (post : Int32 → St → Prop) : Prop := wp_R_span xR xU xI xW a1 (fun u2 => (post (0 : Int32) u2)) (fun E u2 => ((E = "java/lang/IndexOutOfBoundsException" → (post (1 : Int32) u2)) ∧ (¬ E = "java/lang/IndexOutOfBoundsException" → (False))))
set_option maxHeartbeats 4000000 in
set_option maxRecDepth 100000 in
theorem c_L_span (l : Launch) (hl9 : l.stackTraces = false) (sa : Nat → Nat) (dC : Nat → ClassId) (dI : Nat → Nat → Nat) (cI cZ cL : ClassId) (qR : Nat → Nat) (qU : Nat → Nat) (qI : Nat → Nat) (qW : Nat → Nat) (sz : Nat) (xR : St) (xU : St) (xI : St) (xW : St) (a1 : Int32) (post : Int32 → St → Prop) (hw : wp_L_span xR xU xI xW a1 post) : Met l y_L_span w_L_span ({ frames := 8, cells := 1, slots := 6, locals := 133 } : Room) (va_Pc [.ref (qR 0), .int a1] (fun U => (xP (dC, dI) vwCl [(cI, .int), (cZ, .boolean), (cL, .long)] (wd_RUIW qR qU qI qW cI cZ cL xR xU xI xW) sz U ∧ xE "ReleaseRows" xTx sa (va_A (wd_RUIW qR qU qI qW cI cZ cL xR xU xI xW) sz) U.heap U) ∧ xN U)) (va_Qi post (xB (dC, dI) vwCl [(cI, .int), (cZ, .boolean), (cL, .long)] (va_A (wd_RUIW qR qU qI qW cI cZ cL xR xU xI xW) sz) (fun u => (wd_RUIW qR qU qI qW cI cZ cL u xU xI xW))) (va_A (wd_RUIW qR qU qI qW cI cZ cL xR xU xI xW) sz)) 1 6 (va_A (wd_RUIW qR qU qI qW cI cZ cL xR xU xI xW) sz) := by
  refine x_ofN (cc := b_L_span) (maxL := 3) (by decide) rfl (Nat.le_of_ble_eq_true rfl) (fun p e s m below meth c A Q hx hb hml hts hown htab hK hA hP hD hS hE hN hret ls hl => ?_)
  have hl : lv_has ls 3 [(0, .ref (qR 0)), (1, .int a1)] := hl
  unfold wp_L_span at hw
  refine lv_aload_n hx hb d_L_span_0 rfl (lv_at hl 0 rfl) ?_
  refine lv_iload_n hx hb d_L_span_1 rfl (lv_at hl 1 rfl) ?_
  refine x_cxv (w2 := fun u2 => (wd_RUIW qR qU qI qW cI cZ cL u2 xU xI xW)) (v2 := fun u2 => (wd_RUIW qR qU qI qW cI cZ cL u2 xU xI xW)) [0, 1, 2, 3, 4, 5, 6, 7, 8, 9, 10, 11, 12, 13, 14, 15, 16, 17, 18, 19, 20, 21, 22, 23, 24] [] [0, 1, 2, 3, 4, 5, 6, 7, 8, 9, 10, 11, 12, 13, 14, 15, 16, 17, 18, 19, 20, 21, 22, 23, 24] (vx_runV (As := [.int a1]) (rest := []) ⟨hx, hb, hml, hown, hts⟩ (c_R_span l hl9 sa dC dI cI cZ cL qR qU qI qW _ xR xU xI xW a1 _ _ hw) (cwV 1 hts (x_gV k_390 k_391 k_392 k_26 k_393) rfl rfl rfl (by decide +kernel) ⟨Nat.le_of_ble_eq_true rfl, Nat.le_of_ble_eq_true rfl⟩) ⟨x_blindX, va_recv hK hP (ci := 3) (q0 := 0) rfl rfl, fun U hU hW => x_preX (isC := [0, 1, 2, 3, 4, 5, 6, 7, 8, 9, 10, 11, 12, 13, 14, 15, 16, 17, 18, 19, 20, 21, 22, 23, 24]) hK hP hD hS hA hE rfl rfl hU hW⟩ rfl rfl hl.1 rfl (lv_room (Nat.le_of_ble_eq_true rfl)) d_L_span_2 ⟨Nat.le_of_ble_eq_true rfl, Nat.le_of_ble_eq_true rfl⟩) hP hD hS hA rfl rfl rfl (by decide) (fun _ => rfl) (fun _ => rfl) rfl (fun E u2 ce q9 H locs hw hP hD hS h1 h2 h3 => ?_) (fun u2 H locs hw hP hD hS => ?_)
  · by_cases e0 : E = "java/lang/IndexOutOfBoundsException"
    · have hw := hw.1 e0
      rw [e0] at h3
      refine vx_catch hown [] ⟨0, 5, 8, 13⟩ [] htab (fun _ h => absurd h List.not_mem_nil) (by decide) (by decide) (hts _ k_179) (va_Nw.use rfl (hE.2.2.2.1 _ (by decide))) h1 h2 h3 ?_
      refine W.eq (g2 := F0 m 8 ls [.ref q9]) rfl ?_
      refine lv_astore_n (lv' := [(2, .ref q9), (0, .ref (qR 0)), (1, .int a1)]) hx hb d_L_span_8 rfl hl (by decide) rfl (fun ls hl => ?_)
      refine lv_iconst (v := (1 : Int32)) hx hb d_L_span_9 (by decide) ?_
      exact hret (1 : Int32) u2 _ _ _ _ _ _ rfl hw hP hD hS (Nat.le_of_ble_eq_true rfl) (Nat.le_of_ble_eq_true rfl) d_L_span_10
    · have hw := hw.2 e0
      exact hw.elim
  · refine lv_goto (tgt := 11) hx hb d_L_span_5 (by decide) ?_
    refine lv_iconst (v := (0 : Int32)) hx hb d_L_span_11 (by decide) ?_
    exact hret (0 : Int32) u2 _ _ _ _ _ _ rfl hw hP hD hS (Nat.le_of_ble_eq_true rfl) (Nat.le_of_ble_eq_true rfl) d_L_span_12

def wp_L_call (xR : St) (xU : St) (xI : St) (xW : St) (xo : (Nat → Int64)) (a1 : Int32) (a2 : Int32) (post : Int32 → (St × St × St × St × (Nat → Int64)) → Prop) : Prop := wp_R_call xR xU xI xW a1 a2 (fun r5 u5 => (vp_in (0 : Int32) 1 ∧ (post (0 : Int32) (u5.1, u5.2.1, u5.2.2.1, u5.2.2.2, (vp_updL xo (0 : Int32).toNatClampNeg r5.toInt64))))) (fun E u5 => ((E = "java/lang/IndexOutOfBoundsException" → (post (1 : Int32) (u5.1, u5.2.1, u5.2.2.1, u5.2.2.2, xo))) ∧ (¬ E = "java/lang/IndexOutOfBoundsException" → ((E = "java/lang/UnsupportedOperationException" → (post (2 : Int32) (u5.1, u5.2.1, u5.2.2.1, u5.2.2.2, xo))) ∧ (¬ E = "java/lang/UnsupportedOperationException" → (False))))))
set_option maxHeartbeats 4000000 in
set_option maxRecDepth 100000 in
theorem c_L_call (l : Launch) (hl9 : l.stackTraces = false) (sa : Nat → Nat) (dC : Nat → ClassId) (dI : Nat → Nat → Nat) (cI cZ cL : ClassId) (qR : Nat → Nat) (qU : Nat → Nat) (qI : Nat → Nat) (qW : Nat → Nat) (qo : Nat) (sz : Nat) (xR : St) (xU : St) (xI : St) (xW : St) (xo : (Nat → Int64)) (a1 : Int32) (a2 : Int32) (post : Int32 → (St × St × St × St × (Nat → Int64)) → Prop) (hw : wp_L_call xR xU xI xW xo a1 a2 post) : Met l y_L_call w_L_call ({ frames := 8, cells := 1, slots := 6, locals := 147 } : Room) (va_Pc [.ref (qR 0), .int a1, .int a2, .ref qo] (fun U => (xP (dC, dI) vwCl [(cI, .int), (cZ, .boolean), (cL, .long)] (wd_RUIWo qR qU qI qW qo cI cZ cL xR xU xI xW xo) sz U ∧ xE "ReleaseRows" xTx sa (va_A (wd_RUIWo qR qU qI qW qo cI cZ cL xR xU xI xW xo) sz) U.heap U) ∧ xN U)) (va_Qi post (xB (dC, dI) vwCl [(cI, .int), (cZ, .boolean), (cL, .long)] (va_A (wd_RUIWo qR qU qI qW qo cI cZ cL xR xU xI xW xo) sz) (fun u => (wd_RUIWo qR qU qI qW qo cI cZ cL u.1 u.2.1 u.2.2.1 u.2.2.2.1 u.2.2.2.2))) (va_A (wd_RUIWo qR qU qI qW qo cI cZ cL xR xU xI xW xo) sz)) 1 6 (va_A (wd_RUIWo qR qU qI qW qo cI cZ cL xR xU xI xW xo) sz) := by
  refine x_ofN (cc := b_L_call) (maxL := 5) (by decide) rfl (Nat.le_of_ble_eq_true rfl) (fun p e s m below meth c A Q hx hb hml hts hown htab hK hA hP hD hS hE hN hret ls hl => ?_)
  have hl : lv_has ls 5 [(0, .ref (qR 0)), (1, .int a1), (2, .int a2), (3, .ref qo)] := hl
  unfold wp_L_call at hw
  refine lv_aload_n hx hb d_L_call_0 rfl (lv_at hl 3 rfl) ?_
  refine lv_iconst (v := (0 : Int32)) hx hb d_L_call_1 (by decide) ?_
  refine lv_aload_n hx hb d_L_call_2 rfl (lv_at hl 0 rfl) ?_
  refine lv_iload_n hx hb d_L_call_3 rfl (lv_at hl 1 rfl) ?_
  refine lv_iload_n hx hb d_L_call_4 rfl (lv_at hl 2 rfl) ?_
  refine x_cxi (w2 := fun u5 => (wd_RUIWo qR qU qI qW qo cI cZ cL u5.1 u5.2.1 u5.2.2.1 u5.2.2.2 xo)) (v2 := fun u5 => (wd_RUIWo qR qU qI qW qo cI cZ cL u5.1 u5.2.1 u5.2.2.1 u5.2.2.2 xo)) [0, 1, 2, 3, 4, 5, 6, 7, 8, 9, 10, 11, 12, 13, 14, 15, 16, 17, 18, 19, 20, 21, 22, 23, 24] [25] [1, 2, 3, 4, 5, 6, 7, 8, 9, 10, 11, 12, 13, 14, 15, 16, 17, 18, 19, 20, 21, 22, 23, 24, 25, 0] (vx_runV (As := [.int a1, .int a2]) (rest := [.int (0 : Int32), .ref qo]) ⟨hx, hb, hml, hown, hts⟩ (c_R_call l hl9 sa dC dI cI cZ cL qR qU qI qW _ xR xU xI xW a1 a2 _ _ hw) (cwV 2 hts (x_gV k_398 k_399 k_400 k_26 k_401) rfl rfl rfl (by decide +kernel) ⟨Nat.le_of_ble_eq_true rfl, Nat.le_of_ble_eq_true rfl⟩) ⟨x_blindX, va_recv hK hP (ci := 3) (q0 := 0) rfl rfl, fun U hU hW => x_preX (isC := [0, 1, 2, 3, 4, 5, 6, 7, 8, 9, 10, 11, 12, 13, 14, 15, 16, 17, 18, 19, 20, 21, 22, 23, 24]) hK hP hD hS hA hE rfl rfl hU hW⟩ rfl rfl hl.1 rfl (lv_room (Nat.le_of_ble_eq_true rfl)) d_L_call_5 ⟨Nat.le_of_ble_eq_true rfl, Nat.le_of_ble_eq_true rfl⟩) hP hD hS hA rfl rfl rfl (by decide) (fun _ => rfl) (fun _ => rfl) rfl (fun E u5 ce q9 H locs hw hP hD hS h1 h2 h3 => ?_) (fun r5 u5 H locs hw hP hD hS => ?_)
  · by_cases e0 : E = "java/lang/IndexOutOfBoundsException"
    · have hw := hw.1 e0
      rw [e0] at h3
      refine vx_catch hown [] ⟨0, 10, 13, 13⟩ [⟨0, 10, 17, 15⟩] htab (fun _ h => absurd h List.not_mem_nil) (by decide) (by decide) (hts _ k_179) (va_Nw.use rfl (hE.2.2.2.1 _ (by decide))) h1 h2 h3 ?_
      refine W.eq (g2 := F0 m 13 ls [.ref q9]) rfl ?_
      refine lv_astore (lv' := [(4, .ref q9), (0, .ref (qR 0)), (1, .int a1), (2, .int a2), (3, .ref qo)]) hx hb d_L_call_13 hl (by decide) rfl (fun ls hl => ?_)
      refine lv_iconst (v := (1 : Int32)) hx hb d_L_call_15 (by decide) ?_
      exact hret (1 : Int32) (u5.1, u5.2.1, u5.2.2.1, u5.2.2.2, xo) _ _ _ _ _ _ rfl hw hP hD hS (Nat.le_of_ble_eq_true rfl) (Nat.le_of_ble_eq_true rfl) d_L_call_16
    · have hw := hw.2 e0
      by_cases e1 : E = "java/lang/UnsupportedOperationException"
      · have hw := hw.1 e1
        rw [e1] at h3
        refine vx_catch hown [⟨0, 10, 13, 13⟩] ⟨0, 10, 17, 15⟩ [] htab (List.forall_mem_cons.mpr ⟨Or.inr ⟨by decide, "java/lang/IndexOutOfBoundsException", hts _ k_179, hN _ (by decide) _ (by decide) (by decide)⟩, fun _ h => absurd h List.not_mem_nil⟩) (by decide) (by decide) (hts _ k_180) (va_Nw.use rfl (hE.2.2.2.1 _ (by decide))) h1 h2 h3 ?_
        refine W.eq (g2 := F0 m 17 ls [.ref q9]) rfl ?_
        refine lv_astore (lv' := [(4, .ref q9), (0, .ref (qR 0)), (1, .int a1), (2, .int a2), (3, .ref qo)]) hx hb d_L_call_17 hl (by decide) rfl (fun ls hl => ?_)
        refine lv_iconst (v := (2 : Int32)) hx hb d_L_call_19 (by decide) ?_
        exact hret (2 : Int32) (u5.1, u5.2.1, u5.2.2.1, u5.2.2.2, xo) _ _ _ _ _ _ rfl hw hP hD hS (Nat.le_of_ble_eq_true rfl) (Nat.le_of_ble_eq_true rfl) d_L_call_20
      · have hw := hw.2 e1
        exact hw.elim
  · refine lv_i2l (v := r5.toInt64) hx hb d_L_call_8 rfl ?_
    obtain ⟨h9, hw⟩ := hw
    refine va_last hx hb hK hP hD hS 25 2 rfl rfl h9 d_L_call_9 (fun H locs hP hD hS => ?_)
    have hP := wsP_RUIWo_o hP
    have hD := wsD_RUIWo_o hD
    refine lv_goto (tgt := 21) hx hb d_L_call_10 (by decide) ?_
    refine lv_iconst (v := (0 : Int32)) hx hb d_L_call_21 (by decide) ?_
    exact hret (0 : Int32) (u5.1, u5.2.1, u5.2.2.1, u5.2.2.2, (vp_updL xo (0 : Int32).toNatClampNeg r5.toInt64)) _ _ _ _ _ _ rfl hw hP hD hS (Nat.le_of_ble_eq_true rfl) (Nat.le_of_ble_eq_true rfl) d_L_call_22

def wp_L_send (xR : St) (xU : St) (xI : St) (xW : St) (a1 : Int32) (a2 : Int32) (post : Int32 → (St × St × St × St) → Prop) : Prop := wp_R_send xR xU xI xW a1 a2 (fun u3 => (post (0 : Int32) (u3.1, u3.2.1, u3.2.2.1, u3.2.2.2))) (fun E u3 => ((E = "java/lang/IllegalArgumentException" → (post (1 : Int32) (u3.1, u3.2.1, u3.2.2.1, u3.2.2.2))) ∧ (¬ E = "java/lang/IllegalArgumentException" → ((E = "java/lang/IllegalStateException" → (post (2 : Int32) (u3.1, u3.2.1, u3.2.2.1, u3.2.2.2))) ∧ (¬ E = "java/lang/IllegalStateException" → (False))))))
set_option maxHeartbeats 4000000 in
set_option maxRecDepth 100000 in
theorem c_L_send (l : Launch) (hl9 : l.stackTraces = false) (sa : Nat → Nat) (dC : Nat → ClassId) (dI : Nat → Nat → Nat) (cI cZ cL : ClassId) (qR : Nat → Nat) (qU : Nat → Nat) (qI : Nat → Nat) (qW : Nat → Nat) (sz : Nat) (xR : St) (xU : St) (xI : St) (xW : St) (a1 : Int32) (a2 : Int32) (post : Int32 → (St × St × St × St) → Prop) (hw : wp_L_send xR xU xI xW a1 a2 post) : Met l y_L_send w_L_send ({ frames := 8, cells := 1, slots := 6, locals := 146 } : Room) (va_Pc [.ref (qR 0), .int a1, .int a2] (fun U => (xP (dC, dI) vwCl [(cI, .int), (cZ, .boolean), (cL, .long)] (wd_RUIW qR qU qI qW cI cZ cL xR xU xI xW) sz U ∧ xE "ReleaseRows" xTx sa (va_A (wd_RUIW qR qU qI qW cI cZ cL xR xU xI xW) sz) U.heap U) ∧ xN U)) (va_Qi post (xB (dC, dI) vwCl [(cI, .int), (cZ, .boolean), (cL, .long)] (va_A (wd_RUIW qR qU qI qW cI cZ cL xR xU xI xW) sz) (fun u => (wd_RUIW qR qU qI qW cI cZ cL u.1 u.2.1 u.2.2.1 u.2.2.2))) (va_A (wd_RUIW qR qU qI qW cI cZ cL xR xU xI xW) sz)) 1 6 (va_A (wd_RUIW qR qU qI qW cI cZ cL xR xU xI xW) sz) := by
  refine x_ofN (cc := b_L_send) (maxL := 4) (by decide) rfl (Nat.le_of_ble_eq_true rfl) (fun p e s m below meth c A Q hx hb hml hts hown htab hK hA hP hD hS hE hN hret ls hl => ?_)
  have hl : lv_has ls 4 [(0, .ref (qR 0)), (1, .int a1), (2, .int a2)] := hl
  unfold wp_L_send at hw
  refine lv_aload_n hx hb d_L_send_0 rfl (lv_at hl 0 rfl) ?_
  refine lv_iload_n hx hb d_L_send_1 rfl (lv_at hl 1 rfl) ?_
  refine lv_iload_n hx hb d_L_send_2 rfl (lv_at hl 2 rfl) ?_
  refine x_cxv (w2 := fun u3 => (wd_RUIW qR qU qI qW cI cZ cL u3.1 u3.2.1 u3.2.2.1 u3.2.2.2)) (v2 := fun u3 => (wd_RUIW qR qU qI qW cI cZ cL u3.1 u3.2.1 u3.2.2.1 u3.2.2.2)) [0, 1, 2, 3, 4, 5, 6, 7, 8, 9, 10, 11, 12, 13, 14, 15, 16, 17, 18, 19, 20, 21, 22, 23, 24] [] [0, 1, 2, 3, 4, 5, 6, 7, 8, 9, 10, 11, 12, 13, 14, 15, 16, 17, 18, 19, 20, 21, 22, 23, 24] (vx_runV (As := [.int a1, .int a2]) (rest := []) ⟨hx, hb, hml, hown, hts⟩ (c_R_send l hl9 sa dC dI cI cZ cL qR qU qI qW _ xR xU xI xW a1 a2 _ _ hw) (cwV 2 hts (x_gV k_426 k_427 k_428 k_26 k_429) rfl rfl rfl (by decide +kernel) ⟨Nat.le_of_ble_eq_true rfl, Nat.le_of_ble_eq_true rfl⟩) ⟨x_blindX, va_recv hK hP (ci := 3) (q0 := 0) rfl rfl, fun U hU hW => x_preX (isC := [0, 1, 2, 3, 4, 5, 6, 7, 8, 9, 10, 11, 12, 13, 14, 15, 16, 17, 18, 19, 20, 21, 22, 23, 24]) hK hP hD hS hA hE rfl rfl hU hW⟩ rfl rfl hl.1 rfl (lv_room (Nat.le_of_ble_eq_true rfl)) d_L_send_3 ⟨Nat.le_of_ble_eq_true rfl, Nat.le_of_ble_eq_true rfl⟩) hP hD hS hA rfl rfl rfl (by decide) (fun _ => rfl) (fun _ => rfl) rfl (fun E u3 ce q9 H locs hw hP hD hS h1 h2 h3 => ?_) (fun u3 H locs hw hP hD hS => ?_)
  · by_cases e0 : E = "java/lang/IllegalArgumentException"
    · have hw := hw.1 e0
      rw [e0] at h3
      refine vx_catch hown [] ⟨0, 6, 9, 21⟩ [⟨0, 6, 12, 34⟩] htab (fun _ h => absurd h List.not_mem_nil) (by decide) (by decide) (hts _ k_359) (va_Nw.use rfl (hE.2.2.2.1 _ (by decide))) h1 h2 h3 ?_
      refine W.eq (g2 := F0 m 9 ls [.ref q9]) rfl ?_
      refine lv_astore_n (lv' := [(3, .ref q9), (0, .ref (qR 0)), (1, .int a1), (2, .int a2)]) hx hb d_L_send_9 rfl hl (by decide) rfl (fun ls hl => ?_)
      refine lv_iconst (v := (1 : Int32)) hx hb d_L_send_10 (by decide) ?_
      exact hret (1 : Int32) (u3.1, u3.2.1, u3.2.2.1, u3.2.2.2) _ _ _ _ _ _ rfl hw hP hD hS (Nat.le_of_ble_eq_true rfl) (Nat.le_of_ble_eq_true rfl) d_L_send_11
    · have hw := hw.2 e0
      by_cases e1 : E = "java/lang/IllegalStateException"
      · have hw := hw.1 e1
        rw [e1] at h3
        refine vx_catch hown [⟨0, 6, 9, 21⟩] ⟨0, 6, 12, 34⟩ [] htab (List.forall_mem_cons.mpr ⟨Or.inr ⟨by decide, "java/lang/IllegalArgumentException", hts _ k_359, hN _ (by decide) _ (by decide) (by decide)⟩, fun _ h => absurd h List.not_mem_nil⟩) (by decide) (by decide) (hts _ k_425) (va_Nw.use rfl (hE.2.2.2.1 _ (by decide))) h1 h2 h3 ?_
        refine W.eq (g2 := F0 m 12 ls [.ref q9]) rfl ?_
        refine lv_astore_n (lv' := [(3, .ref q9), (0, .ref (qR 0)), (1, .int a1), (2, .int a2)]) hx hb d_L_send_12 rfl hl (by decide) rfl (fun ls hl => ?_)
        refine lv_iconst (v := (2 : Int32)) hx hb d_L_send_13 (by decide) ?_
        exact hret (2 : Int32) (u3.1, u3.2.1, u3.2.2.1, u3.2.2.2) _ _ _ _ _ _ rfl hw hP hD hS (Nat.le_of_ble_eq_true rfl) (Nat.le_of_ble_eq_true rfl) d_L_send_14
      · have hw := hw.2 e1
        exact hw.elim
  · refine lv_goto (tgt := 15) hx hb d_L_send_6 (by decide) ?_
    refine lv_iconst (v := (0 : Int32)) hx hb d_L_send_15 (by decide) ?_
    exact hret (0 : Int32) (u3.1, u3.2.1, u3.2.2.1, u3.2.2.2) _ _ _ _ _ _ rfl hw hP hD hS (Nat.le_of_ble_eq_true rfl) (Nat.le_of_ble_eq_true rfl) d_L_send_16

def wp_L_release (xR : St) (xU : St) (xI : St) (xW : St) (xo : (Nat → Int64)) (a1 : Int32) (a2 : Int32) (post : Int32 → (St × St × St × St × (Nat → Int64)) → Prop) : Prop := wp_R_release xR xU xI xW a1 a2 (fun r5 u5 => (vp_in (0 : Int32) 1 ∧ (post (0 : Int32) (u5.1, u5.2.1, u5.2.2.1, u5.2.2.2, (vp_updL xo (0 : Int32).toNatClampNeg r5.toInt64))))) (fun E u5 => ((E = "java/lang/IllegalArgumentException" → (post (1 : Int32) (u5.1, u5.2.1, u5.2.2.1, u5.2.2.2, xo))) ∧ (¬ E = "java/lang/IllegalArgumentException" → ((E = "java/lang/IndexOutOfBoundsException" → (post (2 : Int32) (u5.1, u5.2.1, u5.2.2.1, u5.2.2.2, xo))) ∧ (¬ E = "java/lang/IndexOutOfBoundsException" → ((E = "java/lang/IllegalStateException" → (post (3 : Int32) (u5.1, u5.2.1, u5.2.2.1, u5.2.2.2, xo))) ∧ (¬ E = "java/lang/IllegalStateException" → (False))))))))
set_option maxHeartbeats 4000000 in
set_option maxRecDepth 100000 in
theorem c_L_release (l : Launch) (hl9 : l.stackTraces = false) (sa : Nat → Nat) (dC : Nat → ClassId) (dI : Nat → Nat → Nat) (cI cZ cL : ClassId) (qR : Nat → Nat) (qU : Nat → Nat) (qI : Nat → Nat) (qW : Nat → Nat) (qo : Nat) (sz : Nat) (xR : St) (xU : St) (xI : St) (xW : St) (xo : (Nat → Int64)) (a1 : Int32) (a2 : Int32) (post : Int32 → (St × St × St × St × (Nat → Int64)) → Prop) (hw : wp_L_release xR xU xI xW xo a1 a2 post) : Met l y_L_release w_L_release ({ frames := 8, cells := 1, slots := 6, locals := 149 } : Room) (va_Pc [.ref (qR 0), .int a1, .int a2, .ref qo] (fun U => (xP (dC, dI) vwCl [(cI, .int), (cZ, .boolean), (cL, .long)] (wd_RUIWo qR qU qI qW qo cI cZ cL xR xU xI xW xo) sz U ∧ xE "ReleaseRows" xTx sa (va_A (wd_RUIWo qR qU qI qW qo cI cZ cL xR xU xI xW xo) sz) U.heap U) ∧ xN U)) (va_Qi post (xB (dC, dI) vwCl [(cI, .int), (cZ, .boolean), (cL, .long)] (va_A (wd_RUIWo qR qU qI qW qo cI cZ cL xR xU xI xW xo) sz) (fun u => (wd_RUIWo qR qU qI qW qo cI cZ cL u.1 u.2.1 u.2.2.1 u.2.2.2.1 u.2.2.2.2))) (va_A (wd_RUIWo qR qU qI qW qo cI cZ cL xR xU xI xW xo) sz)) 1 6 (va_A (wd_RUIWo qR qU qI qW qo cI cZ cL xR xU xI xW xo) sz) := by
  refine x_ofN (cc := b_L_release) (maxL := 5) (by decide) rfl (Nat.le_of_ble_eq_true rfl) (fun p e s m below meth c A Q hx hb hml hts hown htab hK hA hP hD hS hE hN hret ls hl => ?_)
  have hl : lv_has ls 5 [(0, .ref (qR 0)), (1, .int a1), (2, .int a2), (3, .ref qo)] := hl
  unfold wp_L_release at hw
  refine lv_aload_n hx hb d_L_release_0 rfl (lv_at hl 3 rfl) ?_
  refine lv_iconst (v := (0 : Int32)) hx hb d_L_release_1 (by decide) ?_
  refine lv_aload_n hx hb d_L_release_2 rfl (lv_at hl 0 rfl) ?_
  refine lv_iload_n hx hb d_L_release_3 rfl (lv_at hl 1 rfl) ?_
  refine lv_iload_n hx hb d_L_release_4 rfl (lv_at hl 2 rfl) ?_
  refine x_cxi (w2 := fun u5 => (wd_RUIWo qR qU qI qW qo cI cZ cL u5.1 u5.2.1 u5.2.2.1 u5.2.2.2 xo)) (v2 := fun u5 => (wd_RUIWo qR qU qI qW qo cI cZ cL u5.1 u5.2.1 u5.2.2.1 u5.2.2.2 xo)) [0, 1, 2, 3, 4, 5, 6, 7, 8, 9, 10, 11, 12, 13, 14, 15, 16, 17, 18, 19, 20, 21, 22, 23, 24] [25] [1, 2, 3, 4, 5, 6, 7, 8, 9, 10, 11, 12, 13, 14, 15, 16, 17, 18, 19, 20, 21, 22, 23, 24, 25, 0] (vx_runV (As := [.int a1, .int a2]) (rest := [.int (0 : Int32), .ref qo]) ⟨hx, hb, hml, hown, hts⟩ (c_R_release l hl9 sa dC dI cI cZ cL qR qU qI qW _ xR xU xI xW a1 a2 _ _ hw) (cwV 2 hts (x_gV k_456 k_457 k_458 k_26 k_459) rfl rfl rfl (by decide +kernel) ⟨Nat.le_of_ble_eq_true rfl, Nat.le_of_ble_eq_true rfl⟩) ⟨x_blindX, va_recv hK hP (ci := 3) (q0 := 0) rfl rfl, fun U hU hW => x_preX (isC := [0, 1, 2, 3, 4, 5, 6, 7, 8, 9, 10, 11, 12, 13, 14, 15, 16, 17, 18, 19, 20, 21, 22, 23, 24]) hK hP hD hS hA hE rfl rfl hU hW⟩ rfl rfl hl.1 rfl (lv_room (Nat.le_of_ble_eq_true rfl)) d_L_release_5 ⟨Nat.le_of_ble_eq_true rfl, Nat.le_of_ble_eq_true rfl⟩) hP hD hS hA rfl rfl rfl (by decide) (fun _ => rfl) (fun _ => rfl) rfl (fun E u5 ce q9 H locs hw hP hD hS h1 h2 h3 => ?_) (fun r5 u5 H locs hw hP hD hS => ?_)
  · by_cases e0 : E = "java/lang/IllegalArgumentException"
    · have hw := hw.1 e0
      rw [e0] at h3
      refine vx_catch hown [] ⟨0, 10, 13, 21⟩ [⟨0, 10, 17, 13⟩, ⟨0, 10, 21, 34⟩] htab (fun _ h => absurd h List.not_mem_nil) (by decide) (by decide) (hts _ k_359) (va_Nw.use rfl (hE.2.2.2.1 _ (by decide))) h1 h2 h3 ?_
      refine W.eq (g2 := F0 m 13 ls [.ref q9]) rfl ?_
      refine lv_astore (lv' := [(4, .ref q9), (0, .ref (qR 0)), (1, .int a1), (2, .int a2), (3, .ref qo)]) hx hb d_L_release_13 hl (by decide) rfl (fun ls hl => ?_)
      refine lv_iconst (v := (1 : Int32)) hx hb d_L_release_15 (by decide) ?_
      exact hret (1 : Int32) (u5.1, u5.2.1, u5.2.2.1, u5.2.2.2, xo) _ _ _ _ _ _ rfl hw hP hD hS (Nat.le_of_ble_eq_true rfl) (Nat.le_of_ble_eq_true rfl) d_L_release_16
    · have hw := hw.2 e0
      by_cases e1 : E = "java/lang/IndexOutOfBoundsException"
      · have hw := hw.1 e1
        rw [e1] at h3
        refine vx_catch hown [⟨0, 10, 13, 21⟩] ⟨0, 10, 17, 13⟩ [⟨0, 10, 21, 34⟩] htab (List.forall_mem_cons.mpr ⟨Or.inr ⟨by decide, "java/lang/IllegalArgumentException", hts _ k_359, hN _ (by decide) _ (by decide) (by decide)⟩, fun _ h => absurd h List.not_mem_nil⟩) (by decide) (by decide) (hts _ k_179) (va_Nw.use rfl (hE.2.2.2.1 _ (by decide))) h1 h2 h3 ?_
        refine W.eq (g2 := F0 m 17 ls [.ref q9]) rfl ?_
        refine lv_astore (lv' := [(4, .ref q9), (0, .ref (qR 0)), (1, .int a1), (2, .int a2), (3, .ref qo)]) hx hb d_L_release_17 hl (by decide) rfl (fun ls hl => ?_)
        refine lv_iconst (v := (2 : Int32)) hx hb d_L_release_19 (by decide) ?_
        exact hret (2 : Int32) (u5.1, u5.2.1, u5.2.2.1, u5.2.2.2, xo) _ _ _ _ _ _ rfl hw hP hD hS (Nat.le_of_ble_eq_true rfl) (Nat.le_of_ble_eq_true rfl) d_L_release_20
      · have hw := hw.2 e1
        by_cases e2 : E = "java/lang/IllegalStateException"
        · have hw := hw.1 e2
          rw [e2] at h3
          refine vx_catch hown [⟨0, 10, 13, 21⟩, ⟨0, 10, 17, 13⟩] ⟨0, 10, 21, 34⟩ [] htab (List.forall_mem_cons.mpr ⟨Or.inr ⟨by decide, "java/lang/IllegalArgumentException", hts _ k_359, hN _ (by decide) _ (by decide) (by decide)⟩, List.forall_mem_cons.mpr ⟨Or.inr ⟨by decide, "java/lang/IndexOutOfBoundsException", hts _ k_179, hN _ (by decide) _ (by decide) (by decide)⟩, fun _ h => absurd h List.not_mem_nil⟩⟩) (by decide) (by decide) (hts _ k_425) (va_Nw.use rfl (hE.2.2.2.1 _ (by decide))) h1 h2 h3 ?_
          refine W.eq (g2 := F0 m 21 ls [.ref q9]) rfl ?_
          refine lv_astore (lv' := [(4, .ref q9), (0, .ref (qR 0)), (1, .int a1), (2, .int a2), (3, .ref qo)]) hx hb d_L_release_21 hl (by decide) rfl (fun ls hl => ?_)
          refine lv_iconst (v := (3 : Int32)) hx hb d_L_release_23 (by decide) ?_
          exact hret (3 : Int32) (u5.1, u5.2.1, u5.2.2.1, u5.2.2.2, xo) _ _ _ _ _ _ rfl hw hP hD hS (Nat.le_of_ble_eq_true rfl) (Nat.le_of_ble_eq_true rfl) d_L_release_24
        · have hw := hw.2 e2
          exact hw.elim
  · refine lv_i2l (v := r5.toInt64) hx hb d_L_release_8 rfl ?_
    obtain ⟨h9, hw⟩ := hw
    refine va_last hx hb hK hP hD hS 25 2 rfl rfl h9 d_L_release_9 (fun H locs hP hD hS => ?_)
    have hP := wsP_RUIWo_o hP
    have hD := wsD_RUIWo_o hD
    refine lv_goto (tgt := 25) hx hb d_L_release_10 (by decide) ?_
    refine lv_iconst (v := (0 : Int32)) hx hb d_L_release_25 (by decide) ?_
    exact hret (0 : Int32) (u5.1, u5.2.1, u5.2.2.1, u5.2.2.2, (vp_updL xo (0 : Int32).toNatClampNeg r5.toInt64)) _ _ _ _ _ _ rfl hw hP hD hS (Nat.le_of_ble_eq_true rfl) (Nat.le_of_ble_eq_true rfl) d_L_release_26

def wp_L_back (xR : St) (xU : St) (xI : St) (xW : St) (a1 : Int32) (post : Int32 → (St × St × St × St) → Prop) : Prop := wp_R_back xR xU xI xW a1 (fun u2 => (post (0 : Int32) (u2.1, u2.2.1, u2.2.2.1, u2.2.2.2))) (fun E u2 => ((E = "java/lang/IllegalArgumentException" → (post (1 : Int32) (u2.1, u2.2.1, u2.2.2.1, u2.2.2.2))) ∧ (¬ E = "java/lang/IllegalArgumentException" → ((E = "java/lang/IllegalStateException" → (post (2 : Int32) (u2.1, u2.2.1, u2.2.2.1, u2.2.2.2))) ∧ (¬ E = "java/lang/IllegalStateException" → (False))))))
set_option maxHeartbeats 4000000 in
set_option maxRecDepth 100000 in
theorem c_L_back (l : Launch) (hl9 : l.stackTraces = false) (sa : Nat → Nat) (dC : Nat → ClassId) (dI : Nat → Nat → Nat) (cI cZ cL : ClassId) (qR : Nat → Nat) (qU : Nat → Nat) (qI : Nat → Nat) (qW : Nat → Nat) (sz : Nat) (xR : St) (xU : St) (xI : St) (xW : St) (a1 : Int32) (post : Int32 → (St × St × St × St) → Prop) (hw : wp_L_back xR xU xI xW a1 post) : Met l y_L_back w_L_back ({ frames := 8, cells := 1, slots := 6, locals := 145 } : Room) (va_Pc [.ref (qR 0), .int a1] (fun U => (xP (dC, dI) vwCl [(cI, .int), (cZ, .boolean), (cL, .long)] (wd_RUIW qR qU qI qW cI cZ cL xR xU xI xW) sz U ∧ xE "ReleaseRows" xTx sa (va_A (wd_RUIW qR qU qI qW cI cZ cL xR xU xI xW) sz) U.heap U) ∧ xN U)) (va_Qi post (xB (dC, dI) vwCl [(cI, .int), (cZ, .boolean), (cL, .long)] (va_A (wd_RUIW qR qU qI qW cI cZ cL xR xU xI xW) sz) (fun u => (wd_RUIW qR qU qI qW cI cZ cL u.1 u.2.1 u.2.2.1 u.2.2.2))) (va_A (wd_RUIW qR qU qI qW cI cZ cL xR xU xI xW) sz)) 1 6 (va_A (wd_RUIW qR qU qI qW cI cZ cL xR xU xI xW) sz) := by
  refine x_ofN (cc := b_L_back) (maxL := 3) (by decide) rfl (Nat.le_of_ble_eq_true rfl) (fun p e s m below meth c A Q hx hb hml hts hown htab hK hA hP hD hS hE hN hret ls hl => ?_)
  have hl : lv_has ls 3 [(0, .ref (qR 0)), (1, .int a1)] := hl
  unfold wp_L_back at hw
  refine lv_aload_n hx hb d_L_back_0 rfl (lv_at hl 0 rfl) ?_
  refine lv_iload_n hx hb d_L_back_1 rfl (lv_at hl 1 rfl) ?_
  refine x_cxv (w2 := fun u2 => (wd_RUIW qR qU qI qW cI cZ cL u2.1 u2.2.1 u2.2.2.1 u2.2.2.2)) (v2 := fun u2 => (wd_RUIW qR qU qI qW cI cZ cL u2.1 u2.2.1 u2.2.2.1 u2.2.2.2)) [0, 1, 2, 3, 4, 5, 6, 7, 8, 9, 10, 11, 12, 13, 14, 15, 16, 17, 18, 19, 20, 21, 22, 23, 24] [] [0, 1, 2, 3, 4, 5, 6, 7, 8, 9, 10, 11, 12, 13, 14, 15, 16, 17, 18, 19, 20, 21, 22, 23, 24] (vx_runV (As := [.int a1]) (rest := []) ⟨hx, hb, hml, hown, hts⟩ (c_R_back l hl9 sa dC dI cI cZ cL qR qU qI qW _ xR xU xI xW a1 _ _ hw) (cwV 1 hts (x_gV k_468 k_469 k_470 k_26 k_471) rfl rfl rfl (by decide +kernel) ⟨Nat.le_of_ble_eq_true rfl, Nat.le_of_ble_eq_true rfl⟩) ⟨x_blindX, va_recv hK hP (ci := 3) (q0 := 0) rfl rfl, fun U hU hW => x_preX (isC := [0, 1, 2, 3, 4, 5, 6, 7, 8, 9, 10, 11, 12, 13, 14, 15, 16, 17, 18, 19, 20, 21, 22, 23, 24]) hK hP hD hS hA hE rfl rfl hU hW⟩ rfl rfl hl.1 rfl (lv_room (Nat.le_of_ble_eq_true rfl)) d_L_back_2 ⟨Nat.le_of_ble_eq_true rfl, Nat.le_of_ble_eq_true rfl⟩) hP hD hS hA rfl rfl rfl (by decide) (fun _ => rfl) (fun _ => rfl) rfl (fun E u2 ce q9 H locs hw hP hD hS h1 h2 h3 => ?_) (fun u2 H locs hw hP hD hS => ?_)
  · by_cases e0 : E = "java/lang/IllegalArgumentException"
    · have hw := hw.1 e0
      rw [e0] at h3
      refine vx_catch hown [] ⟨0, 5, 8, 21⟩ [⟨0, 5, 11, 34⟩] htab (fun _ h => absurd h List.not_mem_nil) (by decide) (by decide) (hts _ k_359) (va_Nw.use rfl (hE.2.2.2.1 _ (by decide))) h1 h2 h3 ?_
      refine W.eq (g2 := F0 m 8 ls [.ref q9]) rfl ?_
      refine lv_astore_n (lv' := [(2, .ref q9), (0, .ref (qR 0)), (1, .int a1)]) hx hb d_L_back_8 rfl hl (by decide) rfl (fun ls hl => ?_)
      refine lv_iconst (v := (1 : Int32)) hx hb d_L_back_9 (by decide) ?_
      exact hret (1 : Int32) (u2.1, u2.2.1, u2.2.2.1, u2.2.2.2) _ _ _ _ _ _ rfl hw hP hD hS (Nat.le_of_ble_eq_true rfl) (Nat.le_of_ble_eq_true rfl) d_L_back_10
    · have hw := hw.2 e0
      by_cases e1 : E = "java/lang/IllegalStateException"
      · have hw := hw.1 e1
        rw [e1] at h3
        refine vx_catch hown [⟨0, 5, 8, 21⟩] ⟨0, 5, 11, 34⟩ [] htab (List.forall_mem_cons.mpr ⟨Or.inr ⟨by decide, "java/lang/IllegalArgumentException", hts _ k_359, hN _ (by decide) _ (by decide) (by decide)⟩, fun _ h => absurd h List.not_mem_nil⟩) (by decide) (by decide) (hts _ k_425) (va_Nw.use rfl (hE.2.2.2.1 _ (by decide))) h1 h2 h3 ?_
        refine W.eq (g2 := F0 m 11 ls [.ref q9]) rfl ?_
        refine lv_astore_n (lv' := [(2, .ref q9), (0, .ref (qR 0)), (1, .int a1)]) hx hb d_L_back_11 rfl hl (by decide) rfl (fun ls hl => ?_)
        refine lv_iconst (v := (2 : Int32)) hx hb d_L_back_12 (by decide) ?_
        exact hret (2 : Int32) (u2.1, u2.2.1, u2.2.2.1, u2.2.2.2) _ _ _ _ _ _ rfl hw hP hD hS (Nat.le_of_ble_eq_true rfl) (Nat.le_of_ble_eq_true rfl) d_L_back_13
      · have hw := hw.2 e1
        exact hw.elim
  · refine lv_goto (tgt := 14) hx hb d_L_back_5 (by decide) ?_
    refine lv_iconst (v := (0 : Int32)) hx hb d_L_back_14 (by decide) ?_
    exact hret (0 : Int32) (u2.1, u2.2.1, u2.2.2.1, u2.2.2.2) _ _ _ _ _ _ rfl hw hP hD hS (Nat.le_of_ble_eq_true rfl) (Nat.le_of_ble_eq_true rfl) d_L_back_15

def wp_L_use (xR : St) (xU : St) (xI : St) (xW : St) (xo : (Nat → Int64)) (a1 : Int32) (a2 : Int32) (a3 : Int32) (post : Int32 → (St × (Nat → Int64)) → Prop) : Prop := wp_R_use xR xU xI xW a1 a2 a3 (fun r7 u7 => (vp_in (0 : Int32) 1 ∧ (post (0 : Int32) (u7, (vp_updL xo (0 : Int32).toNatClampNeg r7.toInt64))))) (fun E u7 => ((E = "java/lang/IllegalArgumentException" → (post (1 : Int32) (u7, xo))) ∧ (¬ E = "java/lang/IllegalArgumentException" → ((E = "java/lang/IndexOutOfBoundsException" → (post (2 : Int32) (u7, xo))) ∧ (¬ E = "java/lang/IndexOutOfBoundsException" → ((E = "java/lang/IllegalStateException" → (post (3 : Int32) (u7, xo))) ∧ (¬ E = "java/lang/IllegalStateException" → ((E = "java/lang/UnsupportedOperationException" → (post (4 : Int32) (u7, xo))) ∧ (¬ E = "java/lang/UnsupportedOperationException" → (False))))))))))
set_option maxHeartbeats 4000000 in
set_option maxRecDepth 100000 in
theorem c_L_use (l : Launch) (hl9 : l.stackTraces = false) (sa : Nat → Nat) (dC : Nat → ClassId) (dI : Nat → Nat → Nat) (cI cZ cL : ClassId) (qR : Nat → Nat) (qU : Nat → Nat) (qI : Nat → Nat) (qW : Nat → Nat) (qo : Nat) (sz : Nat) (xR : St) (xU : St) (xI : St) (xW : St) (xo : (Nat → Int64)) (a1 : Int32) (a2 : Int32) (a3 : Int32) (post : Int32 → (St × (Nat → Int64)) → Prop) (hw : wp_L_use xR xU xI xW xo a1 a2 a3 post) : Met l y_L_use w_L_use ({ frames := 8, cells := 1, slots := 6, locals := 136 } : Room) (va_Pc [.ref (qR 0), .int a1, .int a2, .int a3, .ref qo] (fun U => (xP (dC, dI) vwCl [(cI, .int), (cZ, .boolean), (cL, .long)] (wd_RUIWo qR qU qI qW qo cI cZ cL xR xU xI xW xo) sz U ∧ xE "ReleaseRows" xTx sa (va_A (wd_RUIWo qR qU qI qW qo cI cZ cL xR xU xI xW xo) sz) U.heap U) ∧ xN U)) (va_Qi post (xB (dC, dI) vwCl [(cI, .int), (cZ, .boolean), (cL, .long)] (va_A (wd_RUIWo qR qU qI qW qo cI cZ cL xR xU xI xW xo) sz) (fun u => (wd_RUIWo qR qU qI qW qo cI cZ cL xR u.1 xI xW u.2))) (va_A (wd_RUIWo qR qU qI qW qo cI cZ cL xR xU xI xW xo) sz)) 1 6 (va_A (wd_RUIWo qR qU qI qW qo cI cZ cL xR xU xI xW xo) sz) := by
  refine x_ofN (cc := b_L_use) (maxL := 6) (by decide) rfl (Nat.le_of_ble_eq_true rfl) (fun p e s m below meth c A Q hx hb hml hts hown htab hK hA hP hD hS hE hN hret ls hl => ?_)
  have hl : lv_has ls 6 [(0, .ref (qR 0)), (1, .int a1), (2, .int a2), (3, .int a3), (4, .ref qo)] := hl
  unfold wp_L_use at hw
  refine lv_aload hx hb d_L_use_0 (lv_at hl 4 rfl) ?_
  refine lv_iconst (v := (0 : Int32)) hx hb d_L_use_2 (by decide) ?_
  refine lv_aload_n hx hb d_L_use_3 rfl (lv_at hl 0 rfl) ?_
  refine lv_iload_n hx hb d_L_use_4 rfl (lv_at hl 1 rfl) ?_
  refine lv_iload_n hx hb d_L_use_5 rfl (lv_at hl 2 rfl) ?_
  refine lv_iload_n hx hb d_L_use_6 rfl (lv_at hl 3 rfl) ?_
  refine x_cxi (w2 := fun u7 => (wd_RUIWo qR qU qI qW qo cI cZ cL xR u7 xI xW xo)) (v2 := fun u7 => (wd_RUIWo qR qU qI qW qo cI cZ cL xR u7 xI xW xo)) [0, 1, 2, 3, 4, 5, 6, 7, 8, 9, 10, 11, 12, 13, 14, 15, 16, 17, 18, 19, 20, 21, 22, 23, 24] [25] [1, 2, 3, 4, 5, 6, 7, 8, 9, 10, 11, 12, 13, 14, 15, 16, 17, 18, 19, 20, 21, 22, 23, 24, 25, 0] (vx_runV (As := [.int a1, .int a2, .int a3]) (rest := [.int (0 : Int32), .ref qo]) ⟨hx, hb, hml, hown, hts⟩ (c_R_use l hl9 sa dC dI cI cZ cL qR qU qI qW _ xR xU xI xW a1 a2 a3 _ _ hw) (cwV 3 hts (x_gV k_475 k_476 k_477 k_26 k_478) rfl rfl rfl (by decide +kernel) ⟨Nat.le_of_ble_eq_true rfl, Nat.le_of_ble_eq_true rfl⟩) ⟨x_blindX, va_recv hK hP (ci := 3) (q0 := 0) rfl rfl, fun U hU hW => x_preX (isC := [0, 1, 2, 3, 4, 5, 6, 7, 8, 9, 10, 11, 12, 13, 14, 15, 16, 17, 18, 19, 20, 21, 22, 23, 24]) hK hP hD hS hA hE rfl rfl hU hW⟩ rfl rfl hl.1 rfl (lv_room (Nat.le_of_ble_eq_true rfl)) d_L_use_7 ⟨Nat.le_of_ble_eq_true rfl, Nat.le_of_ble_eq_true rfl⟩) hP hD hS hA rfl rfl rfl (by decide) (fun _ => rfl) (fun _ => rfl) rfl (fun E u7 ce q9 H locs hw hP hD hS h1 h2 h3 => ?_) (fun r7 u7 H locs hw hP hD hS => ?_)
  · by_cases e0 : E = "java/lang/IllegalArgumentException"
    · have hw := hw.1 e0
      rw [e0] at h3
      refine vx_catch hown [] ⟨0, 12, 15, 21⟩ [⟨0, 12, 19, 13⟩, ⟨0, 12, 23, 34⟩, ⟨0, 12, 27, 15⟩] htab (fun _ h => absurd h List.not_mem_nil) (by decide) (by decide) (hts _ k_359) (va_Nw.use rfl (hE.2.2.2.1 _ (by decide))) h1 h2 h3 ?_
      refine W.eq (g2 := F0 m 15 ls [.ref q9]) rfl ?_
      refine lv_astore (lv' := [(5, .ref q9), (0, .ref (qR 0)), (1, .int a1), (2, .int a2), (3, .int a3), (4, .ref qo)]) hx hb d_L_use_15 hl (by decide) rfl (fun ls hl => ?_)
      refine lv_iconst (v := (1 : Int32)) hx hb d_L_use_17 (by decide) ?_
      exact hret (1 : Int32) (u7, xo) _ _ _ _ _ _ rfl hw hP hD hS (Nat.le_of_ble_eq_true rfl) (Nat.le_of_ble_eq_true rfl) d_L_use_18
    · have hw := hw.2 e0
      by_cases e1 : E = "java/lang/IndexOutOfBoundsException"
      · have hw := hw.1 e1
        rw [e1] at h3
        refine vx_catch hown [⟨0, 12, 15, 21⟩] ⟨0, 12, 19, 13⟩ [⟨0, 12, 23, 34⟩, ⟨0, 12, 27, 15⟩] htab (List.forall_mem_cons.mpr ⟨Or.inr ⟨by decide, "java/lang/IllegalArgumentException", hts _ k_359, hN _ (by decide) _ (by decide) (by decide)⟩, fun _ h => absurd h List.not_mem_nil⟩) (by decide) (by decide) (hts _ k_179) (va_Nw.use rfl (hE.2.2.2.1 _ (by decide))) h1 h2 h3 ?_
        refine W.eq (g2 := F0 m 19 ls [.ref q9]) rfl ?_
        refine lv_astore (lv' := [(5, .ref q9), (0, .ref (qR 0)), (1, .int a1), (2, .int a2), (3, .int a3), (4, .ref qo)]) hx hb d_L_use_19 hl (by decide) rfl (fun ls hl => ?_)
        refine lv_iconst (v := (2 : Int32)) hx hb d_L_use_21 (by decide) ?_
        exact hret (2 : Int32) (u7, xo) _ _ _ _ _ _ rfl hw hP hD hS (Nat.le_of_ble_eq_true rfl) (Nat.le_of_ble_eq_true rfl) d_L_use_22
      · have hw := hw.2 e1
        by_cases e2 : E = "java/lang/IllegalStateException"
        · have hw := hw.1 e2
          rw [e2] at h3
          refine vx_catch hown [⟨0, 12, 15, 21⟩, ⟨0, 12, 19, 13⟩] ⟨0, 12, 23, 34⟩ [⟨0, 12, 27, 15⟩] htab (List.forall_mem_cons.mpr ⟨Or.inr ⟨by decide, "java/lang/IllegalArgumentException", hts _ k_359, hN _ (by decide) _ (by decide) (by decide)⟩, List.forall_mem_cons.mpr ⟨Or.inr ⟨by decide, "java/lang/IndexOutOfBoundsException", hts _ k_179, hN _ (by decide) _ (by decide) (by decide)⟩, fun _ h => absurd h List.not_mem_nil⟩⟩) (by decide) (by decide) (hts _ k_425) (va_Nw.use rfl (hE.2.2.2.1 _ (by decide))) h1 h2 h3 ?_
          refine W.eq (g2 := F0 m 23 ls [.ref q9]) rfl ?_
          refine lv_astore (lv' := [(5, .ref q9), (0, .ref (qR 0)), (1, .int a1), (2, .int a2), (3, .int a3), (4, .ref qo)]) hx hb d_L_use_23 hl (by decide) rfl (fun ls hl => ?_)
          refine lv_iconst (v := (3 : Int32)) hx hb d_L_use_25 (by decide) ?_
          exact hret (3 : Int32) (u7, xo) _ _ _ _ _ _ rfl hw hP hD hS (Nat.le_of_ble_eq_true rfl) (Nat.le_of_ble_eq_true rfl) d_L_use_26
        · have hw := hw.2 e2
          by_cases e3 : E = "java/lang/UnsupportedOperationException"
          · have hw := hw.1 e3
            rw [e3] at h3
            refine vx_catch hown [⟨0, 12, 15, 21⟩, ⟨0, 12, 19, 13⟩, ⟨0, 12, 23, 34⟩] ⟨0, 12, 27, 15⟩ [] htab (List.forall_mem_cons.mpr ⟨Or.inr ⟨by decide, "java/lang/IllegalArgumentException", hts _ k_359, hN _ (by decide) _ (by decide) (by decide)⟩, List.forall_mem_cons.mpr ⟨Or.inr ⟨by decide, "java/lang/IndexOutOfBoundsException", hts _ k_179, hN _ (by decide) _ (by decide) (by decide)⟩, List.forall_mem_cons.mpr ⟨Or.inr ⟨by decide, "java/lang/IllegalStateException", hts _ k_425, hN _ (by decide) _ (by decide) (by decide)⟩, fun _ h => absurd h List.not_mem_nil⟩⟩⟩) (by decide) (by decide) (hts _ k_180) (va_Nw.use rfl (hE.2.2.2.1 _ (by decide))) h1 h2 h3 ?_
            refine W.eq (g2 := F0 m 27 ls [.ref q9]) rfl ?_
            refine lv_astore (lv' := [(5, .ref q9), (0, .ref (qR 0)), (1, .int a1), (2, .int a2), (3, .int a3), (4, .ref qo)]) hx hb d_L_use_27 hl (by decide) rfl (fun ls hl => ?_)
            refine lv_iconst (v := (4 : Int32)) hx hb d_L_use_29 (by decide) ?_
            exact hret (4 : Int32) (u7, xo) _ _ _ _ _ _ rfl hw hP hD hS (Nat.le_of_ble_eq_true rfl) (Nat.le_of_ble_eq_true rfl) d_L_use_30
          · have hw := hw.2 e3
            exact hw.elim
  · refine lv_i2l (v := r7.toInt64) hx hb d_L_use_10 rfl ?_
    obtain ⟨h11, hw⟩ := hw
    refine va_last hx hb hK hP hD hS 25 2 rfl rfl h11 d_L_use_11 (fun H locs hP hD hS => ?_)
    have hP := wsP_RUIWo_o hP
    have hD := wsD_RUIWo_o hD
    refine lv_goto (tgt := 31) hx hb d_L_use_12 (by decide) ?_
    refine lv_iconst (v := (0 : Int32)) hx hb d_L_use_31 (by decide) ?_
    exact hret (0 : Int32) (u7, (vp_updL xo (0 : Int32).toNatClampNeg r7.toInt64)) _ _ _ _ _ _ rfl hw hP hD hS (Nat.le_of_ble_eq_true rfl) (Nat.le_of_ble_eq_true rfl) d_L_use_32

def wp_L_deliver (xR : St) (xU : St) (xI : St) (xW : St) (xo : (Nat → Int64)) (a1 : Int32) (a2 : Int32) (post : Int32 → (St × St × St × St × (Nat → Int64)) → Prop) : Prop := wp_R_deliver xR xU xI xW a1 a2 (fun r5 u5 => (vp_in (0 : Int32) 1 ∧ (post (0 : Int32) (u5.1, u5.2.1, u5.2.2.1, u5.2.2.2, (vp_updL xo (0 : Int32).toNatClampNeg r5.toInt64))))) (fun E u5 => ((E = "java/lang/IllegalArgumentException" → (post (1 : Int32) (u5.1, u5.2.1, u5.2.2.1, u5.2.2.2, xo))) ∧ (¬ E = "java/lang/IllegalArgumentException" → ((E = "java/lang/IndexOutOfBoundsException" → (post (2 : Int32) (u5.1, u5.2.1, u5.2.2.1, u5.2.2.2, xo))) ∧ (¬ E = "java/lang/IndexOutOfBoundsException" → ((E = "java/lang/UnsupportedOperationException" → (post (3 : Int32) (u5.1, u5.2.1, u5.2.2.1, u5.2.2.2, xo))) ∧ (¬ E = "java/lang/UnsupportedOperationException" → (False))))))))
set_option maxHeartbeats 4000000 in
set_option maxRecDepth 100000 in
theorem c_L_deliver (l : Launch) (hl9 : l.stackTraces = false) (sa : Nat → Nat) (dC : Nat → ClassId) (dI : Nat → Nat → Nat) (cI cZ cL : ClassId) (qR : Nat → Nat) (qU : Nat → Nat) (qI : Nat → Nat) (qW : Nat → Nat) (qo : Nat) (sz : Nat) (xR : St) (xU : St) (xI : St) (xW : St) (xo : (Nat → Int64)) (a1 : Int32) (a2 : Int32) (post : Int32 → (St × St × St × St × (Nat → Int64)) → Prop) (hw : wp_L_deliver xR xU xI xW xo a1 a2 post) : Met l y_L_deliver w_L_deliver ({ frames := 8, cells := 1, slots := 6, locals := 147 } : Room) (va_Pc [.ref (qR 0), .int a1, .int a2, .ref qo] (fun U => (xP (dC, dI) vwCl [(cI, .int), (cZ, .boolean), (cL, .long)] (wd_RUIWo qR qU qI qW qo cI cZ cL xR xU xI xW xo) sz U ∧ xE "ReleaseRows" xTx sa (va_A (wd_RUIWo qR qU qI qW qo cI cZ cL xR xU xI xW xo) sz) U.heap U) ∧ xN U)) (va_Qi post (xB (dC, dI) vwCl [(cI, .int), (cZ, .boolean), (cL, .long)] (va_A (wd_RUIWo qR qU qI qW qo cI cZ cL xR xU xI xW xo) sz) (fun u => (wd_RUIWo qR qU qI qW qo cI cZ cL u.1 u.2.1 u.2.2.1 u.2.2.2.1 u.2.2.2.2))) (va_A (wd_RUIWo qR qU qI qW qo cI cZ cL xR xU xI xW xo) sz)) 1 6 (va_A (wd_RUIWo qR qU qI qW qo cI cZ cL xR xU xI xW xo) sz) := by
  refine x_ofN (cc := b_L_deliver) (maxL := 5) (by decide) rfl (Nat.le_of_ble_eq_true rfl) (fun p e s m below meth c A Q hx hb hml hts hown htab hK hA hP hD hS hE hN hret ls hl => ?_)
  have hl : lv_has ls 5 [(0, .ref (qR 0)), (1, .int a1), (2, .int a2), (3, .ref qo)] := hl
  unfold wp_L_deliver at hw
  refine lv_aload_n hx hb d_L_deliver_0 rfl (lv_at hl 3 rfl) ?_
  refine lv_iconst (v := (0 : Int32)) hx hb d_L_deliver_1 (by decide) ?_
  refine lv_aload_n hx hb d_L_deliver_2 rfl (lv_at hl 0 rfl) ?_
  refine lv_iload_n hx hb d_L_deliver_3 rfl (lv_at hl 1 rfl) ?_
  refine lv_iload_n hx hb d_L_deliver_4 rfl (lv_at hl 2 rfl) ?_
  refine x_cxi (w2 := fun u5 => (wd_RUIWo qR qU qI qW qo cI cZ cL u5.1 u5.2.1 u5.2.2.1 u5.2.2.2 xo)) (v2 := fun u5 => (wd_RUIWo qR qU qI qW qo cI cZ cL u5.1 u5.2.1 u5.2.2.1 u5.2.2.2 xo)) [0, 1, 2, 3, 4, 5, 6, 7, 8, 9, 10, 11, 12, 13, 14, 15, 16, 17, 18, 19, 20, 21, 22, 23, 24] [25] [1, 2, 3, 4, 5, 6, 7, 8, 9, 10, 11, 12, 13, 14, 15, 16, 17, 18, 19, 20, 21, 22, 23, 24, 25, 0] (vx_runV (As := [.int a1, .int a2]) (rest := [.int (0 : Int32), .ref qo]) ⟨hx, hb, hml, hown, hts⟩ (c_R_deliver l hl9 sa dC dI cI cZ cL qR qU qI qW _ xR xU xI xW a1 a2 _ _ hw) (cwV 2 hts (x_gV k_485 k_486 k_487 k_26 k_488) rfl rfl rfl (by decide +kernel) ⟨Nat.le_of_ble_eq_true rfl, Nat.le_of_ble_eq_true rfl⟩) ⟨x_blindX, va_recv hK hP (ci := 3) (q0 := 0) rfl rfl, fun U hU hW => x_preX (isC := [0, 1, 2, 3, 4, 5, 6, 7, 8, 9, 10, 11, 12, 13, 14, 15, 16, 17, 18, 19, 20, 21, 22, 23, 24]) hK hP hD hS hA hE rfl rfl hU hW⟩ rfl rfl hl.1 rfl (lv_room (Nat.le_of_ble_eq_true rfl)) d_L_deliver_5 ⟨Nat.le_of_ble_eq_true rfl, Nat.le_of_ble_eq_true rfl⟩) hP hD hS hA rfl rfl rfl (by decide) (fun _ => rfl) (fun _ => rfl) rfl (fun E u5 ce q9 H locs hw hP hD hS h1 h2 h3 => ?_) (fun r5 u5 H locs hw hP hD hS => ?_)
  · by_cases e0 : E = "java/lang/IllegalArgumentException"
    · have hw := hw.1 e0
      rw [e0] at h3
      refine vx_catch hown [] ⟨0, 10, 13, 21⟩ [⟨0, 10, 17, 13⟩, ⟨0, 10, 21, 15⟩] htab (fun _ h => absurd h List.not_mem_nil) (by decide) (by decide) (hts _ k_359) (va_Nw.use rfl (hE.2.2.2.1 _ (by decide))) h1 h2 h3 ?_
      refine W.eq (g2 := F0 m 13 ls [.ref q9]) rfl ?_
      refine lv_astore (lv' := [(4, .ref q9), (0, .ref (qR 0)), (1, .int a1), (2, .int a2), (3, .ref qo)]) hx hb d_L_deliver_13 hl (by decide) rfl (fun ls hl => ?_)
      refine lv_iconst (v := (1 : Int32)) hx hb d_L_deliver_15 (by decide) ?_
      exact hret (1 : Int32) (u5.1, u5.2.1, u5.2.2.1, u5.2.2.2, xo) _ _ _ _ _ _ rfl hw hP hD hS (Nat.le_of_ble_eq_true rfl) (Nat.le_of_ble_eq_true rfl) d_L_deliver_16
    · have hw := hw.2 e0
      by_cases e1 : E = "java/lang/IndexOutOfBoundsException"
      · have hw := hw.1 e1
        rw [e1] at h3
        refine vx_catch hown [⟨0, 10, 13, 21⟩] ⟨0, 10, 17, 13⟩ [⟨0, 10, 21, 15⟩] htab (List.forall_mem_cons.mpr ⟨Or.inr ⟨by decide, "java/lang/IllegalArgumentException", hts _ k_359, hN _ (by decide) _ (by decide) (by decide)⟩, fun _ h => absurd h List.not_mem_nil⟩) (by decide) (by decide) (hts _ k_179) (va_Nw.use rfl (hE.2.2.2.1 _ (by decide))) h1 h2 h3 ?_
        refine W.eq (g2 := F0 m 17 ls [.ref q9]) rfl ?_
        refine lv_astore (lv' := [(4, .ref q9), (0, .ref (qR 0)), (1, .int a1), (2, .int a2), (3, .ref qo)]) hx hb d_L_deliver_17 hl (by decide) rfl (fun ls hl => ?_)
        refine lv_iconst (v := (2 : Int32)) hx hb d_L_deliver_19 (by decide) ?_
        exact hret (2 : Int32) (u5.1, u5.2.1, u5.2.2.1, u5.2.2.2, xo) _ _ _ _ _ _ rfl hw hP hD hS (Nat.le_of_ble_eq_true rfl) (Nat.le_of_ble_eq_true rfl) d_L_deliver_20
      · have hw := hw.2 e1
        by_cases e2 : E = "java/lang/UnsupportedOperationException"
        · have hw := hw.1 e2
          rw [e2] at h3
          refine vx_catch hown [⟨0, 10, 13, 21⟩, ⟨0, 10, 17, 13⟩] ⟨0, 10, 21, 15⟩ [] htab (List.forall_mem_cons.mpr ⟨Or.inr ⟨by decide, "java/lang/IllegalArgumentException", hts _ k_359, hN _ (by decide) _ (by decide) (by decide)⟩, List.forall_mem_cons.mpr ⟨Or.inr ⟨by decide, "java/lang/IndexOutOfBoundsException", hts _ k_179, hN _ (by decide) _ (by decide) (by decide)⟩, fun _ h => absurd h List.not_mem_nil⟩⟩) (by decide) (by decide) (hts _ k_180) (va_Nw.use rfl (hE.2.2.2.1 _ (by decide))) h1 h2 h3 ?_
          refine W.eq (g2 := F0 m 21 ls [.ref q9]) rfl ?_
          refine lv_astore (lv' := [(4, .ref q9), (0, .ref (qR 0)), (1, .int a1), (2, .int a2), (3, .ref qo)]) hx hb d_L_deliver_21 hl (by decide) rfl (fun ls hl => ?_)
          refine lv_iconst (v := (3 : Int32)) hx hb d_L_deliver_23 (by decide) ?_
          exact hret (3 : Int32) (u5.1, u5.2.1, u5.2.2.1, u5.2.2.2, xo) _ _ _ _ _ _ rfl hw hP hD hS (Nat.le_of_ble_eq_true rfl) (Nat.le_of_ble_eq_true rfl) d_L_deliver_24
        · have hw := hw.2 e2
          exact hw.elim
  · refine lv_i2l (v := r5.toInt64) hx hb d_L_deliver_8 rfl ?_
    obtain ⟨h9, hw⟩ := hw
    refine va_last hx hb hK hP hD hS 25 2 rfl rfl h9 d_L_deliver_9 (fun H locs hP hD hS => ?_)
    have hP := wsP_RUIWo_o hP
    have hD := wsD_RUIWo_o hD
    refine lv_goto (tgt := 25) hx hb d_L_deliver_10 (by decide) ?_
    refine lv_iconst (v := (0 : Int32)) hx hb d_L_deliver_25 (by decide) ?_
    exact hret (0 : Int32) (u5.1, u5.2.1, u5.2.2.1, u5.2.2.2, (vp_updL xo (0 : Int32).toNatClampNeg r5.toInt64)) _ _ _ _ _ _ rfl hw hP hD hS (Nat.le_of_ble_eq_true rfl) (Nat.le_of_ble_eq_true rfl) d_L_deliver_26

def wp_L_check (xR : St) (xU : St) (xI : St) (xW : St) (a1 : Int32) (a2 : Int32) (post : Int32 → (St × St × St × St) → Prop) : Prop := wp_R_check xR xU xI xW a1 a2 (fun u3 => (post (0 : Int32) (u3.1, u3.2.1, u3.2.2.1, u3.2.2.2))) (fun E u3 => ((E = "java/lang/IllegalArgumentException" → (post (1 : Int32) (u3.1, u3.2.1, u3.2.2.1, u3.2.2.2))) ∧ (¬ E = "java/lang/IllegalArgumentException" → ((E = "java/lang/IndexOutOfBoundsException" → (post (2 : Int32) (u3.1, u3.2.1, u3.2.2.1, u3.2.2.2))) ∧ (¬ E = "java/lang/IndexOutOfBoundsException" → ((E = "java/lang/IllegalStateException" → (post (3 : Int32) (u3.1, u3.2.1, u3.2.2.1, u3.2.2.2))) ∧ (¬ E = "java/lang/IllegalStateException" → (False))))))))
set_option maxHeartbeats 4000000 in
set_option maxRecDepth 100000 in
theorem c_L_check (l : Launch) (hl9 : l.stackTraces = false) (sa : Nat → Nat) (dC : Nat → ClassId) (dI : Nat → Nat → Nat) (cI cZ cL : ClassId) (qR : Nat → Nat) (qU : Nat → Nat) (qI : Nat → Nat) (qW : Nat → Nat) (sz : Nat) (xR : St) (xU : St) (xI : St) (xW : St) (a1 : Int32) (a2 : Int32) (post : Int32 → (St × St × St × St) → Prop) (hw : wp_L_check xR xU xI xW a1 a2 post) : Met l y_L_check w_L_check ({ frames := 8, cells := 1, slots := 6, locals := 146 } : Room) (va_Pc [.ref (qR 0), .int a1, .int a2] (fun U => (xP (dC, dI) vwCl [(cI, .int), (cZ, .boolean), (cL, .long)] (wd_RUIW qR qU qI qW cI cZ cL xR xU xI xW) sz U ∧ xE "ReleaseRows" xTx sa (va_A (wd_RUIW qR qU qI qW cI cZ cL xR xU xI xW) sz) U.heap U) ∧ xN U)) (va_Qi post (xB (dC, dI) vwCl [(cI, .int), (cZ, .boolean), (cL, .long)] (va_A (wd_RUIW qR qU qI qW cI cZ cL xR xU xI xW) sz) (fun u => (wd_RUIW qR qU qI qW cI cZ cL u.1 u.2.1 u.2.2.1 u.2.2.2))) (va_A (wd_RUIW qR qU qI qW cI cZ cL xR xU xI xW) sz)) 1 6 (va_A (wd_RUIW qR qU qI qW cI cZ cL xR xU xI xW) sz) := by
  refine x_ofN (cc := b_L_check) (maxL := 4) (by decide) rfl (Nat.le_of_ble_eq_true rfl) (fun p e s m below meth c A Q hx hb hml hts hown htab hK hA hP hD hS hE hN hret ls hl => ?_)
  have hl : lv_has ls 4 [(0, .ref (qR 0)), (1, .int a1), (2, .int a2)] := hl
  unfold wp_L_check at hw
  refine lv_aload_n hx hb d_L_check_0 rfl (lv_at hl 0 rfl) ?_
  refine lv_iload_n hx hb d_L_check_1 rfl (lv_at hl 1 rfl) ?_
  refine lv_iload_n hx hb d_L_check_2 rfl (lv_at hl 2 rfl) ?_
  refine x_cxv (w2 := fun u3 => (wd_RUIW qR qU qI qW cI cZ cL u3.1 u3.2.1 u3.2.2.1 u3.2.2.2)) (v2 := fun u3 => (wd_RUIW qR qU qI qW cI cZ cL u3.1 u3.2.1 u3.2.2.1 u3.2.2.2)) [0, 1, 2, 3, 4, 5, 6, 7, 8, 9, 10, 11, 12, 13, 14, 15, 16, 17, 18, 19, 20, 21, 22, 23, 24] [] [0, 1, 2, 3, 4, 5, 6, 7, 8, 9, 10, 11, 12, 13, 14, 15, 16, 17, 18, 19, 20, 21, 22, 23, 24] (vx_runV (As := [.int a1, .int a2]) (rest := []) ⟨hx, hb, hml, hown, hts⟩ (c_R_check l hl9 sa dC dI cI cZ cL qR qU qI qW _ xR xU xI xW a1 a2 _ _ hw) (cwV 2 hts (x_gV k_493 k_494 k_495 k_26 k_496) rfl rfl rfl (by decide +kernel) ⟨Nat.le_of_ble_eq_true rfl, Nat.le_of_ble_eq_true rfl⟩) ⟨x_blindX, va_recv hK hP (ci := 3) (q0 := 0) rfl rfl, fun U hU hW => x_preX (isC := [0, 1, 2, 3, 4, 5, 6, 7, 8, 9, 10, 11, 12, 13, 14, 15, 16, 17, 18, 19, 20, 21, 22, 23, 24]) hK hP hD hS hA hE rfl rfl hU hW⟩ rfl rfl hl.1 rfl (lv_room (Nat.le_of_ble_eq_true rfl)) d_L_check_3 ⟨Nat.le_of_ble_eq_true rfl, Nat.le_of_ble_eq_true rfl⟩) hP hD hS hA rfl rfl rfl (by decide) (fun _ => rfl) (fun _ => rfl) rfl (fun E u3 ce q9 H locs hw hP hD hS h1 h2 h3 => ?_) (fun u3 H locs hw hP hD hS => ?_)
  · by_cases e0 : E = "java/lang/IllegalArgumentException"
    · have hw := hw.1 e0
      rw [e0] at h3
      refine vx_catch hown [] ⟨0, 6, 9, 21⟩ [⟨0, 6, 12, 13⟩, ⟨0, 6, 15, 34⟩] htab (fun _ h => absurd h List.not_mem_nil) (by decide) (by decide) (hts _ k_359) (va_Nw.use rfl (hE.2.2.2.1 _ (by decide))) h1 h2 h3 ?_
      refine W.eq (g2 := F0 m 9 ls [.ref q9]) rfl ?_
      refine lv_astore_n (lv' := [(3, .ref q9), (0, .ref (qR 0)), (1, .int a1), (2, .int a2)]) hx hb d_L_check_9 rfl hl (by decide) rfl (fun ls hl => ?_)
      refine lv_iconst (v := (1 : Int32)) hx hb d_L_check_10 (by decide) ?_
      exact hret (1 : Int32) (u3.1, u3.2.1, u3.2.2.1, u3.2.2.2) _ _ _ _ _ _ rfl hw hP hD hS (Nat.le_of_ble_eq_true rfl) (Nat.le_of_ble_eq_true rfl) d_L_check_11
    · have hw := hw.2 e0
      by_cases e1 : E = "java/lang/IndexOutOfBoundsException"
      · have hw := hw.1 e1
        rw [e1] at h3
        refine vx_catch hown [⟨0, 6, 9, 21⟩] ⟨0, 6, 12, 13⟩ [⟨0, 6, 15, 34⟩] htab (List.forall_mem_cons.mpr ⟨Or.inr ⟨by decide, "java/lang/IllegalArgumentException", hts _ k_359, hN _ (by decide) _ (by decide) (by decide)⟩, fun _ h => absurd h List.not_mem_nil⟩) (by decide) (by decide) (hts _ k_179) (va_Nw.use rfl (hE.2.2.2.1 _ (by decide))) h1 h2 h3 ?_
        refine W.eq (g2 := F0 m 12 ls [.ref q9]) rfl ?_
        refine lv_astore_n (lv' := [(3, .ref q9), (0, .ref (qR 0)), (1, .int a1), (2, .int a2)]) hx hb d_L_check_12 rfl hl (by decide) rfl (fun ls hl => ?_)
        refine lv_iconst (v := (2 : Int32)) hx hb d_L_check_13 (by decide) ?_
        exact hret (2 : Int32) (u3.1, u3.2.1, u3.2.2.1, u3.2.2.2) _ _ _ _ _ _ rfl hw hP hD hS (Nat.le_of_ble_eq_true rfl) (Nat.le_of_ble_eq_true rfl) d_L_check_14
      · have hw := hw.2 e1
        by_cases e2 : E = "java/lang/IllegalStateException"
        · have hw := hw.1 e2
          rw [e2] at h3
          refine vx_catch hown [⟨0, 6, 9, 21⟩, ⟨0, 6, 12, 13⟩] ⟨0, 6, 15, 34⟩ [] htab (List.forall_mem_cons.mpr ⟨Or.inr ⟨by decide, "java/lang/IllegalArgumentException", hts _ k_359, hN _ (by decide) _ (by decide) (by decide)⟩, List.forall_mem_cons.mpr ⟨Or.inr ⟨by decide, "java/lang/IndexOutOfBoundsException", hts _ k_179, hN _ (by decide) _ (by decide) (by decide)⟩, fun _ h => absurd h List.not_mem_nil⟩⟩) (by decide) (by decide) (hts _ k_425) (va_Nw.use rfl (hE.2.2.2.1 _ (by decide))) h1 h2 h3 ?_
          refine W.eq (g2 := F0 m 15 ls [.ref q9]) rfl ?_
          refine lv_astore_n (lv' := [(3, .ref q9), (0, .ref (qR 0)), (1, .int a1), (2, .int a2)]) hx hb d_L_check_15 rfl hl (by decide) rfl (fun ls hl => ?_)
          refine lv_iconst (v := (3 : Int32)) hx hb d_L_check_16 (by decide) ?_
          exact hret (3 : Int32) (u3.1, u3.2.1, u3.2.2.1, u3.2.2.2) _ _ _ _ _ _ rfl hw hP hD hS (Nat.le_of_ble_eq_true rfl) (Nat.le_of_ble_eq_true rfl) d_L_check_17
        · have hw := hw.2 e2
          exact hw.elim
  · refine lv_goto (tgt := 18) hx hb d_L_check_6 (by decide) ?_
    refine lv_iconst (v := (0 : Int32)) hx hb d_L_check_18 (by decide) ?_
    exact hret (0 : Int32) (u3.1, u3.2.1, u3.2.2.1, u3.2.2.2) _ _ _ _ _ _ rfl hw hP hD hS (Nat.le_of_ble_eq_true rfl) (Nat.le_of_ble_eq_true rfl) d_L_check_19

def wp_L_inside (xR : St) (xU : St) (xI : St) (xW : St) (a1 : Int32) (a2 : Int32) (post : Int32 → (St × St × St × St) → Prop) : Prop := wp_R_inside xR xU xI xW a1 a2 (fun u3 => (post (0 : Int32) (u3.1, u3.2.1, u3.2.2.1, u3.2.2.2))) (fun E u3 => ((E = "java/lang/IllegalArgumentException" → (post (1 : Int32) (u3.1, u3.2.1, u3.2.2.1, u3.2.2.2))) ∧ (¬ E = "java/lang/IllegalArgumentException" → ((E = "java/lang/IndexOutOfBoundsException" → (post (2 : Int32) (u3.1, u3.2.1, u3.2.2.1, u3.2.2.2))) ∧ (¬ E = "java/lang/IndexOutOfBoundsException" → ((E = "java/lang/IllegalStateException" → (post (3 : Int32) (u3.1, u3.2.1, u3.2.2.1, u3.2.2.2))) ∧ (¬ E = "java/lang/IllegalStateException" → (False))))))))
set_option maxHeartbeats 4000000 in
set_option maxRecDepth 100000 in
theorem c_L_inside (l : Launch) (hl9 : l.stackTraces = false) (sa : Nat → Nat) (dC : Nat → ClassId) (dI : Nat → Nat → Nat) (cI cZ cL : ClassId) (qR : Nat → Nat) (qU : Nat → Nat) (qI : Nat → Nat) (qW : Nat → Nat) (sz : Nat) (xR : St) (xU : St) (xI : St) (xW : St) (a1 : Int32) (a2 : Int32) (post : Int32 → (St × St × St × St) → Prop) (hw : wp_L_inside xR xU xI xW a1 a2 post) : Met l y_L_inside w_L_inside ({ frames := 8, cells := 1, slots := 6, locals := 146 } : Room) (va_Pc [.ref (qR 0), .int a1, .int a2] (fun U => (xP (dC, dI) vwCl [(cI, .int), (cZ, .boolean), (cL, .long)] (wd_RUIW qR qU qI qW cI cZ cL xR xU xI xW) sz U ∧ xE "ReleaseRows" xTx sa (va_A (wd_RUIW qR qU qI qW cI cZ cL xR xU xI xW) sz) U.heap U) ∧ xN U)) (va_Qi post (xB (dC, dI) vwCl [(cI, .int), (cZ, .boolean), (cL, .long)] (va_A (wd_RUIW qR qU qI qW cI cZ cL xR xU xI xW) sz) (fun u => (wd_RUIW qR qU qI qW cI cZ cL u.1 u.2.1 u.2.2.1 u.2.2.2))) (va_A (wd_RUIW qR qU qI qW cI cZ cL xR xU xI xW) sz)) 1 6 (va_A (wd_RUIW qR qU qI qW cI cZ cL xR xU xI xW) sz) := by
  refine x_ofN (cc := b_L_inside) (maxL := 4) (by decide) rfl (Nat.le_of_ble_eq_true rfl) (fun p e s m below meth c A Q hx hb hml hts hown htab hK hA hP hD hS hE hN hret ls hl => ?_)
  have hl : lv_has ls 4 [(0, .ref (qR 0)), (1, .int a1), (2, .int a2)] := hl
  unfold wp_L_inside at hw
  refine lv_aload_n hx hb d_L_inside_0 rfl (lv_at hl 0 rfl) ?_
  refine lv_iload_n hx hb d_L_inside_1 rfl (lv_at hl 1 rfl) ?_
  refine lv_iload_n hx hb d_L_inside_2 rfl (lv_at hl 2 rfl) ?_
  refine x_cxv (w2 := fun u3 => (wd_RUIW qR qU qI qW cI cZ cL u3.1 u3.2.1 u3.2.2.1 u3.2.2.2)) (v2 := fun u3 => (wd_RUIW qR qU qI qW cI cZ cL u3.1 u3.2.1 u3.2.2.1 u3.2.2.2)) [0, 1, 2, 3, 4, 5, 6, 7, 8, 9, 10, 11, 12, 13, 14, 15, 16, 17, 18, 19, 20, 21, 22, 23, 24] [] [0, 1, 2, 3, 4, 5, 6, 7, 8, 9, 10, 11, 12, 13, 14, 15, 16, 17, 18, 19, 20, 21, 22, 23, 24] (vx_runV (As := [.int a1, .int a2]) (rest := []) ⟨hx, hb, hml, hown, hts⟩ (c_R_inside l hl9 sa dC dI cI cZ cL qR qU qI qW _ xR xU xI xW a1 a2 _ _ hw) (cwV 2 hts (x_gV k_500 k_501 k_502 k_26 k_503) rfl rfl rfl (by decide +kernel) ⟨Nat.le_of_ble_eq_true rfl, Nat.le_of_ble_eq_true rfl⟩) ⟨x_blindX, va_recv hK hP (ci := 3) (q0 := 0) rfl rfl, fun U hU hW => x_preX (isC := [0, 1, 2, 3, 4, 5, 6, 7, 8, 9, 10, 11, 12, 13, 14, 15, 16, 17, 18, 19, 20, 21, 22, 23, 24]) hK hP hD hS hA hE rfl rfl hU hW⟩ rfl rfl hl.1 rfl (lv_room (Nat.le_of_ble_eq_true rfl)) d_L_inside_3 ⟨Nat.le_of_ble_eq_true rfl, Nat.le_of_ble_eq_true rfl⟩) hP hD hS hA rfl rfl rfl (by decide) (fun _ => rfl) (fun _ => rfl) rfl (fun E u3 ce q9 H locs hw hP hD hS h1 h2 h3 => ?_) (fun u3 H locs hw hP hD hS => ?_)
  · by_cases e0 : E = "java/lang/IllegalArgumentException"
    · have hw := hw.1 e0
      rw [e0] at h3
      refine vx_catch hown [] ⟨0, 6, 9, 21⟩ [⟨0, 6, 12, 13⟩, ⟨0, 6, 15, 34⟩] htab (fun _ h => absurd h List.not_mem_nil) (by decide) (by decide) (hts _ k_359) (va_Nw.use rfl (hE.2.2.2.1 _ (by decide))) h1 h2 h3 ?_
      refine W.eq (g2 := F0 m 9 ls [.ref q9]) rfl ?_
      refine lv_astore_n (lv' := [(3, .ref q9), (0, .ref (qR 0)), (1, .int a1), (2, .int a2)]) hx hb d_L_inside_9 rfl hl (by decide) rfl (fun ls hl => ?_)
      refine lv_iconst (v := (1 : Int32)) hx hb d_L_inside_10 (by decide) ?_
      exact hret (1 : Int32) (u3.1, u3.2.1, u3.2.2.1, u3.2.2.2) _ _ _ _ _ _ rfl hw hP hD hS (Nat.le_of_ble_eq_true rfl) (Nat.le_of_ble_eq_true rfl) d_L_inside_11
    · have hw := hw.2 e0
      by_cases e1 : E = "java/lang/IndexOutOfBoundsException"
      · have hw := hw.1 e1
        rw [e1] at h3
        refine vx_catch hown [⟨0, 6, 9, 21⟩] ⟨0, 6, 12, 13⟩ [⟨0, 6, 15, 34⟩] htab (List.forall_mem_cons.mpr ⟨Or.inr ⟨by decide, "java/lang/IllegalArgumentException", hts _ k_359, hN _ (by decide) _ (by decide) (by decide)⟩, fun _ h => absurd h List.not_mem_nil⟩) (by decide) (by decide) (hts _ k_179) (va_Nw.use rfl (hE.2.2.2.1 _ (by decide))) h1 h2 h3 ?_
        refine W.eq (g2 := F0 m 12 ls [.ref q9]) rfl ?_
        refine lv_astore_n (lv' := [(3, .ref q9), (0, .ref (qR 0)), (1, .int a1), (2, .int a2)]) hx hb d_L_inside_12 rfl hl (by decide) rfl (fun ls hl => ?_)
        refine lv_iconst (v := (2 : Int32)) hx hb d_L_inside_13 (by decide) ?_
        exact hret (2 : Int32) (u3.1, u3.2.1, u3.2.2.1, u3.2.2.2) _ _ _ _ _ _ rfl hw hP hD hS (Nat.le_of_ble_eq_true rfl) (Nat.le_of_ble_eq_true rfl) d_L_inside_14
      · have hw := hw.2 e1
        by_cases e2 : E = "java/lang/IllegalStateException"
        · have hw := hw.1 e2
          rw [e2] at h3
          refine vx_catch hown [⟨0, 6, 9, 21⟩, ⟨0, 6, 12, 13⟩] ⟨0, 6, 15, 34⟩ [] htab (List.forall_mem_cons.mpr ⟨Or.inr ⟨by decide, "java/lang/IllegalArgumentException", hts _ k_359, hN _ (by decide) _ (by decide) (by decide)⟩, List.forall_mem_cons.mpr ⟨Or.inr ⟨by decide, "java/lang/IndexOutOfBoundsException", hts _ k_179, hN _ (by decide) _ (by decide) (by decide)⟩, fun _ h => absurd h List.not_mem_nil⟩⟩) (by decide) (by decide) (hts _ k_425) (va_Nw.use rfl (hE.2.2.2.1 _ (by decide))) h1 h2 h3 ?_
          refine W.eq (g2 := F0 m 15 ls [.ref q9]) rfl ?_
          refine lv_astore_n (lv' := [(3, .ref q9), (0, .ref (qR 0)), (1, .int a1), (2, .int a2)]) hx hb d_L_inside_15 rfl hl (by decide) rfl (fun ls hl => ?_)
          refine lv_iconst (v := (3 : Int32)) hx hb d_L_inside_16 (by decide) ?_
          exact hret (3 : Int32) (u3.1, u3.2.1, u3.2.2.1, u3.2.2.2) _ _ _ _ _ _ rfl hw hP hD hS (Nat.le_of_ble_eq_true rfl) (Nat.le_of_ble_eq_true rfl) d_L_inside_17
        · have hw := hw.2 e2
          exact hw.elim
  · refine lv_goto (tgt := 18) hx hb d_L_inside_6 (by decide) ?_
    refine lv_iconst (v := (0 : Int32)) hx hb d_L_inside_18 (by decide) ?_
    exact hret (0 : Int32) (u3.1, u3.2.1, u3.2.2.1, u3.2.2.2) _ _ _ _ _ _ rfl hw hP hD hS (Nat.le_of_ble_eq_true rfl) (Nat.le_of_ble_eq_true rfl) d_L_inside_19

def wp_L_report (xR : St) (xU : St) (xI : St) (xW : St) (a1 : Int32) (a2 : Int32) (post : Int32 → (St × St × St × St) → Prop) : Prop := wp_R_report xR xU xI xW a1 a2 (fun u3 => (post (0 : Int32) (u3.1, u3.2.1, u3.2.2.1, u3.2.2.2))) (fun E u3 => ((E = "java/lang/IllegalArgumentException" → (post (1 : Int32) (u3.1, u3.2.1, u3.2.2.1, u3.2.2.2))) ∧ (¬ E = "java/lang/IllegalArgumentException" → ((E = "java/lang/IllegalStateException" → (post (2 : Int32) (u3.1, u3.2.1, u3.2.2.1, u3.2.2.2))) ∧ (¬ E = "java/lang/IllegalStateException" → (False))))))
set_option maxHeartbeats 4000000 in
set_option maxRecDepth 100000 in
theorem c_L_report (l : Launch) (hl9 : l.stackTraces = false) (sa : Nat → Nat) (dC : Nat → ClassId) (dI : Nat → Nat → Nat) (cI cZ cL : ClassId) (qR : Nat → Nat) (qU : Nat → Nat) (qI : Nat → Nat) (qW : Nat → Nat) (sz : Nat) (xR : St) (xU : St) (xI : St) (xW : St) (a1 : Int32) (a2 : Int32) (post : Int32 → (St × St × St × St) → Prop) (hw : wp_L_report xR xU xI xW a1 a2 post) : Met l y_L_report w_L_report ({ frames := 8, cells := 1, slots := 6, locals := 146 } : Room) (va_Pc [.ref (qR 0), .int a1, .int a2] (fun U => (xP (dC, dI) vwCl [(cI, .int), (cZ, .boolean), (cL, .long)] (wd_RUIW qR qU qI qW cI cZ cL xR xU xI xW) sz U ∧ xE "ReleaseRows" xTx sa (va_A (wd_RUIW qR qU qI qW cI cZ cL xR xU xI xW) sz) U.heap U) ∧ xN U)) (va_Qi post (xB (dC, dI) vwCl [(cI, .int), (cZ, .boolean), (cL, .long)] (va_A (wd_RUIW qR qU qI qW cI cZ cL xR xU xI xW) sz) (fun u => (wd_RUIW qR qU qI qW cI cZ cL u.1 u.2.1 u.2.2.1 u.2.2.2))) (va_A (wd_RUIW qR qU qI qW cI cZ cL xR xU xI xW) sz)) 1 6 (va_A (wd_RUIW qR qU qI qW cI cZ cL xR xU xI xW) sz) := by
  refine x_ofN (cc := b_L_report) (maxL := 4) (by decide) rfl (Nat.le_of_ble_eq_true rfl) (fun p e s m below meth c A Q hx hb hml hts hown htab hK hA hP hD hS hE hN hret ls hl => ?_)
  have hl : lv_has ls 4 [(0, .ref (qR 0)), (1, .int a1), (2, .int a2)] := hl
  unfold wp_L_report at hw
  refine lv_aload_n hx hb d_L_report_0 rfl (lv_at hl 0 rfl) ?_
  refine lv_iload_n hx hb d_L_report_1 rfl (lv_at hl 1 rfl) ?_
  refine lv_iload_n hx hb d_L_report_2 rfl (lv_at hl 2 rfl) ?_
  refine x_cxv (w2 := fun u3 => (wd_RUIW qR qU qI qW cI cZ cL u3.1 u3.2.1 u3.2.2.1 u3.2.2.2)) (v2 := fun u3 => (wd_RUIW qR qU qI qW cI cZ cL u3.1 u3.2.1 u3.2.2.1 u3.2.2.2)) [0, 1, 2, 3, 4, 5, 6, 7, 8, 9, 10, 11, 12, 13, 14, 15, 16, 17, 18, 19, 20, 21, 22, 23, 24] [] [0, 1, 2, 3, 4, 5, 6, 7, 8, 9, 10, 11, 12, 13, 14, 15, 16, 17, 18, 19, 20, 21, 22, 23, 24] (vx_runV (As := [.int a1, .int a2]) (rest := []) ⟨hx, hb, hml, hown, hts⟩ (c_R_report l hl9 sa dC dI cI cZ cL qR qU qI qW _ xR xU xI xW a1 a2 _ _ hw) (cwV 2 hts (x_gV k_507 k_508 k_509 k_26 k_510) rfl rfl rfl (by decide +kernel) ⟨Nat.le_of_ble_eq_true rfl, Nat.le_of_ble_eq_true rfl⟩) ⟨x_blindX, va_recv hK hP (ci := 3) (q0 := 0) rfl rfl, fun U hU hW => x_preX (isC := [0, 1, 2, 3, 4, 5, 6, 7, 8, 9, 10, 11, 12, 13, 14, 15, 16, 17, 18, 19, 20, 21, 22, 23, 24]) hK hP hD hS hA hE rfl rfl hU hW⟩ rfl rfl hl.1 rfl (lv_room (Nat.le_of_ble_eq_true rfl)) d_L_report_3 ⟨Nat.le_of_ble_eq_true rfl, Nat.le_of_ble_eq_true rfl⟩) hP hD hS hA rfl rfl rfl (by decide) (fun _ => rfl) (fun _ => rfl) rfl (fun E u3 ce q9 H locs hw hP hD hS h1 h2 h3 => ?_) (fun u3 H locs hw hP hD hS => ?_)
  · by_cases e0 : E = "java/lang/IllegalArgumentException"
    · have hw := hw.1 e0
      rw [e0] at h3
      refine vx_catch hown [] ⟨0, 6, 9, 21⟩ [⟨0, 6, 12, 34⟩] htab (fun _ h => absurd h List.not_mem_nil) (by decide) (by decide) (hts _ k_359) (va_Nw.use rfl (hE.2.2.2.1 _ (by decide))) h1 h2 h3 ?_
      refine W.eq (g2 := F0 m 9 ls [.ref q9]) rfl ?_
      refine lv_astore_n (lv' := [(3, .ref q9), (0, .ref (qR 0)), (1, .int a1), (2, .int a2)]) hx hb d_L_report_9 rfl hl (by decide) rfl (fun ls hl => ?_)
      refine lv_iconst (v := (1 : Int32)) hx hb d_L_report_10 (by decide) ?_
      exact hret (1 : Int32) (u3.1, u3.2.1, u3.2.2.1, u3.2.2.2) _ _ _ _ _ _ rfl hw hP hD hS (Nat.le_of_ble_eq_true rfl) (Nat.le_of_ble_eq_true rfl) d_L_report_11
    · have hw := hw.2 e0
      by_cases e1 : E = "java/lang/IllegalStateException"
      · have hw := hw.1 e1
        rw [e1] at h3
        refine vx_catch hown [⟨0, 6, 9, 21⟩] ⟨0, 6, 12, 34⟩ [] htab (List.forall_mem_cons.mpr ⟨Or.inr ⟨by decide, "java/lang/IllegalArgumentException", hts _ k_359, hN _ (by decide) _ (by decide) (by decide)⟩, fun _ h => absurd h List.not_mem_nil⟩) (by decide) (by decide) (hts _ k_425) (va_Nw.use rfl (hE.2.2.2.1 _ (by decide))) h1 h2 h3 ?_
        refine W.eq (g2 := F0 m 12 ls [.ref q9]) rfl ?_
        refine lv_astore_n (lv' := [(3, .ref q9), (0, .ref (qR 0)), (1, .int a1), (2, .int a2)]) hx hb d_L_report_12 rfl hl (by decide) rfl (fun ls hl => ?_)
        refine lv_iconst (v := (2 : Int32)) hx hb d_L_report_13 (by decide) ?_
        exact hret (2 : Int32) (u3.1, u3.2.1, u3.2.2.1, u3.2.2.2) _ _ _ _ _ _ rfl hw hP hD hS (Nat.le_of_ble_eq_true rfl) (Nat.le_of_ble_eq_true rfl) d_L_report_14
      · have hw := hw.2 e1
        exact hw.elim
  · refine lv_goto (tgt := 15) hx hb d_L_report_6 (by decide) ?_
    refine lv_iconst (v := (0 : Int32)) hx hb d_L_report_15 (by decide) ?_
    exact hret (0 : Int32) (u3.1, u3.2.1, u3.2.2.1, u3.2.2.2) _ _ _ _ _ _ rfl hw hP hD hS (Nat.le_of_ble_eq_true rfl) (Nat.le_of_ble_eq_true rfl) d_L_report_16

def wp_L_watch (xR : St) (xU : St) (xI : St) (xW : St) (a1 : Int32) (a2 : Int32) (post : Int32 → (St × St × St × St) → Prop) : Prop := wp_R_watch xR xU xI xW a1 a2 (fun u3 => (post (0 : Int32) (u3.1, u3.2.1, u3.2.2.1, u3.2.2.2))) (fun E u3 => ((E = "java/lang/IllegalArgumentException" → (post (1 : Int32) (u3.1, u3.2.1, u3.2.2.1, u3.2.2.2))) ∧ (¬ E = "java/lang/IllegalArgumentException" → ((E = "java/lang/IndexOutOfBoundsException" → (post (2 : Int32) (u3.1, u3.2.1, u3.2.2.1, u3.2.2.2))) ∧ (¬ E = "java/lang/IndexOutOfBoundsException" → ((E = "java/lang/IllegalStateException" → (post (3 : Int32) (u3.1, u3.2.1, u3.2.2.1, u3.2.2.2))) ∧ (¬ E = "java/lang/IllegalStateException" → (False))))))))
set_option maxHeartbeats 4000000 in
set_option maxRecDepth 100000 in
theorem c_L_watch (l : Launch) (hl9 : l.stackTraces = false) (sa : Nat → Nat) (dC : Nat → ClassId) (dI : Nat → Nat → Nat) (cI cZ cL : ClassId) (qR : Nat → Nat) (qU : Nat → Nat) (qI : Nat → Nat) (qW : Nat → Nat) (sz : Nat) (xR : St) (xU : St) (xI : St) (xW : St) (a1 : Int32) (a2 : Int32) (post : Int32 → (St × St × St × St) → Prop) (hw : wp_L_watch xR xU xI xW a1 a2 post) : Met l y_L_watch w_L_watch ({ frames := 8, cells := 1, slots := 6, locals := 146 } : Room) (va_Pc [.ref (qR 0), .int a1, .int a2] (fun U => (xP (dC, dI) vwCl [(cI, .int), (cZ, .boolean), (cL, .long)] (wd_RUIW qR qU qI qW cI cZ cL xR xU xI xW) sz U ∧ xE "ReleaseRows" xTx sa (va_A (wd_RUIW qR qU qI qW cI cZ cL xR xU xI xW) sz) U.heap U) ∧ xN U)) (va_Qi post (xB (dC, dI) vwCl [(cI, .int), (cZ, .boolean), (cL, .long)] (va_A (wd_RUIW qR qU qI qW cI cZ cL xR xU xI xW) sz) (fun u => (wd_RUIW qR qU qI qW cI cZ cL u.1 u.2.1 u.2.2.1 u.2.2.2))) (va_A (wd_RUIW qR qU qI qW cI cZ cL xR xU xI xW) sz)) 1 6 (va_A (wd_RUIW qR qU qI qW cI cZ cL xR xU xI xW) sz) := by
  refine x_ofN (cc := b_L_watch) (maxL := 4) (by decide) rfl (Nat.le_of_ble_eq_true rfl) (fun p e s m below meth c A Q hx hb hml hts hown htab hK hA hP hD hS hE hN hret ls hl => ?_)
  have hl : lv_has ls 4 [(0, .ref (qR 0)), (1, .int a1), (2, .int a2)] := hl
  unfold wp_L_watch at hw
  refine lv_aload_n hx hb d_L_watch_0 rfl (lv_at hl 0 rfl) ?_
  refine lv_iload_n hx hb d_L_watch_1 rfl (lv_at hl 1 rfl) ?_
  refine lv_iload_n hx hb d_L_watch_2 rfl (lv_at hl 2 rfl) ?_
  refine x_cxv (w2 := fun u3 => (wd_RUIW qR qU qI qW cI cZ cL u3.1 u3.2.1 u3.2.2.1 u3.2.2.2)) (v2 := fun u3 => (wd_RUIW qR qU qI qW cI cZ cL u3.1 u3.2.1 u3.2.2.1 u3.2.2.2)) [0, 1, 2, 3, 4, 5, 6, 7, 8, 9, 10, 11, 12, 13, 14, 15, 16, 17, 18, 19, 20, 21, 22, 23, 24] [] [0, 1, 2, 3, 4, 5, 6, 7, 8, 9, 10, 11, 12, 13, 14, 15, 16, 17, 18, 19, 20, 21, 22, 23, 24] (vx_runV (As := [.int a1, .int a2]) (rest := []) ⟨hx, hb, hml, hown, hts⟩ (c_R_watch l hl9 sa dC dI cI cZ cL qR qU qI qW _ xR xU xI xW a1 a2 _ _ hw) (cwV 2 hts (x_gV k_514 k_515 k_516 k_26 k_517) rfl rfl rfl (by decide +kernel) ⟨Nat.le_of_ble_eq_true rfl, Nat.le_of_ble_eq_true rfl⟩) ⟨x_blindX, va_recv hK hP (ci := 3) (q0 := 0) rfl rfl, fun U hU hW => x_preX (isC := [0, 1, 2, 3, 4, 5, 6, 7, 8, 9, 10, 11, 12, 13, 14, 15, 16, 17, 18, 19, 20, 21, 22, 23, 24]) hK hP hD hS hA hE rfl rfl hU hW⟩ rfl rfl hl.1 rfl (lv_room (Nat.le_of_ble_eq_true rfl)) d_L_watch_3 ⟨Nat.le_of_ble_eq_true rfl, Nat.le_of_ble_eq_true rfl⟩) hP hD hS hA rfl rfl rfl (by decide) (fun _ => rfl) (fun _ => rfl) rfl (fun E u3 ce q9 H locs hw hP hD hS h1 h2 h3 => ?_) (fun u3 H locs hw hP hD hS => ?_)
  · by_cases e0 : E = "java/lang/IllegalArgumentException"
    · have hw := hw.1 e0
      rw [e0] at h3
      refine vx_catch hown [] ⟨0, 6, 9, 21⟩ [⟨0, 6, 12, 13⟩, ⟨0, 6, 15, 34⟩] htab (fun _ h => absurd h List.not_mem_nil) (by decide) (by decide) (hts _ k_359) (va_Nw.use rfl (hE.2.2.2.1 _ (by decide))) h1 h2 h3 ?_
      refine W.eq (g2 := F0 m 9 ls [.ref q9]) rfl ?_
      refine lv_astore_n (lv' := [(3, .ref q9), (0, .ref (qR 0)), (1, .int a1), (2, .int a2)]) hx hb d_L_watch_9 rfl hl (by decide) rfl (fun ls hl => ?_)
      refine lv_iconst (v := (1 : Int32)) hx hb d_L_watch_10 (by decide) ?_
      exact hret (1 : Int32) (u3.1, u3.2.1, u3.2.2.1, u3.2.2.2) _ _ _ _ _ _ rfl hw hP hD hS (Nat.le_of_ble_eq_true rfl) (Nat.le_of_ble_eq_true rfl) d_L_watch_11
    · have hw := hw.2 e0
      by_cases e1 : E = "java/lang/IndexOutOfBoundsException"
      · have hw := hw.1 e1
        rw [e1] at h3
        refine vx_catch hown [⟨0, 6, 9, 21⟩] ⟨0, 6, 12, 13⟩ [⟨0, 6, 15, 34⟩] htab (List.forall_mem_cons.mpr ⟨Or.inr ⟨by decide, "java/lang/IllegalArgumentException", hts _ k_359, hN _ (by decide) _ (by decide) (by decide)⟩, fun _ h => absurd h List.not_mem_nil⟩) (by decide) (by decide) (hts _ k_179) (va_Nw.use rfl (hE.2.2.2.1 _ (by decide))) h1 h2 h3 ?_
        refine W.eq (g2 := F0 m 12 ls [.ref q9]) rfl ?_
        refine lv_astore_n (lv' := [(3, .ref q9), (0, .ref (qR 0)), (1, .int a1), (2, .int a2)]) hx hb d_L_watch_12 rfl hl (by decide) rfl (fun ls hl => ?_)
        refine lv_iconst (v := (2 : Int32)) hx hb d_L_watch_13 (by decide) ?_
        exact hret (2 : Int32) (u3.1, u3.2.1, u3.2.2.1, u3.2.2.2) _ _ _ _ _ _ rfl hw hP hD hS (Nat.le_of_ble_eq_true rfl) (Nat.le_of_ble_eq_true rfl) d_L_watch_14
      · have hw := hw.2 e1
        by_cases e2 : E = "java/lang/IllegalStateException"
        · have hw := hw.1 e2
          rw [e2] at h3
          refine vx_catch hown [⟨0, 6, 9, 21⟩, ⟨0, 6, 12, 13⟩] ⟨0, 6, 15, 34⟩ [] htab (List.forall_mem_cons.mpr ⟨Or.inr ⟨by decide, "java/lang/IllegalArgumentException", hts _ k_359, hN _ (by decide) _ (by decide) (by decide)⟩, List.forall_mem_cons.mpr ⟨Or.inr ⟨by decide, "java/lang/IndexOutOfBoundsException", hts _ k_179, hN _ (by decide) _ (by decide) (by decide)⟩, fun _ h => absurd h List.not_mem_nil⟩⟩) (by decide) (by decide) (hts _ k_425) (va_Nw.use rfl (hE.2.2.2.1 _ (by decide))) h1 h2 h3 ?_
          refine W.eq (g2 := F0 m 15 ls [.ref q9]) rfl ?_
          refine lv_astore_n (lv' := [(3, .ref q9), (0, .ref (qR 0)), (1, .int a1), (2, .int a2)]) hx hb d_L_watch_15 rfl hl (by decide) rfl (fun ls hl => ?_)
          refine lv_iconst (v := (3 : Int32)) hx hb d_L_watch_16 (by decide) ?_
          exact hret (3 : Int32) (u3.1, u3.2.1, u3.2.2.1, u3.2.2.2) _ _ _ _ _ _ rfl hw hP hD hS (Nat.le_of_ble_eq_true rfl) (Nat.le_of_ble_eq_true rfl) d_L_watch_17
        · have hw := hw.2 e2
          exact hw.elim
  · refine lv_goto (tgt := 18) hx hb d_L_watch_6 (by decide) ?_
    refine lv_iconst (v := (0 : Int32)) hx hb d_L_watch_18 (by decide) ?_
    exact hret (0 : Int32) (u3.1, u3.2.1, u3.2.2.1, u3.2.2.2) _ _ _ _ _ _ rfl hw hP hD hS (Nat.le_of_ble_eq_true rfl) (Nat.le_of_ble_eq_true rfl) d_L_watch_19

def wp_L_tick (xR : St) (xU : St) (xI : St) (xW : St) (xo : (Nat → Int64)) (a1 : Int32) (post : Int32 → (St × St × St × St × (Nat → Int64)) → Prop) : Prop := wp_R_tick xR xU xI xW a1 (fun r4 u4 => (vp_in (0 : Int32) 1 ∧ (post (0 : Int32) (u4.1, u4.2.1, u4.2.2.1, u4.2.2.2, (vp_updL xo (0 : Int32).toNatClampNeg r4.toInt64))))) (fun E u4 => ((E = "java/lang/IndexOutOfBoundsException" → (post (1 : Int32) (u4.1, u4.2.1, u4.2.2.1, u4.2.2.2, xo))) ∧ (¬ E = "java/lang/IndexOutOfBoundsException" → (False))))
set_option maxHeartbeats 4000000 in
set_option maxRecDepth 100000 in
theorem c_L_tick (l : Launch) (hl9 : l.stackTraces = false) (sa : Nat → Nat) (dC : Nat → ClassId) (dI : Nat → Nat → Nat) (cI cZ cL : ClassId) (qR : Nat → Nat) (qU : Nat → Nat) (qI : Nat → Nat) (qW : Nat → Nat) (qo : Nat) (sz : Nat) (xR : St) (xU : St) (xI : St) (xW : St) (xo : (Nat → Int64)) (a1 : Int32) (post : Int32 → (St × St × St × St × (Nat → Int64)) → Prop) (hw : wp_L_tick xR xU xI xW xo a1 post) : Met l y_L_tick w_L_tick ({ frames := 8, cells := 1, slots := 6, locals := 148 } : Room) (va_Pc [.ref (qR 0), .int a1, .ref qo] (fun U => (xP (dC, dI) vwCl [(cI, .int), (cZ, .boolean), (cL, .long)] (wd_RUIWo qR qU qI qW qo cI cZ cL xR xU xI xW xo) sz U ∧ xE "ReleaseRows" xTx sa (va_A (wd_RUIWo qR qU qI qW qo cI cZ cL xR xU xI xW xo) sz) U.heap U) ∧ xN U)) (va_Qi post (xB (dC, dI) vwCl [(cI, .int), (cZ, .boolean), (cL, .long)] (va_A (wd_RUIWo qR qU qI qW qo cI cZ cL xR xU xI xW xo) sz) (fun u => (wd_RUIWo qR qU qI qW qo cI cZ cL u.1 u.2.1 u.2.2.1 u.2.2.2.1 u.2.2.2.2))) (va_A (wd_RUIWo qR qU qI qW qo cI cZ cL xR xU xI xW xo) sz)) 1 6 (va_A (wd_RUIWo qR qU qI qW qo cI cZ cL xR xU xI xW xo) sz) := by
  refine x_ofN (cc := b_L_tick) (maxL := 4) (by decide) rfl (Nat.le_of_ble_eq_true rfl) (fun p e s m below meth c A Q hx hb hml hts hown htab hK hA hP hD hS hE hN hret ls hl => ?_)
  have hl : lv_has ls 4 [(0, .ref (qR 0)), (1, .int a1), (2, .ref qo)] := hl
  unfold wp_L_tick at hw
  refine lv_aload_n hx hb d_L_tick_0 rfl (lv_at hl 2 rfl) ?_
  refine lv_iconst (v := (0 : Int32)) hx hb d_L_tick_1 (by decide) ?_
  refine lv_aload_n hx hb d_L_tick_2 rfl (lv_at hl 0 rfl) ?_
  refine lv_iload_n hx hb d_L_tick_3 rfl (lv_at hl 1 rfl) ?_
  refine x_cxi (w2 := fun u4 => (wd_RUIWo qR qU qI qW qo cI cZ cL u4.1 u4.2.1 u4.2.2.1 u4.2.2.2 xo)) (v2 := fun u4 => (wd_RUIWo qR qU qI qW qo cI cZ cL u4.1 u4.2.1 u4.2.2.1 u4.2.2.2 xo)) [0, 1, 2, 3, 4, 5, 6, 7, 8, 9, 10, 11, 12, 13, 14, 15, 16, 17, 18, 19, 20, 21, 22, 23, 24] [25] [1, 2, 3, 4, 5, 6, 7, 8, 9, 10, 11, 12, 13, 14, 15, 16, 17, 18, 19, 20, 21, 22, 23, 24, 25, 0] (vx_runV (As := [.int a1]) (rest := [.int (0 : Int32), .ref qo]) ⟨hx, hb, hml, hown, hts⟩ (c_R_tick l hl9 sa dC dI cI cZ cL qR qU qI qW _ xR xU xI xW a1 _ _ hw) (cwV 1 hts (x_gV k_522 k_523 k_524 k_26 k_525) rfl rfl rfl (by decide +kernel) ⟨Nat.le_of_ble_eq_true rfl, Nat.le_of_ble_eq_true rfl⟩) ⟨x_blindX, va_recv hK hP (ci := 3) (q0 := 0) rfl rfl, fun U hU hW => x_preX (isC := [0, 1, 2, 3, 4, 5, 6, 7, 8, 9, 10, 11, 12, 13, 14, 15, 16, 17, 18, 19, 20, 21, 22, 23, 24]) hK hP hD hS hA hE rfl rfl hU hW⟩ rfl rfl hl.1 rfl (lv_room (Nat.le_of_ble_eq_true rfl)) d_L_tick_4 ⟨Nat.le_of_ble_eq_true rfl, Nat.le_of_ble_eq_true rfl⟩) hP hD hS hA rfl rfl rfl (by decide) (fun _ => rfl) (fun _ => rfl) rfl (fun E u4 ce q9 H locs hw hP hD hS h1 h2 h3 => ?_) (fun r4 u4 H locs hw hP hD hS => ?_)
  · by_cases e0 : E = "java/lang/IndexOutOfBoundsException"
    · have hw := hw.1 e0
      rw [e0] at h3
      refine vx_catch hown [] ⟨0, 9, 12, 13⟩ [] htab (fun _ h => absurd h List.not_mem_nil) (by decide) (by decide) (hts _ k_179) (va_Nw.use rfl (hE.2.2.2.1 _ (by decide))) h1 h2 h3 ?_
      refine W.eq (g2 := F0 m 12 ls [.ref q9]) rfl ?_
      refine lv_astore_n (lv' := [(3, .ref q9), (0, .ref (qR 0)), (1, .int a1), (2, .ref qo)]) hx hb d_L_tick_12 rfl hl (by decide) rfl (fun ls hl => ?_)
      refine lv_iconst (v := (1 : Int32)) hx hb d_L_tick_13 (by decide) ?_
      exact hret (1 : Int32) (u4.1, u4.2.1, u4.2.2.1, u4.2.2.2, xo) _ _ _ _ _ _ rfl hw hP hD hS (Nat.le_of_ble_eq_true rfl) (Nat.le_of_ble_eq_true rfl) d_L_tick_14
    · have hw := hw.2 e0
      exact hw.elim
  · refine lv_i2l (v := r4.toInt64) hx hb d_L_tick_7 rfl ?_
    obtain ⟨h8, hw⟩ := hw
    refine va_last hx hb hK hP hD hS 25 2 rfl rfl h8 d_L_tick_8 (fun H locs hP hD hS => ?_)
    have hP := wsP_RUIWo_o hP
    have hD := wsD_RUIWo_o hD
    refine lv_goto (tgt := 15) hx hb d_L_tick_9 (by decide) ?_
    refine lv_iconst (v := (0 : Int32)) hx hb d_L_tick_15 (by decide) ?_
    exact hret (0 : Int32) (u4.1, u4.2.1, u4.2.2.1, u4.2.2.2, (vp_updL xo (0 : Int32).toNatClampNeg r4.toInt64)) _ _ _ _ _ _ rfl hw hP hD hS (Nat.le_of_ble_eq_true rfl) (Nat.le_of_ble_eq_true rfl) d_L_tick_16

def wp_L_unitAt (xR : St) (xU : St) (xI : St) (xW : St) (xo : (Nat → Int64)) (a1 : Int32) (a2 : Int32) (post : Int32 → (Nat → Int64) → Prop) : Prop := wp_R_unitAt xR xU xI xW a1 a2 (fun r5 _ => (vp_in (0 : Int32) 1 ∧ (post (0 : Int32) (vp_updL xo (0 : Int32).toNatClampNeg r5.toInt64)))) (fun E _ => ((E = "java/lang/IllegalArgumentException" → (post (1 : Int32) xo)) ∧ (¬ E = "java/lang/IllegalArgumentException" → (False))))
set_option maxHeartbeats 4000000 in
set_option maxRecDepth 100000 in
theorem c_L_unitAt (l : Launch) (hl9 : l.stackTraces = false) (sa : Nat → Nat) (dC : Nat → ClassId) (dI : Nat → Nat → Nat) (cI cZ cL : ClassId) (qR : Nat → Nat) (qU : Nat → Nat) (qI : Nat → Nat) (qW : Nat → Nat) (qo : Nat) (sz : Nat) (xR : St) (xU : St) (xI : St) (xW : St) (xo : (Nat → Int64)) (a1 : Int32) (a2 : Int32) (post : Int32 → (Nat → Int64) → Prop) (hw : wp_L_unitAt xR xU xI xW xo a1 a2 post) : Met l y_L_unitAt w_L_unitAt ({ frames := 8, cells := 1, slots := 6, locals := 132 } : Room) (va_Pc [.ref (qR 0), .int a1, .int a2, .ref qo] (fun U => (xP (dC, dI) vwCl [(cI, .int), (cZ, .boolean), (cL, .long)] (wd_RUIWo qR qU qI qW qo cI cZ cL xR xU xI xW xo) sz U ∧ xE "ReleaseRows" xTx sa (va_A (wd_RUIWo qR qU qI qW qo cI cZ cL xR xU xI xW xo) sz) U.heap U) ∧ xN U)) (va_Qi post (xB (dC, dI) vwCl [(cI, .int), (cZ, .boolean), (cL, .long)] (va_A (wd_RUIWo qR qU qI qW qo cI cZ cL xR xU xI xW xo) sz) (fun u => (wd_RUIWo qR qU qI qW qo cI cZ cL xR xU xI xW u))) (va_A (wd_RUIWo qR qU qI qW qo cI cZ cL xR xU xI xW xo) sz)) 1 6 (va_A (wd_RUIWo qR qU qI qW qo cI cZ cL xR xU xI xW xo) sz) := by
  refine x_ofN (cc := b_L_unitAt) (maxL := 5) (by decide) rfl (Nat.le_of_ble_eq_true rfl) (fun p e s m below meth c A Q hx hb hml hts hown htab hK hA hP hD hS hE hN hret ls hl => ?_)
  have hl : lv_has ls 5 [(0, .ref (qR 0)), (1, .int a1), (2, .int a2), (3, .ref qo)] := hl
  unfold wp_L_unitAt at hw
  refine lv_aload_n hx hb d_L_unitAt_0 rfl (lv_at hl 3 rfl) ?_
  refine lv_iconst (v := (0 : Int32)) hx hb d_L_unitAt_1 (by decide) ?_
  refine lv_aload_n hx hb d_L_unitAt_2 rfl (lv_at hl 0 rfl) ?_
  refine lv_iload_n hx hb d_L_unitAt_3 rfl (lv_at hl 1 rfl) ?_
  refine lv_iload_n hx hb d_L_unitAt_4 rfl (lv_at hl 2 rfl) ?_
  refine x_cxi (w2 := fun _ => (wd_RUIWo qR qU qI qW qo cI cZ cL xR xU xI xW xo)) (v2 := fun _ => (wd_RUIWo qR qU qI qW qo cI cZ cL xR xU xI xW xo)) [0, 1, 2, 3, 4, 5, 6, 7, 8, 9, 10, 11, 12, 13, 14, 15, 16, 17, 18, 19, 20, 21, 22, 23, 24] [25] [1, 2, 3, 4, 5, 6, 7, 8, 9, 10, 11, 12, 13, 14, 15, 16, 17, 18, 19, 20, 21, 22, 23, 24, 25, 0] (vx_runV (As := [.int a1, .int a2]) (rest := [.int (0 : Int32), .ref qo]) ⟨hx, hb, hml, hown, hts⟩ (c_R_unitAt l hl9 sa dC dI cI cZ cL qR qU qI qW _ xR xU xI xW a1 a2 _ _ hw) (cwV 2 hts (x_gV k_538 k_539 k_540 k_26 k_541) rfl rfl rfl (by decide +kernel) ⟨Nat.le_of_ble_eq_true rfl, Nat.le_of_ble_eq_true rfl⟩) ⟨x_blindX, va_recv hK hP (ci := 3) (q0 := 0) rfl rfl, fun U hU hW => x_preX (isC := [0, 1, 2, 3, 4, 5, 6, 7, 8, 9, 10, 11, 12, 13, 14, 15, 16, 17, 18, 19, 20, 21, 22, 23, 24]) hK hP hD hS hA hE rfl rfl hU hW⟩ rfl rfl hl.1 rfl (lv_room (Nat.le_of_ble_eq_true rfl)) d_L_unitAt_5 ⟨Nat.le_of_ble_eq_true rfl, Nat.le_of_ble_eq_true rfl⟩) hP hD hS hA rfl rfl rfl (by decide) (fun _ => rfl) (fun _ => rfl) rfl (fun E _ ce q9 H locs hw hP hD hS h1 h2 h3 => ?_) (fun r5 _ H locs hw hP hD hS => ?_)
  · by_cases e0 : E = "java/lang/IllegalArgumentException"
    · have hw := hw.1 e0
      rw [e0] at h3
      refine vx_catch hown [] ⟨0, 10, 13, 21⟩ [] htab (fun _ h => absurd h List.not_mem_nil) (by decide) (by decide) (hts _ k_359) (va_Nw.use rfl (hE.2.2.2.1 _ (by decide))) h1 h2 h3 ?_
      refine W.eq (g2 := F0 m 13 ls [.ref q9]) rfl ?_
      refine lv_astore (lv' := [(4, .ref q9), (0, .ref (qR 0)), (1, .int a1), (2, .int a2), (3, .ref qo)]) hx hb d_L_unitAt_13 hl (by decide) rfl (fun ls hl => ?_)
      refine lv_iconst (v := (1 : Int32)) hx hb d_L_unitAt_15 (by decide) ?_
      exact hret (1 : Int32) xo _ _ _ _ _ _ rfl hw hP hD hS (Nat.le_of_ble_eq_true rfl) (Nat.le_of_ble_eq_true rfl) d_L_unitAt_16
    · have hw := hw.2 e0
      exact hw.elim
  · refine lv_i2l (v := r5.toInt64) hx hb d_L_unitAt_8 rfl ?_
    obtain ⟨h9, hw⟩ := hw
    refine va_last hx hb hK hP hD hS 25 2 rfl rfl h9 d_L_unitAt_9 (fun H locs hP hD hS => ?_)
    have hP := wsP_RUIWo_o hP
    have hD := wsD_RUIWo_o hD
    refine lv_goto (tgt := 17) hx hb d_L_unitAt_10 (by decide) ?_
    refine lv_iconst (v := (0 : Int32)) hx hb d_L_unitAt_17 (by decide) ?_
    exact hret (0 : Int32) (vp_updL xo (0 : Int32).toNatClampNeg r5.toInt64) _ _ _ _ _ _ rfl hw hP hD hS (Nat.le_of_ble_eq_true rfl) (Nat.le_of_ble_eq_true rfl) d_L_unitAt_18

def wp_L_incidentAt (xR : St) (xU : St) (xI : St) (xW : St) (xo : (Nat → Int64)) (a1 : Int32) (a2 : Int32) (post : Int32 → (Nat → Int64) → Prop) : Prop := wp_R_incidentAt xR xU xI xW a1 a2 (fun r5 _ => (vp_in (0 : Int32) 1 ∧ (post (0 : Int32) (vp_updL xo (0 : Int32).toNatClampNeg r5.toInt64)))) (fun E _ => ((E = "java/lang/IllegalArgumentException" → (post (1 : Int32) xo)) ∧ (¬ E = "java/lang/IllegalArgumentException" → (False))))
set_option maxHeartbeats 4000000 in
set_option maxRecDepth 100000 in
theorem c_L_incidentAt (l : Launch) (hl9 : l.stackTraces = false) (sa : Nat → Nat) (dC : Nat → ClassId) (dI : Nat → Nat → Nat) (cI cZ cL : ClassId) (qR : Nat → Nat) (qU : Nat → Nat) (qI : Nat → Nat) (qW : Nat → Nat) (qo : Nat) (sz : Nat) (xR : St) (xU : St) (xI : St) (xW : St) (xo : (Nat → Int64)) (a1 : Int32) (a2 : Int32) (post : Int32 → (Nat → Int64) → Prop) (hw : wp_L_incidentAt xR xU xI xW xo a1 a2 post) : Met l y_L_incidentAt w_L_incidentAt ({ frames := 8, cells := 1, slots := 6, locals := 132 } : Room) (va_Pc [.ref (qR 0), .int a1, .int a2, .ref qo] (fun U => (xP (dC, dI) vwCl [(cI, .int), (cZ, .boolean), (cL, .long)] (wd_RUIWo qR qU qI qW qo cI cZ cL xR xU xI xW xo) sz U ∧ xE "ReleaseRows" xTx sa (va_A (wd_RUIWo qR qU qI qW qo cI cZ cL xR xU xI xW xo) sz) U.heap U) ∧ xN U)) (va_Qi post (xB (dC, dI) vwCl [(cI, .int), (cZ, .boolean), (cL, .long)] (va_A (wd_RUIWo qR qU qI qW qo cI cZ cL xR xU xI xW xo) sz) (fun u => (wd_RUIWo qR qU qI qW qo cI cZ cL xR xU xI xW u))) (va_A (wd_RUIWo qR qU qI qW qo cI cZ cL xR xU xI xW xo) sz)) 1 6 (va_A (wd_RUIWo qR qU qI qW qo cI cZ cL xR xU xI xW xo) sz) := by
  refine x_ofN (cc := b_L_incidentAt) (maxL := 5) (by decide) rfl (Nat.le_of_ble_eq_true rfl) (fun p e s m below meth c A Q hx hb hml hts hown htab hK hA hP hD hS hE hN hret ls hl => ?_)
  have hl : lv_has ls 5 [(0, .ref (qR 0)), (1, .int a1), (2, .int a2), (3, .ref qo)] := hl
  unfold wp_L_incidentAt at hw
  refine lv_aload_n hx hb d_L_incidentAt_0 rfl (lv_at hl 3 rfl) ?_
  refine lv_iconst (v := (0 : Int32)) hx hb d_L_incidentAt_1 (by decide) ?_
  refine lv_aload_n hx hb d_L_incidentAt_2 rfl (lv_at hl 0 rfl) ?_
  refine lv_iload_n hx hb d_L_incidentAt_3 rfl (lv_at hl 1 rfl) ?_
  refine lv_iload_n hx hb d_L_incidentAt_4 rfl (lv_at hl 2 rfl) ?_
  refine x_cxi (w2 := fun _ => (wd_RUIWo qR qU qI qW qo cI cZ cL xR xU xI xW xo)) (v2 := fun _ => (wd_RUIWo qR qU qI qW qo cI cZ cL xR xU xI xW xo)) [0, 1, 2, 3, 4, 5, 6, 7, 8, 9, 10, 11, 12, 13, 14, 15, 16, 17, 18, 19, 20, 21, 22, 23, 24] [25] [1, 2, 3, 4, 5, 6, 7, 8, 9, 10, 11, 12, 13, 14, 15, 16, 17, 18, 19, 20, 21, 22, 23, 24, 25, 0] (vx_runV (As := [.int a1, .int a2]) (rest := [.int (0 : Int32), .ref qo]) ⟨hx, hb, hml, hown, hts⟩ (c_R_incidentAt l hl9 sa dC dI cI cZ cL qR qU qI qW _ xR xU xI xW a1 a2 _ _ hw) (cwV 2 hts (x_gV k_547 k_548 k_549 k_26 k_550) rfl rfl rfl (by decide +kernel) ⟨Nat.le_of_ble_eq_true rfl, Nat.le_of_ble_eq_true rfl⟩) ⟨x_blindX, va_recv hK hP (ci := 3) (q0 := 0) rfl rfl, fun U hU hW => x_preX (isC := [0, 1, 2, 3, 4, 5, 6, 7, 8, 9, 10, 11, 12, 13, 14, 15, 16, 17, 18, 19, 20, 21, 22, 23, 24]) hK hP hD hS hA hE rfl rfl hU hW⟩ rfl rfl hl.1 rfl (lv_room (Nat.le_of_ble_eq_true rfl)) d_L_incidentAt_5 ⟨Nat.le_of_ble_eq_true rfl, Nat.le_of_ble_eq_true rfl⟩) hP hD hS hA rfl rfl rfl (by decide) (fun _ => rfl) (fun _ => rfl) rfl (fun E _ ce q9 H locs hw hP hD hS h1 h2 h3 => ?_) (fun r5 _ H locs hw hP hD hS => ?_)
  · by_cases e0 : E = "java/lang/IllegalArgumentException"
    · have hw := hw.1 e0
      rw [e0] at h3
      refine vx_catch hown [] ⟨0, 10, 13, 21⟩ [] htab (fun _ h => absurd h List.not_mem_nil) (by decide) (by decide) (hts _ k_359) (va_Nw.use rfl (hE.2.2.2.1 _ (by decide))) h1 h2 h3 ?_
      refine W.eq (g2 := F0 m 13 ls [.ref q9]) rfl ?_
      refine lv_astore (lv' := [(4, .ref q9), (0, .ref (qR 0)), (1, .int a1), (2, .int a2), (3, .ref qo)]) hx hb d_L_incidentAt_13 hl (by decide) rfl (fun ls hl => ?_)
      refine lv_iconst (v := (1 : Int32)) hx hb d_L_incidentAt_15 (by decide) ?_
      exact hret (1 : Int32) xo _ _ _ _ _ _ rfl hw hP hD hS (Nat.le_of_ble_eq_true rfl) (Nat.le_of_ble_eq_true rfl) d_L_incidentAt_16
    · have hw := hw.2 e0
      exact hw.elim
  · refine lv_i2l (v := r5.toInt64) hx hb d_L_incidentAt_8 rfl ?_
    obtain ⟨h9, hw⟩ := hw
    refine va_last hx hb hK hP hD hS 25 2 rfl rfl h9 d_L_incidentAt_9 (fun H locs hP hD hS => ?_)
    have hP := wsP_RUIWo_o hP
    have hD := wsD_RUIWo_o hD
    refine lv_goto (tgt := 17) hx hb d_L_incidentAt_10 (by decide) ?_
    refine lv_iconst (v := (0 : Int32)) hx hb d_L_incidentAt_17 (by decide) ?_
    exact hret (0 : Int32) (vp_updL xo (0 : Int32).toNatClampNeg r5.toInt64) _ _ _ _ _ _ rfl hw hP hD hS (Nat.le_of_ble_eq_true rfl) (Nat.le_of_ble_eq_true rfl) d_L_incidentAt_18

def wp_L_count (xR : St) (xU : St) (xI : St) (xW : St) (xo : (Nat → Int64)) (a1 : Int32) (post : Int32 → (Nat → Int64) → Prop) : Prop := wp_R_count xR xU xI xW a1 (fun r4 _ => (vp_in (0 : Int32) 1 ∧ (post (0 : Int32) (vp_updL xo (0 : Int32).toNatClampNeg r4.toInt64)))) (fun E _ => ((E = "java/lang/IllegalArgumentException" → (post (1 : Int32) xo)) ∧ (¬ E = "java/lang/IllegalArgumentException" → (False))))
set_option maxHeartbeats 4000000 in
set_option maxRecDepth 100000 in
theorem c_L_count (l : Launch) (hl9 : l.stackTraces = false) (sa : Nat → Nat) (dC : Nat → ClassId) (dI : Nat → Nat → Nat) (cI cZ cL : ClassId) (qR : Nat → Nat) (qU : Nat → Nat) (qI : Nat → Nat) (qW : Nat → Nat) (qo : Nat) (sz : Nat) (xR : St) (xU : St) (xI : St) (xW : St) (xo : (Nat → Int64)) (a1 : Int32) (post : Int32 → (Nat → Int64) → Prop) (hw : wp_L_count xR xU xI xW xo a1 post) : Met l y_L_count w_L_count ({ frames := 8, cells := 1, slots := 6, locals := 131 } : Room) (va_Pc [.ref (qR 0), .int a1, .ref qo] (fun U => (xP (dC, dI) vwCl [(cI, .int), (cZ, .boolean), (cL, .long)] (wd_RUIWo qR qU qI qW qo cI cZ cL xR xU xI xW xo) sz U ∧ xE "ReleaseRows" xTx sa (va_A (wd_RUIWo qR qU qI qW qo cI cZ cL xR xU xI xW xo) sz) U.heap U) ∧ xN U)) (va_Qi post (xB (dC, dI) vwCl [(cI, .int), (cZ, .boolean), (cL, .long)] (va_A (wd_RUIWo qR qU qI qW qo cI cZ cL xR xU xI xW xo) sz) (fun u => (wd_RUIWo qR qU qI qW qo cI cZ cL xR xU xI xW u))) (va_A (wd_RUIWo qR qU qI qW qo cI cZ cL xR xU xI xW xo) sz)) 1 6 (va_A (wd_RUIWo qR qU qI qW qo cI cZ cL xR xU xI xW xo) sz) := by
  refine x_ofN (cc := b_L_count) (maxL := 4) (by decide) rfl (Nat.le_of_ble_eq_true rfl) (fun p e s m below meth c A Q hx hb hml hts hown htab hK hA hP hD hS hE hN hret ls hl => ?_)
  have hl : lv_has ls 4 [(0, .ref (qR 0)), (1, .int a1), (2, .ref qo)] := hl
  unfold wp_L_count at hw
  refine lv_aload_n hx hb d_L_count_0 rfl (lv_at hl 2 rfl) ?_
  refine lv_iconst (v := (0 : Int32)) hx hb d_L_count_1 (by decide) ?_
  refine lv_aload_n hx hb d_L_count_2 rfl (lv_at hl 0 rfl) ?_
  refine lv_iload_n hx hb d_L_count_3 rfl (lv_at hl 1 rfl) ?_
  refine x_cxi (w2 := fun _ => (wd_RUIWo qR qU qI qW qo cI cZ cL xR xU xI xW xo)) (v2 := fun _ => (wd_RUIWo qR qU qI qW qo cI cZ cL xR xU xI xW xo)) [0, 1, 2, 3, 4, 5, 6, 7, 8, 9, 10, 11, 12, 13, 14, 15, 16, 17, 18, 19, 20, 21, 22, 23, 24] [25] [1, 2, 3, 4, 5, 6, 7, 8, 9, 10, 11, 12, 13, 14, 15, 16, 17, 18, 19, 20, 21, 22, 23, 24, 25, 0] (vx_runV (As := [.int a1]) (rest := [.int (0 : Int32), .ref qo]) ⟨hx, hb, hml, hown, hts⟩ (c_R_count l hl9 sa dC dI cI cZ cL qR qU qI qW _ xR xU xI xW a1 _ _ hw) (cwV 1 hts (x_gV k_558 k_559 k_560 k_26 k_561) rfl rfl rfl (by decide +kernel) ⟨Nat.le_of_ble_eq_true rfl, Nat.le_of_ble_eq_true rfl⟩) ⟨x_blindX, va_recv hK hP (ci := 3) (q0 := 0) rfl rfl, fun U hU hW => x_preX (isC := [0, 1, 2, 3, 4, 5, 6, 7, 8, 9, 10, 11, 12, 13, 14, 15, 16, 17, 18, 19, 20, 21, 22, 23, 24]) hK hP hD hS hA hE rfl rfl hU hW⟩ rfl rfl hl.1 rfl (lv_room (Nat.le_of_ble_eq_true rfl)) d_L_count_4 ⟨Nat.le_of_ble_eq_true rfl, Nat.le_of_ble_eq_true rfl⟩) hP hD hS hA rfl rfl rfl (by decide) (fun _ => rfl) (fun _ => rfl) rfl (fun E _ ce q9 H locs hw hP hD hS h1 h2 h3 => ?_) (fun r4 _ H locs hw hP hD hS => ?_)
  · by_cases e0 : E = "java/lang/IllegalArgumentException"
    · have hw := hw.1 e0
      rw [e0] at h3
      refine vx_catch hown [] ⟨0, 9, 12, 21⟩ [] htab (fun _ h => absurd h List.not_mem_nil) (by decide) (by decide) (hts _ k_359) (va_Nw.use rfl (hE.2.2.2.1 _ (by decide))) h1 h2 h3 ?_
      refine W.eq (g2 := F0 m 12 ls [.ref q9]) rfl ?_
      refine lv_astore_n (lv' := [(3, .ref q9), (0, .ref (qR 0)), (1, .int a1), (2, .ref qo)]) hx hb d_L_count_12 rfl hl (by decide) rfl (fun ls hl => ?_)
      refine lv_iconst (v := (1 : Int32)) hx hb d_L_count_13 (by decide) ?_
      exact hret (1 : Int32) xo _ _ _ _ _ _ rfl hw hP hD hS (Nat.le_of_ble_eq_true rfl) (Nat.le_of_ble_eq_true rfl) d_L_count_14
    · have hw := hw.2 e0
      exact hw.elim
  · refine lv_i2l (v := r4.toInt64) hx hb d_L_count_7 rfl ?_
    obtain ⟨h8, hw⟩ := hw
    refine va_last hx hb hK hP hD hS 25 2 rfl rfl h8 d_L_count_8 (fun H locs hP hD hS => ?_)
    have hP := wsP_RUIWo_o hP
    have hD := wsD_RUIWo_o hD
    refine lv_goto (tgt := 15) hx hb d_L_count_9 (by decide) ?_
    refine lv_iconst (v := (0 : Int32)) hx hb d_L_count_15 (by decide) ?_
    exact hret (0 : Int32) (vp_updL xo (0 : Int32).toNatClampNeg r4.toInt64) _ _ _ _ _ _ rfl hw hP hD hS (Nat.le_of_ble_eq_true rfl) (Nat.le_of_ble_eq_true rfl) d_L_count_16


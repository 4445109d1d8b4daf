theorem d_L_feed_0 : decode b_L_feed 0 = .ok (.aload 4, 2) := by decide +kernel
theorem d_L_feed_2 : decode b_L_feed 2 = .ok (.iconst 0, 1) := by decide +kernel
theorem d_L_feed_3 : decode b_L_feed 3 = .ok (.aload_n 0, 1) := by decide +kernel
theorem d_L_feed_4 : decode b_L_feed 4 = .ok (.lload_n 1, 1) := by decide +kernel
theorem d_L_feed_5 : decode b_L_feed 5 = .ok (.iload_n 3, 1) := by decide +kernel
theorem d_L_feed_6 : decode b_L_feed 6 = .ok (.invokevirtual 7, 3) := by decide +kernel
theorem d_L_feed_9 : decode b_L_feed 9 = .ok (.i2l, 1) := by decide +kernel
theorem d_L_feed_10 : decode b_L_feed 10 = .ok (.lastore, 1) := by decide +kernel
theorem d_L_feed_11 : decode b_L_feed 11 = .ok (.goto 11, 3) := by decide +kernel
theorem d_L_feed_14 : decode b_L_feed 14 = .ok (.astore 5, 2) := by decide +kernel
theorem d_L_feed_16 : decode b_L_feed 16 = .ok (.iconst 1, 1) := by decide +kernel
theorem d_L_feed_17 : decode b_L_feed 17 = .ok (.ireturn, 1) := by decide +kernel
theorem d_L_feed_18 : decode b_L_feed 18 = .ok (.astore 5, 2) := by decide +kernel
theorem d_L_feed_20 : decode b_L_feed 20 = .ok (.iconst 2, 1) := by decide +kernel
theorem d_L_feed_21 : decode b_L_feed 21 = .ok (.ireturn, 1) := by decide +kernel
theorem d_L_feed_22 : decode b_L_feed 22 = .ok (.iconst 0, 1) := by decide +kernel
theorem d_L_feed_23 : decode b_L_feed 23 = .ok (.ireturn, 1) := by decide +kernel
theorem d_L_send_0 : decode b_L_send 0 = .ok (.aload_n 3, 1) := by decide +kernel
theorem d_L_send_1 : decode b_L_send 1 = .ok (.iconst 0, 1) := by decide +kernel
theorem d_L_send_2 : decode b_L_send 2 = .ok (.aload_n 0, 1) := by decide +kernel
theorem d_L_send_3 : decode b_L_send 3 = .ok (.iload_n 1, 1) := by decide +kernel
theorem d_L_send_4 : decode b_L_send 4 = .ok (.iload_n 2, 1) := by decide +kernel
theorem d_L_send_5 : decode b_L_send 5 = .ok (.invokevirtual 17, 3) := by decide +kernel
theorem d_L_send_8 : decode b_L_send 8 = .ok (.i2l, 1) := by decide +kernel
theorem d_L_send_9 : decode b_L_send 9 = .ok (.lastore, 1) := by decide +kernel
theorem d_L_send_10 : decode b_L_send 10 = .ok (.goto 7, 3) := by decide +kernel
theorem d_L_send_13 : decode b_L_send 13 = .ok (.astore 4, 2) := by decide +kernel
theorem d_L_send_15 : decode b_L_send 15 = .ok (.iconst 1, 1) := by decide +kernel
theorem d_L_send_16 : decode b_L_send 16 = .ok (.ireturn, 1) := by decide +kernel
theorem d_L_send_17 : decode b_L_send 17 = .ok (.iconst 0, 1) := by decide +kernel
theorem d_L_send_18 : decode b_L_send 18 = .ok (.ireturn, 1) := by decide +kernel
theorem d_L_alarm_0 : decode b_L_alarm 0 = .ok (.aload_n 3, 1) := by decide +kernel
theorem d_L_alarm_1 : decode b_L_alarm 1 = .ok (.iconst 0, 1) := by decide +kernel
theorem d_L_alarm_2 : decode b_L_alarm 2 = .ok (.aload_n 0, 1) := by decide +kernel
theorem d_L_alarm_3 : decode b_L_alarm 3 = .ok (.iload_n 1, 1) := by decide +kernel
theorem d_L_alarm_4 : decode b_L_alarm 4 = .ok (.iload_n 2, 1) := by decide +kernel
theorem d_L_alarm_5 : decode b_L_alarm 5 = .ok (.invokevirtual 23, 3) := by decide +kernel
theorem d_L_alarm_8 : decode b_L_alarm 8 = .ok (.ifCond .eq 7, 3) := by decide +kernel
theorem d_L_alarm_11 : decode b_L_alarm 11 = .ok (.lconst 1, 1) := by decide +kernel
theorem d_L_alarm_12 : decode b_L_alarm 12 = .ok (.goto 4, 3) := by decide +kernel
theorem d_L_alarm_15 : decode b_L_alarm 15 = .ok (.lconst 0, 1) := by decide +kernel
theorem d_L_alarm_16 : decode b_L_alarm 16 = .ok (.lastore, 1) := by decide +kernel
theorem d_L_alarm_17 : decode b_L_alarm 17 = .ok (.goto 11, 3) := by decide +kernel
theorem d_L_alarm_20 : decode b_L_alarm 20 = .ok (.astore 4, 2) := by decide +kernel
theorem d_L_alarm_22 : decode b_L_alarm 22 = .ok (.iconst 1, 1) := by decide +kernel
theorem d_L_alarm_23 : decode b_L_alarm 23 = .ok (.ireturn, 1) := by decide +kernel
theorem d_L_alarm_24 : decode b_L_alarm 24 = .ok (.astore 4, 2) := by decide +kernel
theorem d_L_alarm_26 : decode b_L_alarm 26 = .ok (.iconst 2, 1) := by decide +kernel
theorem d_L_alarm_27 : decode b_L_alarm 27 = .ok (.ireturn, 1) := by decide +kernel
theorem d_L_alarm_28 : decode b_L_alarm 28 = .ok (.iconst 0, 1) := by decide +kernel
theorem d_L_alarm_29 : decode b_L_alarm 29 = .ok (.ireturn, 1) := by decide +kernel
theorem d_L_noAlarm_0 : decode b_L_noAlarm 0 = .ok (.aload_n 2, 1) := by decide +kernel
theorem d_L_noAlarm_1 : decode b_L_noAlarm 1 = .ok (.iconst 0, 1) := by decide +kernel
theorem d_L_noAlarm_2 : decode b_L_noAlarm 2 = .ok (.aload_n 0, 1) := by decide +kernel
theorem d_L_noAlarm_3 : decode b_L_noAlarm 3 = .ok (.iload_n 1, 1) := by decide +kernel
theorem d_L_noAlarm_4 : decode b_L_noAlarm 4 = .ok (.invokevirtual 27, 3) := by decide +kernel
theorem d_L_noAlarm_7 : decode b_L_noAlarm 7 = .ok (.ifCond .eq 7, 3) := by decide +kernel
theorem d_L_noAlarm_10 : decode b_L_noAlarm 10 = .ok (.lconst 1, 1) := by decide +kernel
theorem d_L_noAlarm_11 : decode b_L_noAlarm 11 = .ok (.goto 4, 3) := by decide +kernel
theorem d_L_noAlarm_14 : decode b_L_noAlarm 14 = .ok (.lconst 0, 1) := by decide +kernel
theorem d_L_noAlarm_15 : decode b_L_noAlarm 15 = .ok (.lastore, 1) := by decide +kernel
theorem d_L_noAlarm_16 : decode b_L_noAlarm 16 = .ok (.goto 6, 3) := by decide +kernel
theorem d_L_noAlarm_19 : decode b_L_noAlarm 19 = .ok (.astore_n 3, 1) := by decide +kernel
theorem d_L_noAlarm_20 : decode b_L_noAlarm 20 = .ok (.iconst 1, 1) := by decide +kernel
theorem d_L_noAlarm_21 : decode b_L_noAlarm 21 = .ok (.ireturn, 1) := by decide +kernel
theorem d_L_noAlarm_22 : decode b_L_noAlarm 22 = .ok (.iconst 0, 1) := by decide +kernel
theorem d_L_noAlarm_23 : decode b_L_noAlarm 23 = .ok (.ireturn, 1) := by decide +kernel
theorem d_L_sync_0 : decode b_L_sync 0 = .ok (.aload_n 3, 1) := by decide +kernel
theorem d_L_sync_1 : decode b_L_sync 1 = .ok (.iconst 0, 1) := by decide +kernel
theorem d_L_sync_2 : decode b_L_sync 2 = .ok (.aload_n 0, 1) := by decide +kernel
theorem d_L_sync_3 : decode b_L_sync 3 = .ok (.iload_n 1, 1) := by decide +kernel
theorem d_L_sync_4 : decode b_L_sync 4 = .ok (.iload_n 2, 1) := by decide +kernel
theorem d_L_sync_5 : decode b_L_sync 5 = .ok (.invokevirtual 31, 3) := by decide +kernel
theorem d_L_sync_8 : decode b_L_sync 8 = .ok (.ifCond .eq 7, 3) := by decide +kernel
theorem d_L_sync_11 : decode b_L_sync 11 = .ok (.lconst 1, 1) := by decide +kernel
theorem d_L_sync_12 : decode b_L_sync 12 = .ok (.goto 4, 3) := by decide +kernel
theorem d_L_sync_15 : decode b_L_sync 15 = .ok (.lconst 0, 1) := by decide +kernel
theorem d_L_sync_16 : decode b_L_sync 16 = .ok (.lastore, 1) := by decide +kernel
theorem d_L_sync_17 : decode b_L_sync 17 = .ok (.goto 11, 3) := by decide +kernel
theorem d_L_sync_20 : decode b_L_sync 20 = .ok (.astore 4, 2) := by decide +kernel
theorem d_L_sync_22 : decode b_L_sync 22 = .ok (.iconst 1, 1) := by decide +kernel
theorem d_L_sync_23 : decode b_L_sync 23 = .ok (.ireturn, 1) := by decide +kernel
theorem d_L_sync_24 : decode b_L_sync 24 = .ok (.astore 4, 2) := by decide +kernel
theorem d_L_sync_26 : decode b_L_sync 26 = .ok (.iconst 2, 1) := by decide +kernel
theorem d_L_sync_27 : decode b_L_sync 27 = .ok (.ireturn, 1) := by decide +kernel
theorem d_L_sync_28 : decode b_L_sync 28 = .ok (.iconst 0, 1) := by decide +kernel
theorem d_L_sync_29 : decode b_L_sync 29 = .ok (.ireturn, 1) := by decide +kernel
theorem d_L_noSync_0 : decode b_L_noSync 0 = .ok (.aload_n 2, 1) := by decide +kernel
theorem d_L_noSync_1 : decode b_L_noSync 1 = .ok (.iconst 0, 1) := by decide +kernel
theorem d_L_noSync_2 : decode b_L_noSync 2 = .ok (.aload_n 0, 1) := by decide +kernel
theorem d_L_noSync_3 : decode b_L_noSync 3 = .ok (.iload_n 1, 1) := by decide +kernel
theorem d_L_noSync_4 : decode b_L_noSync 4 = .ok (.invokevirtual 34, 3) := by decide +kernel
theorem d_L_noSync_7 : decode b_L_noSync 7 = .ok (.ifCond .eq 7, 3) := by decide +kernel
theorem d_L_noSync_10 : decode b_L_noSync 10 = .ok (.lconst 1, 1) := by decide +kernel
theorem d_L_noSync_11 : decode b_L_noSync 11 = .ok (.goto 4, 3) := by decide +kernel
theorem d_L_noSync_14 : decode b_L_noSync 14 = .ok (.lconst 0, 1) := by decide +kernel
theorem d_L_noSync_15 : decode b_L_noSync 15 = .ok (.lastore, 1) := by decide +kernel
theorem d_L_noSync_16 : decode b_L_noSync 16 = .ok (.goto 6, 3) := by decide +kernel
theorem d_L_noSync_19 : decode b_L_noSync 19 = .ok (.astore_n 3, 1) := by decide +kernel
theorem d_L_noSync_20 : decode b_L_noSync 20 = .ok (.iconst 1, 1) := by decide +kernel
theorem d_L_noSync_21 : decode b_L_noSync 21 = .ok (.ireturn, 1) := by decide +kernel
theorem d_L_noSync_22 : decode b_L_noSync 22 = .ok (.iconst 0, 1) := by decide +kernel
theorem d_L_noSync_23 : decode b_L_noSync 23 = .ok (.ireturn, 1) := by decide +kernel
theorem d_L_run_0 : decode b_L_run 0 = .ok (.aload_n 2, 1) := by decide +kernel
theorem d_L_run_1 : decode b_L_run 1 = .ok (.iconst 0, 1) := by decide +kernel
theorem d_L_run_2 : decode b_L_run 2 = .ok (.aload_n 0, 1) := by decide +kernel
theorem d_L_run_3 : decode b_L_run 3 = .ok (.iload_n 1, 1) := by decide +kernel
theorem d_L_run_4 : decode b_L_run 4 = .ok (.invokevirtual 37, 3) := by decide +kernel
theorem d_L_run_7 : decode b_L_run 7 = .ok (.i2l, 1) := by decide +kernel
theorem d_L_run_8 : decode b_L_run 8 = .ok (.lastore, 1) := by decide +kernel
theorem d_L_run_9 : decode b_L_run 9 = .ok (.goto 6, 3) := by decide +kernel
theorem d_L_run_12 : decode b_L_run 12 = .ok (.astore_n 3, 1) := by decide +kernel
theorem d_L_run_13 : decode b_L_run 13 = .ok (.iconst 1, 1) := by decide +kernel
theorem d_L_run_14 : decode b_L_run 14 = .ok (.ireturn, 1) := by decide +kernel
theorem d_L_run_15 : decode b_L_run 15 = .ok (.iconst 0, 1) := by decide +kernel
theorem d_L_run_16 : decode b_L_run 16 = .ok (.ireturn, 1) := by decide +kernel
theorem d_L_delay_0 : decode b_L_delay 0 = .ok (.aload 4, 2) := by decide +kernel
theorem d_L_delay_2 : decode b_L_delay 2 = .ok (.iconst 0, 1) := by decide +kernel
theorem d_L_delay_3 : decode b_L_delay 3 = .ok (.aload_n 0, 1) := by decide +kernel
theorem d_L_delay_4 : decode b_L_delay 4 = .ok (.iload_n 1, 1) := by decide +kernel
theorem d_L_delay_5 : decode b_L_delay 5 = .ok (.iload_n 2, 1) := by decide +kernel
theorem d_L_delay_6 : decode b_L_delay 6 = .ok (.iload_n 3, 1) := by decide +kernel
theorem d_L_delay_7 : decode b_L_delay 7 = .ok (.invokevirtual 41, 3) := by decide +kernel
theorem d_L_delay_10 : decode b_L_delay 10 = .ok (.i2l, 1) := by decide +kernel
theorem d_L_delay_11 : decode b_L_delay 11 = .ok (.lastore, 1) := by decide +kernel
theorem d_L_delay_12 : decode b_L_delay 12 = .ok (.goto 11, 3) := by decide +kernel
theorem d_L_delay_15 : decode b_L_delay 15 = .ok (.astore 5, 2) := by decide +kernel
theorem d_L_delay_17 : decode b_L_delay 17 = .ok (.iconst 1, 1) := by decide +kernel
theorem d_L_delay_18 : decode b_L_delay 18 = .ok (.ireturn, 1) := by decide +kernel
theorem d_L_delay_19 : decode b_L_delay 19 = .ok (.astore 5, 2) := by decide +kernel
theorem d_L_delay_21 : decode b_L_delay 21 = .ok (.iconst 2, 1) := by decide +kernel
theorem d_L_delay_22 : decode b_L_delay 22 = .ok (.ireturn, 1) := by decide +kernel
theorem d_L_delay_23 : decode b_L_delay 23 = .ok (.iconst 0, 1) := by decide +kernel
theorem d_L_delay_24 : decode b_L_delay 24 = .ok (.ireturn, 1) := by decide +kernel
theorem d_L_part_0 : decode b_L_part 0 = .ok (.aload_n 2, 1) := by decide +kernel
theorem d_L_part_1 : decode b_L_part 1 = .ok (.iconst 0, 1) := by decide +kernel
theorem d_L_part_2 : decode b_L_part 2 = .ok (.aload_n 0, 1) := by decide +kernel
theorem d_L_part_3 : decode b_L_part 3 = .ok (.iload_n 1, 1) := by decide +kernel
theorem d_L_part_4 : decode b_L_part 4 = .ok (.invokevirtual 45, 3) := by decide +kernel
theorem d_L_part_7 : decode b_L_part 7 = .ok (.i2l, 1) := by decide +kernel
theorem d_L_part_8 : decode b_L_part 8 = .ok (.lastore, 1) := by decide +kernel
theorem d_L_part_9 : decode b_L_part 9 = .ok (.goto 6, 3) := by decide +kernel
theorem d_L_part_12 : decode b_L_part 12 = .ok (.astore_n 3, 1) := by decide +kernel
theorem d_L_part_13 : decode b_L_part 13 = .ok (.iconst 1, 1) := by decide +kernel
theorem d_L_part_14 : decode b_L_part 14 = .ok (.ireturn, 1) := by decide +kernel
theorem d_L_part_15 : decode b_L_part 15 = .ok (.iconst 0, 1) := by decide +kernel
theorem d_L_part_16 : decode b_L_part 16 = .ok (.ireturn, 1) := by decide +kernel
theorem d_L_down_0 : decode b_L_down 0 = .ok (.aload_n 2, 1) := by decide +kernel
theorem d_L_down_1 : decode b_L_down 1 = .ok (.iconst 0, 1) := by decide +kernel
theorem d_L_down_2 : decode b_L_down 2 = .ok (.aload_n 0, 1) := by decide +kernel
theorem d_L_down_3 : decode b_L_down 3 = .ok (.iload_n 1, 1) := by decide +kernel
theorem d_L_down_4 : decode b_L_down 4 = .ok (.invokevirtual 48, 3) := by decide +kernel
theorem d_L_down_7 : decode b_L_down 7 = .ok (.i2l, 1) := by decide +kernel
theorem d_L_down_8 : decode b_L_down 8 = .ok (.lastore, 1) := by decide +kernel
theorem d_L_down_9 : decode b_L_down 9 = .ok (.goto 6, 3) := by decide +kernel
theorem d_L_down_12 : decode b_L_down 12 = .ok (.astore_n 3, 1) := by decide +kernel
theorem d_L_down_13 : decode b_L_down 13 = .ok (.iconst 1, 1) := by decide +kernel
theorem d_L_down_14 : decode b_L_down 14 = .ok (.ireturn, 1) := by decide +kernel
theorem d_L_down_15 : decode b_L_down 15 = .ok (.iconst 0, 1) := by decide +kernel
theorem d_L_down_16 : decode b_L_down 16 = .ok (.ireturn, 1) := by decide +kernel
theorem d_L_noise_0 : decode b_L_noise 0 = .ok (.aload_n 0, 1) := by decide +kernel
theorem d_L_noise_1 : decode b_L_noise 1 = .ok (.iload_n 1, 1) := by decide +kernel
theorem d_L_noise_2 : decode b_L_noise 2 = .ok (.iload_n 2, 1) := by decide +kernel
theorem d_L_noise_3 : decode b_L_noise 3 = .ok (.iload_n 3, 1) := by decide +kernel
theorem d_L_noise_4 : decode b_L_noise 4 = .ok (.lload 4, 2) := by decide +kernel
theorem d_L_noise_6 : decode b_L_noise 6 = .ok (.invokevirtual 51, 3) := by decide +kernel
theorem d_L_noise_9 : decode b_L_noise 9 = .ok (.goto 7, 3) := by decide +kernel
theorem d_L_noise_12 : decode b_L_noise 12 = .ok (.astore 6, 2) := by decide +kernel
theorem d_L_noise_14 : decode b_L_noise 14 = .ok (.iconst 1, 1) := by decide +kernel
theorem d_L_noise_15 : decode b_L_noise 15 = .ok (.ireturn, 1) := by decide +kernel
theorem d_L_noise_16 : decode b_L_noise 16 = .ok (.iconst 0, 1) := by decide +kernel
theorem d_L_noise_17 : decode b_L_noise 17 = .ok (.ireturn, 1) := by decide +kernel
theorem d_L_meddle_0 : decode b_L_meddle 0 = .ok (.aload 4, 2) := by decide +kernel
theorem d_L_meddle_2 : decode b_L_meddle 2 = .ok (.iconst 0, 1) := by decide +kernel
theorem d_L_meddle_3 : decode b_L_meddle 3 = .ok (.aload_n 0, 1) := by decide +kernel
theorem d_L_meddle_4 : decode b_L_meddle 4 = .ok (.iload_n 1, 1) := by decide +kernel
theorem d_L_meddle_5 : decode b_L_meddle 5 = .ok (.iload_n 2, 1) := by decide +kernel
theorem d_L_meddle_6 : decode b_L_meddle 6 = .ok (.iload_n 3, 1) := by decide +kernel
theorem d_L_meddle_7 : decode b_L_meddle 7 = .ok (.invokevirtual 55, 3) := by decide +kernel
theorem d_L_meddle_10 : decode b_L_meddle 10 = .ok (.ifCond .eq 7, 3) := by decide +kernel
theorem d_L_meddle_13 : decode b_L_meddle 13 = .ok (.lconst 1, 1) := by decide +kernel
theorem d_L_meddle_14 : decode b_L_meddle 14 = .ok (.goto 4, 3) := by decide +kernel
theorem d_L_meddle_17 : decode b_L_meddle 17 = .ok (.lconst 0, 1) := by decide +kernel
theorem d_L_meddle_18 : decode b_L_meddle 18 = .ok (.lastore, 1) := by decide +kernel
theorem d_L_meddle_19 : decode b_L_meddle 19 = .ok (.goto 7, 3) := by decide +kernel
theorem d_L_meddle_22 : decode b_L_meddle 22 = .ok (.astore 5, 2) := by decide +kernel
theorem d_L_meddle_24 : decode b_L_meddle 24 = .ok (.iconst 1, 1) := by decide +kernel
theorem d_L_meddle_25 : decode b_L_meddle 25 = .ok (.ireturn, 1) := by decide +kernel
theorem d_L_meddle_26 : decode b_L_meddle 26 = .ok (.iconst 0, 1) := by decide +kernel
theorem d_L_meddle_27 : decode b_L_meddle 27 = .ok (.ireturn, 1) := by decide +kernel
theorem d_L_messageAt_0 : decode b_L_messageAt 0 = .ok (.aload_n 3, 1) := by decide +kernel
theorem d_L_messageAt_1 : decode b_L_messageAt 1 = .ok (.iconst 0, 1) := by decide +kernel
theorem d_L_messageAt_2 : decode b_L_messageAt 2 = .ok (.aload_n 0, 1) := by decide +kernel
theorem d_L_messageAt_3 : decode b_L_messageAt 3 = .ok (.iload_n 1, 1) := by decide +kernel
theorem d_L_messageAt_4 : decode b_L_messageAt 4 = .ok (.iload_n 2, 1) := by decide +kernel
theorem d_L_messageAt_5 : decode b_L_messageAt 5 = .ok (.invokevirtual 59, 3) := by decide +kernel
theorem d_L_messageAt_8 : decode b_L_messageAt 8 = .ok (.i2l, 1) := by decide +kernel
theorem d_L_messageAt_9 : decode b_L_messageAt 9 = .ok (.lastore, 1) := by decide +kernel
theorem d_L_messageAt_10 : decode b_L_messageAt 10 = .ok (.goto 7, 3) := by decide +kernel
theorem d_L_messageAt_13 : decode b_L_messageAt 13 = .ok (.astore 4, 2) := by decide +kernel
theorem d_L_messageAt_15 : decode b_L_messageAt 15 = .ok (.iconst 1, 1) := by decide +kernel
theorem d_L_messageAt_16 : decode b_L_messageAt 16 = .ok (.ireturn, 1) := by decide +kernel
theorem d_L_messageAt_17 : decode b_L_messageAt 17 = .ok (.iconst 0, 1) := by decide +kernel
theorem d_L_messageAt_18 : decode b_L_messageAt 18 = .ok (.ireturn, 1) := by decide +kernel
theorem d_L_byteAt_0 : decode b_L_byteAt 0 = .ok (.aload_n 2, 1) := by decide +kernel
theorem d_L_byteAt_1 : decode b_L_byteAt 1 = .ok (.iconst 0, 1) := by decide +kernel
theorem d_L_byteAt_2 : decode b_L_byteAt 2 = .ok (.aload_n 0, 1) := by decide +kernel
theorem d_L_byteAt_3 : decode b_L_byteAt 3 = .ok (.iload_n 1, 1) := by decide +kernel
theorem d_L_byteAt_4 : decode b_L_byteAt 4 = .ok (.invokevirtual 62, 3) := by decide +kernel
theorem d_L_byteAt_7 : decode b_L_byteAt 7 = .ok (.i2l, 1) := by decide +kernel
theorem d_L_byteAt_8 : decode b_L_byteAt 8 = .ok (.lastore, 1) := by decide +kernel
theorem d_L_byteAt_9 : decode b_L_byteAt 9 = .ok (.goto 6, 3) := by decide +kernel
theorem d_L_byteAt_12 : decode b_L_byteAt 12 = .ok (.astore_n 3, 1) := by decide +kernel
theorem d_L_byteAt_13 : decode b_L_byteAt 13 = .ok (.iconst 1, 1) := by decide +kernel
theorem d_L_byteAt_14 : decode b_L_byteAt 14 = .ok (.ireturn, 1) := by decide +kernel
theorem d_L_byteAt_15 : decode b_L_byteAt 15 = .ok (.iconst 0, 1) := by decide +kernel
theorem d_L_byteAt_16 : decode b_L_byteAt 16 = .ok (.ireturn, 1) := by decide +kernel
theorem d_L_when_0 : decode b_L_when 0 = .ok (.aload_n 3, 1) := by decide +kernel
theorem d_L_when_1 : decode b_L_when 1 = .ok (.iconst 0, 1) := by decide +kernel
theorem d_L_when_2 : decode b_L_when 2 = .ok (.aload_n 0, 1) := by decide +kernel
theorem d_L_when_3 : decode b_L_when 3 = .ok (.iload_n 1, 1) := by decide +kernel
theorem d_L_when_4 : decode b_L_when 4 = .ok (.iload_n 2, 1) := by decide +kernel
theorem d_L_when_5 : decode b_L_when 5 = .ok (.invokevirtual 65, 3) := by decide +kernel
theorem d_L_when_8 : decode b_L_when 8 = .ok (.i2l, 1) := by decide +kernel
theorem d_L_when_9 : decode b_L_when 9 = .ok (.lastore, 1) := by decide +kernel
theorem d_L_when_10 : decode b_L_when 10 = .ok (.goto 7, 3) := by decide +kernel
theorem d_L_when_13 : decode b_L_when 13 = .ok (.astore 4, 2) := by decide +kernel
theorem d_L_when_15 : decode b_L_when 15 = .ok (.iconst 1, 1) := by decide +kernel
theorem d_L_when_16 : decode b_L_when 16 = .ok (.ireturn, 1) := by decide +kernel
theorem d_L_when_17 : decode b_L_when 17 = .ok (.iconst 0, 1) := by decide +kernel
theorem d_L_when_18 : decode b_L_when 18 = .ok (.ireturn, 1) := by decide +kernel

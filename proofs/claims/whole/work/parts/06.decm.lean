theorem d_M_init_0 : decode b_M_init 0 = .ok (.aload_n 0, 1) := by decide +kernel
theorem d_M_init_1 : decode b_M_init 1 = .ok (.invokespecial 1, 3) := by decide +kernel
theorem d_M_init_4 : decode b_M_init 4 = .ok (.aload_n 0, 1) := by decide +kernel
theorem d_M_init_5 : decode b_M_init 5 = .ok (.sipush 1700, 3) := by decide +kernel
theorem d_M_init_8 : decode b_M_init 8 = .ok (.newarray .int, 2) := by decide +kernel
theorem d_M_init_10 : decode b_M_init 10 = .ok (.putfield 7, 3) := by decide +kernel
theorem d_M_init_13 : decode b_M_init 13 = .ok (.aload_n 0, 1) := by decide +kernel
theorem d_M_init_14 : decode b_M_init 14 = .ok (.sipush 1700, 3) := by decide +kernel
theorem d_M_init_17 : decode b_M_init 17 = .ok (.newarray .int, 2) := by decide +kernel
theorem d_M_init_19 : decode b_M_init 19 = .ok (.putfield 13, 3) := by decide +kernel
theorem d_M_init_22 : decode b_M_init 22 = .ok (.aload_n 0, 1) := by decide +kernel
theorem d_M_init_23 : decode b_M_init 23 = .ok (.sipush 1700, 3) := by decide +kernel
theorem d_M_init_26 : decode b_M_init 26 = .ok (.newarray .int, 2) := by decide +kernel
theorem d_M_init_28 : decode b_M_init 28 = .ok (.putfield 16, 3) := by decide +kernel
theorem d_M_init_31 : decode b_M_init 31 = .ok (.aload_n 0, 1) := by decide +kernel
theorem d_M_init_32 : decode b_M_init 32 = .ok (.sipush 1700, 3) := by decide +kernel
theorem d_M_init_35 : decode b_M_init 35 = .ok (.newarray .int, 2) := by decide +kernel
theorem d_M_init_37 : decode b_M_init 37 = .ok (.putfield 19, 3) := by decide +kernel
theorem d_M_init_40 : decode b_M_init 40 = .ok (.aload_n 0, 1) := by decide +kernel
theorem d_M_init_41 : decode b_M_init 41 = .ok (.sipush 1700, 3) := by decide +kernel
theorem d_M_init_44 : decode b_M_init 44 = .ok (.newarray .int, 2) := by decide +kernel
theorem d_M_init_46 : decode b_M_init 46 = .ok (.putfield 22, 3) := by decide +kernel
theorem d_M_init_49 : decode b_M_init 49 = .ok (.aload_n 0, 1) := by decide +kernel
theorem d_M_init_50 : decode b_M_init 50 = .ok (.sipush 1700, 3) := by decide +kernel
theorem d_M_init_53 : decode b_M_init 53 = .ok (.newarray .int, 2) := by decide +kernel
theorem d_M_init_55 : decode b_M_init 55 = .ok (.putfield 25, 3) := by decide +kernel
theorem d_M_init_58 : decode b_M_init 58 = .ok (.aload_n 0, 1) := by decide +kernel
theorem d_M_init_59 : decode b_M_init 59 = .ok (.sipush 1700, 3) := by decide +kernel
theorem d_M_init_62 : decode b_M_init 62 = .ok (.newarray .boolean, 2) := by decide +kernel
theorem d_M_init_64 : decode b_M_init 64 = .ok (.putfield 28, 3) := by decide +kernel
theorem d_M_init_67 : decode b_M_init 67 = .ok (.aload_n 0, 1) := by decide +kernel
theorem d_M_init_68 : decode b_M_init 68 = .ok (.sipush 4200, 3) := by decide +kernel
theorem d_M_init_71 : decode b_M_init 71 = .ok (.newarray .int, 2) := by decide +kernel
theorem d_M_init_73 : decode b_M_init 73 = .ok (.putfield 32, 3) := by decide +kernel
theorem d_M_init_76 : decode b_M_init 76 = .ok (.aload_n 0, 1) := by decide +kernel
theorem d_M_init_77 : decode b_M_init 77 = .ok (.sipush 2048, 3) := by decide +kernel
theorem d_M_init_80 : decode b_M_init 80 = .ok (.newarray .int, 2) := by decide +kernel
theorem d_M_init_82 : decode b_M_init 82 = .ok (.putfield 35, 3) := by decide +kernel
theorem d_M_init_85 : decode b_M_init 85 = .ok (.aload_n 0, 1) := by decide +kernel
theorem d_M_init_86 : decode b_M_init 86 = .ok (.sipush 256, 3) := by decide +kernel
theorem d_M_init_89 : decode b_M_init 89 = .ok (.newarray .int, 2) := by decide +kernel
theorem d_M_init_91 : decode b_M_init 91 = .ok (.putfield 38, 3) := by decide +kernel
theorem d_M_init_94 : decode b_M_init 94 = .ok (.aload_n 0, 1) := by decide +kernel
theorem d_M_init_95 : decode b_M_init 95 = .ok (.bipush 32, 2) := by decide +kernel
theorem d_M_init_97 : decode b_M_init 97 = .ok (.newarray .int, 2) := by decide +kernel
theorem d_M_init_99 : decode b_M_init 99 = .ok (.putfield 41, 3) := by decide +kernel
theorem d_M_init_102 : decode b_M_init 102 = .ok (.aload_n 0, 1) := by decide +kernel
theorem d_M_init_103 : decode b_M_init 103 = .ok (.bipush 32, 2) := by decide +kernel
theorem d_M_init_105 : decode b_M_init 105 = .ok (.newarray .int, 2) := by decide +kernel
theorem d_M_init_107 : decode b_M_init 107 = .ok (.putfield 44, 3) := by decide +kernel
theorem d_M_init_110 : decode b_M_init 110 = .ok (.aload_n 0, 1) := by decide +kernel
theorem d_M_init_111 : decode b_M_init 111 = .ok (.iconst (-1), 1) := by decide +kernel
theorem d_M_init_112 : decode b_M_init 112 = .ok (.putfield 47, 3) := by decide +kernel
theorem d_M_init_115 : decode b_M_init 115 = .ok (.iconst 0, 1) := by decide +kernel
theorem d_M_init_116 : decode b_M_init 116 = .ok (.istore_n 1, 1) := by decide +kernel
theorem d_M_init_117 : decode b_M_init 117 = .ok (.iload_n 1, 1) := by decide +kernel
theorem d_M_init_118 : decode b_M_init 118 = .ok (.sipush 256, 3) := by decide +kernel
theorem d_M_init_121 : decode b_M_init 121 = .ok (.if_icmp .ge 16, 3) := by decide +kernel
theorem d_M_init_124 : decode b_M_init 124 = .ok (.aload_n 0, 1) := by decide +kernel
theorem d_M_init_125 : decode b_M_init 125 = .ok (.getfield 38, 3) := by decide +kernel
theorem d_M_init_128 : decode b_M_init 128 = .ok (.iload_n 1, 1) := by decide +kernel
theorem d_M_init_129 : decode b_M_init 129 = .ok (.iconst 3, 1) := by decide +kernel
theorem d_M_init_130 : decode b_M_init 130 = .ok (.iastore, 1) := by decide +kernel
theorem d_M_init_131 : decode b_M_init 131 = .ok (.iinc 1 1, 3) := by decide +kernel
theorem d_M_init_134 : decode b_M_init 134 = .ok (.goto (-17), 3) := by decide +kernel
theorem d_M_init_137 : decode b_M_init 137 = .ok (.return_, 1) := by decide +kernel
theorem d_M_thrown_0 : decode b_M_thrown 0 = .ok (.aload_n 0, 1) := by decide +kernel
theorem d_M_thrown_1 : decode b_M_thrown 1 = .ok (.getfield 51, 3) := by decide +kernel
theorem d_M_thrown_4 : decode b_M_thrown 4 = .ok (.ireturn, 1) := by decide +kernel
theorem d_M_feed_0 : decode b_M_feed 0 = .ok (.aload_n 0, 1) := by decide +kernel
theorem d_M_feed_1 : decode b_M_feed 1 = .ok (.iconst 0, 1) := by decide +kernel
theorem d_M_feed_2 : decode b_M_feed 2 = .ok (.putfield 51, 3) := by decide +kernel
theorem d_M_feed_5 : decode b_M_feed 5 = .ok (.iload_n 3, 1) := by decide +kernel
theorem d_M_feed_6 : decode b_M_feed 6 = .ok (.iconst 1, 1) := by decide +kernel
theorem d_M_feed_7 : decode b_M_feed 7 = .ok (.bipush 8, 2) := by decide +kernel
theorem d_M_feed_9 : decode b_M_feed 9 = .ok (.invokestatic 54, 3) := by decide +kernel
theorem d_M_feed_12 : decode b_M_feed 12 = .ok (.ifCond .ne 9, 3) := by decide +kernel
theorem d_M_feed_15 : decode b_M_feed 15 = .ok (.aload_n 0, 1) := by decide +kernel
theorem d_M_feed_16 : decode b_M_feed 16 = .ok (.iconst 1, 1) := by decide +kernel
theorem d_M_feed_17 : decode b_M_feed 17 = .ok (.invokevirtual 58, 3) := by decide +kernel
theorem d_M_feed_20 : decode b_M_feed 20 = .ok (.ireturn, 1) := by decide +kernel
theorem d_M_feed_21 : decode b_M_feed 21 = .ok (.aload_n 0, 1) := by decide +kernel
theorem d_M_feed_22 : decode b_M_feed 22 = .ok (.getfield 62, 3) := by decide +kernel
theorem d_M_feed_25 : decode b_M_feed 25 = .ok (.iload_n 3, 1) := by decide +kernel
theorem d_M_feed_26 : decode b_M_feed 26 = .ok (.iadd, 1) := by decide +kernel
theorem d_M_feed_27 : decode b_M_feed 27 = .ok (.sipush 2048, 3) := by decide +kernel
theorem d_M_feed_30 : decode b_M_feed 30 = .ok (.if_icmp .le 9, 3) := by decide +kernel
theorem d_M_feed_33 : decode b_M_feed 33 = .ok (.aload_n 0, 1) := by decide +kernel
theorem d_M_feed_34 : decode b_M_feed 34 = .ok (.iconst 2, 1) := by decide +kernel
theorem d_M_feed_35 : decode b_M_feed 35 = .ok (.invokevirtual 58, 3) := by decide +kernel
theorem d_M_feed_38 : decode b_M_feed 38 = .ok (.ireturn, 1) := by decide +kernel
theorem d_M_feed_39 : decode b_M_feed 39 = .ok (.iconst 0, 1) := by decide +kernel
theorem d_M_feed_40 : decode b_M_feed 40 = .ok (.istore 4, 2) := by decide +kernel
theorem d_M_feed_42 : decode b_M_feed 42 = .ok (.iload 4, 2) := by decide +kernel
theorem d_M_feed_44 : decode b_M_feed 44 = .ok (.iload_n 3, 1) := by decide +kernel
theorem d_M_feed_45 : decode b_M_feed 45 = .ok (.if_icmp .ge 33, 3) := by decide +kernel
theorem d_M_feed_48 : decode b_M_feed 48 = .ok (.aload_n 0, 1) := by decide +kernel
theorem d_M_feed_49 : decode b_M_feed 49 = .ok (.getfield 35, 3) := by decide +kernel
theorem d_M_feed_52 : decode b_M_feed 52 = .ok (.aload_n 0, 1) := by decide +kernel
theorem d_M_feed_53 : decode b_M_feed 53 = .ok (.getfield 62, 3) := by decide +kernel
theorem d_M_feed_56 : decode b_M_feed 56 = .ok (.iload 4, 2) := by decide +kernel
theorem d_M_feed_58 : decode b_M_feed 58 = .ok (.iadd, 1) := by decide +kernel
theorem d_M_feed_59 : decode b_M_feed 59 = .ok (.lload_n 1, 1) := by decide +kernel
theorem d_M_feed_60 : decode b_M_feed 60 = .ok (.bipush 8, 2) := by decide +kernel
theorem d_M_feed_62 : decode b_M_feed 62 = .ok (.iload 4, 2) := by decide +kernel
theorem d_M_feed_64 : decode b_M_feed 64 = .ok (.imul, 1) := by decide +kernel
theorem d_M_feed_65 : decode b_M_feed 65 = .ok (.lshr, 1) := by decide +kernel
theorem d_M_feed_66 : decode b_M_feed 66 = .ok (.ldc2_w 65, 3) := by decide +kernel
theorem d_M_feed_69 : decode b_M_feed 69 = .ok (.land, 1) := by decide +kernel
theorem d_M_feed_70 : decode b_M_feed 70 = .ok (.l2i, 1) := by decide +kernel
theorem d_M_feed_71 : decode b_M_feed 71 = .ok (.iastore, 1) := by decide +kernel
theorem d_M_feed_72 : decode b_M_feed 72 = .ok (.iinc 4 1, 3) := by decide +kernel
theorem d_M_feed_75 : decode b_M_feed 75 = .ok (.goto (-33), 3) := by decide +kernel
theorem d_M_feed_78 : decode b_M_feed 78 = .ok (.aload_n 0, 1) := by decide +kernel
theorem d_M_feed_79 : decode b_M_feed 79 = .ok (.dup, 1) := by decide +kernel
theorem d_M_feed_80 : decode b_M_feed 80 = .ok (.getfield 62, 3) := by decide +kernel
theorem d_M_feed_83 : decode b_M_feed 83 = .ok (.iload_n 3, 1) := by decide +kernel
theorem d_M_feed_84 : decode b_M_feed 84 = .ok (.iadd, 1) := by decide +kernel
theorem d_M_feed_85 : decode b_M_feed 85 = .ok (.putfield 62, 3) := by decide +kernel
theorem d_M_feed_88 : decode b_M_feed 88 = .ok (.aload_n 0, 1) := by decide +kernel
theorem d_M_feed_89 : decode b_M_feed 89 = .ok (.getfield 62, 3) := by decide +kernel
theorem d_M_feed_92 : decode b_M_feed 92 = .ok (.ireturn, 1) := by decide +kernel
theorem d_M_within_0 : decode b_M_within 0 = .ok (.iload_n 0, 1) := by decide +kernel
theorem d_M_within_1 : decode b_M_within 1 = .ok (.iload_n 1, 1) := by decide +kernel
theorem d_M_within_2 : decode b_M_within 2 = .ok (.if_icmp .lt 12, 3) := by decide +kernel
theorem d_M_within_5 : decode b_M_within 5 = .ok (.iload_n 0, 1) := by decide +kernel
theorem d_M_within_6 : decode b_M_within 6 = .ok (.iload_n 2, 1) := by decide +kernel
theorem d_M_within_7 : decode b_M_within 7 = .ok (.if_icmp .gt 7, 3) := by decide +kernel
theorem d_M_within_10 : decode b_M_within 10 = .ok (.iconst 1, 1) := by decide +kernel
theorem d_M_within_11 : decode b_M_within 11 = .ok (.goto 4, 3) := by decide +kernel
theorem d_M_within_14 : decode b_M_within 14 = .ok (.iconst 0, 1) := by decide +kernel
theorem d_M_within_15 : decode b_M_within 15 = .ok (.ireturn, 1) := by decide +kernel
theorem d_M_fail_0 : decode b_M_fail 0 = .ok (.aload_n 0, 1) := by decide +kernel
theorem d_M_fail_1 : decode b_M_fail 1 = .ok (.iload_n 1, 1) := by decide +kernel
theorem d_M_fail_2 : decode b_M_fail 2 = .ok (.putfield 51, 3) := by decide +kernel
theorem d_M_fail_5 : decode b_M_fail 5 = .ok (.iconst 0, 1) := by decide +kernel
theorem d_M_fail_6 : decode b_M_fail 6 = .ok (.ireturn, 1) := by decide +kernel
theorem d_M_alarm_0 : decode b_M_alarm 0 = .ok (.aload_n 0, 1) := by decide +kernel
theorem d_M_alarm_1 : decode b_M_alarm 1 = .ok (.iconst 1, 1) := by decide +kernel
theorem d_M_alarm_2 : decode b_M_alarm 2 = .ok (.iload_n 1, 1) := by decide +kernel
theorem d_M_alarm_3 : decode b_M_alarm 3 = .ok (.iload_n 2, 1) := by decide +kernel
theorem d_M_alarm_4 : decode b_M_alarm 4 = .ok (.invokevirtual 90, 3) := by decide +kernel
theorem d_M_alarm_7 : decode b_M_alarm 7 = .ok (.ireturn, 1) := by decide +kernel
theorem d_M_set_0 : decode b_M_set 0 = .ok (.aload_n 0, 1) := by decide +kernel
theorem d_M_set_1 : decode b_M_set 1 = .ok (.iconst 0, 1) := by decide +kernel
theorem d_M_set_2 : decode b_M_set 2 = .ok (.putfield 51, 3) := by decide +kernel
theorem d_M_set_5 : decode b_M_set 5 = .ok (.iload_n 2, 1) := by decide +kernel
theorem d_M_set_6 : decode b_M_set 6 = .ok (.invokestatic 74, 3) := by decide +kernel
theorem d_M_set_9 : decode b_M_set 9 = .ok (.ifCond .ne 17, 3) := by decide +kernel
theorem d_M_set_12 : decode b_M_set 12 = .ok (.aload_n 0, 1) := by decide +kernel
theorem d_M_set_13 : decode b_M_set 13 = .ok (.iconst 1, 1) := by decide +kernel
theorem d_M_set_14 : decode b_M_set 14 = .ok (.invokevirtual 58, 3) := by decide +kernel
theorem d_M_set_17 : decode b_M_set 17 = .ok (.ifCond .le 7, 3) := by decide +kernel
theorem d_M_set_20 : decode b_M_set 20 = .ok (.iconst 1, 1) := by decide +kernel
theorem d_M_set_21 : decode b_M_set 21 = .ok (.goto 4, 3) := by decide +kernel
theorem d_M_set_24 : decode b_M_set 24 = .ok (.iconst 0, 1) := by decide +kernel
theorem d_M_set_25 : decode b_M_set 25 = .ok (.ireturn, 1) := by decide +kernel
theorem d_M_set_26 : decode b_M_set 26 = .ok (.iload_n 3, 1) := by decide +kernel
theorem d_M_set_27 : decode b_M_set 27 = .ok (.iconst 0, 1) := by decide +kernel
theorem d_M_set_28 : decode b_M_set 28 = .ok (.ldc 78, 2) := by decide +kernel
theorem d_M_set_30 : decode b_M_set 30 = .ok (.invokestatic 54, 3) := by decide +kernel
theorem d_M_set_33 : decode b_M_set 33 = .ok (.ifCond .ne 17, 3) := by decide +kernel
theorem d_M_set_36 : decode b_M_set 36 = .ok (.aload_n 0, 1) := by decide +kernel
theorem d_M_set_37 : decode b_M_set 37 = .ok (.iconst 2, 1) := by decide +kernel
theorem d_M_set_38 : decode b_M_set 38 = .ok (.invokevirtual 58, 3) := by decide +kernel
theorem d_M_set_41 : decode b_M_set 41 = .ok (.ifCond .le 7, 3) := by decide +kernel
theorem d_M_set_44 : decode b_M_set 44 = .ok (.iconst 1, 1) := by decide +kernel
theorem d_M_set_45 : decode b_M_set 45 = .ok (.goto 4, 3) := by decide +kernel
theorem d_M_set_48 : decode b_M_set 48 = .ok (.iconst 0, 1) := by decide +kernel
theorem d_M_set_49 : decode b_M_set 49 = .ok (.ireturn, 1) := by decide +kernel
theorem d_M_set_50 : decode b_M_set 50 = .ok (.aload_n 0, 1) := by decide +kernel
theorem d_M_set_51 : decode b_M_set 51 = .ok (.iload_n 1, 1) := by decide +kernel
theorem d_M_set_52 : decode b_M_set 52 = .ok (.iload_n 2, 1) := by decide +kernel
theorem d_M_set_53 : decode b_M_set 53 = .ok (.invokevirtual 79, 3) := by decide +kernel
theorem d_M_set_56 : decode b_M_set 56 = .ok (.istore 4, 2) := by decide +kernel
theorem d_M_set_58 : decode b_M_set 58 = .ok (.aload_n 0, 1) := by decide +kernel
theorem d_M_set_59 : decode b_M_set 59 = .ok (.aload_n 0, 1) := by decide +kernel
theorem d_M_set_60 : decode b_M_set 60 = .ok (.getfield 83, 3) := by decide +kernel
theorem d_M_set_63 : decode b_M_set 63 = .ok (.iload_n 3, 1) := by decide +kernel
theorem d_M_set_64 : decode b_M_set 64 = .ok (.iadd, 1) := by decide +kernel
theorem d_M_set_65 : decode b_M_set 65 = .ok (.iload_n 1, 1) := by decide +kernel
theorem d_M_set_66 : decode b_M_set 66 = .ok (.iload_n 2, 1) := by decide +kernel
theorem d_M_set_67 : decode b_M_set 67 = .ok (.iconst (-1), 1) := by decide +kernel
theorem d_M_set_68 : decode b_M_set 68 = .ok (.invokevirtual 86, 3) := by decide +kernel
theorem d_M_set_71 : decode b_M_set 71 = .ok (.pop, 1) := by decide +kernel
theorem d_M_set_72 : decode b_M_set 72 = .ok (.iload 4, 2) := by decide +kernel
theorem d_M_set_74 : decode b_M_set 74 = .ok (.ireturn, 1) := by decide +kernel
theorem d_M_isEnd_0 : decode b_M_isEnd 0 = .ok (.iload_n 0, 1) := by decide +kernel
theorem d_M_isEnd_1 : decode b_M_isEnd 1 = .ok (.ifCond .lt 13, 3) := by decide +kernel
theorem d_M_isEnd_4 : decode b_M_isEnd 4 = .ok (.iload_n 0, 1) := by decide +kernel
theorem d_M_isEnd_5 : decode b_M_isEnd 5 = .ok (.bipush 16, 2) := by decide +kernel
theorem d_M_isEnd_7 : decode b_M_isEnd 7 = .ok (.if_icmp .ge 7, 3) := by decide +kernel
theorem d_M_isEnd_10 : decode b_M_isEnd 10 = .ok (.iconst 1, 1) := by decide +kernel
theorem d_M_isEnd_11 : decode b_M_isEnd 11 = .ok (.goto 4, 3) := by decide +kernel
theorem d_M_isEnd_14 : decode b_M_isEnd 14 = .ok (.iconst 0, 1) := by decide +kernel
theorem d_M_isEnd_15 : decode b_M_isEnd 15 = .ok (.ireturn, 1) := by decide +kernel
theorem d_M_drop_0 : decode b_M_drop 0 = .ok (.aload_n 0, 1) := by decide +kernel
theorem d_M_drop_1 : decode b_M_drop 1 = .ok (.iload_n 1, 1) := by decide +kernel
theorem d_M_drop_2 : decode b_M_drop 2 = .ok (.iload_n 2, 1) := by decide +kernel
theorem d_M_drop_3 : decode b_M_drop 3 = .ok (.invokevirtual 70, 3) := by decide +kernel
theorem d_M_drop_6 : decode b_M_drop 6 = .ok (.istore_n 3, 1) := by decide +kernel
theorem d_M_drop_7 : decode b_M_drop 7 = .ok (.iload_n 3, 1) := by decide +kernel
theorem d_M_drop_8 : decode b_M_drop 8 = .ok (.ifCond .lt 10, 3) := by decide +kernel
theorem d_M_drop_11 : decode b_M_drop 11 = .ok (.aload_n 0, 1) := by decide +kernel
theorem d_M_drop_12 : decode b_M_drop 12 = .ok (.getfield 28, 3) := by decide +kernel
theorem d_M_drop_15 : decode b_M_drop 15 = .ok (.iload_n 3, 1) := by decide +kernel
theorem d_M_drop_16 : decode b_M_drop 16 = .ok (.iconst 0, 1) := by decide +kernel
theorem d_M_drop_17 : decode b_M_drop 17 = .ok (.bastore, 1) := by decide +kernel
theorem d_M_drop_18 : decode b_M_drop 18 = .ok (.iload_n 3, 1) := by decide +kernel
theorem d_M_drop_19 : decode b_M_drop 19 = .ok (.ifCond .lt 7, 3) := by decide +kernel
theorem d_M_drop_22 : decode b_M_drop 22 = .ok (.iconst 1, 1) := by decide +kernel
theorem d_M_drop_23 : decode b_M_drop 23 = .ok (.goto 4, 3) := by decide +kernel
theorem d_M_drop_26 : decode b_M_drop 26 = .ok (.iconst 0, 1) := by decide +kernel
theorem d_M_drop_27 : decode b_M_drop 27 = .ok (.ireturn, 1) := by decide +kernel
theorem d_M_find_0 : decode b_M_find 0 = .ok (.iconst (-1), 1) := by decide +kernel
theorem d_M_find_1 : decode b_M_find 1 = .ok (.istore_n 3, 1) := by decide +kernel
theorem d_M_find_2 : decode b_M_find 2 = .ok (.iconst 0, 1) := by decide +kernel
theorem d_M_find_3 : decode b_M_find 3 = .ok (.istore 4, 2) := by decide +kernel
theorem d_M_find_5 : decode b_M_find 5 = .ok (.iload 4, 2) := by decide +kernel
theorem d_M_find_7 : decode b_M_find 7 = .ok (.aload_n 0, 1) := by decide +kernel
theorem d_M_find_8 : decode b_M_find 8 = .ok (.getfield 67, 3) := by decide +kernel
theorem d_M_find_11 : decode b_M_find 11 = .ok (.if_icmp .ge 44, 3) := by decide +kernel
theorem d_M_find_14 : decode b_M_find 14 = .ok (.aload_n 0, 1) := by decide +kernel
theorem d_M_find_15 : decode b_M_find 15 = .ok (.getfield 28, 3) := by decide +kernel
theorem d_M_find_18 : decode b_M_find 18 = .ok (.iload 4, 2) := by decide +kernel
theorem d_M_find_20 : decode b_M_find 20 = .ok (.baload, 1) := by decide +kernel
theorem d_M_find_21 : decode b_M_find 21 = .ok (.ifCond .eq 28, 3) := by decide +kernel
theorem d_M_find_24 : decode b_M_find 24 = .ok (.aload_n 0, 1) := by decide +kernel
theorem d_M_find_25 : decode b_M_find 25 = .ok (.getfield 13, 3) := by decide +kernel
theorem d_M_find_28 : decode b_M_find 28 = .ok (.iload 4, 2) := by decide +kernel
theorem d_M_find_30 : decode b_M_find 30 = .ok (.iaload, 1) := by decide +kernel
theorem d_M_find_31 : decode b_M_find 31 = .ok (.iload_n 1, 1) := by decide +kernel
theorem d_M_find_32 : decode b_M_find 32 = .ok (.if_icmp .ne 17, 3) := by decide +kernel
theorem d_M_find_35 : decode b_M_find 35 = .ok (.aload_n 0, 1) := by decide +kernel
theorem d_M_find_36 : decode b_M_find 36 = .ok (.getfield 16, 3) := by decide +kernel
theorem d_M_find_39 : decode b_M_find 39 = .ok (.iload 4, 2) := by decide +kernel
theorem d_M_find_41 : decode b_M_find 41 = .ok (.iaload, 1) := by decide +kernel
theorem d_M_find_42 : decode b_M_find 42 = .ok (.iload_n 2, 1) := by decide +kernel
theorem d_M_find_43 : decode b_M_find 43 = .ok (.if_icmp .ne 6, 3) := by decide +kernel
theorem d_M_find_46 : decode b_M_find 46 = .ok (.iload 4, 2) := by decide +kernel
theorem d_M_find_48 : decode b_M_find 48 = .ok (.istore_n 3, 1) := by decide +kernel
theorem d_M_find_49 : decode b_M_find 49 = .ok (.iinc 4 1, 3) := by decide +kernel
theorem d_M_find_52 : decode b_M_find 52 = .ok (.goto (-47), 3) := by decide +kernel
theorem d_M_find_55 : decode b_M_find 55 = .ok (.iload_n 3, 1) := by decide +kernel
theorem d_M_find_56 : decode b_M_find 56 = .ok (.ireturn, 1) := by decide +kernel
theorem d_M_event_0 : decode b_M_event 0 = .ok (.aload_n 0, 1) := by decide +kernel
theorem d_M_event_1 : decode b_M_event 1 = .ok (.getfield 7, 3) := by decide +kernel
theorem d_M_event_4 : decode b_M_event 4 = .ok (.aload_n 0, 1) := by decide +kernel
theorem d_M_event_5 : decode b_M_event 5 = .ok (.getfield 67, 3) := by decide +kernel
theorem d_M_event_8 : decode b_M_event 8 = .ok (.iload_n 1, 1) := by decide +kernel
theorem d_M_event_9 : decode b_M_event 9 = .ok (.iastore, 1) := by decide +kernel
theorem d_M_event_10 : decode b_M_event 10 = .ok (.aload_n 0, 1) := by decide +kernel
theorem d_M_event_11 : decode b_M_event 11 = .ok (.getfield 13, 3) := by decide +kernel
theorem d_M_event_14 : decode b_M_event 14 = .ok (.aload_n 0, 1) := by decide +kernel
theorem d_M_event_15 : decode b_M_event 15 = .ok (.getfield 67, 3) := by decide +kernel
theorem d_M_event_18 : decode b_M_event 18 = .ok (.iload_n 2, 1) := by decide +kernel
theorem d_M_event_19 : decode b_M_event 19 = .ok (.iastore, 1) := by decide +kernel
theorem d_M_event_20 : decode b_M_event 20 = .ok (.aload_n 0, 1) := by decide +kernel
theorem d_M_event_21 : decode b_M_event 21 = .ok (.getfield 16, 3) := by decide +kernel
theorem d_M_event_24 : decode b_M_event 24 = .ok (.aload_n 0, 1) := by decide +kernel
theorem d_M_event_25 : decode b_M_event 25 = .ok (.getfield 67, 3) := by decide +kernel
theorem d_M_event_28 : decode b_M_event 28 = .ok (.iload_n 3, 1) := by decide +kernel
theorem d_M_event_29 : decode b_M_event 29 = .ok (.iastore, 1) := by decide +kernel
theorem d_M_event_30 : decode b_M_event 30 = .ok (.aload_n 0, 1) := by decide +kernel
theorem d_M_event_31 : decode b_M_event 31 = .ok (.getfield 19, 3) := by decide +kernel
theorem d_M_event_34 : decode b_M_event 34 = .ok (.aload_n 0, 1) := by decide +kernel
theorem d_M_event_35 : decode b_M_event 35 = .ok (.getfield 67, 3) := by decide +kernel
theorem d_M_event_38 : decode b_M_event 38 = .ok (.iload 4, 2) := by decide +kernel
theorem d_M_event_40 : decode b_M_event 40 = .ok (.iastore, 1) := by decide +kernel
theorem d_M_event_41 : decode b_M_event 41 = .ok (.aload_n 0, 1) := by decide +kernel
theorem d_M_event_42 : decode b_M_event 42 = .ok (.getfield 28, 3) := by decide +kernel
theorem d_M_event_45 : decode b_M_event 45 = .ok (.aload_n 0, 1) := by decide +kernel
theorem d_M_event_46 : decode b_M_event 46 = .ok (.getfield 67, 3) := by decide +kernel
theorem d_M_event_49 : decode b_M_event 49 = .ok (.iconst 1, 1) := by decide +kernel
theorem d_M_event_50 : decode b_M_event 50 = .ok (.bastore, 1) := by decide +kernel
theorem d_M_event_51 : decode b_M_event 51 = .ok (.aload_n 0, 1) := by decide +kernel
theorem d_M_event_52 : decode b_M_event 52 = .ok (.dup, 1) := by decide +kernel
theorem d_M_event_53 : decode b_M_event 53 = .ok (.getfield 67, 3) := by decide +kernel
theorem d_M_event_56 : decode b_M_event 56 = .ok (.iconst 1, 1) := by decide +kernel
theorem d_M_event_57 : decode b_M_event 57 = .ok (.iadd, 1) := by decide +kernel
theorem d_M_event_58 : decode b_M_event 58 = .ok (.putfield 67, 3) := by decide +kernel
theorem d_M_event_61 : decode b_M_event 61 = .ok (.aload_n 0, 1) := by decide +kernel
theorem d_M_event_62 : decode b_M_event 62 = .ok (.getfield 67, 3) := by decide +kernel
theorem d_M_event_65 : decode b_M_event 65 = .ok (.iconst 1, 1) := by decide +kernel
theorem d_M_event_66 : decode b_M_event 66 = .ok (.isub, 1) := by decide +kernel
theorem d_M_event_67 : decode b_M_event 67 = .ok (.ireturn, 1) := by decide +kernel
theorem d_M_noAlarm_0 : decode b_M_noAlarm 0 = .ok (.aload_n 0, 1) := by decide +kernel
theorem d_M_noAlarm_1 : decode b_M_noAlarm 1 = .ok (.iconst 1, 1) := by decide +kernel
theorem d_M_noAlarm_2 : decode b_M_noAlarm 2 = .ok (.iload_n 1, 1) := by decide +kernel
theorem d_M_noAlarm_3 : decode b_M_noAlarm 3 = .ok (.invokevirtual 93, 3) := by decide +kernel
theorem d_M_noAlarm_6 : decode b_M_noAlarm 6 = .ok (.ireturn, 1) := by decide +kernel
theorem d_M_unset_0 : decode b_M_unset 0 = .ok (.aload_n 0, 1) := by decide +kernel
theorem d_M_unset_1 : decode b_M_unset 1 = .ok (.iconst 0, 1) := by decide +kernel
theorem d_M_unset_2 : decode b_M_unset 2 = .ok (.putfield 51, 3) := by decide +kernel
theorem d_M_unset_5 : decode b_M_unset 5 = .ok (.iload_n 2, 1) := by decide +kernel
theorem d_M_unset_6 : decode b_M_unset 6 = .ok (.invokestatic 74, 3) := by decide +kernel
theorem d_M_unset_9 : decode b_M_unset 9 = .ok (.ifCond .eq 12, 3) := by decide +kernel
theorem d_M_unset_12 : decode b_M_unset 12 = .ok (.aload_n 0, 1) := by decide +kernel
theorem d_M_unset_13 : decode b_M_unset 13 = .ok (.iload_n 1, 1) := by decide +kernel
theorem d_M_unset_14 : decode b_M_unset 14 = .ok (.iload_n 2, 1) := by decide +kernel
theorem d_M_unset_15 : decode b_M_unset 15 = .ok (.invokevirtual 79, 3) := by decide +kernel
theorem d_M_unset_18 : decode b_M_unset 18 = .ok (.goto 16, 3) := by decide +kernel
theorem d_M_unset_21 : decode b_M_unset 21 = .ok (.aload_n 0, 1) := by decide +kernel
theorem d_M_unset_22 : decode b_M_unset 22 = .ok (.iconst 1, 1) := by decide +kernel
theorem d_M_unset_23 : decode b_M_unset 23 = .ok (.invokevirtual 58, 3) := by decide +kernel
theorem d_M_unset_26 : decode b_M_unset 26 = .ok (.ifCond .le 7, 3) := by decide +kernel
theorem d_M_unset_29 : decode b_M_unset 29 = .ok (.iconst 1, 1) := by decide +kernel
theorem d_M_unset_30 : decode b_M_unset 30 = .ok (.goto 4, 3) := by decide +kernel
theorem d_M_unset_33 : decode b_M_unset 33 = .ok (.iconst 0, 1) := by decide +kernel
theorem d_M_unset_34 : decode b_M_unset 34 = .ok (.ireturn, 1) := by decide +kernel
theorem d_M_sync_0 : decode b_M_sync 0 = .ok (.aload_n 0, 1) := by decide +kernel
theorem d_M_sync_1 : decode b_M_sync 1 = .ok (.iconst 2, 1) := by decide +kernel
theorem d_M_sync_2 : decode b_M_sync 2 = .ok (.iload_n 1, 1) := by decide +kernel
theorem d_M_sync_3 : decode b_M_sync 3 = .ok (.iload_n 2, 1) := by decide +kernel
theorem d_M_sync_4 : decode b_M_sync 4 = .ok (.invokevirtual 90, 3) := by decide +kernel
theorem d_M_sync_7 : decode b_M_sync 7 = .ok (.ireturn, 1) := by decide +kernel
theorem d_M_noSync_0 : decode b_M_noSync 0 = .ok (.aload_n 0, 1) := by decide +kernel
theorem d_M_noSync_1 : decode b_M_noSync 1 = .ok (.iconst 2, 1) := by decide +kernel
theorem d_M_noSync_2 : decode b_M_noSync 2 = .ok (.iload_n 1, 1) := by decide +kernel
theorem d_M_noSync_3 : decode b_M_noSync 3 = .ok (.invokevirtual 93, 3) := by decide +kernel
theorem d_M_noSync_6 : decode b_M_noSync 6 = .ok (.ireturn, 1) := by decide +kernel
theorem d_M_send_0 : decode b_M_send 0 = .ok (.aload_n 0, 1) := by decide +kernel
theorem d_M_send_1 : decode b_M_send 1 = .ok (.iconst 0, 1) := by decide +kernel
theorem d_M_send_2 : decode b_M_send 2 = .ok (.putfield 51, 3) := by decide +kernel
theorem d_M_send_5 : decode b_M_send 5 = .ok (.aload_n 0, 1) := by decide +kernel
theorem d_M_send_6 : decode b_M_send 6 = .ok (.getfield 62, 3) := by decide +kernel
theorem d_M_send_9 : decode b_M_send 9 = .ok (.istore_n 3, 1) := by decide +kernel
theorem d_M_send_10 : decode b_M_send 10 = .ok (.aload_n 0, 1) := by decide +kernel
theorem d_M_send_11 : decode b_M_send 11 = .ok (.iconst 0, 1) := by decide +kernel
theorem d_M_send_12 : decode b_M_send 12 = .ok (.putfield 62, 3) := by decide +kernel
theorem d_M_send_15 : decode b_M_send 15 = .ok (.iload_n 1, 1) := by decide +kernel
theorem d_M_send_16 : decode b_M_send 16 = .ok (.invokestatic 74, 3) := by decide +kernel
theorem d_M_send_19 : decode b_M_send 19 = .ok (.ifCond .eq 10, 3) := by decide +kernel
theorem d_M_send_22 : decode b_M_send 22 = .ok (.iload_n 2, 1) := by decide +kernel
theorem d_M_send_23 : decode b_M_send 23 = .ok (.invokestatic 74, 3) := by decide +kernel
theorem d_M_send_26 : decode b_M_send 26 = .ok (.ifCond .ne 9, 3) := by decide +kernel
theorem d_M_send_29 : decode b_M_send 29 = .ok (.aload_n 0, 1) := by decide +kernel
theorem d_M_send_30 : decode b_M_send 30 = .ok (.iconst 1, 1) := by decide +kernel
theorem d_M_send_31 : decode b_M_send 31 = .ok (.invokevirtual 58, 3) := by decide +kernel
theorem d_M_send_34 : decode b_M_send 34 = .ok (.ireturn, 1) := by decide +kernel
theorem d_M_send_35 : decode b_M_send 35 = .ok (.aload_n 0, 1) := by decide +kernel
theorem d_M_send_36 : decode b_M_send 36 = .ok (.getfield 116, 3) := by decide +kernel
theorem d_M_send_39 : decode b_M_send 39 = .ok (.istore 4, 2) := by decide +kernel
theorem d_M_send_41 : decode b_M_send 41 = .ok (.iconst 0, 1) := by decide +kernel
theorem d_M_send_42 : decode b_M_send 42 = .ok (.istore 5, 2) := by decide +kernel
theorem d_M_send_44 : decode b_M_send 44 = .ok (.iload 5, 2) := by decide +kernel
theorem d_M_send_46 : decode b_M_send 46 = .ok (.iload_n 3, 1) := by decide +kernel
theorem d_M_send_47 : decode b_M_send 47 = .ok (.if_icmp .ge 28, 3) := by decide +kernel
theorem d_M_send_50 : decode b_M_send 50 = .ok (.aload_n 0, 1) := by decide +kernel
theorem d_M_send_51 : decode b_M_send 51 = .ok (.getfield 32, 3) := by decide +kernel
theorem d_M_send_54 : decode b_M_send 54 = .ok (.aload_n 0, 1) := by decide +kernel
theorem d_M_send_55 : decode b_M_send 55 = .ok (.getfield 116, 3) := by decide +kernel
theorem d_M_send_58 : decode b_M_send 58 = .ok (.iload 5, 2) := by decide +kernel
theorem d_M_send_60 : decode b_M_send 60 = .ok (.iadd, 1) := by decide +kernel
theorem d_M_send_61 : decode b_M_send 61 = .ok (.aload_n 0, 1) := by decide +kernel
theorem d_M_send_62 : decode b_M_send 62 = .ok (.getfield 35, 3) := by decide +kernel
theorem d_M_send_65 : decode b_M_send 65 = .ok (.iload 5, 2) := by decide +kernel
theorem d_M_send_67 : decode b_M_send 67 = .ok (.iaload, 1) := by decide +kernel
theorem d_M_send_68 : decode b_M_send 68 = .ok (.iastore, 1) := by decide +kernel
theorem d_M_send_69 : decode b_M_send 69 = .ok (.iinc 5 1, 3) := by decide +kernel
theorem d_M_send_72 : decode b_M_send 72 = .ok (.goto (-28), 3) := by decide +kernel
theorem d_M_send_75 : decode b_M_send 75 = .ok (.aload_n 0, 1) := by decide +kernel
theorem d_M_send_76 : decode b_M_send 76 = .ok (.dup, 1) := by decide +kernel
theorem d_M_send_77 : decode b_M_send 77 = .ok (.getfield 116, 3) := by decide +kernel
theorem d_M_send_80 : decode b_M_send 80 = .ok (.iload_n 3, 1) := by decide +kernel
theorem d_M_send_81 : decode b_M_send 81 = .ok (.iadd, 1) := by decide +kernel
theorem d_M_send_82 : decode b_M_send 82 = .ok (.putfield 116, 3) := by decide +kernel
theorem d_M_send_85 : decode b_M_send 85 = .ok (.aload_n 0, 1) := by decide +kernel
theorem d_M_send_86 : decode b_M_send 86 = .ok (.getfield 119, 3) := by decide +kernel
theorem d_M_send_89 : decode b_M_send 89 = .ok (.aload_n 0, 1) := by decide +kernel
theorem d_M_send_90 : decode b_M_send 90 = .ok (.getfield 122, 3) := by decide +kernel
theorem d_M_send_93 : decode b_M_send 93 = .ok (.iadd, 1) := by decide +kernel
theorem d_M_send_94 : decode b_M_send 94 = .ok (.aload_n 0, 1) := by decide +kernel
theorem d_M_send_95 : decode b_M_send 95 = .ok (.getfield 125, 3) := by decide +kernel
theorem d_M_send_98 : decode b_M_send 98 = .ok (.iadd, 1) := by decide +kernel
theorem d_M_send_99 : decode b_M_send 99 = .ok (.ifCond .le 7, 3) := by decide +kernel
theorem d_M_send_102 : decode b_M_send 102 = .ok (.iconst 1, 1) := by decide +kernel
theorem d_M_send_103 : decode b_M_send 103 = .ok (.goto 4, 3) := by decide +kernel
theorem d_M_send_106 : decode b_M_send 106 = .ok (.iconst 0, 1) := by decide +kernel
theorem d_M_send_107 : decode b_M_send 107 = .ok (.istore 5, 2) := by decide +kernel
theorem d_M_send_109 : decode b_M_send 109 = .ok (.aload_n 0, 1) := by decide +kernel
theorem d_M_send_110 : decode b_M_send 110 = .ok (.iload_n 1, 1) := by decide +kernel
theorem d_M_send_111 : decode b_M_send 111 = .ok (.iload_n 2, 1) := by decide +kernel
theorem d_M_send_112 : decode b_M_send 112 = .ok (.invokevirtual 128, 3) := by decide +kernel
theorem d_M_send_115 : decode b_M_send 115 = .ok (.ifCond .ne 22, 3) := by decide +kernel
theorem d_M_send_118 : decode b_M_send 118 = .ok (.iload 5, 2) := by decide +kernel
theorem d_M_send_120 : decode b_M_send 120 = .ok (.ifCond .eq 29, 3) := by decide +kernel
theorem d_M_send_123 : decode b_M_send 123 = .ok (.aload_n 0, 1) := by decide +kernel
theorem d_M_send_124 : decode b_M_send 124 = .ok (.sipush 1000, 3) := by decide +kernel
theorem d_M_send_127 : decode b_M_send 127 = .ok (.invokevirtual 131, 3) := by decide +kernel
theorem d_M_send_130 : decode b_M_send 130 = .ok (.aload_n 0, 1) := by decide +kernel
theorem d_M_send_131 : decode b_M_send 131 = .ok (.getfield 119, 3) := by decide +kernel
theorem d_M_send_134 : decode b_M_send 134 = .ok (.if_icmp .ge 15, 3) := by decide +kernel
theorem d_M_send_137 : decode b_M_send 137 = .ok (.aload_n 0, 1) := by decide +kernel
theorem d_M_send_138 : decode b_M_send 138 = .ok (.dup, 1) := by decide +kernel
theorem d_M_send_139 : decode b_M_send 139 = .ok (.getfield 110, 3) := by decide +kernel
theorem d_M_send_142 : decode b_M_send 142 = .ok (.iconst 1, 1) := by decide +kernel
theorem d_M_send_143 : decode b_M_send 143 = .ok (.iadd, 1) := by decide +kernel
theorem d_M_send_144 : decode b_M_send 144 = .ok (.putfield 110, 3) := by decide +kernel
theorem d_M_send_147 : decode b_M_send 147 = .ok (.iconst 0, 1) := by decide +kernel
theorem d_M_send_148 : decode b_M_send 148 = .ok (.ireturn, 1) := by decide +kernel
theorem d_M_send_149 : decode b_M_send 149 = .ok (.iload 5, 2) := by decide +kernel
theorem d_M_send_151 : decode b_M_send 151 = .ok (.ifCond .eq 21, 3) := by decide +kernel
theorem d_M_send_154 : decode b_M_send 154 = .ok (.aload_n 0, 1) := by decide +kernel
theorem d_M_send_155 : decode b_M_send 155 = .ok (.sipush 1000, 3) := by decide +kernel
theorem d_M_send_158 : decode b_M_send 158 = .ok (.invokevirtual 131, 3) := by decide +kernel
theorem d_M_send_161 : decode b_M_send 161 = .ok (.aload_n 0, 1) := by decide +kernel
theorem d_M_send_162 : decode b_M_send 162 = .ok (.getfield 122, 3) := by decide +kernel
theorem d_M_send_165 : decode b_M_send 165 = .ok (.if_icmp .ge 7, 3) := by decide +kernel
theorem d_M_send_168 : decode b_M_send 168 = .ok (.iconst 2, 1) := by decide +kernel
theorem d_M_send_169 : decode b_M_send 169 = .ok (.goto 4, 3) := by decide +kernel
theorem d_M_send_172 : decode b_M_send 172 = .ok (.iconst 1, 1) := by decide +kernel
theorem d_M_send_173 : decode b_M_send 173 = .ok (.istore 6, 2) := by decide +kernel
theorem d_M_send_175 : decode b_M_send 175 = .ok (.iconst 0, 1) := by decide +kernel
theorem d_M_send_176 : decode b_M_send 176 = .ok (.istore 7, 2) := by decide +kernel
theorem d_M_send_178 : decode b_M_send 178 = .ok (.iconst 0, 1) := by decide +kernel
theorem d_M_send_179 : decode b_M_send 179 = .ok (.istore 8, 2) := by decide +kernel
theorem d_M_send_181 : decode b_M_send 181 = .ok (.iload 8, 2) := by decide +kernel
theorem d_M_send_183 : decode b_M_send 183 = .ok (.iload 6, 2) := by decide +kernel
theorem d_M_send_185 : decode b_M_send 185 = .ok (.if_icmp .ge 54, 3) := by decide +kernel
theorem d_M_send_188 : decode b_M_send 188 = .ok (.iload 5, 2) := by decide +kernel
theorem d_M_send_190 : decode b_M_send 190 = .ok (.ifCond .eq 16, 3) := by decide +kernel
theorem d_M_send_193 : decode b_M_send 193 = .ok (.aload_n 0, 1) := by decide +kernel
theorem d_M_send_194 : decode b_M_send 194 = .ok (.aload_n 0, 1) := by decide +kernel
theorem d_M_send_195 : decode b_M_send 195 = .ok (.getfield 125, 3) := by decide +kernel
theorem d_M_send_198 : decode b_M_send 198 = .ok (.iconst 1, 1) := by decide +kernel
theorem d_M_send_199 : decode b_M_send 199 = .ok (.iadd, 1) := by decide +kernel
theorem d_M_send_200 : decode b_M_send 200 = .ok (.invokevirtual 131, 3) := by decide +kernel
theorem d_M_send_203 : decode b_M_send 203 = .ok (.goto 4, 3) := by decide +kernel
theorem d_M_send_206 : decode b_M_send 206 = .ok (.iconst 0, 1) := by decide +kernel
theorem d_M_send_207 : decode b_M_send 207 = .ok (.istore 9, 2) := by decide +kernel
theorem d_M_send_209 : decode b_M_send 209 = .ok (.iload 7, 2) := by decide +kernel
theorem d_M_send_211 : decode b_M_send 211 = .ok (.aload_n 0, 1) := by decide +kernel
theorem d_M_send_212 : decode b_M_send 212 = .ok (.iload_n 1, 1) := by decide +kernel
theorem d_M_send_213 : decode b_M_send 213 = .ok (.iload_n 2, 1) := by decide +kernel
theorem d_M_send_214 : decode b_M_send 214 = .ok (.iload 9, 2) := by decide +kernel
theorem d_M_send_216 : decode b_M_send 216 = .ok (.iload 4, 2) := by decide +kernel
theorem d_M_send_218 : decode b_M_send 218 = .ok (.iload_n 3, 1) := by decide +kernel
theorem d_M_send_219 : decode b_M_send 219 = .ok (.invokevirtual 134, 3) := by decide +kernel
theorem d_M_send_222 : decode b_M_send 222 = .ok (.ifCond .eq 7, 3) := by decide +kernel
theorem d_M_send_225 : decode b_M_send 225 = .ok (.iconst 1, 1) := by decide +kernel
theorem d_M_send_226 : decode b_M_send 226 = .ok (.goto 4, 3) := by decide +kernel
theorem d_M_send_229 : decode b_M_send 229 = .ok (.iconst 0, 1) := by decide +kernel
theorem d_M_send_230 : decode b_M_send 230 = .ok (.iadd, 1) := by decide +kernel
theorem d_M_send_231 : decode b_M_send 231 = .ok (.istore 7, 2) := by decide +kernel
theorem d_M_send_233 : decode b_M_send 233 = .ok (.iinc 8 1, 3) := by decide +kernel
theorem d_M_send_236 : decode b_M_send 236 = .ok (.goto (-55), 3) := by decide +kernel
theorem d_M_send_239 : decode b_M_send 239 = .ok (.iload 7, 2) := by decide +kernel
theorem d_M_send_241 : decode b_M_send 241 = .ok (.ireturn, 1) := by decide +kernel
theorem d_M_areParted_0 : decode b_M_areParted 0 = .ok (.aload_n 0, 1) := by decide +kernel
theorem d_M_areParted_1 : decode b_M_areParted 1 = .ok (.getfield 104, 3) := by decide +kernel
theorem d_M_areParted_4 : decode b_M_areParted 4 = .ok (.iload_n 1, 1) := by decide +kernel
theorem d_M_areParted_5 : decode b_M_areParted 5 = .ok (.ishr, 1) := by decide +kernel
theorem d_M_areParted_6 : decode b_M_areParted 6 = .ok (.iconst 1, 1) := by decide +kernel
theorem d_M_areParted_7 : decode b_M_areParted 7 = .ok (.iand, 1) := by decide +kernel
theorem d_M_areParted_8 : decode b_M_areParted 8 = .ok (.aload_n 0, 1) := by decide +kernel
theorem d_M_areParted_9 : decode b_M_areParted 9 = .ok (.getfield 104, 3) := by decide +kernel
theorem d_M_areParted_12 : decode b_M_areParted 12 = .ok (.iload_n 2, 1) := by decide +kernel
theorem d_M_areParted_13 : decode b_M_areParted 13 = .ok (.ishr, 1) := by decide +kernel
theorem d_M_areParted_14 : decode b_M_areParted 14 = .ok (.iconst 1, 1) := by decide +kernel
theorem d_M_areParted_15 : decode b_M_areParted 15 = .ok (.iand, 1) := by decide +kernel
theorem d_M_areParted_16 : decode b_M_areParted 16 = .ok (.if_icmp .eq 7, 3) := by decide +kernel
theorem d_M_areParted_19 : decode b_M_areParted 19 = .ok (.iconst 1, 1) := by decide +kernel
theorem d_M_areParted_20 : decode b_M_areParted 20 = .ok (.goto 4, 3) := by decide +kernel
theorem d_M_areParted_23 : decode b_M_areParted 23 = .ok (.iconst 0, 1) := by decide +kernel
theorem d_M_areParted_24 : decode b_M_areParted 24 = .ok (.ireturn, 1) := by decide +kernel
theorem d_M_drawn_0 : decode b_M_drawn 0 = .ok (.aload_n 0, 1) := by decide +kernel
theorem d_M_drawn_1 : decode b_M_drawn 1 = .ok (.aload_n 0, 1) := by decide +kernel
theorem d_M_drawn_2 : decode b_M_drawn 2 = .ok (.getfield 96, 3) := by decide +kernel
theorem d_M_drawn_5 : decode b_M_drawn 5 = .ok (.ldc2_w 100, 3) := by decide +kernel
theorem d_M_drawn_8 : decode b_M_drawn 8 = .ok (.lmul, 1) := by decide +kernel
theorem d_M_drawn_9 : decode b_M_drawn 9 = .ok (.ldc2_w 102, 3) := by decide +kernel
theorem d_M_drawn_12 : decode b_M_drawn 12 = .ok (.ladd, 1) := by decide +kernel
theorem d_M_drawn_13 : decode b_M_drawn 13 = .ok (.putfield 96, 3) := by decide +kernel
theorem d_M_drawn_16 : decode b_M_drawn 16 = .ok (.aload_n 0, 1) := by decide +kernel
theorem d_M_drawn_17 : decode b_M_drawn 17 = .ok (.getfield 96, 3) := by decide +kernel
theorem d_M_drawn_20 : decode b_M_drawn 20 = .ok (.bipush 33, 2) := by decide +kernel
theorem d_M_drawn_22 : decode b_M_drawn 22 = .ok (.lushr, 1) := by decide +kernel
theorem d_M_drawn_23 : decode b_M_drawn 23 = .ok (.iload_n 1, 1) := by decide +kernel
theorem d_M_drawn_24 : decode b_M_drawn 24 = .ok (.i2l, 1) := by decide +kernel
theorem d_M_drawn_25 : decode b_M_drawn 25 = .ok (.lrem, 1) := by decide +kernel
theorem d_M_drawn_26 : decode b_M_drawn 26 = .ok (.l2i, 1) := by decide +kernel
theorem d_M_drawn_27 : decode b_M_drawn 27 = .ok (.ireturn, 1) := by decide +kernel
theorem d_M_go_0 : decode b_M_go 0 = .ok (.aload_n 0, 1) := by decide +kernel
theorem d_M_go_1 : decode b_M_go 1 = .ok (.getfield 107, 3) := by decide +kernel
theorem d_M_go_4 : decode b_M_go 4 = .ok (.sipush 200, 3) := by decide +kernel
theorem d_M_go_7 : decode b_M_go 7 = .ok (.if_icmp .ne 15, 3) := by decide +kernel
theorem d_M_go_10 : decode b_M_go 10 = .ok (.aload_n 0, 1) := by decide +kernel
theorem d_M_go_11 : decode b_M_go 11 = .ok (.dup, 1) := by decide +kernel
theorem d_M_go_12 : decode b_M_go 12 = .ok (.getfield 110, 3) := by decide +kernel
theorem d_M_go_15 : decode b_M_go 15 = .ok (.iconst 1, 1) := by decide +kernel
theorem d_M_go_16 : decode b_M_go 16 = .ok (.iadd, 1) := by decide +kernel
theorem d_M_go_17 : decode b_M_go 17 = .ok (.putfield 110, 3) := by decide +kernel
theorem d_M_go_20 : decode b_M_go 20 = .ok (.iconst 0, 1) := by decide +kernel
theorem d_M_go_21 : decode b_M_go 21 = .ok (.ireturn, 1) := by decide +kernel
theorem d_M_go_22 : decode b_M_go 22 = .ok (.aload_n 0, 1) := by decide +kernel
theorem d_M_go_23 : decode b_M_go 23 = .ok (.dup, 1) := by decide +kernel
theorem d_M_go_24 : decode b_M_go 24 = .ok (.getfield 113, 3) := by decide +kernel
theorem d_M_go_27 : decode b_M_go 27 = .ok (.iconst 1, 1) := by decide +kernel
theorem d_M_go_28 : decode b_M_go 28 = .ok (.iadd, 1) := by decide +kernel
theorem d_M_go_29 : decode b_M_go 29 = .ok (.putfield 113, 3) := by decide +kernel
theorem d_M_go_32 : decode b_M_go 32 = .ok (.aload_n 0, 1) := by decide +kernel
theorem d_M_go_33 : decode b_M_go 33 = .ok (.aload_n 0, 1) := by decide +kernel
theorem d_M_go_34 : decode b_M_go 34 = .ok (.getfield 83, 3) := by decide +kernel
theorem d_M_go_37 : decode b_M_go 37 = .ok (.aload_n 0, 1) := by decide +kernel
theorem d_M_go_38 : decode b_M_go 38 = .ok (.getfield 38, 3) := by decide +kernel
theorem d_M_go_41 : decode b_M_go 41 = .ok (.bipush 16, 2) := by decide +kernel
theorem d_M_go_43 : decode b_M_go 43 = .ok (.iload_n 1, 1) := by decide +kernel
theorem d_M_go_44 : decode b_M_go 44 = .ok (.imul, 1) := by decide +kernel
theorem d_M_go_45 : decode b_M_go 45 = .ok (.iload_n 2, 1) := by decide +kernel
theorem d_M_go_46 : decode b_M_go 46 = .ok (.iadd, 1) := by decide +kernel
theorem d_M_go_47 : decode b_M_go 47 = .ok (.iaload, 1) := by decide +kernel
theorem d_M_go_48 : decode b_M_go 48 = .ok (.iadd, 1) := by decide +kernel
theorem d_M_go_49 : decode b_M_go 49 = .ok (.iload_n 3, 1) := by decide +kernel
theorem d_M_go_50 : decode b_M_go 50 = .ok (.iadd, 1) := by decide +kernel
theorem d_M_go_51 : decode b_M_go 51 = .ok (.iconst 0, 1) := by decide +kernel
theorem d_M_go_52 : decode b_M_go 52 = .ok (.iload_n 2, 1) := by decide +kernel
theorem d_M_go_53 : decode b_M_go 53 = .ok (.iload_n 1, 1) := by decide +kernel
theorem d_M_go_54 : decode b_M_go 54 = .ok (.invokevirtual 86, 3) := by decide +kernel
theorem d_M_go_57 : decode b_M_go 57 = .ok (.istore 6, 2) := by decide +kernel
theorem d_M_go_59 : decode b_M_go 59 = .ok (.aload_n 0, 1) := by decide +kernel
theorem d_M_go_60 : decode b_M_go 60 = .ok (.getfield 22, 3) := by decide +kernel
theorem d_M_go_63 : decode b_M_go 63 = .ok (.iload 6, 2) := by decide +kernel
theorem d_M_go_65 : decode b_M_go 65 = .ok (.iload 4, 2) := by decide +kernel
theorem d_M_go_67 : decode b_M_go 67 = .ok (.iastore, 1) := by decide +kernel
theorem d_M_go_68 : decode b_M_go 68 = .ok (.aload_n 0, 1) := by decide +kernel
theorem d_M_go_69 : decode b_M_go 69 = .ok (.getfield 25, 3) := by decide +kernel
theorem d_M_go_72 : decode b_M_go 72 = .ok (.iload 6, 2) := by decide +kernel
theorem d_M_go_74 : decode b_M_go 74 = .ok (.iload 5, 2) := by decide +kernel
theorem d_M_go_76 : decode b_M_go 76 = .ok (.iastore, 1) := by decide +kernel
theorem d_M_go_77 : decode b_M_go 77 = .ok (.aload_n 0, 1) := by decide +kernel
theorem d_M_go_78 : decode b_M_go 78 = .ok (.dup, 1) := by decide +kernel
theorem d_M_go_79 : decode b_M_go 79 = .ok (.getfield 107, 3) := by decide +kernel
theorem d_M_go_82 : decode b_M_go 82 = .ok (.iconst 1, 1) := by decide +kernel
theorem d_M_go_83 : decode b_M_go 83 = .ok (.iadd, 1) := by decide +kernel
theorem d_M_go_84 : decode b_M_go 84 = .ok (.putfield 107, 3) := by decide +kernel
theorem d_M_go_87 : decode b_M_go 87 = .ok (.iconst 1, 1) := by decide +kernel
theorem d_M_go_88 : decode b_M_go 88 = .ok (.ireturn, 1) := by decide +kernel
theorem d_M_meddle_0 : decode b_M_meddle 0 = .ok (.aload_n 0, 1) := by decide +kernel
theorem d_M_meddle_1 : decode b_M_meddle 1 = .ok (.iconst 0, 1) := by decide +kernel
theorem d_M_meddle_2 : decode b_M_meddle 2 = .ok (.putfield 51, 3) := by decide +kernel
theorem d_M_meddle_5 : decode b_M_meddle 5 = .ok (.iload_n 2, 1) := by decide +kernel
theorem d_M_meddle_6 : decode b_M_meddle 6 = .ok (.iconst 0, 1) := by decide +kernel
theorem d_M_meddle_7 : decode b_M_meddle 7 = .ok (.iconst 2, 1) := by decide +kernel
theorem d_M_meddle_8 : decode b_M_meddle 8 = .ok (.invokestatic 54, 3) := by decide +kernel
theorem d_M_meddle_11 : decode b_M_meddle 11 = .ok (.ifCond .eq 23, 3) := by decide +kernel
theorem d_M_meddle_14 : decode b_M_meddle 14 = .ok (.iload_n 3, 1) := by decide +kernel
theorem d_M_meddle_15 : decode b_M_meddle 15 = .ok (.iconst 0, 1) := by decide +kernel
theorem d_M_meddle_16 : decode b_M_meddle 16 = .ok (.iload_n 2, 1) := by decide +kernel
theorem d_M_meddle_17 : decode b_M_meddle 17 = .ok (.iconst 2, 1) := by decide +kernel
theorem d_M_meddle_18 : decode b_M_meddle 18 = .ok (.if_icmp .ne 9, 3) := by decide +kernel
theorem d_M_meddle_21 : decode b_M_meddle 21 = .ok (.sipush 1000, 3) := by decide +kernel
theorem d_M_meddle_24 : decode b_M_meddle 24 = .ok (.goto 4, 3) := by decide +kernel
theorem d_M_meddle_27 : decode b_M_meddle 27 = .ok (.iconst 0, 1) := by decide +kernel
theorem d_M_meddle_28 : decode b_M_meddle 28 = .ok (.invokestatic 54, 3) := by decide +kernel
theorem d_M_meddle_31 : decode b_M_meddle 31 = .ok (.ifCond .ne 17, 3) := by decide +kernel
theorem d_M_meddle_34 : decode b_M_meddle 34 = .ok (.aload_n 0, 1) := by decide +kernel
theorem d_M_meddle_35 : decode b_M_meddle 35 = .ok (.iconst 1, 1) := by decide +kernel
theorem d_M_meddle_36 : decode b_M_meddle 36 = .ok (.invokevirtual 58, 3) := by decide +kernel
theorem d_M_meddle_39 : decode b_M_meddle 39 = .ok (.ifCond .le 7, 3) := by decide +kernel
theorem d_M_meddle_42 : decode b_M_meddle 42 = .ok (.iconst 1, 1) := by decide +kernel
theorem d_M_meddle_43 : decode b_M_meddle 43 = .ok (.goto 4, 3) := by decide +kernel
theorem d_M_meddle_46 : decode b_M_meddle 46 = .ok (.iconst 0, 1) := by decide +kernel
theorem d_M_meddle_47 : decode b_M_meddle 47 = .ok (.ireturn, 1) := by decide +kernel
theorem d_M_meddle_48 : decode b_M_meddle 48 = .ok (.aload_n 0, 1) := by decide +kernel
theorem d_M_meddle_49 : decode b_M_meddle 49 = .ok (.iload_n 1, 1) := by decide +kernel
theorem d_M_meddle_50 : decode b_M_meddle 50 = .ok (.iconst 0, 1) := by decide +kernel
theorem d_M_meddle_51 : decode b_M_meddle 51 = .ok (.invokevirtual 138, 3) := by decide +kernel
theorem d_M_meddle_54 : decode b_M_meddle 54 = .ok (.istore 4, 2) := by decide +kernel
theorem d_M_meddle_56 : decode b_M_meddle 56 = .ok (.iload 4, 2) := by decide +kernel
theorem d_M_meddle_58 : decode b_M_meddle 58 = .ok (.ifCond .ge 5, 3) := by decide +kernel
theorem d_M_meddle_61 : decode b_M_meddle 61 = .ok (.iconst 0, 1) := by decide +kernel
theorem d_M_meddle_62 : decode b_M_meddle 62 = .ok (.ireturn, 1) := by decide +kernel
theorem d_M_meddle_63 : decode b_M_meddle 63 = .ok (.iload_n 2, 1) := by decide +kernel
theorem d_M_meddle_64 : decode b_M_meddle 64 = .ok (.iconst 1, 1) := by decide +kernel
theorem d_M_meddle_65 : decode b_M_meddle 65 = .ok (.if_icmp .ne 39, 3) := by decide +kernel
theorem d_M_meddle_68 : decode b_M_meddle 68 = .ok (.aload_n 0, 1) := by decide +kernel
theorem d_M_meddle_69 : decode b_M_meddle 69 = .ok (.aload_n 0, 1) := by decide +kernel
theorem d_M_meddle_70 : decode b_M_meddle 70 = .ok (.getfield 19, 3) := by decide +kernel
theorem d_M_meddle_73 : decode b_M_meddle 73 = .ok (.iload 4, 2) := by decide +kernel
theorem d_M_meddle_75 : decode b_M_meddle 75 = .ok (.iaload, 1) := by decide +kernel
theorem d_M_meddle_76 : decode b_M_meddle 76 = .ok (.aload_n 0, 1) := by decide +kernel
theorem d_M_meddle_77 : decode b_M_meddle 77 = .ok (.getfield 16, 3) := by decide +kernel
theorem d_M_meddle_80 : decode b_M_meddle 80 = .ok (.iload 4, 2) := by decide +kernel
theorem d_M_meddle_82 : decode b_M_meddle 82 = .ok (.iaload, 1) := by decide +kernel
theorem d_M_meddle_83 : decode b_M_meddle 83 = .ok (.iconst 0, 1) := by decide +kernel
theorem d_M_meddle_84 : decode b_M_meddle 84 = .ok (.aload_n 0, 1) := by decide +kernel
theorem d_M_meddle_85 : decode b_M_meddle 85 = .ok (.getfield 22, 3) := by decide +kernel
theorem d_M_meddle_88 : decode b_M_meddle 88 = .ok (.iload 4, 2) := by decide +kernel
theorem d_M_meddle_90 : decode b_M_meddle 90 = .ok (.iaload, 1) := by decide +kernel
theorem d_M_meddle_91 : decode b_M_meddle 91 = .ok (.aload_n 0, 1) := by decide +kernel
theorem d_M_meddle_92 : decode b_M_meddle 92 = .ok (.getfield 25, 3) := by decide +kernel
theorem d_M_meddle_95 : decode b_M_meddle 95 = .ok (.iload 4, 2) := by decide +kernel
theorem d_M_meddle_97 : decode b_M_meddle 97 = .ok (.iaload, 1) := by decide +kernel
theorem d_M_meddle_98 : decode b_M_meddle 98 = .ok (.invokevirtual 134, 3) := by decide +kernel
theorem d_M_meddle_101 : decode b_M_meddle 101 = .ok (.pop, 1) := by decide +kernel
theorem d_M_meddle_102 : decode b_M_meddle 102 = .ok (.iconst 1, 1) := by decide +kernel
theorem d_M_meddle_103 : decode b_M_meddle 103 = .ok (.ireturn, 1) := by decide +kernel
theorem d_M_meddle_104 : decode b_M_meddle 104 = .ok (.aload_n 0, 1) := by decide +kernel
theorem d_M_meddle_105 : decode b_M_meddle 105 = .ok (.getfield 28, 3) := by decide +kernel
theorem d_M_meddle_108 : decode b_M_meddle 108 = .ok (.iload 4, 2) := by decide +kernel
theorem d_M_meddle_110 : decode b_M_meddle 110 = .ok (.iconst 0, 1) := by decide +kernel
theorem d_M_meddle_111 : decode b_M_meddle 111 = .ok (.bastore, 1) := by decide +kernel
theorem d_M_meddle_112 : decode b_M_meddle 112 = .ok (.iload_n 2, 1) := by decide +kernel
theorem d_M_meddle_113 : decode b_M_meddle 113 = .ok (.ifCond .ne 26, 3) := by decide +kernel
theorem d_M_meddle_116 : decode b_M_meddle 116 = .ok (.aload_n 0, 1) := by decide +kernel
theorem d_M_meddle_117 : decode b_M_meddle 117 = .ok (.dup, 1) := by decide +kernel
theorem d_M_meddle_118 : decode b_M_meddle 118 = .ok (.getfield 110, 3) := by decide +kernel
theorem d_M_meddle_121 : decode b_M_meddle 121 = .ok (.iconst 1, 1) := by decide +kernel
theorem d_M_meddle_122 : decode b_M_meddle 122 = .ok (.iadd, 1) := by decide +kernel
theorem d_M_meddle_123 : decode b_M_meddle 123 = .ok (.putfield 110, 3) := by decide +kernel
theorem d_M_meddle_126 : decode b_M_meddle 126 = .ok (.aload_n 0, 1) := by decide +kernel
theorem d_M_meddle_127 : decode b_M_meddle 127 = .ok (.dup, 1) := by decide +kernel
theorem d_M_meddle_128 : decode b_M_meddle 128 = .ok (.getfield 107, 3) := by decide +kernel
theorem d_M_meddle_131 : decode b_M_meddle 131 = .ok (.iconst 1, 1) := by decide +kernel
theorem d_M_meddle_132 : decode b_M_meddle 132 = .ok (.isub, 1) := by decide +kernel
theorem d_M_meddle_133 : decode b_M_meddle 133 = .ok (.putfield 107, 3) := by decide +kernel
theorem d_M_meddle_136 : decode b_M_meddle 136 = .ok (.goto 61, 3) := by decide +kernel
theorem d_M_meddle_139 : decode b_M_meddle 139 = .ok (.aload_n 0, 1) := by decide +kernel
theorem d_M_meddle_140 : decode b_M_meddle 140 = .ok (.aload_n 0, 1) := by decide +kernel
theorem d_M_meddle_141 : decode b_M_meddle 141 = .ok (.getfield 7, 3) := by decide +kernel
theorem d_M_meddle_144 : decode b_M_meddle 144 = .ok (.iload 4, 2) := by decide +kernel
theorem d_M_meddle_146 : decode b_M_meddle 146 = .ok (.iaload, 1) := by decide +kernel
theorem d_M_meddle_147 : decode b_M_meddle 147 = .ok (.iload_n 3, 1) := by decide +kernel
theorem d_M_meddle_148 : decode b_M_meddle 148 = .ok (.iadd, 1) := by decide +kernel
theorem d_M_meddle_149 : decode b_M_meddle 149 = .ok (.iconst 0, 1) := by decide +kernel
theorem d_M_meddle_150 : decode b_M_meddle 150 = .ok (.aload_n 0, 1) := by decide +kernel
theorem d_M_meddle_151 : decode b_M_meddle 151 = .ok (.getfield 16, 3) := by decide +kernel
theorem d_M_meddle_154 : decode b_M_meddle 154 = .ok (.iload 4, 2) := by decide +kernel
theorem d_M_meddle_156 : decode b_M_meddle 156 = .ok (.iaload, 1) := by decide +kernel
theorem d_M_meddle_157 : decode b_M_meddle 157 = .ok (.aload_n 0, 1) := by decide +kernel
theorem d_M_meddle_158 : decode b_M_meddle 158 = .ok (.getfield 19, 3) := by decide +kernel
theorem d_M_meddle_161 : decode b_M_meddle 161 = .ok (.iload 4, 2) := by decide +kernel
theorem d_M_meddle_163 : decode b_M_meddle 163 = .ok (.iaload, 1) := by decide +kernel
theorem d_M_meddle_164 : decode b_M_meddle 164 = .ok (.invokevirtual 86, 3) := by decide +kernel
theorem d_M_meddle_167 : decode b_M_meddle 167 = .ok (.istore 5, 2) := by decide +kernel
theorem d_M_meddle_169 : decode b_M_meddle 169 = .ok (.aload_n 0, 1) := by decide +kernel
theorem d_M_meddle_170 : decode b_M_meddle 170 = .ok (.getfield 22, 3) := by decide +kernel
theorem d_M_meddle_173 : decode b_M_meddle 173 = .ok (.iload 5, 2) := by decide +kernel
theorem d_M_meddle_175 : decode b_M_meddle 175 = .ok (.aload_n 0, 1) := by decide +kernel
theorem d_M_meddle_176 : decode b_M_meddle 176 = .ok (.getfield 22, 3) := by decide +kernel
theorem d_M_meddle_179 : decode b_M_meddle 179 = .ok (.iload 4, 2) := by decide +kernel
theorem d_M_meddle_181 : decode b_M_meddle 181 = .ok (.iaload, 1) := by decide +kernel
theorem d_M_meddle_182 : decode b_M_meddle 182 = .ok (.iastore, 1) := by decide +kernel
theorem d_M_meddle_183 : decode b_M_meddle 183 = .ok (.aload_n 0, 1) := by decide +kernel
theorem d_M_meddle_184 : decode b_M_meddle 184 = .ok (.getfield 25, 3) := by decide +kernel
theorem d_M_meddle_187 : decode b_M_meddle 187 = .ok (.iload 5, 2) := by decide +kernel
theorem d_M_meddle_189 : decode b_M_meddle 189 = .ok (.aload_n 0, 1) := by decide +kernel
theorem d_M_meddle_190 : decode b_M_meddle 190 = .ok (.getfield 25, 3) := by decide +kernel
theorem d_M_meddle_193 : decode b_M_meddle 193 = .ok (.iload 4, 2) := by decide +kernel
theorem d_M_meddle_195 : decode b_M_meddle 195 = .ok (.iaload, 1) := by decide +kernel
theorem d_M_meddle_196 : decode b_M_meddle 196 = .ok (.iastore, 1) := by decide +kernel
theorem d_M_meddle_197 : decode b_M_meddle 197 = .ok (.iconst 1, 1) := by decide +kernel
theorem d_M_meddle_198 : decode b_M_meddle 198 = .ok (.ireturn, 1) := by decide +kernel
theorem d_M_nth_0 : decode b_M_nth 0 = .ok (.iconst 0, 1) := by decide +kernel
theorem d_M_nth_1 : decode b_M_nth 1 = .ok (.istore_n 3, 1) := by decide +kernel
theorem d_M_nth_2 : decode b_M_nth 2 = .ok (.iload_n 3, 1) := by decide +kernel
theorem d_M_nth_3 : decode b_M_nth 3 = .ok (.aload_n 0, 1) := by decide +kernel
theorem d_M_nth_4 : decode b_M_nth 4 = .ok (.getfield 67, 3) := by decide +kernel
theorem d_M_nth_7 : decode b_M_nth 7 = .ok (.if_icmp .ge 137, 3) := by decide +kernel
theorem d_M_nth_10 : decode b_M_nth 10 = .ok (.aload_n 0, 1) := by decide +kernel
theorem d_M_nth_11 : decode b_M_nth 11 = .ok (.getfield 28, 3) := by decide +kernel
theorem d_M_nth_14 : decode b_M_nth 14 = .ok (.iload_n 3, 1) := by decide +kernel
theorem d_M_nth_15 : decode b_M_nth 15 = .ok (.baload, 1) := by decide +kernel
theorem d_M_nth_16 : decode b_M_nth 16 = .ok (.ifCond .eq 122, 3) := by decide +kernel
theorem d_M_nth_19 : decode b_M_nth 19 = .ok (.iload_n 2, 1) := by decide +kernel
theorem d_M_nth_20 : decode b_M_nth 20 = .ok (.ifCond .ne 12, 3) := by decide +kernel
theorem d_M_nth_23 : decode b_M_nth 23 = .ok (.aload_n 0, 1) := by decide +kernel
theorem d_M_nth_24 : decode b_M_nth 24 = .ok (.getfield 13, 3) := by decide +kernel
theorem d_M_nth_27 : decode b_M_nth 27 = .ok (.iload_n 3, 1) := by decide +kernel
theorem d_M_nth_28 : decode b_M_nth 28 = .ok (.iaload, 1) := by decide +kernel
theorem d_M_nth_29 : decode b_M_nth 29 = .ok (.ifCond .ne 109, 3) := by decide +kernel
theorem d_M_nth_32 : decode b_M_nth 32 = .ok (.iconst 0, 1) := by decide +kernel
theorem d_M_nth_33 : decode b_M_nth 33 = .ok (.istore 4, 2) := by decide +kernel
theorem d_M_nth_35 : decode b_M_nth 35 = .ok (.iconst 0, 1) := by decide +kernel
theorem d_M_nth_36 : decode b_M_nth 36 = .ok (.istore 5, 2) := by decide +kernel
theorem d_M_nth_38 : decode b_M_nth 38 = .ok (.iload 5, 2) := by decide +kernel
theorem d_M_nth_40 : decode b_M_nth 40 = .ok (.aload_n 0, 1) := by decide +kernel
theorem d_M_nth_41 : decode b_M_nth 41 = .ok (.getfield 67, 3) := by decide +kernel
theorem d_M_nth_44 : decode b_M_nth 44 = .ok (.if_icmp .ge 86, 3) := by decide +kernel
theorem d_M_nth_47 : decode b_M_nth 47 = .ok (.aload_n 0, 1) := by decide +kernel
theorem d_M_nth_48 : decode b_M_nth 48 = .ok (.getfield 28, 3) := by decide +kernel
theorem d_M_nth_51 : decode b_M_nth 51 = .ok (.iload 5, 2) := by decide +kernel
theorem d_M_nth_53 : decode b_M_nth 53 = .ok (.baload, 1) := by decide +kernel
theorem d_M_nth_54 : decode b_M_nth 54 = .ok (.ifCond .eq 21, 3) := by decide +kernel
theorem d_M_nth_57 : decode b_M_nth 57 = .ok (.iload_n 2, 1) := by decide +kernel
theorem d_M_nth_58 : decode b_M_nth 58 = .ok (.ifCond .ne 13, 3) := by decide +kernel
theorem d_M_nth_61 : decode b_M_nth 61 = .ok (.aload_n 0, 1) := by decide +kernel
theorem d_M_nth_62 : decode b_M_nth 62 = .ok (.getfield 13, 3) := by decide +kernel
theorem d_M_nth_65 : decode b_M_nth 65 = .ok (.iload 5, 2) := by decide +kernel
theorem d_M_nth_67 : decode b_M_nth 67 = .ok (.iaload, 1) := by decide +kernel
theorem d_M_nth_68 : decode b_M_nth 68 = .ok (.ifCond .ne 7, 3) := by decide +kernel
theorem d_M_nth_71 : decode b_M_nth 71 = .ok (.iconst 1, 1) := by decide +kernel
theorem d_M_nth_72 : decode b_M_nth 72 = .ok (.goto 4, 3) := by decide +kernel
theorem d_M_nth_75 : decode b_M_nth 75 = .ok (.iconst 0, 1) := by decide +kernel
theorem d_M_nth_76 : decode b_M_nth 76 = .ok (.istore 6, 2) := by decide +kernel
theorem d_M_nth_78 : decode b_M_nth 78 = .ok (.iload 6, 2) := by decide +kernel
theorem d_M_nth_80 : decode b_M_nth 80 = .ok (.ifCond .eq 44, 3) := by decide +kernel
theorem d_M_nth_83 : decode b_M_nth 83 = .ok (.aload_n 0, 1) := by decide +kernel
theorem d_M_nth_84 : decode b_M_nth 84 = .ok (.getfield 7, 3) := by decide +kernel
theorem d_M_nth_87 : decode b_M_nth 87 = .ok (.iload 5, 2) := by decide +kernel
theorem d_M_nth_89 : decode b_M_nth 89 = .ok (.iaload, 1) := by decide +kernel
theorem d_M_nth_90 : decode b_M_nth 90 = .ok (.aload_n 0, 1) := by decide +kernel
theorem d_M_nth_91 : decode b_M_nth 91 = .ok (.getfield 7, 3) := by decide +kernel
theorem d_M_nth_94 : decode b_M_nth 94 = .ok (.iload_n 3, 1) := by decide +kernel
theorem d_M_nth_95 : decode b_M_nth 95 = .ok (.iaload, 1) := by decide +kernel
theorem d_M_nth_96 : decode b_M_nth 96 = .ok (.if_icmp .lt 25, 3) := by decide +kernel
theorem d_M_nth_99 : decode b_M_nth 99 = .ok (.aload_n 0, 1) := by decide +kernel
theorem d_M_nth_100 : decode b_M_nth 100 = .ok (.getfield 7, 3) := by decide +kernel
theorem d_M_nth_103 : decode b_M_nth 103 = .ok (.iload 5, 2) := by decide +kernel
theorem d_M_nth_105 : decode b_M_nth 105 = .ok (.iaload, 1) := by decide +kernel
theorem d_M_nth_106 : decode b_M_nth 106 = .ok (.aload_n 0, 1) := by decide +kernel
theorem d_M_nth_107 : decode b_M_nth 107 = .ok (.getfield 7, 3) := by decide +kernel
theorem d_M_nth_110 : decode b_M_nth 110 = .ok (.iload_n 3, 1) := by decide +kernel
theorem d_M_nth_111 : decode b_M_nth 111 = .ok (.iaload, 1) := by decide +kernel
theorem d_M_nth_112 : decode b_M_nth 112 = .ok (.if_icmp .ne 12, 3) := by decide +kernel
theorem d_M_nth_115 : decode b_M_nth 115 = .ok (.iload 5, 2) := by decide +kernel
theorem d_M_nth_117 : decode b_M_nth 117 = .ok (.iload_n 3, 1) := by decide +kernel
theorem d_M_nth_118 : decode b_M_nth 118 = .ok (.if_icmp .ge 6, 3) := by decide +kernel
theorem d_M_nth_121 : decode b_M_nth 121 = .ok (.iinc 4 1, 3) := by decide +kernel
theorem d_M_nth_124 : decode b_M_nth 124 = .ok (.iinc 5 1, 3) := by decide +kernel
theorem d_M_nth_127 : decode b_M_nth 127 = .ok (.goto (-89), 3) := by decide +kernel
theorem d_M_nth_130 : decode b_M_nth 130 = .ok (.iload 4, 2) := by decide +kernel
theorem d_M_nth_132 : decode b_M_nth 132 = .ok (.iload_n 1, 1) := by decide +kernel
theorem d_M_nth_133 : decode b_M_nth 133 = .ok (.if_icmp .ne 5, 3) := by decide +kernel
theorem d_M_nth_136 : decode b_M_nth 136 = .ok (.iload_n 3, 1) := by decide +kernel
theorem d_M_nth_137 : decode b_M_nth 137 = .ok (.ireturn, 1) := by decide +kernel
theorem d_M_nth_138 : decode b_M_nth 138 = .ok (.iinc 3 1, 3) := by decide +kernel
theorem d_M_nth_141 : decode b_M_nth 141 = .ok (.goto (-139), 3) := by decide +kernel
theorem d_M_nth_144 : decode b_M_nth 144 = .ok (.iconst (-1), 1) := by decide +kernel
theorem d_M_nth_145 : decode b_M_nth 145 = .ok (.ireturn, 1) := by decide +kernel
theorem d_M_step_0 : decode b_M_step 0 = .ok (.aload_n 0, 1) := by decide +kernel
theorem d_M_step_1 : decode b_M_step 1 = .ok (.iconst 0, 1) := by decide +kernel
theorem d_M_step_2 : decode b_M_step 2 = .ok (.putfield 51, 3) := by decide +kernel
theorem d_M_step_5 : decode b_M_step 5 = .ok (.aload_n 0, 1) := by decide +kernel
theorem d_M_step_6 : decode b_M_step 6 = .ok (.invokevirtual 148, 3) := by decide +kernel
theorem d_M_step_9 : decode b_M_step 9 = .ok (.istore_n 1, 1) := by decide +kernel
theorem d_M_step_10 : decode b_M_step 10 = .ok (.iload_n 1, 1) := by decide +kernel
theorem d_M_step_11 : decode b_M_step 11 = .ok (.ifCond .ge 7, 3) := by decide +kernel
theorem d_M_step_14 : decode b_M_step 14 = .ok (.iconst (-1), 1) := by decide +kernel
theorem d_M_step_15 : decode b_M_step 15 = .ok (.goto 8, 3) := by decide +kernel
theorem d_M_step_18 : decode b_M_step 18 = .ok (.aload_n 0, 1) := by decide +kernel
theorem d_M_step_19 : decode b_M_step 19 = .ok (.iload_n 1, 1) := by decide +kernel
theorem d_M_step_20 : decode b_M_step 20 = .ok (.invokevirtual 152, 3) := by decide +kernel
theorem d_M_step_23 : decode b_M_step 23 = .ok (.ireturn, 1) := by decide +kernel
theorem d_M_least_0 : decode b_M_least 0 = .ok (.iconst (-1), 1) := by decide +kernel
theorem d_M_least_1 : decode b_M_least 1 = .ok (.istore_n 1, 1) := by decide +kernel
theorem d_M_least_2 : decode b_M_least 2 = .ok (.iconst 0, 1) := by decide +kernel
theorem d_M_least_3 : decode b_M_least 3 = .ok (.istore_n 2, 1) := by decide +kernel
theorem d_M_least_4 : decode b_M_least 4 = .ok (.iload_n 2, 1) := by decide +kernel
theorem d_M_least_5 : decode b_M_least 5 = .ok (.aload_n 0, 1) := by decide +kernel
theorem d_M_least_6 : decode b_M_least 6 = .ok (.getfield 67, 3) := by decide +kernel
theorem d_M_least_9 : decode b_M_least 9 = .ok (.if_icmp .ge 39, 3) := by decide +kernel
theorem d_M_least_12 : decode b_M_least 12 = .ok (.aload_n 0, 1) := by decide +kernel
theorem d_M_least_13 : decode b_M_least 13 = .ok (.getfield 28, 3) := by decide +kernel
theorem d_M_least_16 : decode b_M_least 16 = .ok (.iload_n 2, 1) := by decide +kernel
theorem d_M_least_17 : decode b_M_least 17 = .ok (.baload, 1) := by decide +kernel
theorem d_M_least_18 : decode b_M_least 18 = .ok (.ifCond .eq 24, 3) := by decide +kernel
theorem d_M_least_21 : decode b_M_least 21 = .ok (.iload_n 1, 1) := by decide +kernel
theorem d_M_least_22 : decode b_M_least 22 = .ok (.ifCond .lt 18, 3) := by decide +kernel
theorem d_M_least_25 : decode b_M_least 25 = .ok (.aload_n 0, 1) := by decide +kernel
theorem d_M_least_26 : decode b_M_least 26 = .ok (.getfield 7, 3) := by decide +kernel
theorem d_M_least_29 : decode b_M_least 29 = .ok (.iload_n 2, 1) := by decide +kernel
theorem d_M_least_30 : decode b_M_least 30 = .ok (.iaload, 1) := by decide +kernel
theorem d_M_least_31 : decode b_M_least 31 = .ok (.aload_n 0, 1) := by decide +kernel
theorem d_M_least_32 : decode b_M_least 32 = .ok (.getfield 7, 3) := by decide +kernel
theorem d_M_least_35 : decode b_M_least 35 = .ok (.iload_n 1, 1) := by decide +kernel
theorem d_M_least_36 : decode b_M_least 36 = .ok (.iaload, 1) := by decide +kernel
theorem d_M_least_37 : decode b_M_least 37 = .ok (.if_icmp .ge 5, 3) := by decide +kernel
theorem d_M_least_40 : decode b_M_least 40 = .ok (.iload_n 2, 1) := by decide +kernel
theorem d_M_least_41 : decode b_M_least 41 = .ok (.istore_n 1, 1) := by decide +kernel
theorem d_M_least_42 : decode b_M_least 42 = .ok (.iinc 2 1, 3) := by decide +kernel
theorem d_M_least_45 : decode b_M_least 45 = .ok (.goto (-41), 3) := by decide +kernel
theorem d_M_least_48 : decode b_M_least 48 = .ok (.iload_n 1, 1) := by decide +kernel
theorem d_M_least_49 : decode b_M_least 49 = .ok (.ireturn, 1) := by decide +kernel
theorem d_M_happen_0 : decode b_M_happen 0 = .ok (.aload_n 0, 1) := by decide +kernel
theorem d_M_happen_1 : decode b_M_happen 1 = .ok (.getfield 28, 3) := by decide +kernel
theorem d_M_happen_4 : decode b_M_happen 4 = .ok (.iload_n 1, 1) := by decide +kernel
theorem d_M_happen_5 : decode b_M_happen 5 = .ok (.iconst 0, 1) := by decide +kernel
theorem d_M_happen_6 : decode b_M_happen 6 = .ok (.bastore, 1) := by decide +kernel
theorem d_M_happen_7 : decode b_M_happen 7 = .ok (.aload_n 0, 1) := by decide +kernel
theorem d_M_happen_8 : decode b_M_happen 8 = .ok (.aload_n 0, 1) := by decide +kernel
theorem d_M_happen_9 : decode b_M_happen 9 = .ok (.getfield 7, 3) := by decide +kernel
theorem d_M_happen_12 : decode b_M_happen 12 = .ok (.iload_n 1, 1) := by decide +kernel
theorem d_M_happen_13 : decode b_M_happen 13 = .ok (.iaload, 1) := by decide +kernel
theorem d_M_happen_14 : decode b_M_happen 14 = .ok (.putfield 83, 3) := by decide +kernel
theorem d_M_happen_17 : decode b_M_happen 17 = .ok (.aload_n 0, 1) := by decide +kernel
theorem d_M_happen_18 : decode b_M_happen 18 = .ok (.getfield 16, 3) := by decide +kernel
theorem d_M_happen_21 : decode b_M_happen 21 = .ok (.iload_n 1, 1) := by decide +kernel
theorem d_M_happen_22 : decode b_M_happen 22 = .ok (.iaload, 1) := by decide +kernel
theorem d_M_happen_23 : decode b_M_happen 23 = .ok (.aload_n 0, 1) := by decide +kernel
theorem d_M_happen_24 : decode b_M_happen 24 = .ok (.getfield 13, 3) := by decide +kernel
theorem d_M_happen_27 : decode b_M_happen 27 = .ok (.iload_n 1, 1) := by decide +kernel
theorem d_M_happen_28 : decode b_M_happen 28 = .ok (.iaload, 1) := by decide +kernel
theorem d_M_happen_29 : decode b_M_happen 29 = .ok (.iconst 1, 1) := by decide +kernel
theorem d_M_happen_30 : decode b_M_happen 30 = .ok (.if_icmp .ne 8, 3) := by decide +kernel
theorem d_M_happen_33 : decode b_M_happen 33 = .ok (.bipush 32, 2) := by decide +kernel
theorem d_M_happen_35 : decode b_M_happen 35 = .ok (.goto 19, 3) := by decide +kernel
theorem d_M_happen_38 : decode b_M_happen 38 = .ok (.aload_n 0, 1) := by decide +kernel
theorem d_M_happen_39 : decode b_M_happen 39 = .ok (.getfield 13, 3) := by decide +kernel
theorem d_M_happen_42 : decode b_M_happen 42 = .ok (.iload_n 1, 1) := by decide +kernel
theorem d_M_happen_43 : decode b_M_happen 43 = .ok (.iaload, 1) := by decide +kernel
theorem d_M_happen_44 : decode b_M_happen 44 = .ok (.iconst 2, 1) := by decide +kernel
theorem d_M_happen_45 : decode b_M_happen 45 = .ok (.if_icmp .ne 8, 3) := by decide +kernel
theorem d_M_happen_48 : decode b_M_happen 48 = .ok (.bipush 48, 2) := by decide +kernel
theorem d_M_happen_50 : decode b_M_happen 50 = .ok (.goto 4, 3) := by decide +kernel
theorem d_M_happen_53 : decode b_M_happen 53 = .ok (.iconst 0, 1) := by decide +kernel
theorem d_M_happen_54 : decode b_M_happen 54 = .ok (.iadd, 1) := by decide +kernel
theorem d_M_happen_55 : decode b_M_happen 55 = .ok (.istore_n 2, 1) := by decide +kernel
theorem d_M_happen_56 : decode b_M_happen 56 = .ok (.aload_n 0, 1) := by decide +kernel
theorem d_M_happen_57 : decode b_M_happen 57 = .ok (.getfield 13, 3) := by decide +kernel
theorem d_M_happen_60 : decode b_M_happen 60 = .ok (.iload_n 1, 1) := by decide +kernel
theorem d_M_happen_61 : decode b_M_happen 61 = .ok (.iaload, 1) := by decide +kernel
theorem d_M_happen_62 : decode b_M_happen 62 = .ok (.ifCond .ne 102, 3) := by decide +kernel
theorem d_M_happen_65 : decode b_M_happen 65 = .ok (.aload_n 0, 1) := by decide +kernel
theorem d_M_happen_66 : decode b_M_happen 66 = .ok (.dup, 1) := by decide +kernel
theorem d_M_happen_67 : decode b_M_happen 67 = .ok (.getfield 107, 3) := by decide +kernel
theorem d_M_happen_70 : decode b_M_happen 70 = .ok (.iconst 1, 1) := by decide +kernel
theorem d_M_happen_71 : decode b_M_happen 71 = .ok (.isub, 1) := by decide +kernel
theorem d_M_happen_72 : decode b_M_happen 72 = .ok (.putfield 107, 3) := by decide +kernel
theorem d_M_happen_75 : decode b_M_happen 75 = .ok (.aload_n 0, 1) := by decide +kernel
theorem d_M_happen_76 : decode b_M_happen 76 = .ok (.aload_n 0, 1) := by decide +kernel
theorem d_M_happen_77 : decode b_M_happen 77 = .ok (.getfield 19, 3) := by decide +kernel
theorem d_M_happen_80 : decode b_M_happen 80 = .ok (.iload_n 1, 1) := by decide +kernel
theorem d_M_happen_81 : decode b_M_happen 81 = .ok (.iaload, 1) := by decide +kernel
theorem d_M_happen_82 : decode b_M_happen 82 = .ok (.aload_n 0, 1) := by decide +kernel
theorem d_M_happen_83 : decode b_M_happen 83 = .ok (.getfield 16, 3) := by decide +kernel
theorem d_M_happen_86 : decode b_M_happen 86 = .ok (.iload_n 1, 1) := by decide +kernel
theorem d_M_happen_87 : decode b_M_happen 87 = .ok (.iaload, 1) := by decide +kernel
theorem d_M_happen_88 : decode b_M_happen 88 = .ok (.invokevirtual 128, 3) := by decide +kernel
theorem d_M_happen_91 : decode b_M_happen 91 = .ok (.ifCond .ne 20, 3) := by decide +kernel
theorem d_M_happen_94 : decode b_M_happen 94 = .ok (.aload_n 0, 1) := by decide +kernel
theorem d_M_happen_95 : decode b_M_happen 95 = .ok (.getfield 142, 3) := by decide +kernel
theorem d_M_happen_98 : decode b_M_happen 98 = .ok (.aload_n 0, 1) := by decide +kernel
theorem d_M_happen_99 : decode b_M_happen 99 = .ok (.getfield 16, 3) := by decide +kernel
theorem d_M_happen_102 : decode b_M_happen 102 = .ok (.iload_n 1, 1) := by decide +kernel
theorem d_M_happen_103 : decode b_M_happen 103 = .ok (.iaload, 1) := by decide +kernel
theorem d_M_happen_104 : decode b_M_happen 104 = .ok (.ishr, 1) := by decide +kernel
theorem d_M_happen_105 : decode b_M_happen 105 = .ok (.iconst 1, 1) := by decide +kernel
theorem d_M_happen_106 : decode b_M_happen 106 = .ok (.iand, 1) := by decide +kernel
theorem d_M_happen_107 : decode b_M_happen 107 = .ok (.iconst 1, 1) := by decide +kernel
theorem d_M_happen_108 : decode b_M_happen 108 = .ok (.if_icmp .ne 7, 3) := by decide +kernel
theorem d_M_happen_111 : decode b_M_happen 111 = .ok (.iconst 1, 1) := by decide +kernel
theorem d_M_happen_112 : decode b_M_happen 112 = .ok (.goto 4, 3) := by decide +kernel
theorem d_M_happen_115 : decode b_M_happen 115 = .ok (.iconst 0, 1) := by decide +kernel
theorem d_M_happen_116 : decode b_M_happen 116 = .ok (.istore_n 3, 1) := by decide +kernel
theorem d_M_happen_117 : decode b_M_happen 117 = .ok (.aload_n 0, 1) := by decide +kernel
theorem d_M_happen_118 : decode b_M_happen 118 = .ok (.dup, 1) := by decide +kernel
theorem d_M_happen_119 : decode b_M_happen 119 = .ok (.getfield 110, 3) := by decide +kernel
theorem d_M_happen_122 : decode b_M_happen 122 = .ok (.iload_n 3, 1) := by decide +kernel
theorem d_M_happen_123 : decode b_M_happen 123 = .ok (.ifCond .eq 7, 3) := by decide +kernel
theorem d_M_happen_126 : decode b_M_happen 126 = .ok (.iconst 1, 1) := by decide +kernel
theorem d_M_happen_127 : decode b_M_happen 127 = .ok (.goto 4, 3) := by decide +kernel
theorem d_M_happen_130 : decode b_M_happen 130 = .ok (.iconst 0, 1) := by decide +kernel
theorem d_M_happen_131 : decode b_M_happen 131 = .ok (.iadd, 1) := by decide +kernel
theorem d_M_happen_132 : decode b_M_happen 132 = .ok (.putfield 110, 3) := by decide +kernel
theorem d_M_happen_135 : decode b_M_happen 135 = .ok (.iload_n 2, 1) := by decide +kernel
theorem d_M_happen_136 : decode b_M_happen 136 = .ok (.iload_n 3, 1) := by decide +kernel
theorem d_M_happen_137 : decode b_M_happen 137 = .ok (.ifCond .eq 8, 3) := by decide +kernel
theorem d_M_happen_140 : decode b_M_happen 140 = .ok (.bipush 16, 2) := by decide +kernel
theorem d_M_happen_142 : decode b_M_happen 142 = .ok (.goto 4, 3) := by decide +kernel
theorem d_M_happen_145 : decode b_M_happen 145 = .ok (.iconst 0, 1) := by decide +kernel
theorem d_M_happen_146 : decode b_M_happen 146 = .ok (.iadd, 1) := by decide +kernel
theorem d_M_happen_147 : decode b_M_happen 147 = .ok (.istore_n 2, 1) := by decide +kernel
theorem d_M_happen_148 : decode b_M_happen 148 = .ok (.aload_n 0, 1) := by decide +kernel
theorem d_M_happen_149 : decode b_M_happen 149 = .ok (.iload_n 3, 1) := by decide +kernel
theorem d_M_happen_150 : decode b_M_happen 150 = .ok (.ifCond .eq 10, 3) := by decide +kernel
theorem d_M_happen_153 : decode b_M_happen 153 = .ok (.aload_n 0, 1) := by decide +kernel
theorem d_M_happen_154 : decode b_M_happen 154 = .ok (.getfield 47, 3) := by decide +kernel
theorem d_M_happen_157 : decode b_M_happen 157 = .ok (.goto 4, 3) := by decide +kernel
theorem d_M_happen_160 : decode b_M_happen 160 = .ok (.iload_n 1, 1) := by decide +kernel
theorem d_M_happen_161 : decode b_M_happen 161 = .ok (.putfield 47, 3) := by decide +kernel
theorem d_M_happen_164 : decode b_M_happen 164 = .ok (.aload_n 0, 1) := by decide +kernel
theorem d_M_happen_165 : decode b_M_happen 165 = .ok (.getfield 41, 3) := by decide +kernel
theorem d_M_happen_168 : decode b_M_happen 168 = .ok (.aload_n 0, 1) := by decide +kernel
theorem d_M_happen_169 : decode b_M_happen 169 = .ok (.getfield 145, 3) := by decide +kernel
theorem d_M_happen_172 : decode b_M_happen 172 = .ok (.bipush 32, 2) := by decide +kernel
theorem d_M_happen_174 : decode b_M_happen 174 = .ok (.irem, 1) := by decide +kernel
theorem d_M_happen_175 : decode b_M_happen 175 = .ok (.iload_n 2, 1) := by decide +kernel
theorem d_M_happen_176 : decode b_M_happen 176 = .ok (.iastore, 1) := by decide +kernel
theorem d_M_happen_177 : decode b_M_happen 177 = .ok (.aload_n 0, 1) := by decide +kernel
theorem d_M_happen_178 : decode b_M_happen 178 = .ok (.getfield 44, 3) := by decide +kernel
theorem d_M_happen_181 : decode b_M_happen 181 = .ok (.aload_n 0, 1) := by decide +kernel
theorem d_M_happen_182 : decode b_M_happen 182 = .ok (.getfield 145, 3) := by decide +kernel
theorem d_M_happen_185 : decode b_M_happen 185 = .ok (.bipush 32, 2) := by decide +kernel
theorem d_M_happen_187 : decode b_M_happen 187 = .ok (.irem, 1) := by decide +kernel
theorem d_M_happen_188 : decode b_M_happen 188 = .ok (.iload_n 1, 1) := by decide +kernel
theorem d_M_happen_189 : decode b_M_happen 189 = .ok (.iastore, 1) := by decide +kernel
theorem d_M_happen_190 : decode b_M_happen 190 = .ok (.aload_n 0, 1) := by decide +kernel
theorem d_M_happen_191 : decode b_M_happen 191 = .ok (.dup, 1) := by decide +kernel
theorem d_M_happen_192 : decode b_M_happen 192 = .ok (.getfield 145, 3) := by decide +kernel
theorem d_M_happen_195 : decode b_M_happen 195 = .ok (.iconst 1, 1) := by decide +kernel
theorem d_M_happen_196 : decode b_M_happen 196 = .ok (.iadd, 1) := by decide +kernel
theorem d_M_happen_197 : decode b_M_happen 197 = .ok (.putfield 145, 3) := by decide +kernel
theorem d_M_happen_200 : decode b_M_happen 200 = .ok (.iload_n 2, 1) := by decide +kernel
theorem d_M_happen_201 : decode b_M_happen 201 = .ok (.ireturn, 1) := by decide +kernel
theorem d_M_run_0 : decode b_M_run 0 = .ok (.aload_n 0, 1) := by decide +kernel
theorem d_M_run_1 : decode b_M_run 1 = .ok (.iconst 0, 1) := by decide +kernel
theorem d_M_run_2 : decode b_M_run 2 = .ok (.putfield 51, 3) := by decide +kernel
theorem d_M_run_5 : decode b_M_run 5 = .ok (.iload_n 1, 1) := by decide +kernel
theorem d_M_run_6 : decode b_M_run 6 = .ok (.iconst 1, 1) := by decide +kernel
theorem d_M_run_7 : decode b_M_run 7 = .ok (.sipush 1000, 3) := by decide +kernel
theorem d_M_run_10 : decode b_M_run 10 = .ok (.invokestatic 54, 3) := by decide +kernel
theorem d_M_run_13 : decode b_M_run 13 = .ok (.ifCond .ne 9, 3) := by decide +kernel
theorem d_M_run_16 : decode b_M_run 16 = .ok (.aload_n 0, 1) := by decide +kernel
theorem d_M_run_17 : decode b_M_run 17 = .ok (.iconst 1, 1) := by decide +kernel
theorem d_M_run_18 : decode b_M_run 18 = .ok (.invokevirtual 58, 3) := by decide +kernel
theorem d_M_run_21 : decode b_M_run 21 = .ok (.ireturn, 1) := by decide +kernel
theorem d_M_run_22 : decode b_M_run 22 = .ok (.aload_n 0, 1) := by decide +kernel
theorem d_M_run_23 : decode b_M_run 23 = .ok (.getfield 83, 3) := by decide +kernel
theorem d_M_run_26 : decode b_M_run 26 = .ok (.iload_n 1, 1) := by decide +kernel
theorem d_M_run_27 : decode b_M_run 27 = .ok (.iadd, 1) := by decide +kernel
theorem d_M_run_28 : decode b_M_run 28 = .ok (.istore_n 2, 1) := by decide +kernel
theorem d_M_run_29 : decode b_M_run 29 = .ok (.iconst 0, 1) := by decide +kernel
theorem d_M_run_30 : decode b_M_run 30 = .ok (.istore_n 3, 1) := by decide +kernel
theorem d_M_run_31 : decode b_M_run 31 = .ok (.aload_n 0, 1) := by decide +kernel
theorem d_M_run_32 : decode b_M_run 32 = .ok (.invokevirtual 148, 3) := by decide +kernel
theorem d_M_run_35 : decode b_M_run 35 = .ok (.istore 4, 2) := by decide +kernel
theorem d_M_run_37 : decode b_M_run 37 = .ok (.iload 4, 2) := by decide +kernel
theorem d_M_run_39 : decode b_M_run 39 = .ok (.ifCond .lt 33, 3) := by decide +kernel
theorem d_M_run_42 : decode b_M_run 42 = .ok (.aload_n 0, 1) := by decide +kernel
theorem d_M_run_43 : decode b_M_run 43 = .ok (.getfield 7, 3) := by decide +kernel
theorem d_M_run_46 : decode b_M_run 46 = .ok (.iload 4, 2) := by decide +kernel
theorem d_M_run_48 : decode b_M_run 48 = .ok (.iaload, 1) := by decide +kernel
theorem d_M_run_49 : decode b_M_run 49 = .ok (.iload_n 2, 1) := by decide +kernel
theorem d_M_run_50 : decode b_M_run 50 = .ok (.if_icmp .gt 22, 3) := by decide +kernel
theorem d_M_run_53 : decode b_M_run 53 = .ok (.aload_n 0, 1) := by decide +kernel
theorem d_M_run_54 : decode b_M_run 54 = .ok (.iload 4, 2) := by decide +kernel
theorem d_M_run_56 : decode b_M_run 56 = .ok (.invokevirtual 152, 3) := by decide +kernel
theorem d_M_run_59 : decode b_M_run 59 = .ok (.pop, 1) := by decide +kernel
theorem d_M_run_60 : decode b_M_run 60 = .ok (.iinc 3 1, 3) := by decide +kernel
theorem d_M_run_63 : decode b_M_run 63 = .ok (.aload_n 0, 1) := by decide +kernel
theorem d_M_run_64 : decode b_M_run 64 = .ok (.invokevirtual 148, 3) := by decide +kernel
theorem d_M_run_67 : decode b_M_run 67 = .ok (.istore 4, 2) := by decide +kernel
theorem d_M_run_69 : decode b_M_run 69 = .ok (.goto (-32), 3) := by decide +kernel
theorem d_M_run_72 : decode b_M_run 72 = .ok (.aload_n 0, 1) := by decide +kernel
theorem d_M_run_73 : decode b_M_run 73 = .ok (.iload_n 2, 1) := by decide +kernel
theorem d_M_run_74 : decode b_M_run 74 = .ok (.putfield 83, 3) := by decide +kernel
theorem d_M_run_77 : decode b_M_run 77 = .ok (.iload_n 3, 1) := by decide +kernel
theorem d_M_run_78 : decode b_M_run 78 = .ok (.ireturn, 1) := by decide +kernel
theorem d_M_delay_0 : decode b_M_delay 0 = .ok (.aload_n 0, 1) := by decide +kernel
theorem d_M_delay_1 : decode b_M_delay 1 = .ok (.iconst 0, 1) := by decide +kernel
theorem d_M_delay_2 : decode b_M_delay 2 = .ok (.putfield 51, 3) := by decide +kernel
theorem d_M_delay_5 : decode b_M_delay 5 = .ok (.iload_n 1, 1) := by decide +kernel
theorem d_M_delay_6 : decode b_M_delay 6 = .ok (.invokestatic 74, 3) := by decide +kernel
theorem d_M_delay_9 : decode b_M_delay 9 = .ok (.ifCond .eq 10, 3) := by decide +kernel
theorem d_M_delay_12 : decode b_M_delay 12 = .ok (.iload_n 2, 1) := by decide +kernel
theorem d_M_delay_13 : decode b_M_delay 13 = .ok (.invokestatic 74, 3) := by decide +kernel
theorem d_M_delay_16 : decode b_M_delay 16 = .ok (.ifCond .ne 9, 3) := by decide +kernel
theorem d_M_delay_19 : decode b_M_delay 19 = .ok (.aload_n 0, 1) := by decide +kernel
theorem d_M_delay_20 : decode b_M_delay 20 = .ok (.iconst 1, 1) := by decide +kernel
theorem d_M_delay_21 : decode b_M_delay 21 = .ok (.invokevirtual 58, 3) := by decide +kernel
theorem d_M_delay_24 : decode b_M_delay 24 = .ok (.ireturn, 1) := by decide +kernel
theorem d_M_delay_25 : decode b_M_delay 25 = .ok (.iload_n 3, 1) := by decide +kernel
theorem d_M_delay_26 : decode b_M_delay 26 = .ok (.iconst 0, 1) := by decide +kernel
theorem d_M_delay_27 : decode b_M_delay 27 = .ok (.sipush 1000, 3) := by decide +kernel
theorem d_M_delay_30 : decode b_M_delay 30 = .ok (.invokestatic 54, 3) := by decide +kernel
theorem d_M_delay_33 : decode b_M_delay 33 = .ok (.ifCond .ne 9, 3) := by decide +kernel
theorem d_M_delay_36 : decode b_M_delay 36 = .ok (.aload_n 0, 1) := by decide +kernel
theorem d_M_delay_37 : decode b_M_delay 37 = .ok (.iconst 2, 1) := by decide +kernel
theorem d_M_delay_38 : decode b_M_delay 38 = .ok (.invokevirtual 58, 3) := by decide +kernel
theorem d_M_delay_41 : decode b_M_delay 41 = .ok (.ireturn, 1) := by decide +kernel
theorem d_M_delay_42 : decode b_M_delay 42 = .ok (.aload_n 0, 1) := by decide +kernel
theorem d_M_delay_43 : decode b_M_delay 43 = .ok (.getfield 38, 3) := by decide +kernel
theorem d_M_delay_46 : decode b_M_delay 46 = .ok (.bipush 16, 2) := by decide +kernel
theorem d_M_delay_48 : decode b_M_delay 48 = .ok (.iload_n 1, 1) := by decide +kernel
theorem d_M_delay_49 : decode b_M_delay 49 = .ok (.imul, 1) := by decide +kernel
theorem d_M_delay_50 : decode b_M_delay 50 = .ok (.iload_n 2, 1) := by decide +kernel
theorem d_M_delay_51 : decode b_M_delay 51 = .ok (.iadd, 1) := by decide +kernel
theorem d_M_delay_52 : decode b_M_delay 52 = .ok (.iaload, 1) := by decide +kernel
theorem d_M_delay_53 : decode b_M_delay 53 = .ok (.istore 4, 2) := by decide +kernel
theorem d_M_delay_55 : decode b_M_delay 55 = .ok (.aload_n 0, 1) := by decide +kernel
theorem d_M_delay_56 : decode b_M_delay 56 = .ok (.getfield 38, 3) := by decide +kernel
theorem d_M_delay_59 : decode b_M_delay 59 = .ok (.bipush 16, 2) := by decide +kernel
theorem d_M_delay_61 : decode b_M_delay 61 = .ok (.iload_n 1, 1) := by decide +kernel
theorem d_M_delay_62 : decode b_M_delay 62 = .ok (.imul, 1) := by decide +kernel
theorem d_M_delay_63 : decode b_M_delay 63 = .ok (.iload_n 2, 1) := by decide +kernel
theorem d_M_delay_64 : decode b_M_delay 64 = .ok (.iadd, 1) := by decide +kernel
theorem d_M_delay_65 : decode b_M_delay 65 = .ok (.iload_n 3, 1) := by decide +kernel
theorem d_M_delay_66 : decode b_M_delay 66 = .ok (.iastore, 1) := by decide +kernel
theorem d_M_delay_67 : decode b_M_delay 67 = .ok (.iload 4, 2) := by decide +kernel
theorem d_M_delay_69 : decode b_M_delay 69 = .ok (.ireturn, 1) := by decide +kernel
theorem d_M_part_0 : decode b_M_part 0 = .ok (.aload_n 0, 1) := by decide +kernel
theorem d_M_part_1 : decode b_M_part 1 = .ok (.iconst 0, 1) := by decide +kernel
theorem d_M_part_2 : decode b_M_part 2 = .ok (.putfield 51, 3) := by decide +kernel
theorem d_M_part_5 : decode b_M_part 5 = .ok (.iload_n 1, 1) := by decide +kernel
theorem d_M_part_6 : decode b_M_part 6 = .ok (.iconst 0, 1) := by decide +kernel
theorem d_M_part_7 : decode b_M_part 7 = .ok (.ldc 155, 2) := by decide +kernel
theorem d_M_part_9 : decode b_M_part 9 = .ok (.invokestatic 54, 3) := by decide +kernel
theorem d_M_part_12 : decode b_M_part 12 = .ok (.ifCond .ne 9, 3) := by decide +kernel
theorem d_M_part_15 : decode b_M_part 15 = .ok (.aload_n 0, 1) := by decide +kernel
theorem d_M_part_16 : decode b_M_part 16 = .ok (.iconst 1, 1) := by decide +kernel
theorem d_M_part_17 : decode b_M_part 17 = .ok (.invokevirtual 58, 3) := by decide +kernel
theorem d_M_part_20 : decode b_M_part 20 = .ok (.ireturn, 1) := by decide +kernel
theorem d_M_part_21 : decode b_M_part 21 = .ok (.aload_n 0, 1) := by decide +kernel
theorem d_M_part_22 : decode b_M_part 22 = .ok (.getfield 104, 3) := by decide +kernel
theorem d_M_part_25 : decode b_M_part 25 = .ok (.istore_n 2, 1) := by decide +kernel
theorem d_M_part_26 : decode b_M_part 26 = .ok (.aload_n 0, 1) := by decide +kernel
theorem d_M_part_27 : decode b_M_part 27 = .ok (.iload_n 1, 1) := by decide +kernel
theorem d_M_part_28 : decode b_M_part 28 = .ok (.putfield 104, 3) := by decide +kernel
theorem d_M_part_31 : decode b_M_part 31 = .ok (.iload_n 2, 1) := by decide +kernel
theorem d_M_part_32 : decode b_M_part 32 = .ok (.ireturn, 1) := by decide +kernel
theorem d_M_down_0 : decode b_M_down 0 = .ok (.aload_n 0, 1) := by decide +kernel
theorem d_M_down_1 : decode b_M_down 1 = .ok (.iconst 0, 1) := by decide +kernel
theorem d_M_down_2 : decode b_M_down 2 = .ok (.putfield 51, 3) := by decide +kernel
theorem d_M_down_5 : decode b_M_down 5 = .ok (.iload_n 1, 1) := by decide +kernel
theorem d_M_down_6 : decode b_M_down 6 = .ok (.iconst 0, 1) := by decide +kernel
theorem d_M_down_7 : decode b_M_down 7 = .ok (.ldc 155, 2) := by decide +kernel
theorem d_M_down_9 : decode b_M_down 9 = .ok (.invokestatic 54, 3) := by decide +kernel
theorem d_M_down_12 : decode b_M_down 12 = .ok (.ifCond .ne 9, 3) := by decide +kernel
theorem d_M_down_15 : decode b_M_down 15 = .ok (.aload_n 0, 1) := by decide +kernel
theorem d_M_down_16 : decode b_M_down 16 = .ok (.iconst 1, 1) := by decide +kernel
theorem d_M_down_17 : decode b_M_down 17 = .ok (.invokevirtual 58, 3) := by decide +kernel
theorem d_M_down_20 : decode b_M_down 20 = .ok (.ireturn, 1) := by decide +kernel
theorem d_M_down_21 : decode b_M_down 21 = .ok (.aload_n 0, 1) := by decide +kernel
theorem d_M_down_22 : decode b_M_down 22 = .ok (.getfield 142, 3) := by decide +kernel
theorem d_M_down_25 : decode b_M_down 25 = .ok (.istore_n 2, 1) := by decide +kernel
theorem d_M_down_26 : decode b_M_down 26 = .ok (.aload_n 0, 1) := by decide +kernel
theorem d_M_down_27 : decode b_M_down 27 = .ok (.iload_n 1, 1) := by decide +kernel
theorem d_M_down_28 : decode b_M_down 28 = .ok (.putfield 142, 3) := by decide +kernel
theorem d_M_down_31 : decode b_M_down 31 = .ok (.iload_n 2, 1) := by decide +kernel
theorem d_M_down_32 : decode b_M_down 32 = .ok (.ireturn, 1) := by decide +kernel
theorem d_M_noise_0 : decode b_M_noise 0 = .ok (.aload_n 0, 1) := by decide +kernel
theorem d_M_noise_1 : decode b_M_noise 1 = .ok (.iconst 0, 1) := by decide +kernel
theorem d_M_noise_2 : decode b_M_noise 2 = .ok (.putfield 51, 3) := by decide +kernel
theorem d_M_noise_5 : decode b_M_noise 5 = .ok (.iload_n 1, 1) := by decide +kernel
theorem d_M_noise_6 : decode b_M_noise 6 = .ok (.iconst 0, 1) := by decide +kernel
theorem d_M_noise_7 : decode b_M_noise 7 = .ok (.sipush 1000, 3) := by decide +kernel
theorem d_M_noise_10 : decode b_M_noise 10 = .ok (.invokestatic 54, 3) := by decide +kernel
theorem d_M_noise_13 : decode b_M_noise 13 = .ok (.ifCond .eq 25, 3) := by decide +kernel
theorem d_M_noise_16 : decode b_M_noise 16 = .ok (.iload_n 2, 1) := by decide +kernel
theorem d_M_noise_17 : decode b_M_noise 17 = .ok (.iconst 0, 1) := by decide +kernel
theorem d_M_noise_18 : decode b_M_noise 18 = .ok (.sipush 1000, 3) := by decide +kernel
theorem d_M_noise_21 : decode b_M_noise 21 = .ok (.invokestatic 54, 3) := by decide +kernel
theorem d_M_noise_24 : decode b_M_noise 24 = .ok (.ifCond .eq 14, 3) := by decide +kernel
theorem d_M_noise_27 : decode b_M_noise 27 = .ok (.iload_n 3, 1) := by decide +kernel
theorem d_M_noise_28 : decode b_M_noise 28 = .ok (.iconst 0, 1) := by decide +kernel
theorem d_M_noise_29 : decode b_M_noise 29 = .ok (.sipush 1000, 3) := by decide +kernel
theorem d_M_noise_32 : decode b_M_noise 32 = .ok (.invokestatic 54, 3) := by decide +kernel
theorem d_M_noise_35 : decode b_M_noise 35 = .ok (.ifCond .ne 11, 3) := by decide +kernel
theorem d_M_noise_38 : decode b_M_noise 38 = .ok (.aload_n 0, 1) := by decide +kernel
theorem d_M_noise_39 : decode b_M_noise 39 = .ok (.iconst 1, 1) := by decide +kernel
theorem d_M_noise_40 : decode b_M_noise 40 = .ok (.putfield 51, 3) := by decide +kernel
theorem d_M_noise_43 : decode b_M_noise 43 = .ok (.goto 24, 3) := by decide +kernel
theorem d_M_noise_46 : decode b_M_noise 46 = .ok (.aload_n 0, 1) := by decide +kernel
theorem d_M_noise_47 : decode b_M_noise 47 = .ok (.iload_n 1, 1) := by decide +kernel
theorem d_M_noise_48 : decode b_M_noise 48 = .ok (.putfield 119, 3) := by decide +kernel
theorem d_M_noise_51 : decode b_M_noise 51 = .ok (.aload_n 0, 1) := by decide +kernel
theorem d_M_noise_52 : decode b_M_noise 52 = .ok (.iload_n 2, 1) := by decide +kernel
theorem d_M_noise_53 : decode b_M_noise 53 = .ok (.putfield 122, 3) := by decide +kernel
theorem d_M_noise_56 : decode b_M_noise 56 = .ok (.aload_n 0, 1) := by decide +kernel
theorem d_M_noise_57 : decode b_M_noise 57 = .ok (.iload_n 3, 1) := by decide +kernel
theorem d_M_noise_58 : decode b_M_noise 58 = .ok (.putfield 125, 3) := by decide +kernel
theorem d_M_noise_61 : decode b_M_noise 61 = .ok (.aload_n 0, 1) := by decide +kernel
theorem d_M_noise_62 : decode b_M_noise 62 = .ok (.lload 4, 2) := by decide +kernel
theorem d_M_noise_64 : decode b_M_noise 64 = .ok (.putfield 96, 3) := by decide +kernel
theorem d_M_noise_67 : decode b_M_noise 67 = .ok (.return_, 1) := by decide +kernel
theorem d_M_message_0 : decode b_M_message 0 = .ok (.aload_n 0, 1) := by decide +kernel
theorem d_M_message_1 : decode b_M_message 1 = .ok (.iconst 0, 1) := by decide +kernel
theorem d_M_message_2 : decode b_M_message 2 = .ok (.putfield 51, 3) := by decide +kernel
theorem d_M_message_5 : decode b_M_message 5 = .ok (.aload_n 0, 1) := by decide +kernel
theorem d_M_message_6 : decode b_M_message 6 = .ok (.iload_n 1, 1) := by decide +kernel
theorem d_M_message_7 : decode b_M_message 7 = .ok (.iconst 0, 1) := by decide +kernel
theorem d_M_message_8 : decode b_M_message 8 = .ok (.invokevirtual 138, 3) := by decide +kernel
theorem d_M_message_11 : decode b_M_message 11 = .ok (.istore_n 3, 1) := by decide +kernel
theorem d_M_message_12 : decode b_M_message 12 = .ok (.iload_n 3, 1) := by decide +kernel
theorem d_M_message_13 : decode b_M_message 13 = .ok (.ifCond .lt 12, 3) := by decide +kernel
theorem d_M_message_16 : decode b_M_message 16 = .ok (.iload_n 2, 1) := by decide +kernel
theorem d_M_message_17 : decode b_M_message 17 = .ok (.iconst 0, 1) := by decide +kernel
theorem d_M_message_18 : decode b_M_message 18 = .ok (.iconst 4, 1) := by decide +kernel
theorem d_M_message_19 : decode b_M_message 19 = .ok (.invokestatic 54, 3) := by decide +kernel
theorem d_M_message_22 : decode b_M_message 22 = .ok (.ifCond .ne 5, 3) := by decide +kernel
theorem d_M_message_25 : decode b_M_message 25 = .ok (.iconst (-1), 1) := by decide +kernel
theorem d_M_message_26 : decode b_M_message 26 = .ok (.ireturn, 1) := by decide +kernel
theorem d_M_message_27 : decode b_M_message 27 = .ok (.iload_n 2, 1) := by decide +kernel
theorem d_M_message_28 : decode b_M_message 28 = .ok (.iconst 3, 1) := by decide +kernel
theorem d_M_message_29 : decode b_M_message 29 = .ok (.if_icmp .ge 37, 3) := by decide +kernel
theorem d_M_message_32 : decode b_M_message 32 = .ok (.iload_n 2, 1) := by decide +kernel
theorem d_M_message_33 : decode b_M_message 33 = .ok (.ifCond .ne 12, 3) := by decide +kernel
theorem d_M_message_36 : decode b_M_message 36 = .ok (.aload_n 0, 1) := by decide +kernel
theorem d_M_message_37 : decode b_M_message 37 = .ok (.getfield 19, 3) := by decide +kernel
theorem d_M_message_40 : decode b_M_message 40 = .ok (.iload_n 3, 1) := by decide +kernel
theorem d_M_message_41 : decode b_M_message 41 = .ok (.iaload, 1) := by decide +kernel
theorem d_M_message_42 : decode b_M_message 42 = .ok (.goto 23, 3) := by decide +kernel
theorem d_M_message_45 : decode b_M_message 45 = .ok (.iload_n 2, 1) := by decide +kernel
theorem d_M_message_46 : decode b_M_message 46 = .ok (.iconst 1, 1) := by decide +kernel
theorem d_M_message_47 : decode b_M_message 47 = .ok (.if_icmp .ne 12, 3) := by decide +kernel
theorem d_M_message_50 : decode b_M_message 50 = .ok (.aload_n 0, 1) := by decide +kernel
theorem d_M_message_51 : decode b_M_message 51 = .ok (.getfield 16, 3) := by decide +kernel
theorem d_M_message_54 : decode b_M_message 54 = .ok (.iload_n 3, 1) := by decide +kernel
theorem d_M_message_55 : decode b_M_message 55 = .ok (.iaload, 1) := by decide +kernel
theorem d_M_message_56 : decode b_M_message 56 = .ok (.goto 9, 3) := by decide +kernel
theorem d_M_message_59 : decode b_M_message 59 = .ok (.aload_n 0, 1) := by decide +kernel
theorem d_M_message_60 : decode b_M_message 60 = .ok (.getfield 7, 3) := by decide +kernel
theorem d_M_message_63 : decode b_M_message 63 = .ok (.iload_n 3, 1) := by decide +kernel
theorem d_M_message_64 : decode b_M_message 64 = .ok (.iaload, 1) := by decide +kernel
theorem d_M_message_65 : decode b_M_message 65 = .ok (.ireturn, 1) := by decide +kernel
theorem d_M_message_66 : decode b_M_message 66 = .ok (.iload_n 2, 1) := by decide +kernel
theorem d_M_message_67 : decode b_M_message 67 = .ok (.iconst 3, 1) := by decide +kernel
theorem d_M_message_68 : decode b_M_message 68 = .ok (.if_icmp .ne 7, 3) := by decide +kernel
theorem d_M_message_71 : decode b_M_message 71 = .ok (.iload_n 3, 1) := by decide +kernel
theorem d_M_message_72 : decode b_M_message 72 = .ok (.goto 9, 3) := by decide +kernel
theorem d_M_message_75 : decode b_M_message 75 = .ok (.aload_n 0, 1) := by decide +kernel
theorem d_M_message_76 : decode b_M_message 76 = .ok (.getfield 25, 3) := by decide +kernel
theorem d_M_message_79 : decode b_M_message 79 = .ok (.iload_n 3, 1) := by decide +kernel
theorem d_M_message_80 : decode b_M_message 80 = .ok (.iaload, 1) := by decide +kernel
theorem d_M_message_81 : decode b_M_message 81 = .ok (.ireturn, 1) := by decide +kernel
theorem d_M_messageAt_0 : decode b_M_messageAt 0 = .ok (.aload_n 0, 1) := by decide +kernel
theorem d_M_messageAt_1 : decode b_M_messageAt 1 = .ok (.iconst 0, 1) := by decide +kernel
theorem d_M_messageAt_2 : decode b_M_messageAt 2 = .ok (.putfield 51, 3) := by decide +kernel
theorem d_M_messageAt_5 : decode b_M_messageAt 5 = .ok (.aload_n 0, 1) := by decide +kernel
theorem d_M_messageAt_6 : decode b_M_messageAt 6 = .ok (.iload_n 1, 1) := by decide +kernel
theorem d_M_messageAt_7 : decode b_M_messageAt 7 = .ok (.iconst 0, 1) := by decide +kernel
theorem d_M_messageAt_8 : decode b_M_messageAt 8 = .ok (.invokevirtual 138, 3) := by decide +kernel
theorem d_M_messageAt_11 : decode b_M_messageAt 11 = .ok (.istore_n 3, 1) := by decide +kernel
theorem d_M_messageAt_12 : decode b_M_messageAt 12 = .ok (.iload_n 3, 1) := by decide +kernel
theorem d_M_messageAt_13 : decode b_M_messageAt 13 = .ok (.ifCond .lt 19, 3) := by decide +kernel
theorem d_M_messageAt_16 : decode b_M_messageAt 16 = .ok (.iload_n 2, 1) := by decide +kernel
theorem d_M_messageAt_17 : decode b_M_messageAt 17 = .ok (.iconst 0, 1) := by decide +kernel
theorem d_M_messageAt_18 : decode b_M_messageAt 18 = .ok (.aload_n 0, 1) := by decide +kernel
theorem d_M_messageAt_19 : decode b_M_messageAt 19 = .ok (.getfield 25, 3) := by decide +kernel
theorem d_M_messageAt_22 : decode b_M_messageAt 22 = .ok (.iload_n 3, 1) := by decide +kernel
theorem d_M_messageAt_23 : decode b_M_messageAt 23 = .ok (.iaload, 1) := by decide +kernel
theorem d_M_messageAt_24 : decode b_M_messageAt 24 = .ok (.iconst 1, 1) := by decide +kernel
theorem d_M_messageAt_25 : decode b_M_messageAt 25 = .ok (.isub, 1) := by decide +kernel
theorem d_M_messageAt_26 : decode b_M_messageAt 26 = .ok (.invokestatic 54, 3) := by decide +kernel
theorem d_M_messageAt_29 : decode b_M_messageAt 29 = .ok (.ifCond .ne 11, 3) := by decide +kernel
theorem d_M_messageAt_32 : decode b_M_messageAt 32 = .ok (.aload_n 0, 1) := by decide +kernel
theorem d_M_messageAt_33 : decode b_M_messageAt 33 = .ok (.iconst 1, 1) := by decide +kernel
theorem d_M_messageAt_34 : decode b_M_messageAt 34 = .ok (.invokevirtual 58, 3) := by decide +kernel
theorem d_M_messageAt_37 : decode b_M_messageAt 37 = .ok (.goto 16, 3) := by decide +kernel
theorem d_M_messageAt_40 : decode b_M_messageAt 40 = .ok (.aload_n 0, 1) := by decide +kernel
theorem d_M_messageAt_41 : decode b_M_messageAt 41 = .ok (.getfield 32, 3) := by decide +kernel
theorem d_M_messageAt_44 : decode b_M_messageAt 44 = .ok (.aload_n 0, 1) := by decide +kernel
theorem d_M_messageAt_45 : decode b_M_messageAt 45 = .ok (.getfield 22, 3) := by decide +kernel
theorem d_M_messageAt_48 : decode b_M_messageAt 48 = .ok (.iload_n 3, 1) := by decide +kernel
theorem d_M_messageAt_49 : decode b_M_messageAt 49 = .ok (.iaload, 1) := by decide +kernel
theorem d_M_messageAt_50 : decode b_M_messageAt 50 = .ok (.iload_n 2, 1) := by decide +kernel
theorem d_M_messageAt_51 : decode b_M_messageAt 51 = .ok (.iadd, 1) := by decide +kernel
theorem d_M_messageAt_52 : decode b_M_messageAt 52 = .ok (.iaload, 1) := by decide +kernel
theorem d_M_messageAt_53 : decode b_M_messageAt 53 = .ok (.ireturn, 1) := by decide +kernel
theorem d_M_happened_0 : decode b_M_happened 0 = .ok (.aload_n 0, 1) := by decide +kernel
theorem d_M_happened_1 : decode b_M_happened 1 = .ok (.iconst 0, 1) := by decide +kernel
theorem d_M_happened_2 : decode b_M_happened 2 = .ok (.putfield 51, 3) := by decide +kernel
theorem d_M_happened_5 : decode b_M_happened 5 = .ok (.iload_n 1, 1) := by decide +kernel
theorem d_M_happened_6 : decode b_M_happened 6 = .ok (.iconst 0, 1) := by decide +kernel
theorem d_M_happened_7 : decode b_M_happened 7 = .ok (.bipush 31, 2) := by decide +kernel
theorem d_M_happened_9 : decode b_M_happened 9 = .ok (.invokestatic 54, 3) := by decide +kernel
theorem d_M_happened_12 : decode b_M_happened 12 = .ok (.ifCond .eq 20, 3) := by decide +kernel
theorem d_M_happened_15 : decode b_M_happened 15 = .ok (.iload_n 1, 1) := by decide +kernel
theorem d_M_happened_16 : decode b_M_happened 16 = .ok (.aload_n 0, 1) := by decide +kernel
theorem d_M_happened_17 : decode b_M_happened 17 = .ok (.getfield 145, 3) := by decide +kernel
theorem d_M_happened_20 : decode b_M_happened 20 = .ok (.if_icmp .ge 12, 3) := by decide +kernel
theorem d_M_happened_23 : decode b_M_happened 23 = .ok (.iload_n 2, 1) := by decide +kernel
theorem d_M_happened_24 : decode b_M_happened 24 = .ok (.iconst 0, 1) := by decide +kernel
theorem d_M_happened_25 : decode b_M_happened 25 = .ok (.iconst 3, 1) := by decide +kernel
theorem d_M_happened_26 : decode b_M_happened 26 = .ok (.invokestatic 54, 3) := by decide +kernel
theorem d_M_happened_29 : decode b_M_happened 29 = .ok (.ifCond .ne 5, 3) := by decide +kernel
theorem d_M_happened_32 : decode b_M_happened 32 = .ok (.iconst (-1), 1) := by decide +kernel
theorem d_M_happened_33 : decode b_M_happened 33 = .ok (.ireturn, 1) := by decide +kernel
theorem d_M_happened_34 : decode b_M_happened 34 = .ok (.aload_n 0, 1) := by decide +kernel
theorem d_M_happened_35 : decode b_M_happened 35 = .ok (.getfield 145, 3) := by decide +kernel
theorem d_M_happened_38 : decode b_M_happened 38 = .ok (.iconst 1, 1) := by decide +kernel
theorem d_M_happened_39 : decode b_M_happened 39 = .ok (.isub, 1) := by decide +kernel
theorem d_M_happened_40 : decode b_M_happened 40 = .ok (.iload_n 1, 1) := by decide +kernel
theorem d_M_happened_41 : decode b_M_happened 41 = .ok (.isub, 1) := by decide +kernel
theorem d_M_happened_42 : decode b_M_happened 42 = .ok (.bipush 32, 2) := by decide +kernel
theorem d_M_happened_44 : decode b_M_happened 44 = .ok (.irem, 1) := by decide +kernel
theorem d_M_happened_45 : decode b_M_happened 45 = .ok (.istore_n 3, 1) := by decide +kernel
theorem d_M_happened_46 : decode b_M_happened 46 = .ok (.aload_n 0, 1) := by decide +kernel
theorem d_M_happened_47 : decode b_M_happened 47 = .ok (.getfield 44, 3) := by decide +kernel
theorem d_M_happened_50 : decode b_M_happened 50 = .ok (.iload_n 3, 1) := by decide +kernel
theorem d_M_happened_51 : decode b_M_happened 51 = .ok (.iaload, 1) := by decide +kernel
theorem d_M_happened_52 : decode b_M_happened 52 = .ok (.istore 4, 2) := by decide +kernel
theorem d_M_happened_54 : decode b_M_happened 54 = .ok (.iload_n 2, 1) := by decide +kernel
theorem d_M_happened_55 : decode b_M_happened 55 = .ok (.iconst 2, 1) := by decide +kernel
theorem d_M_happened_56 : decode b_M_happened 56 = .ok (.if_icmp .ge 24, 3) := by decide +kernel
theorem d_M_happened_59 : decode b_M_happened 59 = .ok (.iload_n 2, 1) := by decide +kernel
theorem d_M_happened_60 : decode b_M_happened 60 = .ok (.ifCond .ne 12, 3) := by decide +kernel
theorem d_M_happened_63 : decode b_M_happened 63 = .ok (.aload_n 0, 1) := by decide +kernel
theorem d_M_happened_64 : decode b_M_happened 64 = .ok (.getfield 41, 3) := by decide +kernel
theorem d_M_happened_67 : decode b_M_happened 67 = .ok (.iload_n 3, 1) := by decide +kernel
theorem d_M_happened_68 : decode b_M_happened 68 = .ok (.iaload, 1) := by decide +kernel
theorem d_M_happened_69 : decode b_M_happened 69 = .ok (.goto 10, 3) := by decide +kernel
theorem d_M_happened_72 : decode b_M_happened 72 = .ok (.aload_n 0, 1) := by decide +kernel
theorem d_M_happened_73 : decode b_M_happened 73 = .ok (.getfield 7, 3) := by decide +kernel
theorem d_M_happened_76 : decode b_M_happened 76 = .ok (.iload 4, 2) := by decide +kernel
theorem d_M_happened_78 : decode b_M_happened 78 = .ok (.iaload, 1) := by decide +kernel
theorem d_M_happened_79 : decode b_M_happened 79 = .ok (.ireturn, 1) := by decide +kernel
theorem d_M_happened_80 : decode b_M_happened 80 = .ok (.iload_n 2, 1) := by decide +kernel
theorem d_M_happened_81 : decode b_M_happened 81 = .ok (.iconst 2, 1) := by decide +kernel
theorem d_M_happened_82 : decode b_M_happened 82 = .ok (.if_icmp .ne 8, 3) := by decide +kernel
theorem d_M_happened_85 : decode b_M_happened 85 = .ok (.iload 4, 2) := by decide +kernel
theorem d_M_happened_87 : decode b_M_happened 87 = .ok (.goto 10, 3) := by decide +kernel
theorem d_M_happened_90 : decode b_M_happened 90 = .ok (.aload_n 0, 1) := by decide +kernel
theorem d_M_happened_91 : decode b_M_happened 91 = .ok (.getfield 19, 3) := by decide +kernel
theorem d_M_happened_94 : decode b_M_happened 94 = .ok (.iload 4, 2) := by decide +kernel
theorem d_M_happened_96 : decode b_M_happened 96 = .ok (.iaload, 1) := by decide +kernel
theorem d_M_happened_97 : decode b_M_happened 97 = .ok (.ireturn, 1) := by decide +kernel
theorem d_M_byteAt_0 : decode b_M_byteAt 0 = .ok (.aload_n 0, 1) := by decide +kernel
theorem d_M_byteAt_1 : decode b_M_byteAt 1 = .ok (.iconst 0, 1) := by decide +kernel
theorem d_M_byteAt_2 : decode b_M_byteAt 2 = .ok (.putfield 51, 3) := by decide +kernel
theorem d_M_byteAt_5 : decode b_M_byteAt 5 = .ok (.aload_n 0, 1) := by decide +kernel
theorem d_M_byteAt_6 : decode b_M_byteAt 6 = .ok (.getfield 47, 3) := by decide +kernel
theorem d_M_byteAt_9 : decode b_M_byteAt 9 = .ok (.ifCond .lt 22, 3) := by decide +kernel
theorem d_M_byteAt_12 : decode b_M_byteAt 12 = .ok (.iload_n 1, 1) := by decide +kernel
theorem d_M_byteAt_13 : decode b_M_byteAt 13 = .ok (.iconst 0, 1) := by decide +kernel
theorem d_M_byteAt_14 : decode b_M_byteAt 14 = .ok (.aload_n 0, 1) := by decide +kernel
theorem d_M_byteAt_15 : decode b_M_byteAt 15 = .ok (.getfield 25, 3) := by decide +kernel
theorem d_M_byteAt_18 : decode b_M_byteAt 18 = .ok (.aload_n 0, 1) := by decide +kernel
theorem d_M_byteAt_19 : decode b_M_byteAt 19 = .ok (.getfield 47, 3) := by decide +kernel
theorem d_M_byteAt_22 : decode b_M_byteAt 22 = .ok (.iaload, 1) := by decide +kernel
theorem d_M_byteAt_23 : decode b_M_byteAt 23 = .ok (.iconst 1, 1) := by decide +kernel
theorem d_M_byteAt_24 : decode b_M_byteAt 24 = .ok (.isub, 1) := by decide +kernel
theorem d_M_byteAt_25 : decode b_M_byteAt 25 = .ok (.invokestatic 54, 3) := by decide +kernel
theorem d_M_byteAt_28 : decode b_M_byteAt 28 = .ok (.ifCond .ne 11, 3) := by decide +kernel
theorem d_M_byteAt_31 : decode b_M_byteAt 31 = .ok (.aload_n 0, 1) := by decide +kernel
theorem d_M_byteAt_32 : decode b_M_byteAt 32 = .ok (.iconst 1, 1) := by decide +kernel
theorem d_M_byteAt_33 : decode b_M_byteAt 33 = .ok (.invokevirtual 58, 3) := by decide +kernel
theorem d_M_byteAt_36 : decode b_M_byteAt 36 = .ok (.goto 19, 3) := by decide +kernel
theorem d_M_byteAt_39 : decode b_M_byteAt 39 = .ok (.aload_n 0, 1) := by decide +kernel
theorem d_M_byteAt_40 : decode b_M_byteAt 40 = .ok (.getfield 32, 3) := by decide +kernel
theorem d_M_byteAt_43 : decode b_M_byteAt 43 = .ok (.aload_n 0, 1) := by decide +kernel
theorem d_M_byteAt_44 : decode b_M_byteAt 44 = .ok (.getfield 22, 3) := by decide +kernel
theorem d_M_byteAt_47 : decode b_M_byteAt 47 = .ok (.aload_n 0, 1) := by decide +kernel
theorem d_M_byteAt_48 : decode b_M_byteAt 48 = .ok (.getfield 47, 3) := by decide +kernel
theorem d_M_byteAt_51 : decode b_M_byteAt 51 = .ok (.iaload, 1) := by decide +kernel
theorem d_M_byteAt_52 : decode b_M_byteAt 52 = .ok (.iload_n 1, 1) := by decide +kernel
theorem d_M_byteAt_53 : decode b_M_byteAt 53 = .ok (.iadd, 1) := by decide +kernel
theorem d_M_byteAt_54 : decode b_M_byteAt 54 = .ok (.iaload, 1) := by decide +kernel
theorem d_M_byteAt_55 : decode b_M_byteAt 55 = .ok (.ireturn, 1) := by decide +kernel
theorem d_M_when_0 : decode b_M_when 0 = .ok (.aload_n 0, 1) := by decide +kernel
theorem d_M_when_1 : decode b_M_when 1 = .ok (.iconst 0, 1) := by decide +kernel
theorem d_M_when_2 : decode b_M_when 2 = .ok (.putfield 51, 3) := by decide +kernel
theorem d_M_when_5 : decode b_M_when 5 = .ok (.iload_n 1, 1) := by decide +kernel
theorem d_M_when_6 : decode b_M_when 6 = .ok (.invokestatic 74, 3) := by decide +kernel
theorem d_M_when_9 : decode b_M_when 9 = .ok (.ifCond .eq 12, 3) := by decide +kernel
theorem d_M_when_12 : decode b_M_when 12 = .ok (.iload_n 2, 1) := by decide +kernel
theorem d_M_when_13 : decode b_M_when 13 = .ok (.iconst 0, 1) := by decide +kernel
theorem d_M_when_14 : decode b_M_when 14 = .ok (.iconst 1, 1) := by decide +kernel
theorem d_M_when_15 : decode b_M_when 15 = .ok (.invokestatic 54, 3) := by decide +kernel
theorem d_M_when_18 : decode b_M_when 18 = .ok (.ifCond .ne 9, 3) := by decide +kernel
theorem d_M_when_21 : decode b_M_when 21 = .ok (.aload_n 0, 1) := by decide +kernel
theorem d_M_when_22 : decode b_M_when 22 = .ok (.iconst 1, 1) := by decide +kernel
theorem d_M_when_23 : decode b_M_when 23 = .ok (.invokevirtual 58, 3) := by decide +kernel
theorem d_M_when_26 : decode b_M_when 26 = .ok (.ireturn, 1) := by decide +kernel
theorem d_M_when_27 : decode b_M_when 27 = .ok (.aload_n 0, 1) := by decide +kernel
theorem d_M_when_28 : decode b_M_when 28 = .ok (.iload_n 2, 1) := by decide +kernel
theorem d_M_when_29 : decode b_M_when 29 = .ok (.ifCond .ne 7, 3) := by decide +kernel
theorem d_M_when_32 : decode b_M_when 32 = .ok (.iconst 1, 1) := by decide +kernel
theorem d_M_when_33 : decode b_M_when 33 = .ok (.goto 4, 3) := by decide +kernel
theorem d_M_when_36 : decode b_M_when 36 = .ok (.iconst 2, 1) := by decide +kernel
theorem d_M_when_37 : decode b_M_when 37 = .ok (.iload_n 1, 1) := by decide +kernel
theorem d_M_when_38 : decode b_M_when 38 = .ok (.invokevirtual 70, 3) := by decide +kernel
theorem d_M_when_41 : decode b_M_when 41 = .ok (.istore_n 3, 1) := by decide +kernel
theorem d_M_when_42 : decode b_M_when 42 = .ok (.iload_n 3, 1) := by decide +kernel
theorem d_M_when_43 : decode b_M_when 43 = .ok (.ifCond .ge 7, 3) := by decide +kernel
theorem d_M_when_46 : decode b_M_when 46 = .ok (.iconst (-1), 1) := by decide +kernel
theorem d_M_when_47 : decode b_M_when 47 = .ok (.goto 9, 3) := by decide +kernel
theorem d_M_when_50 : decode b_M_when 50 = .ok (.aload_n 0, 1) := by decide +kernel
theorem d_M_when_51 : decode b_M_when 51 = .ok (.getfield 7, 3) := by decide +kernel
theorem d_M_when_54 : decode b_M_when 54 = .ok (.iload_n 3, 1) := by decide +kernel
theorem d_M_when_55 : decode b_M_when 55 = .ok (.iaload, 1) := by decide +kernel
theorem d_M_when_56 : decode b_M_when 56 = .ok (.ireturn, 1) := by decide +kernel
theorem d_M_count_0 : decode b_M_count 0 = .ok (.aload_n 0, 1) := by decide +kernel
theorem d_M_count_1 : decode b_M_count 1 = .ok (.iconst 0, 1) := by decide +kernel
theorem d_M_count_2 : decode b_M_count 2 = .ok (.putfield 51, 3) := by decide +kernel
theorem d_M_count_5 : decode b_M_count 5 = .ok (.iload_n 1, 1) := by decide +kernel
theorem d_M_count_6 : decode b_M_count 6 = .ok (.ifCond .lt 9, 3) := by decide +kernel
theorem d_M_count_9 : decode b_M_count 9 = .ok (.iload_n 1, 1) := by decide +kernel
theorem d_M_count_10 : decode b_M_count 10 = .ok (.bipush 7, 2) := by decide +kernel
theorem d_M_count_12 : decode b_M_count 12 = .ok (.if_icmp .le 5, 3) := by decide +kernel
theorem d_M_count_15 : decode b_M_count 15 = .ok (.iconst (-1), 1) := by decide +kernel
theorem d_M_count_16 : decode b_M_count 16 = .ok (.ireturn, 1) := by decide +kernel
theorem d_M_count_17 : decode b_M_count 17 = .ok (.iload_n 1, 1) := by decide +kernel
theorem d_M_count_18 : decode b_M_count 18 = .ok (.iconst 4, 1) := by decide +kernel
theorem d_M_count_19 : decode b_M_count 19 = .ok (.if_icmp .ge 43, 3) := by decide +kernel
theorem d_M_count_22 : decode b_M_count 22 = .ok (.iload_n 1, 1) := by decide +kernel
theorem d_M_count_23 : decode b_M_count 23 = .ok (.ifCond .ne 10, 3) := by decide +kernel
theorem d_M_count_26 : decode b_M_count 26 = .ok (.aload_n 0, 1) := by decide +kernel
theorem d_M_count_27 : decode b_M_count 27 = .ok (.getfield 83, 3) := by decide +kernel
theorem d_M_count_30 : decode b_M_count 30 = .ok (.goto 31, 3) := by decide +kernel
theorem d_M_count_33 : decode b_M_count 33 = .ok (.iload_n 1, 1) := by decide +kernel
theorem d_M_count_34 : decode b_M_count 34 = .ok (.iconst 1, 1) := by decide +kernel
theorem d_M_count_35 : decode b_M_count 35 = .ok (.if_icmp .ne 10, 3) := by decide +kernel
theorem d_M_count_38 : decode b_M_count 38 = .ok (.aload_n 0, 1) := by decide +kernel
theorem d_M_count_39 : decode b_M_count 39 = .ok (.getfield 107, 3) := by decide +kernel
theorem d_M_count_42 : decode b_M_count 42 = .ok (.goto 19, 3) := by decide +kernel
theorem d_M_count_45 : decode b_M_count 45 = .ok (.iload_n 1, 1) := by decide +kernel
theorem d_M_count_46 : decode b_M_count 46 = .ok (.iconst 2, 1) := by decide +kernel
theorem d_M_count_47 : decode b_M_count 47 = .ok (.if_icmp .ne 10, 3) := by decide +kernel
theorem d_M_count_50 : decode b_M_count 50 = .ok (.aload_n 0, 1) := by decide +kernel
theorem d_M_count_51 : decode b_M_count 51 = .ok (.getfield 113, 3) := by decide +kernel
theorem d_M_count_54 : decode b_M_count 54 = .ok (.goto 7, 3) := by decide +kernel
theorem d_M_count_57 : decode b_M_count 57 = .ok (.aload_n 0, 1) := by decide +kernel
theorem d_M_count_58 : decode b_M_count 58 = .ok (.getfield 110, 3) := by decide +kernel
theorem d_M_count_61 : decode b_M_count 61 = .ok (.ireturn, 1) := by decide +kernel
theorem d_M_count_62 : decode b_M_count 62 = .ok (.iload_n 1, 1) := by decide +kernel
theorem d_M_count_63 : decode b_M_count 63 = .ok (.iconst 4, 1) := by decide +kernel
theorem d_M_count_64 : decode b_M_count 64 = .ok (.if_icmp .ne 10, 3) := by decide +kernel
theorem d_M_count_67 : decode b_M_count 67 = .ok (.aload_n 0, 1) := by decide +kernel
theorem d_M_count_68 : decode b_M_count 68 = .ok (.getfield 145, 3) := by decide +kernel
theorem d_M_count_71 : decode b_M_count 71 = .ok (.goto 48, 3) := by decide +kernel
theorem d_M_count_74 : decode b_M_count 74 = .ok (.iload_n 1, 1) := by decide +kernel
theorem d_M_count_75 : decode b_M_count 75 = .ok (.iconst 5, 1) := by decide +kernel
theorem d_M_count_76 : decode b_M_count 76 = .ok (.if_icmp .ne 10, 3) := by decide +kernel
theorem d_M_count_79 : decode b_M_count 79 = .ok (.aload_n 0, 1) := by decide +kernel
theorem d_M_count_80 : decode b_M_count 80 = .ok (.getfield 67, 3) := by decide +kernel
theorem d_M_count_83 : decode b_M_count 83 = .ok (.goto 36, 3) := by decide +kernel
theorem d_M_count_86 : decode b_M_count 86 = .ok (.iload_n 1, 1) := by decide +kernel
theorem d_M_count_87 : decode b_M_count 87 = .ok (.bipush 6, 2) := by decide +kernel
theorem d_M_count_89 : decode b_M_count 89 = .ok (.if_icmp .ne 10, 3) := by decide +kernel
theorem d_M_count_92 : decode b_M_count 92 = .ok (.aload_n 0, 1) := by decide +kernel
theorem d_M_count_93 : decode b_M_count 93 = .ok (.getfield 62, 3) := by decide +kernel
theorem d_M_count_96 : decode b_M_count 96 = .ok (.goto 23, 3) := by decide +kernel
theorem d_M_count_99 : decode b_M_count 99 = .ok (.aload_n 0, 1) := by decide +kernel
theorem d_M_count_100 : decode b_M_count 100 = .ok (.getfield 47, 3) := by decide +kernel
theorem d_M_count_103 : decode b_M_count 103 = .ok (.ifCond .ge 7, 3) := by decide +kernel
theorem d_M_count_106 : decode b_M_count 106 = .ok (.iconst 0, 1) := by decide +kernel
theorem d_M_count_107 : decode b_M_count 107 = .ok (.goto 12, 3) := by decide +kernel
theorem d_M_count_110 : decode b_M_count 110 = .ok (.aload_n 0, 1) := by decide +kernel
theorem d_M_count_111 : decode b_M_count 111 = .ok (.getfield 25, 3) := by decide +kernel
theorem d_M_count_114 : decode b_M_count 114 = .ok (.aload_n 0, 1) := by decide +kernel
theorem d_M_count_115 : decode b_M_count 115 = .ok (.getfield 47, 3) := by decide +kernel
theorem d_M_count_118 : decode b_M_count 118 = .ok (.iaload, 1) := by decide +kernel
theorem d_M_count_119 : decode b_M_count 119 = .ok (.ireturn, 1) := by decide +kernel

theorem d_NetWires_init_0 : decode b_NetWires_init 0 = .ok (.aload_n 0, 1) := by decide +kernel
theorem d_NetWires_init_1 : decode b_NetWires_init 1 = .ok (.invokespecial 3, 3) := by decide +kernel
theorem d_NetWires_init_4 : decode b_NetWires_init 4 = .ok (.aload_n 0, 1) := by decide +kernel
theorem d_NetWires_init_5 : decode b_NetWires_init 5 = .ok (.new 9, 3) := by decide +kernel
theorem d_NetWires_init_8 : decode b_NetWires_init 8 = .ok (.dup, 1) := by decide +kernel
theorem d_NetWires_init_9 : decode b_NetWires_init 9 = .ok (.invokespecial 11, 3) := by decide +kernel
theorem d_NetWires_init_12 : decode b_NetWires_init 12 = .ok (.putfield 12, 3) := by decide +kernel
theorem d_NetWires_init_15 : decode b_NetWires_init 15 = .ok (.aload_n 0, 1) := by decide +kernel
theorem d_NetWires_init_16 : decode b_NetWires_init 16 = .ok (.new 16, 3) := by decide +kernel
theorem d_NetWires_init_19 : decode b_NetWires_init 19 = .ok (.dup, 1) := by decide +kernel
theorem d_NetWires_init_20 : decode b_NetWires_init 20 = .ok (.invokespecial 18, 3) := by decide +kernel
theorem d_NetWires_init_23 : decode b_NetWires_init 23 = .ok (.putfield 19, 3) := by decide +kernel
theorem d_NetWires_init_26 : decode b_NetWires_init 26 = .ok (.aload_n 0, 1) := by decide +kernel
theorem d_NetWires_init_27 : decode b_NetWires_init 27 = .ok (.new 23, 3) := by decide +kernel
theorem d_NetWires_init_30 : decode b_NetWires_init 30 = .ok (.dup, 1) := by decide +kernel
theorem d_NetWires_init_31 : decode b_NetWires_init 31 = .ok (.invokespecial 25, 3) := by decide +kernel
theorem d_NetWires_init_34 : decode b_NetWires_init 34 = .ok (.putfield 26, 3) := by decide +kernel
theorem d_NetWires_init_37 : decode b_NetWires_init 37 = .ok (.aload_n 0, 1) := by decide +kernel
theorem d_NetWires_init_38 : decode b_NetWires_init 38 = .ok (.new 30, 3) := by decide +kernel
theorem d_NetWires_init_41 : decode b_NetWires_init 41 = .ok (.dup, 1) := by decide +kernel
theorem d_NetWires_init_42 : decode b_NetWires_init 42 = .ok (.invokespecial 32, 3) := by decide +kernel
theorem d_NetWires_init_45 : decode b_NetWires_init 45 = .ok (.putfield 33, 3) := by decide +kernel
theorem d_NetWires_init_48 : decode b_NetWires_init 48 = .ok (.aload_n 0, 1) := by decide +kernel
theorem d_NetWires_init_49 : decode b_NetWires_init 49 = .ok (.sipush 256, 3) := by decide +kernel
theorem d_NetWires_init_52 : decode b_NetWires_init 52 = .ok (.newarray .int, 2) := by decide +kernel
theorem d_NetWires_init_54 : decode b_NetWires_init 54 = .ok (.putfield 37, 3) := by decide +kernel
theorem d_NetWires_init_57 : decode b_NetWires_init 57 = .ok (.aload_n 0, 1) := by decide +kernel
theorem d_NetWires_init_58 : decode b_NetWires_init 58 = .ok (.getfield 37, 3) := by decide +kernel
theorem d_NetWires_init_61 : decode b_NetWires_init 61 = .ok (.iconst 3, 1) := by decide +kernel
theorem d_NetWires_init_62 : decode b_NetWires_init 62 = .ok (.invokestatic 41, 3) := by decide +kernel
theorem d_NetWires_init_65 : decode b_NetWires_init 65 = .ok (.aload_n 0, 1) := by decide +kernel
theorem d_NetWires_init_66 : decode b_NetWires_init 66 = .ok (.iconst 0, 1) := by decide +kernel
theorem d_NetWires_init_67 : decode b_NetWires_init 67 = .ok (.putfield 47, 3) := by decide +kernel
theorem d_NetWires_init_70 : decode b_NetWires_init 70 = .ok (.aload_n 0, 1) := by decide +kernel
theorem d_NetWires_init_71 : decode b_NetWires_init 71 = .ok (.iconst 0, 1) := by decide +kernel
theorem d_NetWires_init_72 : decode b_NetWires_init 72 = .ok (.putfield 51, 3) := by decide +kernel
theorem d_NetWires_init_75 : decode b_NetWires_init 75 = .ok (.aload_n 0, 1) := by decide +kernel
theorem d_NetWires_init_76 : decode b_NetWires_init 76 = .ok (.iconst 0, 1) := by decide +kernel
theorem d_NetWires_init_77 : decode b_NetWires_init 77 = .ok (.putfield 54, 3) := by decide +kernel
theorem d_NetWires_init_80 : decode b_NetWires_init 80 = .ok (.aload_n 0, 1) := by decide +kernel
theorem d_NetWires_init_81 : decode b_NetWires_init 81 = .ok (.iconst 0, 1) := by decide +kernel
theorem d_NetWires_init_82 : decode b_NetWires_init 82 = .ok (.putfield 57, 3) := by decide +kernel
theorem d_NetWires_init_85 : decode b_NetWires_init 85 = .ok (.aload_n 0, 1) := by decide +kernel
theorem d_NetWires_init_86 : decode b_NetWires_init 86 = .ok (.iconst 0, 1) := by decide +kernel
theorem d_NetWires_init_87 : decode b_NetWires_init 87 = .ok (.putfield 60, 3) := by decide +kernel
theorem d_NetWires_init_90 : decode b_NetWires_init 90 = .ok (.aload_n 0, 1) := by decide +kernel
theorem d_NetWires_init_91 : decode b_NetWires_init 91 = .ok (.iconst 0, 1) := by decide +kernel
theorem d_NetWires_init_92 : decode b_NetWires_init 92 = .ok (.putfield 63, 3) := by decide +kernel
theorem d_NetWires_init_95 : decode b_NetWires_init 95 = .ok (.aload_n 0, 1) := by decide +kernel
theorem d_NetWires_init_96 : decode b_NetWires_init 96 = .ok (.getstatic 66, 3) := by decide +kernel
theorem d_NetWires_init_99 : decode b_NetWires_init 99 = .ok (.putfield 70, 3) := by decide +kernel
theorem d_NetWires_init_102 : decode b_NetWires_init 102 = .ok (.return_, 1) := by decide +kernel
theorem d_Tape_init_0 : decode b_Tape_init 0 = .ok (.aload_n 0, 1) := by decide +kernel
theorem d_Tape_init_1 : decode b_Tape_init 1 = .ok (.invokespecial 3, 3) := by decide +kernel
theorem d_Tape_init_4 : decode b_Tape_init 4 = .ok (.aload_n 0, 1) := by decide +kernel
theorem d_Tape_init_5 : decode b_Tape_init 5 = .ok (.sipush 2048, 3) := by decide +kernel
theorem d_Tape_init_8 : decode b_Tape_init 8 = .ok (.newarray .byte, 2) := by decide +kernel
theorem d_Tape_init_10 : decode b_Tape_init 10 = .ok (.putfield 9, 3) := by decide +kernel
theorem d_Tape_init_13 : decode b_Tape_init 13 = .ok (.aload_n 0, 1) := by decide +kernel
theorem d_Tape_init_14 : decode b_Tape_init 14 = .ok (.iconst 0, 1) := by decide +kernel
theorem d_Tape_init_15 : decode b_Tape_init 15 = .ok (.putfield 15, 3) := by decide +kernel
theorem d_Tape_init_18 : decode b_Tape_init 18 = .ok (.return_, 1) := by decide +kernel
theorem d_Agenda_init_0 : decode b_Agenda_init 0 = .ok (.aload_n 0, 1) := by decide +kernel
theorem d_Agenda_init_1 : decode b_Agenda_init 1 = .ok (.invokespecial 3, 3) := by decide +kernel
theorem d_Agenda_init_4 : decode b_Agenda_init 4 = .ok (.aload_n 0, 1) := by decide +kernel
theorem d_Agenda_init_5 : decode b_Agenda_init 5 = .ok (.sipush 232, 3) := by decide +kernel
theorem d_Agenda_init_8 : decode b_Agenda_init 8 = .ok (.anewarray 9, 3) := by decide +kernel
theorem d_Agenda_init_11 : decode b_Agenda_init 11 = .ok (.putfield 11, 3) := by decide +kernel
theorem d_Agenda_init_14 : decode b_Agenda_init 14 = .ok (.aload_n 0, 1) := by decide +kernel
theorem d_Agenda_init_15 : decode b_Agenda_init 15 = .ok (.iconst 0, 1) := by decide +kernel
theorem d_Agenda_init_16 : decode b_Agenda_init 16 = .ok (.putfield 17, 3) := by decide +kernel
theorem d_Agenda_init_19 : decode b_Agenda_init 19 = .ok (.aload_n 0, 1) := by decide +kernel
theorem d_Agenda_init_20 : decode b_Agenda_init 20 = .ok (.iconst 0, 1) := by decide +kernel
theorem d_Agenda_init_21 : decode b_Agenda_init 21 = .ok (.putfield 21, 3) := by decide +kernel
theorem d_Agenda_init_24 : decode b_Agenda_init 24 = .ok (.return_, 1) := by decide +kernel
theorem d_History_init_0 : decode b_History_init 0 = .ok (.aload_n 0, 1) := by decide +kernel
theorem d_History_init_1 : decode b_History_init 1 = .ok (.invokespecial 3, 3) := by decide +kernel
theorem d_History_init_4 : decode b_History_init 4 = .ok (.aload_n 0, 1) := by decide +kernel
theorem d_History_init_5 : decode b_History_init 5 = .ok (.sipush 128, 3) := by decide +kernel
theorem d_History_init_8 : decode b_History_init 8 = .ok (.newarray .int, 2) := by decide +kernel
theorem d_History_init_10 : decode b_History_init 10 = .ok (.putfield 9, 3) := by decide +kernel
theorem d_History_init_13 : decode b_History_init 13 = .ok (.aload_n 0, 1) := by decide +kernel
theorem d_History_init_14 : decode b_History_init 14 = .ok (.iconst 0, 1) := by decide +kernel
theorem d_History_init_15 : decode b_History_init 15 = .ok (.putfield 15, 3) := by decide +kernel
theorem d_History_init_18 : decode b_History_init 18 = .ok (.aload_n 0, 1) := by decide +kernel
theorem d_History_init_19 : decode b_History_init 19 = .ok (.iconst 0, 1) := by decide +kernel
theorem d_History_init_20 : decode b_History_init 20 = .ok (.putfield 19, 3) := by decide +kernel
theorem d_History_init_23 : decode b_History_init 23 = .ok (.aload_n 0, 1) := by decide +kernel
theorem d_History_init_24 : decode b_History_init 24 = .ok (.iconst 0, 1) := by decide +kernel
theorem d_History_init_25 : decode b_History_init 25 = .ok (.putfield 22, 3) := by decide +kernel
theorem d_History_init_28 : decode b_History_init 28 = .ok (.return_, 1) := by decide +kernel
theorem d_Noise_init_0 : decode b_Noise_init 0 = .ok (.aload_n 0, 1) := by decide +kernel
theorem d_Noise_init_1 : decode b_Noise_init 1 = .ok (.invokespecial 1, 3) := by decide +kernel
theorem d_Noise_init_4 : decode b_Noise_init 4 = .ok (.aload_n 0, 1) := by decide +kernel
theorem d_Noise_init_5 : decode b_Noise_init 5 = .ok (.iconst 0, 1) := by decide +kernel
theorem d_Noise_init_6 : decode b_Noise_init 6 = .ok (.putfield 7, 3) := by decide +kernel
theorem d_Noise_init_9 : decode b_Noise_init 9 = .ok (.aload_n 0, 1) := by decide +kernel
theorem d_Noise_init_10 : decode b_Noise_init 10 = .ok (.iconst 0, 1) := by decide +kernel
theorem d_Noise_init_11 : decode b_Noise_init 11 = .ok (.putfield 13, 3) := by decide +kernel
theorem d_Noise_init_14 : decode b_Noise_init 14 = .ok (.aload_n 0, 1) := by decide +kernel
theorem d_Noise_init_15 : decode b_Noise_init 15 = .ok (.iconst 0, 1) := by decide +kernel
theorem d_Noise_init_16 : decode b_Noise_init 16 = .ok (.putfield 16, 3) := by decide +kernel
theorem d_Noise_init_19 : decode b_Noise_init 19 = .ok (.aload_n 0, 1) := by decide +kernel
theorem d_Noise_init_20 : decode b_Noise_init 20 = .ok (.lconst 0, 1) := by decide +kernel
theorem d_Noise_init_21 : decode b_Noise_init 21 = .ok (.putfield 19, 3) := by decide +kernel
theorem d_Noise_init_24 : decode b_Noise_init 24 = .ok (.return_, 1) := by decide +kernel
theorem d_NetWires_step_0 : decode b_NetWires_step 0 = .ok (.aload_n 0, 1) := by decide +kernel
theorem d_NetWires_step_1 : decode b_NetWires_step 1 = .ok (.getfield 19, 3) := by decide +kernel
theorem d_NetWires_step_4 : decode b_NetWires_step 4 = .ok (.iconst 0, 1) := by decide +kernel
theorem d_NetWires_step_5 : decode b_NetWires_step 5 = .ok (.invokevirtual 132, 3) := by decide +kernel
theorem d_NetWires_step_8 : decode b_NetWires_step 8 = .ok (.astore_n 1, 1) := by decide +kernel
theorem d_NetWires_step_9 : decode b_NetWires_step 9 = .ok (.aload_n 1, 1) := by decide +kernel
theorem d_NetWires_step_10 : decode b_NetWires_step 10 = .ok (.ifnonnull 5, 3) := by decide +kernel
theorem d_NetWires_step_13 : decode b_NetWires_step 13 = .ok (.iconst (-1), 1) := by decide +kernel
theorem d_NetWires_step_14 : decode b_NetWires_step 14 = .ok (.ireturn, 1) := by decide +kernel
theorem d_NetWires_step_15 : decode b_NetWires_step 15 = .ok (.aload_n 0, 1) := by decide +kernel
theorem d_NetWires_step_16 : decode b_NetWires_step 16 = .ok (.aload_n 1, 1) := by decide +kernel
theorem d_NetWires_step_17 : decode b_NetWires_step 17 = .ok (.invokevirtual 136, 3) := by decide +kernel
theorem d_NetWires_step_20 : decode b_NetWires_step 20 = .ok (.ireturn, 1) := by decide +kernel
theorem d_Agenda_takeAt_0 : decode b_Agenda_takeAt 0 = .ok (.aload_n 0, 1) := by decide +kernel
theorem d_Agenda_takeAt_1 : decode b_Agenda_takeAt 1 = .ok (.iload_n 1, 1) := by decide +kernel
theorem d_Agenda_takeAt_2 : decode b_Agenda_takeAt 2 = .ok (.invokevirtual 34, 3) := by decide +kernel
theorem d_Agenda_takeAt_5 : decode b_Agenda_takeAt 5 = .ok (.astore_n 2, 1) := by decide +kernel
theorem d_Agenda_takeAt_6 : decode b_Agenda_takeAt 6 = .ok (.aload_n 2, 1) := by decide +kernel
theorem d_Agenda_takeAt_7 : decode b_Agenda_takeAt 7 = .ok (.ifnonnull 5, 3) := by decide +kernel
theorem d_Agenda_takeAt_10 : decode b_Agenda_takeAt 10 = .ok (.aconst_null, 1) := by decide +kernel
theorem d_Agenda_takeAt_11 : decode b_Agenda_takeAt 11 = .ok (.areturn, 1) := by decide +kernel
theorem d_Agenda_takeAt_12 : decode b_Agenda_takeAt 12 = .ok (.iload_n 1, 1) := by decide +kernel
theorem d_Agenda_takeAt_13 : decode b_Agenda_takeAt 13 = .ok (.iconst 1, 1) := by decide +kernel
theorem d_Agenda_takeAt_14 : decode b_Agenda_takeAt 14 = .ok (.iadd, 1) := by decide +kernel
theorem d_Agenda_takeAt_15 : decode b_Agenda_takeAt 15 = .ok (.istore_n 3, 1) := by decide +kernel
theorem d_Agenda_takeAt_16 : decode b_Agenda_takeAt 16 = .ok (.iload_n 3, 1) := by decide +kernel
theorem d_Agenda_takeAt_17 : decode b_Agenda_takeAt 17 = .ok (.aload_n 0, 1) := by decide +kernel
theorem d_Agenda_takeAt_18 : decode b_Agenda_takeAt 18 = .ok (.getfield 17, 3) := by decide +kernel
theorem d_Agenda_takeAt_21 : decode b_Agenda_takeAt 21 = .ok (.if_icmp .ge 23, 3) := by decide +kernel
theorem d_Agenda_takeAt_24 : decode b_Agenda_takeAt 24 = .ok (.aload_n 0, 1) := by decide +kernel
theorem d_Agenda_takeAt_25 : decode b_Agenda_takeAt 25 = .ok (.getfield 11, 3) := by decide +kernel
theorem d_Agenda_takeAt_28 : decode b_Agenda_takeAt 28 = .ok (.iload_n 3, 1) := by decide +kernel
theorem d_Agenda_takeAt_29 : decode b_Agenda_takeAt 29 = .ok (.iconst 1, 1) := by decide +kernel
theorem d_Agenda_takeAt_30 : decode b_Agenda_takeAt 30 = .ok (.isub, 1) := by decide +kernel
theorem d_Agenda_takeAt_31 : decode b_Agenda_takeAt 31 = .ok (.aload_n 0, 1) := by decide +kernel
theorem d_Agenda_takeAt_32 : decode b_Agenda_takeAt 32 = .ok (.getfield 11, 3) := by decide +kernel
theorem d_Agenda_takeAt_35 : decode b_Agenda_takeAt 35 = .ok (.iload_n 3, 1) := by decide +kernel
theorem d_Agenda_takeAt_36 : decode b_Agenda_takeAt 36 = .ok (.aaload, 1) := by decide +kernel
theorem d_Agenda_takeAt_37 : decode b_Agenda_takeAt 37 = .ok (.aastore, 1) := by decide +kernel
theorem d_Agenda_takeAt_38 : decode b_Agenda_takeAt 38 = .ok (.iinc 3 1, 3) := by decide +kernel
theorem d_Agenda_takeAt_41 : decode b_Agenda_takeAt 41 = .ok (.goto (-25), 3) := by decide +kernel
theorem d_Agenda_takeAt_44 : decode b_Agenda_takeAt 44 = .ok (.aload_n 0, 1) := by decide +kernel
theorem d_Agenda_takeAt_45 : decode b_Agenda_takeAt 45 = .ok (.dup, 1) := by decide +kernel
theorem d_Agenda_takeAt_46 : decode b_Agenda_takeAt 46 = .ok (.getfield 17, 3) := by decide +kernel
theorem d_Agenda_takeAt_49 : decode b_Agenda_takeAt 49 = .ok (.iconst 1, 1) := by decide +kernel
theorem d_Agenda_takeAt_50 : decode b_Agenda_takeAt 50 = .ok (.isub, 1) := by decide +kernel
theorem d_Agenda_takeAt_51 : decode b_Agenda_takeAt 51 = .ok (.putfield 17, 3) := by decide +kernel
theorem d_Agenda_takeAt_54 : decode b_Agenda_takeAt 54 = .ok (.aload_n 0, 1) := by decide +kernel
theorem d_Agenda_takeAt_55 : decode b_Agenda_takeAt 55 = .ok (.getfield 11, 3) := by decide +kernel
theorem d_Agenda_takeAt_58 : decode b_Agenda_takeAt 58 = .ok (.aload_n 0, 1) := by decide +kernel
theorem d_Agenda_takeAt_59 : decode b_Agenda_takeAt 59 = .ok (.getfield 17, 3) := by decide +kernel
theorem d_Agenda_takeAt_62 : decode b_Agenda_takeAt 62 = .ok (.aconst_null, 1) := by decide +kernel
theorem d_Agenda_takeAt_63 : decode b_Agenda_takeAt 63 = .ok (.aastore, 1) := by decide +kernel
theorem d_Agenda_takeAt_64 : decode b_Agenda_takeAt 64 = .ok (.aload_n 2, 1) := by decide +kernel
theorem d_Agenda_takeAt_65 : decode b_Agenda_takeAt 65 = .ok (.getfield 31, 3) := by decide +kernel
theorem d_Agenda_takeAt_68 : decode b_Agenda_takeAt 68 = .ok (.ifCond .ne 13, 3) := by decide +kernel
theorem d_Agenda_takeAt_71 : decode b_Agenda_takeAt 71 = .ok (.aload_n 0, 1) := by decide +kernel
theorem d_Agenda_takeAt_72 : decode b_Agenda_takeAt 72 = .ok (.dup, 1) := by decide +kernel
theorem d_Agenda_takeAt_73 : decode b_Agenda_takeAt 73 = .ok (.getfield 21, 3) := by decide +kernel
theorem d_Agenda_takeAt_76 : decode b_Agenda_takeAt 76 = .ok (.iconst 1, 1) := by decide +kernel
theorem d_Agenda_takeAt_77 : decode b_Agenda_takeAt 77 = .ok (.isub, 1) := by decide +kernel
theorem d_Agenda_takeAt_78 : decode b_Agenda_takeAt 78 = .ok (.putfield 21, 3) := by decide +kernel
theorem d_Agenda_takeAt_81 : decode b_Agenda_takeAt 81 = .ok (.aload_n 2, 1) := by decide +kernel
theorem d_Agenda_takeAt_82 : decode b_Agenda_takeAt 82 = .ok (.areturn, 1) := by decide +kernel
theorem d_Agenda_at_0 : decode b_Agenda_at 0 = .ok (.iload_n 1, 1) := by decide +kernel
theorem d_Agenda_at_1 : decode b_Agenda_at 1 = .ok (.ifCond .lt 11, 3) := by decide +kernel
theorem d_Agenda_at_4 : decode b_Agenda_at 4 = .ok (.iload_n 1, 1) := by decide +kernel
theorem d_Agenda_at_5 : decode b_Agenda_at 5 = .ok (.aload_n 0, 1) := by decide +kernel
theorem d_Agenda_at_6 : decode b_Agenda_at 6 = .ok (.getfield 17, 3) := by decide +kernel
theorem d_Agenda_at_9 : decode b_Agenda_at 9 = .ok (.if_icmp .lt 5, 3) := by decide +kernel
theorem d_Agenda_at_12 : decode b_Agenda_at 12 = .ok (.aconst_null, 1) := by decide +kernel
theorem d_Agenda_at_13 : decode b_Agenda_at 13 = .ok (.areturn, 1) := by decide +kernel
theorem d_Agenda_at_14 : decode b_Agenda_at 14 = .ok (.aload_n 0, 1) := by decide +kernel
theorem d_Agenda_at_15 : decode b_Agenda_at 15 = .ok (.getfield 11, 3) := by decide +kernel
theorem d_Agenda_at_18 : decode b_Agenda_at 18 = .ok (.iload_n 1, 1) := by decide +kernel
theorem d_Agenda_at_19 : decode b_Agenda_at 19 = .ok (.aaload, 1) := by decide +kernel
theorem d_Agenda_at_20 : decode b_Agenda_at 20 = .ok (.areturn, 1) := by decide +kernel
theorem d_NetWires_letHappen_0 : decode b_NetWires_letHappen 0 = .ok (.aload_n 0, 1) := by decide +kernel
theorem d_NetWires_letHappen_1 : decode b_NetWires_letHappen 1 = .ok (.aload_n 1, 1) := by decide +kernel
theorem d_NetWires_letHappen_2 : decode b_NetWires_letHappen 2 = .ok (.getfield 148, 3) := by decide +kernel
theorem d_NetWires_letHappen_5 : decode b_NetWires_letHappen 5 = .ok (.putfield 47, 3) := by decide +kernel
theorem d_NetWires_letHappen_8 : decode b_NetWires_letHappen 8 = .ok (.aload_n 1, 1) := by decide +kernel
theorem d_NetWires_letHappen_9 : decode b_NetWires_letHappen 9 = .ok (.getfield 245, 3) := by decide +kernel
theorem d_NetWires_letHappen_12 : decode b_NetWires_letHappen 12 = .ok (.istore_n 2, 1) := by decide +kernel
theorem d_NetWires_letHappen_13 : decode b_NetWires_letHappen 13 = .ok (.iload_n 2, 1) := by decide +kernel
theorem d_NetWires_letHappen_14 : decode b_NetWires_letHappen 14 = .ok (.ifCond .ne 9, 3) := by decide +kernel
theorem d_NetWires_letHappen_17 : decode b_NetWires_letHappen 17 = .ok (.aload_n 0, 1) := by decide +kernel
theorem d_NetWires_letHappen_18 : decode b_NetWires_letHappen 18 = .ok (.aload_n 1, 1) := by decide +kernel
theorem d_NetWires_letHappen_19 : decode b_NetWires_letHappen 19 = .ok (.invokevirtual 248, 3) := by decide +kernel
theorem d_NetWires_letHappen_22 : decode b_NetWires_letHappen 22 = .ok (.istore_n 2, 1) := by decide +kernel
theorem d_NetWires_letHappen_23 : decode b_NetWires_letHappen 23 = .ok (.aload_n 1, 1) := by decide +kernel
theorem d_NetWires_letHappen_24 : decode b_NetWires_letHappen 24 = .ok (.getfield 178, 3) := by decide +kernel
theorem d_NetWires_letHappen_27 : decode b_NetWires_letHappen 27 = .ok (.iload_n 2, 1) := by decide +kernel
theorem d_NetWires_letHappen_28 : decode b_NetWires_letHappen 28 = .ok (.iadd, 1) := by decide +kernel
theorem d_NetWires_letHappen_29 : decode b_NetWires_letHappen 29 = .ok (.istore_n 3, 1) := by decide +kernel
theorem d_NetWires_letHappen_30 : decode b_NetWires_letHappen 30 = .ok (.aload_n 0, 1) := by decide +kernel
theorem d_NetWires_letHappen_31 : decode b_NetWires_letHappen 31 = .ok (.getfield 26, 3) := by decide +kernel
theorem d_NetWires_letHappen_34 : decode b_NetWires_letHappen 34 = .ok (.iload_n 3, 1) := by decide +kernel
theorem d_NetWires_letHappen_35 : decode b_NetWires_letHappen 35 = .ok (.aload_n 1, 1) := by decide +kernel
theorem d_NetWires_letHappen_36 : decode b_NetWires_letHappen 36 = .ok (.invokevirtual 251, 3) := by decide +kernel
theorem d_NetWires_letHappen_39 : decode b_NetWires_letHappen 39 = .ok (.iload_n 3, 1) := by decide +kernel
theorem d_NetWires_letHappen_40 : decode b_NetWires_letHappen 40 = .ok (.ireturn, 1) := by decide +kernel
theorem d_NetWires_receive_0 : decode b_NetWires_receive 0 = .ok (.aload_n 0, 1) := by decide +kernel
theorem d_NetWires_receive_1 : decode b_NetWires_receive 1 = .ok (.aload_n 1, 1) := by decide +kernel
theorem d_NetWires_receive_2 : decode b_NetWires_receive 2 = .ok (.getfield 175, 3) := by decide +kernel
theorem d_NetWires_receive_5 : decode b_NetWires_receive 5 = .ok (.aload_n 1, 1) := by decide +kernel
theorem d_NetWires_receive_6 : decode b_NetWires_receive 6 = .ok (.getfield 178, 3) := by decide +kernel
theorem d_NetWires_receive_9 : decode b_NetWires_receive 9 = .ok (.invokevirtual 104, 3) := by decide +kernel
theorem d_NetWires_receive_12 : decode b_NetWires_receive 12 = .ok (.ifCond .ne 17, 3) := by decide +kernel
theorem d_NetWires_receive_15 : decode b_NetWires_receive 15 = .ok (.aload_n 0, 1) := by decide +kernel
theorem d_NetWires_receive_16 : decode b_NetWires_receive 16 = .ok (.getfield 57, 3) := by decide +kernel
theorem d_NetWires_receive_19 : decode b_NetWires_receive 19 = .ok (.aload_n 1, 1) := by decide +kernel
theorem d_NetWires_receive_20 : decode b_NetWires_receive 20 = .ok (.getfield 178, 3) := by decide +kernel
theorem d_NetWires_receive_23 : decode b_NetWires_receive 23 = .ok (.invokestatic 219, 3) := by decide +kernel
theorem d_NetWires_receive_26 : decode b_NetWires_receive 26 = .ok (.ifCond .eq 16, 3) := by decide +kernel
theorem d_NetWires_receive_29 : decode b_NetWires_receive 29 = .ok (.aload_n 0, 1) := by decide +kernel
theorem d_NetWires_receive_30 : decode b_NetWires_receive 30 = .ok (.dup, 1) := by decide +kernel
theorem d_NetWires_receive_31 : decode b_NetWires_receive 31 = .ok (.getfield 63, 3) := by decide +kernel
theorem d_NetWires_receive_34 : decode b_NetWires_receive 34 = .ok (.iconst 1, 1) := by decide +kernel
theorem d_NetWires_receive_35 : decode b_NetWires_receive 35 = .ok (.iadd, 1) := by decide +kernel
theorem d_NetWires_receive_36 : decode b_NetWires_receive 36 = .ok (.putfield 63, 3) := by decide +kernel
theorem d_NetWires_receive_39 : decode b_NetWires_receive 39 = .ok (.bipush 16, 2) := by decide +kernel
theorem d_NetWires_receive_41 : decode b_NetWires_receive 41 = .ok (.ireturn, 1) := by decide +kernel
theorem d_NetWires_receive_42 : decode b_NetWires_receive 42 = .ok (.aload_n 0, 1) := by decide +kernel
theorem d_NetWires_receive_43 : decode b_NetWires_receive 43 = .ok (.aload_n 1, 1) := by decide +kernel
theorem d_NetWires_receive_44 : decode b_NetWires_receive 44 = .ok (.getfield 181, 3) := by decide +kernel
theorem d_NetWires_receive_47 : decode b_NetWires_receive 47 = .ok (.putfield 70, 3) := by decide +kernel
theorem d_NetWires_receive_50 : decode b_NetWires_receive 50 = .ok (.iconst 0, 1) := by decide +kernel
theorem d_NetWires_receive_51 : decode b_NetWires_receive 51 = .ok (.ireturn, 1) := by decide +kernel
theorem d_NetWires_areParted_0 : decode b_NetWires_areParted 0 = .ok (.aload_n 0, 1) := by decide +kernel
theorem d_NetWires_areParted_1 : decode b_NetWires_areParted 1 = .ok (.getfield 54, 3) := by decide +kernel
theorem d_NetWires_areParted_4 : decode b_NetWires_areParted 4 = .ok (.iload_n 1, 1) := by decide +kernel
theorem d_NetWires_areParted_5 : decode b_NetWires_areParted 5 = .ok (.invokestatic 219, 3) := by decide +kernel
theorem d_NetWires_areParted_8 : decode b_NetWires_areParted 8 = .ok (.aload_n 0, 1) := by decide +kernel
theorem d_NetWires_areParted_9 : decode b_NetWires_areParted 9 = .ok (.getfield 54, 3) := by decide +kernel
theorem d_NetWires_areParted_12 : decode b_NetWires_areParted 12 = .ok (.iload_n 2, 1) := by decide +kernel
theorem d_NetWires_areParted_13 : decode b_NetWires_areParted 13 = .ok (.invokestatic 219, 3) := by decide +kernel
theorem d_NetWires_areParted_16 : decode b_NetWires_areParted 16 = .ok (.if_icmp .eq 7, 3) := by decide +kernel
theorem d_NetWires_areParted_19 : decode b_NetWires_areParted 19 = .ok (.iconst 1, 1) := by decide +kernel
theorem d_NetWires_areParted_20 : decode b_NetWires_areParted 20 = .ok (.goto 4, 3) := by decide +kernel
theorem d_NetWires_areParted_23 : decode b_NetWires_areParted 23 = .ok (.iconst 0, 1) := by decide +kernel
theorem d_NetWires_areParted_24 : decode b_NetWires_areParted 24 = .ok (.ireturn, 1) := by decide +kernel
theorem d_NetWires_isIn_0 : decode b_NetWires_isIn 0 = .ok (.iload_n 0, 1) := by decide +kernel
theorem d_NetWires_isIn_1 : decode b_NetWires_isIn 1 = .ok (.iload_n 1, 1) := by decide +kernel
theorem d_NetWires_isIn_2 : decode b_NetWires_isIn 2 = .ok (.ishr, 1) := by decide +kernel
theorem d_NetWires_isIn_3 : decode b_NetWires_isIn 3 = .ok (.iconst 1, 1) := by decide +kernel
theorem d_NetWires_isIn_4 : decode b_NetWires_isIn 4 = .ok (.iand, 1) := by decide +kernel
theorem d_NetWires_isIn_5 : decode b_NetWires_isIn 5 = .ok (.iconst 1, 1) := by decide +kernel
theorem d_NetWires_isIn_6 : decode b_NetWires_isIn 6 = .ok (.if_icmp .ne 7, 3) := by decide +kernel
theorem d_NetWires_isIn_9 : decode b_NetWires_isIn 9 = .ok (.iconst 1, 1) := by decide +kernel
theorem d_NetWires_isIn_10 : decode b_NetWires_isIn 10 = .ok (.goto 4, 3) := by decide +kernel
theorem d_NetWires_isIn_13 : decode b_NetWires_isIn 13 = .ok (.iconst 0, 1) := by decide +kernel
theorem d_NetWires_isIn_14 : decode b_NetWires_isIn 14 = .ok (.ireturn, 1) := by decide +kernel
theorem d_History_remember_0 : decode b_History_remember 0 = .ok (.aload_n 0, 1) := by decide +kernel
theorem d_History_remember_1 : decode b_History_remember 1 = .ok (.aload_n 0, 1) := by decide +kernel
theorem d_History_remember_2 : decode b_History_remember 2 = .ok (.getfield 15, 3) := by decide +kernel
theorem d_History_remember_5 : decode b_History_remember 5 = .ok (.iconst 1, 1) := by decide +kernel
theorem d_History_remember_6 : decode b_History_remember 6 = .ok (.iadd, 1) := by decide +kernel
theorem d_History_remember_7 : decode b_History_remember 7 = .ok (.bipush 32, 2) := by decide +kernel
theorem d_History_remember_9 : decode b_History_remember 9 = .ok (.irem, 1) := by decide +kernel
theorem d_History_remember_10 : decode b_History_remember 10 = .ok (.putfield 15, 3) := by decide +kernel
theorem d_History_remember_13 : decode b_History_remember 13 = .ok (.aload_n 0, 1) := by decide +kernel
theorem d_History_remember_14 : decode b_History_remember 14 = .ok (.getfield 15, 3) := by decide +kernel
theorem d_History_remember_17 : decode b_History_remember 17 = .ok (.iconst 4, 1) := by decide +kernel
theorem d_History_remember_18 : decode b_History_remember 18 = .ok (.imul, 1) := by decide +kernel
theorem d_History_remember_19 : decode b_History_remember 19 = .ok (.istore_n 3, 1) := by decide +kernel
theorem d_History_remember_20 : decode b_History_remember 20 = .ok (.aload_n 0, 1) := by decide +kernel
theorem d_History_remember_21 : decode b_History_remember 21 = .ok (.getfield 9, 3) := by decide +kernel
theorem d_History_remember_24 : decode b_History_remember 24 = .ok (.iload_n 3, 1) := by decide +kernel
theorem d_History_remember_25 : decode b_History_remember 25 = .ok (.iload_n 1, 1) := by decide +kernel
theorem d_History_remember_26 : decode b_History_remember 26 = .ok (.iastore, 1) := by decide +kernel
theorem d_History_remember_27 : decode b_History_remember 27 = .ok (.aload_n 0, 1) := by decide +kernel
theorem d_History_remember_28 : decode b_History_remember 28 = .ok (.getfield 9, 3) := by decide +kernel
theorem d_History_remember_31 : decode b_History_remember 31 = .ok (.iload_n 3, 1) := by decide +kernel
theorem d_History_remember_32 : decode b_History_remember 32 = .ok (.iconst 1, 1) := by decide +kernel
theorem d_History_remember_33 : decode b_History_remember 33 = .ok (.iadd, 1) := by decide +kernel
theorem d_History_remember_34 : decode b_History_remember 34 = .ok (.aload_n 2, 1) := by decide +kernel
theorem d_History_remember_35 : decode b_History_remember 35 = .ok (.getfield 25, 3) := by decide +kernel
theorem d_History_remember_38 : decode b_History_remember 38 = .ok (.iastore, 1) := by decide +kernel
theorem d_History_remember_39 : decode b_History_remember 39 = .ok (.aload_n 0, 1) := by decide +kernel
theorem d_History_remember_40 : decode b_History_remember 40 = .ok (.getfield 9, 3) := by decide +kernel
theorem d_History_remember_43 : decode b_History_remember 43 = .ok (.iload_n 3, 1) := by decide +kernel
theorem d_History_remember_44 : decode b_History_remember 44 = .ok (.iconst 2, 1) := by decide +kernel
theorem d_History_remember_45 : decode b_History_remember 45 = .ok (.iadd, 1) := by decide +kernel
theorem d_History_remember_46 : decode b_History_remember 46 = .ok (.aload_n 2, 1) := by decide +kernel
theorem d_History_remember_47 : decode b_History_remember 47 = .ok (.getfield 30, 3) := by decide +kernel
theorem d_History_remember_50 : decode b_History_remember 50 = .ok (.iastore, 1) := by decide +kernel
theorem d_History_remember_51 : decode b_History_remember 51 = .ok (.aload_n 0, 1) := by decide +kernel
theorem d_History_remember_52 : decode b_History_remember 52 = .ok (.getfield 9, 3) := by decide +kernel
theorem d_History_remember_55 : decode b_History_remember 55 = .ok (.iload_n 3, 1) := by decide +kernel
theorem d_History_remember_56 : decode b_History_remember 56 = .ok (.iconst 3, 1) := by decide +kernel
theorem d_History_remember_57 : decode b_History_remember 57 = .ok (.iadd, 1) := by decide +kernel
theorem d_History_remember_58 : decode b_History_remember 58 = .ok (.aload_n 2, 1) := by decide +kernel
theorem d_History_remember_59 : decode b_History_remember 59 = .ok (.getfield 33, 3) := by decide +kernel
theorem d_History_remember_62 : decode b_History_remember 62 = .ok (.iastore, 1) := by decide +kernel
theorem d_History_remember_63 : decode b_History_remember 63 = .ok (.aload_n 0, 1) := by decide +kernel
theorem d_History_remember_64 : decode b_History_remember 64 = .ok (.getfield 19, 3) := by decide +kernel
theorem d_History_remember_67 : decode b_History_remember 67 = .ok (.bipush 32, 2) := by decide +kernel
theorem d_History_remember_69 : decode b_History_remember 69 = .ok (.if_icmp .ge 13, 3) := by decide +kernel
theorem d_History_remember_72 : decode b_History_remember 72 = .ok (.aload_n 0, 1) := by decide +kernel
theorem d_History_remember_73 : decode b_History_remember 73 = .ok (.dup, 1) := by decide +kernel
theorem d_History_remember_74 : decode b_History_remember 74 = .ok (.getfield 19, 3) := by decide +kernel
theorem d_History_remember_77 : decode b_History_remember 77 = .ok (.iconst 1, 1) := by decide +kernel
theorem d_History_remember_78 : decode b_History_remember 78 = .ok (.iadd, 1) := by decide +kernel
theorem d_History_remember_79 : decode b_History_remember 79 = .ok (.putfield 19, 3) := by decide +kernel
theorem d_History_remember_82 : decode b_History_remember 82 = .ok (.aload_n 0, 1) := by decide +kernel
theorem d_History_remember_83 : decode b_History_remember 83 = .ok (.dup, 1) := by decide +kernel
theorem d_History_remember_84 : decode b_History_remember 84 = .ok (.getfield 22, 3) := by decide +kernel
theorem d_History_remember_87 : decode b_History_remember 87 = .ok (.iconst 1, 1) := by decide +kernel
theorem d_History_remember_88 : decode b_History_remember 88 = .ok (.iadd, 1) := by decide +kernel
theorem d_History_remember_89 : decode b_History_remember 89 = .ok (.putfield 22, 3) := by decide +kernel
theorem d_History_remember_92 : decode b_History_remember 92 = .ok (.return_, 1) := by decide +kernel
theorem d_NetWires_message_0 : decode b_NetWires_message 0 = .ok (.aload_n 0, 1) := by decide +kernel
theorem d_NetWires_message_1 : decode b_NetWires_message 1 = .ok (.getfield 19, 3) := by decide +kernel
theorem d_NetWires_message_4 : decode b_NetWires_message 4 = .ok (.aload_n 0, 1) := by decide +kernel
theorem d_NetWires_message_5 : decode b_NetWires_message 5 = .ok (.getfield 19, 3) := by decide +kernel
theorem d_NetWires_message_8 : decode b_NetWires_message 8 = .ok (.iload_n 1, 1) := by decide +kernel
theorem d_NetWires_message_9 : decode b_NetWires_message 9 = .ok (.invokevirtual 171, 3) := by decide +kernel
theorem d_NetWires_message_12 : decode b_NetWires_message 12 = .ok (.invokevirtual 145, 3) := by decide +kernel
theorem d_NetWires_message_15 : decode b_NetWires_message 15 = .ok (.astore_n 3, 1) := by decide +kernel
theorem d_NetWires_message_16 : decode b_NetWires_message 16 = .ok (.aload_n 3, 1) := by decide +kernel
theorem d_NetWires_message_17 : decode b_NetWires_message 17 = .ok (.ifnonnull 5, 3) := by decide +kernel
theorem d_NetWires_message_20 : decode b_NetWires_message 20 = .ok (.iconst (-1), 1) := by decide +kernel
theorem d_NetWires_message_21 : decode b_NetWires_message 21 = .ok (.ireturn, 1) := by decide +kernel
theorem d_NetWires_message_22 : decode b_NetWires_message 22 = .ok (.iload_n 2, 1) := by decide +kernel
theorem d_NetWires_message_23 : decode b_NetWires_message 23 = .ok (.tableswitch 59 0 4 #[33, 38, 43, 48, 53], 33) := by decide +kernel
theorem d_NetWires_message_56 : decode b_NetWires_message 56 = .ok (.aload_n 3, 1) := by decide +kernel
theorem d_NetWires_message_57 : decode b_NetWires_message 57 = .ok (.getfield 175, 3) := by decide +kernel
theorem d_NetWires_message_60 : decode b_NetWires_message 60 = .ok (.ireturn, 1) := by decide +kernel
theorem d_NetWires_message_61 : decode b_NetWires_message 61 = .ok (.aload_n 3, 1) := by decide +kernel
theorem d_NetWires_message_62 : decode b_NetWires_message 62 = .ok (.getfield 178, 3) := by decide +kernel
theorem d_NetWires_message_65 : decode b_NetWires_message 65 = .ok (.ireturn, 1) := by decide +kernel
theorem d_NetWires_message_66 : decode b_NetWires_message 66 = .ok (.aload_n 3, 1) := by decide +kernel
theorem d_NetWires_message_67 : decode b_NetWires_message 67 = .ok (.getfield 148, 3) := by decide +kernel
theorem d_NetWires_message_70 : decode b_NetWires_message 70 = .ok (.ireturn, 1) := by decide +kernel
theorem d_NetWires_message_71 : decode b_NetWires_message 71 = .ok (.aload_n 3, 1) := by decide +kernel
theorem d_NetWires_message_72 : decode b_NetWires_message 72 = .ok (.getfield 188, 3) := by decide +kernel
theorem d_NetWires_message_75 : decode b_NetWires_message 75 = .ok (.ireturn, 1) := by decide +kernel
theorem d_NetWires_message_76 : decode b_NetWires_message 76 = .ok (.aload_n 3, 1) := by decide +kernel
theorem d_NetWires_message_77 : decode b_NetWires_message 77 = .ok (.getfield 181, 3) := by decide +kernel
theorem d_NetWires_message_80 : decode b_NetWires_message 80 = .ok (.arraylength, 1) := by decide +kernel
theorem d_NetWires_message_81 : decode b_NetWires_message 81 = .ok (.ireturn, 1) := by decide +kernel
theorem d_NetWires_message_82 : decode b_NetWires_message 82 = .ok (.iconst (-1), 1) := by decide +kernel
theorem d_NetWires_message_83 : decode b_NetWires_message 83 = .ok (.ireturn, 1) := by decide +kernel
theorem d_Agenda_placeOfMessage_0 : decode b_Agenda_placeOfMessage 0 = .ok (.iload_n 1, 1) := by decide +kernel
theorem d_Agenda_placeOfMessage_1 : decode b_Agenda_placeOfMessage 1 = .ok (.ifCond .lt 11, 3) := by decide +kernel
theorem d_Agenda_placeOfMessage_4 : decode b_Agenda_placeOfMessage 4 = .ok (.iload_n 1, 1) := by decide +kernel
theorem d_Agenda_placeOfMessage_5 : decode b_Agenda_placeOfMessage 5 = .ok (.aload_n 0, 1) := by decide +kernel
theorem d_Agenda_placeOfMessage_6 : decode b_Agenda_placeOfMessage 6 = .ok (.getfield 21, 3) := by decide +kernel
theorem d_Agenda_placeOfMessage_9 : decode b_Agenda_placeOfMessage 9 = .ok (.if_icmp .lt 5, 3) := by decide +kernel
theorem d_Agenda_placeOfMessage_12 : decode b_Agenda_placeOfMessage 12 = .ok (.iconst (-1), 1) := by decide +kernel
theorem d_Agenda_placeOfMessage_13 : decode b_Agenda_placeOfMessage 13 = .ok (.ireturn, 1) := by decide +kernel
theorem d_Agenda_placeOfMessage_14 : decode b_Agenda_placeOfMessage 14 = .ok (.iconst 0, 1) := by decide +kernel
theorem d_Agenda_placeOfMessage_15 : decode b_Agenda_placeOfMessage 15 = .ok (.istore_n 2, 1) := by decide +kernel
theorem d_Agenda_placeOfMessage_16 : decode b_Agenda_placeOfMessage 16 = .ok (.iconst 0, 1) := by decide +kernel
theorem d_Agenda_placeOfMessage_17 : decode b_Agenda_placeOfMessage 17 = .ok (.istore_n 3, 1) := by decide +kernel
theorem d_Agenda_placeOfMessage_18 : decode b_Agenda_placeOfMessage 18 = .ok (.iload_n 3, 1) := by decide +kernel
theorem d_Agenda_placeOfMessage_19 : decode b_Agenda_placeOfMessage 19 = .ok (.aload_n 0, 1) := by decide +kernel
theorem d_Agenda_placeOfMessage_20 : decode b_Agenda_placeOfMessage 20 = .ok (.getfield 17, 3) := by decide +kernel
theorem d_Agenda_placeOfMessage_23 : decode b_Agenda_placeOfMessage 23 = .ok (.if_icmp .ge 39, 3) := by decide +kernel
theorem d_Agenda_placeOfMessage_26 : decode b_Agenda_placeOfMessage 26 = .ok (.aload_n 0, 1) := by decide +kernel
theorem d_Agenda_placeOfMessage_27 : decode b_Agenda_placeOfMessage 27 = .ok (.iload_n 3, 1) := by decide +kernel
theorem d_Agenda_placeOfMessage_28 : decode b_Agenda_placeOfMessage 28 = .ok (.invokevirtual 34, 3) := by decide +kernel
theorem d_Agenda_placeOfMessage_31 : decode b_Agenda_placeOfMessage 31 = .ok (.astore 4, 2) := by decide +kernel
theorem d_Agenda_placeOfMessage_33 : decode b_Agenda_placeOfMessage 33 = .ok (.aload 4, 2) := by decide +kernel
theorem d_Agenda_placeOfMessage_35 : decode b_Agenda_placeOfMessage 35 = .ok (.ifnull 21, 3) := by decide +kernel
theorem d_Agenda_placeOfMessage_38 : decode b_Agenda_placeOfMessage 38 = .ok (.aload 4, 2) := by decide +kernel
theorem d_Agenda_placeOfMessage_40 : decode b_Agenda_placeOfMessage 40 = .ok (.getfield 31, 3) := by decide +kernel
theorem d_Agenda_placeOfMessage_43 : decode b_Agenda_placeOfMessage 43 = .ok (.ifCond .ne 13, 3) := by decide +kernel
theorem d_Agenda_placeOfMessage_46 : decode b_Agenda_placeOfMessage 46 = .ok (.iload_n 2, 1) := by decide +kernel
theorem d_Agenda_placeOfMessage_47 : decode b_Agenda_placeOfMessage 47 = .ok (.iload_n 1, 1) := by decide +kernel
theorem d_Agenda_placeOfMessage_48 : decode b_Agenda_placeOfMessage 48 = .ok (.if_icmp .ne 5, 3) := by decide +kernel
theorem d_Agenda_placeOfMessage_51 : decode b_Agenda_placeOfMessage 51 = .ok (.iload_n 3, 1) := by decide +kernel
theorem d_Agenda_placeOfMessage_52 : decode b_Agenda_placeOfMessage 52 = .ok (.ireturn, 1) := by decide +kernel
theorem d_Agenda_placeOfMessage_53 : decode b_Agenda_placeOfMessage 53 = .ok (.iinc 2 1, 3) := by decide +kernel
theorem d_Agenda_placeOfMessage_56 : decode b_Agenda_placeOfMessage 56 = .ok (.iinc 3 1, 3) := by decide +kernel
theorem d_Agenda_placeOfMessage_59 : decode b_Agenda_placeOfMessage 59 = .ok (.goto (-41), 3) := by decide +kernel
theorem d_Agenda_placeOfMessage_62 : decode b_Agenda_placeOfMessage 62 = .ok (.iconst (-1), 1) := by decide +kernel
theorem d_Agenda_placeOfMessage_63 : decode b_Agenda_placeOfMessage 63 = .ok (.ireturn, 1) := by decide +kernel
theorem d_NetWires_happened_0 : decode b_NetWires_happened 0 = .ok (.aload_n 0, 1) := by decide +kernel
theorem d_NetWires_happened_1 : decode b_NetWires_happened 1 = .ok (.getfield 26, 3) := by decide +kernel
theorem d_NetWires_happened_4 : decode b_NetWires_happened 4 = .ok (.iload_n 1, 1) := by decide +kernel
theorem d_NetWires_happened_5 : decode b_NetWires_happened 5 = .ok (.iload_n 2, 1) := by decide +kernel
theorem d_NetWires_happened_6 : decode b_NetWires_happened 6 = .ok (.invokevirtual 198, 3) := by decide +kernel
theorem d_NetWires_happened_9 : decode b_NetWires_happened 9 = .ok (.ireturn, 1) := by decide +kernel
theorem d_History_fact_0 : decode b_History_fact 0 = .ok (.iload_n 1, 1) := by decide +kernel
theorem d_History_fact_1 : decode b_History_fact 1 = .ok (.ifCond .lt 20, 3) := by decide +kernel
theorem d_History_fact_4 : decode b_History_fact 4 = .ok (.iload_n 1, 1) := by decide +kernel
theorem d_History_fact_5 : decode b_History_fact 5 = .ok (.aload_n 0, 1) := by decide +kernel
theorem d_History_fact_6 : decode b_History_fact 6 = .ok (.getfield 19, 3) := by decide +kernel
theorem d_History_fact_9 : decode b_History_fact 9 = .ok (.if_icmp .ge 12, 3) := by decide +kernel
theorem d_History_fact_12 : decode b_History_fact 12 = .ok (.iload_n 2, 1) := by decide +kernel
theorem d_History_fact_13 : decode b_History_fact 13 = .ok (.ifCond .lt 8, 3) := by decide +kernel
theorem d_History_fact_16 : decode b_History_fact 16 = .ok (.iload_n 2, 1) := by decide +kernel
theorem d_History_fact_17 : decode b_History_fact 17 = .ok (.iconst 4, 1) := by decide +kernel
theorem d_History_fact_18 : decode b_History_fact 18 = .ok (.if_icmp .lt 5, 3) := by decide +kernel
theorem d_History_fact_21 : decode b_History_fact 21 = .ok (.iconst (-1), 1) := by decide +kernel
theorem d_History_fact_22 : decode b_History_fact 22 = .ok (.ireturn, 1) := by decide +kernel
theorem d_History_fact_23 : decode b_History_fact 23 = .ok (.aload_n 0, 1) := by decide +kernel
theorem d_History_fact_24 : decode b_History_fact 24 = .ok (.getfield 15, 3) := by decide +kernel
theorem d_History_fact_27 : decode b_History_fact 27 = .ok (.iload_n 1, 1) := by decide +kernel
theorem d_History_fact_28 : decode b_History_fact 28 = .ok (.isub, 1) := by decide +kernel
theorem d_History_fact_29 : decode b_History_fact 29 = .ok (.bipush 32, 2) := by decide +kernel
theorem d_History_fact_31 : decode b_History_fact 31 = .ok (.iadd, 1) := by decide +kernel
theorem d_History_fact_32 : decode b_History_fact 32 = .ok (.bipush 32, 2) := by decide +kernel
theorem d_History_fact_34 : decode b_History_fact 34 = .ok (.irem, 1) := by decide +kernel
theorem d_History_fact_35 : decode b_History_fact 35 = .ok (.istore_n 3, 1) := by decide +kernel
theorem d_History_fact_36 : decode b_History_fact 36 = .ok (.aload_n 0, 1) := by decide +kernel
theorem d_History_fact_37 : decode b_History_fact 37 = .ok (.getfield 9, 3) := by decide +kernel
theorem d_History_fact_40 : decode b_History_fact 40 = .ok (.iload_n 3, 1) := by decide +kernel
theorem d_History_fact_41 : decode b_History_fact 41 = .ok (.iconst 4, 1) := by decide +kernel
theorem d_History_fact_42 : decode b_History_fact 42 = .ok (.imul, 1) := by decide +kernel
theorem d_History_fact_43 : decode b_History_fact 43 = .ok (.iload_n 2, 1) := by decide +kernel
theorem d_History_fact_44 : decode b_History_fact 44 = .ok (.iadd, 1) := by decide +kernel
theorem d_History_fact_45 : decode b_History_fact 45 = .ok (.iaload, 1) := by decide +kernel
theorem d_History_fact_46 : decode b_History_fact 46 = .ok (.ireturn, 1) := by decide +kernel
theorem d_NetWires_count_0 : decode b_NetWires_count 0 = .ok (.iload_n 1, 1) := by decide +kernel
theorem d_NetWires_count_1 : decode b_NetWires_count 1 = .ok (.tableswitch 97 0 7 #[47, 52, 60, 65, 70, 78, 83, 91], 47) := by decide +kernel
theorem d_NetWires_count_48 : decode b_NetWires_count 48 = .ok (.aload_n 0, 1) := by decide +kernel
theorem d_NetWires_count_49 : decode b_NetWires_count 49 = .ok (.getfield 47, 3) := by decide +kernel
theorem d_NetWires_count_52 : decode b_NetWires_count 52 = .ok (.ireturn, 1) := by decide +kernel
theorem d_NetWires_count_53 : decode b_NetWires_count 53 = .ok (.aload_n 0, 1) := by decide +kernel
theorem d_NetWires_count_54 : decode b_NetWires_count 54 = .ok (.getfield 19, 3) := by decide +kernel
theorem d_NetWires_count_57 : decode b_NetWires_count 57 = .ok (.getfield 206, 3) := by decide +kernel
theorem d_NetWires_count_60 : decode b_NetWires_count 60 = .ok (.ireturn, 1) := by decide +kernel
theorem d_NetWires_count_61 : decode b_NetWires_count 61 = .ok (.aload_n 0, 1) := by decide +kernel
theorem d_NetWires_count_62 : decode b_NetWires_count 62 = .ok (.getfield 60, 3) := by decide +kernel
theorem d_NetWires_count_65 : decode b_NetWires_count 65 = .ok (.ireturn, 1) := by decide +kernel
theorem d_NetWires_count_66 : decode b_NetWires_count 66 = .ok (.aload_n 0, 1) := by decide +kernel
theorem d_NetWires_count_67 : decode b_NetWires_count 67 = .ok (.getfield 63, 3) := by decide +kernel
theorem d_NetWires_count_70 : decode b_NetWires_count 70 = .ok (.ireturn, 1) := by decide +kernel
theorem d_NetWires_count_71 : decode b_NetWires_count 71 = .ok (.aload_n 0, 1) := by decide +kernel
theorem d_NetWires_count_72 : decode b_NetWires_count 72 = .ok (.getfield 26, 3) := by decide +kernel
theorem d_NetWires_count_75 : decode b_NetWires_count 75 = .ok (.getfield 209, 3) := by decide +kernel
theorem d_NetWires_count_78 : decode b_NetWires_count 78 = .ok (.ireturn, 1) := by decide +kernel
theorem d_NetWires_count_79 : decode b_NetWires_count 79 = .ok (.aload_n 0, 1) := by decide +kernel
theorem d_NetWires_count_80 : decode b_NetWires_count 80 = .ok (.getfield 51, 3) := by decide +kernel
theorem d_NetWires_count_83 : decode b_NetWires_count 83 = .ok (.ireturn, 1) := by decide +kernel
theorem d_NetWires_count_84 : decode b_NetWires_count 84 = .ok (.aload_n 0, 1) := by decide +kernel
theorem d_NetWires_count_85 : decode b_NetWires_count 85 = .ok (.getfield 12, 3) := by decide +kernel
theorem d_NetWires_count_88 : decode b_NetWires_count 88 = .ok (.getfield 93, 3) := by decide +kernel
theorem d_NetWires_count_91 : decode b_NetWires_count 91 = .ok (.ireturn, 1) := by decide +kernel
theorem d_NetWires_count_92 : decode b_NetWires_count 92 = .ok (.aload_n 0, 1) := by decide +kernel
theorem d_NetWires_count_93 : decode b_NetWires_count 93 = .ok (.getfield 70, 3) := by decide +kernel
theorem d_NetWires_count_96 : decode b_NetWires_count 96 = .ok (.arraylength, 1) := by decide +kernel
theorem d_NetWires_count_97 : decode b_NetWires_count 97 = .ok (.ireturn, 1) := by decide +kernel
theorem d_NetWires_count_98 : decode b_NetWires_count 98 = .ok (.iconst (-1), 1) := by decide +kernel
theorem d_NetWires_count_99 : decode b_NetWires_count 99 = .ok (.ireturn, 1) := by decide +kernel
theorem d_NetWires_feed_0 : decode b_NetWires_feed 0 = .ok (.iload_n 3, 1) := by decide +kernel
theorem d_NetWires_feed_1 : decode b_NetWires_feed 1 = .ok (.iconst 1, 1) := by decide +kernel
theorem d_NetWires_feed_2 : decode b_NetWires_feed 2 = .ok (.if_icmp .lt 9, 3) := by decide +kernel
theorem d_NetWires_feed_5 : decode b_NetWires_feed 5 = .ok (.iload_n 3, 1) := by decide +kernel
theorem d_NetWires_feed_6 : decode b_NetWires_feed 6 = .ok (.bipush 8, 2) := by decide +kernel
theorem d_NetWires_feed_8 : decode b_NetWires_feed 8 = .ok (.if_icmp .le 13, 3) := by decide +kernel
theorem d_NetWires_feed_11 : decode b_NetWires_feed 11 = .ok (.new 73, 3) := by decide +kernel
theorem d_NetWires_feed_14 : decode b_NetWires_feed 14 = .ok (.dup, 1) := by decide +kernel
theorem d_NetWires_feed_15 : decode b_NetWires_feed 15 = .ok (.ldc 75, 2) := by decide +kernel
theorem d_NetWires_feed_17 : decode b_NetWires_feed 17 = .ok (.invokespecial 77, 3) := by decide +kernel
theorem d_NetWires_feed_20 : decode b_NetWires_feed 20 = .ok (.athrow, 1) := by decide +kernel
theorem d_NetWires_feed_21 : decode b_NetWires_feed 21 = .ok (.aload_n 0, 1) := by decide +kernel
theorem d_NetWires_feed_22 : decode b_NetWires_feed 22 = .ok (.getfield 12, 3) := by decide +kernel
theorem d_NetWires_feed_25 : decode b_NetWires_feed 25 = .ok (.iload_n 3, 1) := by decide +kernel
theorem d_NetWires_feed_26 : decode b_NetWires_feed 26 = .ok (.invokevirtual 80, 3) := by decide +kernel
theorem d_NetWires_feed_29 : decode b_NetWires_feed 29 = .ok (.ifCond .ne 13, 3) := by decide +kernel
theorem d_NetWires_feed_32 : decode b_NetWires_feed 32 = .ok (.new 84, 3) := by decide +kernel
theorem d_NetWires_feed_35 : decode b_NetWires_feed 35 = .ok (.dup, 1) := by decide +kernel
theorem d_NetWires_feed_36 : decode b_NetWires_feed 36 = .ok (.ldc 86, 2) := by decide +kernel
theorem d_NetWires_feed_38 : decode b_NetWires_feed 38 = .ok (.invokespecial 88, 3) := by decide +kernel
theorem d_NetWires_feed_41 : decode b_NetWires_feed 41 = .ok (.athrow, 1) := by decide +kernel
theorem d_NetWires_feed_42 : decode b_NetWires_feed 42 = .ok (.iconst 0, 1) := by decide +kernel
theorem d_NetWires_feed_43 : decode b_NetWires_feed 43 = .ok (.istore 4, 2) := by decide +kernel
theorem d_NetWires_feed_45 : decode b_NetWires_feed 45 = .ok (.iload 4, 2) := by decide +kernel
theorem d_NetWires_feed_47 : decode b_NetWires_feed 47 = .ok (.iload_n 3, 1) := by decide +kernel
theorem d_NetWires_feed_48 : decode b_NetWires_feed 48 = .ok (.if_icmp .ge 25, 3) := by decide +kernel
theorem d_NetWires_feed_51 : decode b_NetWires_feed 51 = .ok (.aload_n 0, 1) := by decide +kernel
theorem d_NetWires_feed_52 : decode b_NetWires_feed 52 = .ok (.getfield 12, 3) := by decide +kernel
theorem d_NetWires_feed_55 : decode b_NetWires_feed 55 = .ok (.lload_n 1, 1) := by decide +kernel
theorem d_NetWires_feed_56 : decode b_NetWires_feed 56 = .ok (.bipush 8, 2) := by decide +kernel
theorem d_NetWires_feed_58 : decode b_NetWires_feed 58 = .ok (.iload 4, 2) := by decide +kernel
theorem d_NetWires_feed_60 : decode b_NetWires_feed 60 = .ok (.imul, 1) := by decide +kernel
theorem d_NetWires_feed_61 : decode b_NetWires_feed 61 = .ok (.lushr, 1) := by decide +kernel
theorem d_NetWires_feed_62 : decode b_NetWires_feed 62 = .ok (.l2i, 1) := by decide +kernel
theorem d_NetWires_feed_63 : decode b_NetWires_feed 63 = .ok (.i2b, 1) := by decide +kernel
theorem d_NetWires_feed_64 : decode b_NetWires_feed 64 = .ok (.invokevirtual 89, 3) := by decide +kernel
theorem d_NetWires_feed_67 : decode b_NetWires_feed 67 = .ok (.iinc 4 1, 3) := by decide +kernel
theorem d_NetWires_feed_70 : decode b_NetWires_feed 70 = .ok (.goto (-25), 3) := by decide +kernel
theorem d_NetWires_feed_73 : decode b_NetWires_feed 73 = .ok (.aload_n 0, 1) := by decide +kernel
theorem d_NetWires_feed_74 : decode b_NetWires_feed 74 = .ok (.getfield 12, 3) := by decide +kernel
theorem d_NetWires_feed_77 : decode b_NetWires_feed 77 = .ok (.getfield 93, 3) := by decide +kernel
theorem d_NetWires_feed_80 : decode b_NetWires_feed 80 = .ok (.ireturn, 1) := by decide +kernel
theorem d_Tape_hasRoomFor_0 : decode b_Tape_hasRoomFor 0 = .ok (.iload_n 1, 1) := by decide +kernel
theorem d_Tape_hasRoomFor_1 : decode b_Tape_hasRoomFor 1 = .ok (.sipush 2048, 3) := by decide +kernel
theorem d_Tape_hasRoomFor_4 : decode b_Tape_hasRoomFor 4 = .ok (.aload_n 0, 1) := by decide +kernel
theorem d_Tape_hasRoomFor_5 : decode b_Tape_hasRoomFor 5 = .ok (.getfield 15, 3) := by decide +kernel
theorem d_Tape_hasRoomFor_8 : decode b_Tape_hasRoomFor 8 = .ok (.isub, 1) := by decide +kernel
theorem d_Tape_hasRoomFor_9 : decode b_Tape_hasRoomFor 9 = .ok (.if_icmp .gt 7, 3) := by decide +kernel
theorem d_Tape_hasRoomFor_12 : decode b_Tape_hasRoomFor 12 = .ok (.iconst 1, 1) := by decide +kernel
theorem d_Tape_hasRoomFor_13 : decode b_Tape_hasRoomFor 13 = .ok (.goto 4, 3) := by decide +kernel
theorem d_Tape_hasRoomFor_16 : decode b_Tape_hasRoomFor 16 = .ok (.iconst 0, 1) := by decide +kernel
theorem d_Tape_hasRoomFor_17 : decode b_Tape_hasRoomFor 17 = .ok (.ireturn, 1) := by decide +kernel
theorem d_Tape_append_0 : decode b_Tape_append 0 = .ok (.aload_n 0, 1) := by decide +kernel
theorem d_Tape_append_1 : decode b_Tape_append 1 = .ok (.iconst 1, 1) := by decide +kernel
theorem d_Tape_append_2 : decode b_Tape_append 2 = .ok (.invokevirtual 19, 3) := by decide +kernel
theorem d_Tape_append_5 : decode b_Tape_append 5 = .ok (.ifCond .eq 23, 3) := by decide +kernel
theorem d_Tape_append_8 : decode b_Tape_append 8 = .ok (.aload_n 0, 1) := by decide +kernel
theorem d_Tape_append_9 : decode b_Tape_append 9 = .ok (.getfield 9, 3) := by decide +kernel
theorem d_Tape_append_12 : decode b_Tape_append 12 = .ok (.aload_n 0, 1) := by decide +kernel
theorem d_Tape_append_13 : decode b_Tape_append 13 = .ok (.getfield 15, 3) := by decide +kernel
theorem d_Tape_append_16 : decode b_Tape_append 16 = .ok (.iload_n 1, 1) := by decide +kernel
theorem d_Tape_append_17 : decode b_Tape_append 17 = .ok (.bastore, 1) := by decide +kernel
theorem d_Tape_append_18 : decode b_Tape_append 18 = .ok (.aload_n 0, 1) := by decide +kernel
theorem d_Tape_append_19 : decode b_Tape_append 19 = .ok (.dup, 1) := by decide +kernel
theorem d_Tape_append_20 : decode b_Tape_append 20 = .ok (.getfield 15, 3) := by decide +kernel
theorem d_Tape_append_23 : decode b_Tape_append 23 = .ok (.iconst 1, 1) := by decide +kernel
theorem d_Tape_append_24 : decode b_Tape_append 24 = .ok (.iadd, 1) := by decide +kernel
theorem d_Tape_append_25 : decode b_Tape_append 25 = .ok (.putfield 15, 3) := by decide +kernel
theorem d_Tape_append_28 : decode b_Tape_append 28 = .ok (.return_, 1) := by decide +kernel
theorem d_NetWires_send_0 : decode b_NetWires_send 0 = .ok (.aload_n 0, 1) := by decide +kernel
theorem d_NetWires_send_1 : decode b_NetWires_send 1 = .ok (.getfield 12, 3) := by decide +kernel
theorem d_NetWires_send_4 : decode b_NetWires_send 4 = .ok (.invokevirtual 96, 3) := by decide +kernel
theorem d_NetWires_send_7 : decode b_NetWires_send 7 = .ok (.astore_n 3, 1) := by decide +kernel
theorem d_NetWires_send_8 : decode b_NetWires_send 8 = .ok (.iload_n 1, 1) := by decide +kernel
theorem d_NetWires_send_9 : decode b_NetWires_send 9 = .ok (.invokestatic 100, 3) := by decide +kernel
theorem d_NetWires_send_12 : decode b_NetWires_send 12 = .ok (.iload_n 2, 1) := by decide +kernel
theorem d_NetWires_send_13 : decode b_NetWires_send 13 = .ok (.invokestatic 100, 3) := by decide +kernel
theorem d_NetWires_send_16 : decode b_NetWires_send 16 = .ok (.aload_n 0, 1) := by decide +kernel
theorem d_NetWires_send_17 : decode b_NetWires_send 17 = .ok (.iload_n 1, 1) := by decide +kernel
theorem d_NetWires_send_18 : decode b_NetWires_send 18 = .ok (.iload_n 2, 1) := by decide +kernel
theorem d_NetWires_send_19 : decode b_NetWires_send 19 = .ok (.invokevirtual 104, 3) := by decide +kernel
theorem d_NetWires_send_22 : decode b_NetWires_send 22 = .ok (.ifCond .eq 15, 3) := by decide +kernel
theorem d_NetWires_send_25 : decode b_NetWires_send 25 = .ok (.aload_n 0, 1) := by decide +kernel
theorem d_NetWires_send_26 : decode b_NetWires_send 26 = .ok (.dup, 1) := by decide +kernel
theorem d_NetWires_send_27 : decode b_NetWires_send 27 = .ok (.getfield 63, 3) := by decide +kernel
theorem d_NetWires_send_30 : decode b_NetWires_send 30 = .ok (.iconst 1, 1) := by decide +kernel
theorem d_NetWires_send_31 : decode b_NetWires_send 31 = .ok (.iadd, 1) := by decide +kernel
theorem d_NetWires_send_32 : decode b_NetWires_send 32 = .ok (.putfield 63, 3) := by decide +kernel
theorem d_NetWires_send_35 : decode b_NetWires_send 35 = .ok (.iconst 0, 1) := by decide +kernel
theorem d_NetWires_send_36 : decode b_NetWires_send 36 = .ok (.ireturn, 1) := by decide +kernel
theorem d_NetWires_send_37 : decode b_NetWires_send 37 = .ok (.aload_n 0, 1) := by decide +kernel
theorem d_NetWires_send_38 : decode b_NetWires_send 38 = .ok (.getfield 33, 3) := by decide +kernel
theorem d_NetWires_send_41 : decode b_NetWires_send 41 = .ok (.invokevirtual 108, 3) := by decide +kernel
theorem d_NetWires_send_44 : decode b_NetWires_send 44 = .ok (.ifCond .eq 11, 3) := by decide +kernel
theorem d_NetWires_send_47 : decode b_NetWires_send 47 = .ok (.aload_n 0, 1) := by decide +kernel
theorem d_NetWires_send_48 : decode b_NetWires_send 48 = .ok (.iload_n 1, 1) := by decide +kernel
theorem d_NetWires_send_49 : decode b_NetWires_send 49 = .ok (.iload_n 2, 1) := by decide +kernel
theorem d_NetWires_send_50 : decode b_NetWires_send 50 = .ok (.aload_n 3, 1) := by decide +kernel
theorem d_NetWires_send_51 : decode b_NetWires_send 51 = .ok (.invokevirtual 112, 3) := by decide +kernel
theorem d_NetWires_send_54 : decode b_NetWires_send 54 = .ok (.ireturn, 1) := by decide +kernel
theorem d_NetWires_send_55 : decode b_NetWires_send 55 = .ok (.aload_n 0, 1) := by decide +kernel
theorem d_NetWires_send_56 : decode b_NetWires_send 56 = .ok (.iload_n 1, 1) := by decide +kernel
theorem d_NetWires_send_57 : decode b_NetWires_send 57 = .ok (.iload_n 2, 1) := by decide +kernel
theorem d_NetWires_send_58 : decode b_NetWires_send 58 = .ok (.iconst 0, 1) := by decide +kernel
theorem d_NetWires_send_59 : decode b_NetWires_send 59 = .ok (.aload_n 3, 1) := by decide +kernel
theorem d_NetWires_send_60 : decode b_NetWires_send 60 = .ok (.invokevirtual 116, 3) := by decide +kernel
theorem d_NetWires_send_63 : decode b_NetWires_send 63 = .ok (.ireturn, 1) := by decide +kernel
theorem d_Tape_takeAll_0 : decode b_Tape_takeAll 0 = .ok (.aload_n 0, 1) := by decide +kernel
theorem d_Tape_takeAll_1 : decode b_Tape_takeAll 1 = .ok (.getfield 15, 3) := by decide +kernel
theorem d_Tape_takeAll_4 : decode b_Tape_takeAll 4 = .ok (.ifCond .gt 7, 3) := by decide +kernel
theorem d_Tape_takeAll_7 : decode b_Tape_takeAll 7 = .ok (.getstatic 23, 3) := by decide +kernel
theorem d_Tape_takeAll_10 : decode b_Tape_takeAll 10 = .ok (.areturn, 1) := by decide +kernel
theorem d_Tape_takeAll_11 : decode b_Tape_takeAll 11 = .ok (.aload_n 0, 1) := by decide +kernel
theorem d_Tape_takeAll_12 : decode b_Tape_takeAll 12 = .ok (.getfield 9, 3) := by decide +kernel
theorem d_Tape_takeAll_15 : decode b_Tape_takeAll 15 = .ok (.aload_n 0, 1) := by decide +kernel
theorem d_Tape_takeAll_16 : decode b_Tape_takeAll 16 = .ok (.getfield 15, 3) := by decide +kernel
theorem d_Tape_takeAll_19 : decode b_Tape_takeAll 19 = .ok (.invokestatic 26, 3) := by decide +kernel
theorem d_Tape_takeAll_22 : decode b_Tape_takeAll 22 = .ok (.astore_n 1, 1) := by decide +kernel
theorem d_Tape_takeAll_23 : decode b_Tape_takeAll 23 = .ok (.aload_n 0, 1) := by decide +kernel
theorem d_Tape_takeAll_24 : decode b_Tape_takeAll 24 = .ok (.iconst 0, 1) := by decide +kernel
theorem d_Tape_takeAll_25 : decode b_Tape_takeAll 25 = .ok (.putfield 15, 3) := by decide +kernel
theorem d_Tape_takeAll_28 : decode b_Tape_takeAll 28 = .ok (.aload_n 1, 1) := by decide +kernel
theorem d_Tape_takeAll_29 : decode b_Tape_takeAll 29 = .ok (.areturn, 1) := by decide +kernel
theorem d_NetWires_demandEndpoint_0 : decode b_NetWires_demandEndpoint 0 = .ok (.iload_n 0, 1) := by decide +kernel
theorem d_NetWires_demandEndpoint_1 : decode b_NetWires_demandEndpoint 1 = .ok (.iconst 0, 1) := by decide +kernel
theorem d_NetWires_demandEndpoint_2 : decode b_NetWires_demandEndpoint 2 = .ok (.bipush 15, 2) := by decide +kernel
theorem d_NetWires_demandEndpoint_4 : decode b_NetWires_demandEndpoint 4 = .ok (.invokestatic 140, 3) := by decide +kernel
theorem d_NetWires_demandEndpoint_7 : decode b_NetWires_demandEndpoint 7 = .ok (.ifCond .ne 13, 3) := by decide +kernel
theorem d_NetWires_demandEndpoint_10 : decode b_NetWires_demandEndpoint 10 = .ok (.new 191, 3) := by decide +kernel
theorem d_NetWires_demandEndpoint_13 : decode b_NetWires_demandEndpoint 13 = .ok (.dup, 1) := by decide +kernel
theorem d_NetWires_demandEndpoint_14 : decode b_NetWires_demandEndpoint 14 = .ok (.ldc 212, 2) := by decide +kernel
theorem d_NetWires_demandEndpoint_16 : decode b_NetWires_demandEndpoint 16 = .ok (.invokespecial 195, 3) := by decide +kernel
theorem d_NetWires_demandEndpoint_19 : decode b_NetWires_demandEndpoint 19 = .ok (.athrow, 1) := by decide +kernel
theorem d_NetWires_demandEndpoint_20 : decode b_NetWires_demandEndpoint 20 = .ok (.return_, 1) := by decide +kernel
theorem d_NetWires_isWithin_0 : decode b_NetWires_isWithin 0 = .ok (.iload_n 0, 1) := by decide +kernel
theorem d_NetWires_isWithin_1 : decode b_NetWires_isWithin 1 = .ok (.iload_n 1, 1) := by decide +kernel
theorem d_NetWires_isWithin_2 : decode b_NetWires_isWithin 2 = .ok (.if_icmp .lt 12, 3) := by decide +kernel
theorem d_NetWires_isWithin_5 : decode b_NetWires_isWithin 5 = .ok (.iload_n 0, 1) := by decide +kernel
theorem d_NetWires_isWithin_6 : decode b_NetWires_isWithin 6 = .ok (.iload_n 2, 1) := by decide +kernel
theorem d_NetWires_isWithin_7 : decode b_NetWires_isWithin 7 = .ok (.if_icmp .gt 7, 3) := by decide +kernel
theorem d_NetWires_isWithin_10 : decode b_NetWires_isWithin 10 = .ok (.iconst 1, 1) := by decide +kernel
theorem d_NetWires_isWithin_11 : decode b_NetWires_isWithin 11 = .ok (.goto 4, 3) := by decide +kernel
theorem d_NetWires_isWithin_14 : decode b_NetWires_isWithin 14 = .ok (.iconst 0, 1) := by decide +kernel
theorem d_NetWires_isWithin_15 : decode b_NetWires_isWithin 15 = .ok (.ireturn, 1) := by decide +kernel
theorem d_Noise_isOn_0 : decode b_Noise_isOn 0 = .ok (.aload_n 0, 1) := by decide +kernel
theorem d_Noise_isOn_1 : decode b_Noise_isOn 1 = .ok (.getfield 7, 3) := by decide +kernel
theorem d_Noise_isOn_4 : decode b_Noise_isOn 4 = .ok (.ifCond .ne 17, 3) := by decide +kernel
theorem d_Noise_isOn_7 : decode b_Noise_isOn 7 = .ok (.aload_n 0, 1) := by decide +kernel
theorem d_Noise_isOn_8 : decode b_Noise_isOn 8 = .ok (.getfield 13, 3) := by decide +kernel
theorem d_Noise_isOn_11 : decode b_Noise_isOn 11 = .ok (.ifCond .ne 10, 3) := by decide +kernel
theorem d_Noise_isOn_14 : decode b_Noise_isOn 14 = .ok (.aload_n 0, 1) := by decide +kernel
theorem d_Noise_isOn_15 : decode b_Noise_isOn 15 = .ok (.getfield 16, 3) := by decide +kernel
theorem d_Noise_isOn_18 : decode b_Noise_isOn 18 = .ok (.ifCond .eq 7, 3) := by decide +kernel
theorem d_Noise_isOn_21 : decode b_Noise_isOn 21 = .ok (.iconst 1, 1) := by decide +kernel
theorem d_Noise_isOn_22 : decode b_Noise_isOn 22 = .ok (.goto 4, 3) := by decide +kernel
theorem d_Noise_isOn_25 : decode b_Noise_isOn 25 = .ok (.iconst 0, 1) := by decide +kernel
theorem d_Noise_isOn_26 : decode b_Noise_isOn 26 = .ok (.ireturn, 1) := by decide +kernel
theorem d_NetWires_launchThroughNoise_0 : decode b_NetWires_launchThroughNoise 0 = .ok (.aload_n 0, 1) := by decide +kernel
theorem d_NetWires_launchThroughNoise_1 : decode b_NetWires_launchThroughNoise 1 = .ok (.getfield 33, 3) := by decide +kernel
theorem d_NetWires_launchThroughNoise_4 : decode b_NetWires_launchThroughNoise 4 = .ok (.sipush 1000, 3) := by decide +kernel
theorem d_NetWires_launchThroughNoise_7 : decode b_NetWires_launchThroughNoise 7 = .ok (.invokevirtual 222, 3) := by decide +kernel
theorem d_NetWires_launchThroughNoise_10 : decode b_NetWires_launchThroughNoise 10 = .ok (.aload_n 0, 1) := by decide +kernel
theorem d_NetWires_launchThroughNoise_11 : decode b_NetWires_launchThroughNoise 11 = .ok (.getfield 33, 3) := by decide +kernel
theorem d_NetWires_launchThroughNoise_14 : decode b_NetWires_launchThroughNoise 14 = .ok (.getfield 225, 3) := by decide +kernel
theorem d_NetWires_launchThroughNoise_17 : decode b_NetWires_launchThroughNoise 17 = .ok (.if_icmp .ge 15, 3) := by decide +kernel
theorem d_NetWires_launchThroughNoise_20 : decode b_NetWires_launchThroughNoise 20 = .ok (.aload_n 0, 1) := by decide +kernel
theorem d_NetWires_launchThroughNoise_21 : decode b_NetWires_launchThroughNoise 21 = .ok (.dup, 1) := by decide +kernel
theorem d_NetWires_launchThroughNoise_22 : decode b_NetWires_launchThroughNoise 22 = .ok (.getfield 63, 3) := by decide +kernel
theorem d_NetWires_launchThroughNoise_25 : decode b_NetWires_launchThroughNoise 25 = .ok (.iconst 1, 1) := by decide +kernel
theorem d_NetWires_launchThroughNoise_26 : decode b_NetWires_launchThroughNoise 26 = .ok (.iadd, 1) := by decide +kernel
theorem d_NetWires_launchThroughNoise_27 : decode b_NetWires_launchThroughNoise 27 = .ok (.putfield 63, 3) := by decide +kernel
theorem d_NetWires_launchThroughNoise_30 : decode b_NetWires_launchThroughNoise 30 = .ok (.iconst 0, 1) := by decide +kernel
theorem d_NetWires_launchThroughNoise_31 : decode b_NetWires_launchThroughNoise 31 = .ok (.ireturn, 1) := by decide +kernel
theorem d_NetWires_launchThroughNoise_32 : decode b_NetWires_launchThroughNoise 32 = .ok (.aload_n 0, 1) := by decide +kernel
theorem d_NetWires_launchThroughNoise_33 : decode b_NetWires_launchThroughNoise 33 = .ok (.getfield 33, 3) := by decide +kernel
theorem d_NetWires_launchThroughNoise_36 : decode b_NetWires_launchThroughNoise 36 = .ok (.sipush 1000, 3) := by decide +kernel
theorem d_NetWires_launchThroughNoise_39 : decode b_NetWires_launchThroughNoise 39 = .ok (.invokevirtual 222, 3) := by decide +kernel
theorem d_NetWires_launchThroughNoise_42 : decode b_NetWires_launchThroughNoise 42 = .ok (.aload_n 0, 1) := by decide +kernel
theorem d_NetWires_launchThroughNoise_43 : decode b_NetWires_launchThroughNoise 43 = .ok (.getfield 33, 3) := by decide +kernel
theorem d_NetWires_launchThroughNoise_46 : decode b_NetWires_launchThroughNoise 46 = .ok (.getfield 228, 3) := by decide +kernel
theorem d_NetWires_launchThroughNoise_49 : decode b_NetWires_launchThroughNoise 49 = .ok (.if_icmp .ge 7, 3) := by decide +kernel
theorem d_NetWires_launchThroughNoise_52 : decode b_NetWires_launchThroughNoise 52 = .ok (.iconst 2, 1) := by decide +kernel
theorem d_NetWires_launchThroughNoise_53 : decode b_NetWires_launchThroughNoise 53 = .ok (.goto 4, 3) := by decide +kernel
theorem d_NetWires_launchThroughNoise_56 : decode b_NetWires_launchThroughNoise 56 = .ok (.iconst 1, 1) := by decide +kernel
theorem d_NetWires_launchThroughNoise_57 : decode b_NetWires_launchThroughNoise 57 = .ok (.istore 4, 2) := by decide +kernel
theorem d_NetWires_launchThroughNoise_59 : decode b_NetWires_launchThroughNoise 59 = .ok (.iconst 0, 1) := by decide +kernel
theorem d_NetWires_launchThroughNoise_60 : decode b_NetWires_launchThroughNoise 60 = .ok (.istore 5, 2) := by decide +kernel
theorem d_NetWires_launchThroughNoise_62 : decode b_NetWires_launchThroughNoise 62 = .ok (.iconst 0, 1) := by decide +kernel
theorem d_NetWires_launchThroughNoise_63 : decode b_NetWires_launchThroughNoise 63 = .ok (.istore 6, 2) := by decide +kernel
theorem d_NetWires_launchThroughNoise_65 : decode b_NetWires_launchThroughNoise 65 = .ok (.iload 6, 2) := by decide +kernel
theorem d_NetWires_launchThroughNoise_67 : decode b_NetWires_launchThroughNoise 67 = .ok (.iload 4, 2) := by decide +kernel
theorem d_NetWires_launchThroughNoise_69 : decode b_NetWires_launchThroughNoise 69 = .ok (.if_icmp .ge 41, 3) := by decide +kernel
theorem d_NetWires_launchThroughNoise_72 : decode b_NetWires_launchThroughNoise 72 = .ok (.aload_n 0, 1) := by decide +kernel
theorem d_NetWires_launchThroughNoise_73 : decode b_NetWires_launchThroughNoise 73 = .ok (.getfield 33, 3) := by decide +kernel
theorem d_NetWires_launchThroughNoise_76 : decode b_NetWires_launchThroughNoise 76 = .ok (.aload_n 0, 1) := by decide +kernel
theorem d_NetWires_launchThroughNoise_77 : decode b_NetWires_launchThroughNoise 77 = .ok (.getfield 33, 3) := by decide +kernel
theorem d_NetWires_launchThroughNoise_80 : decode b_NetWires_launchThroughNoise 80 = .ok (.getfield 231, 3) := by decide +kernel
theorem d_NetWires_launchThroughNoise_83 : decode b_NetWires_launchThroughNoise 83 = .ok (.iconst 1, 1) := by decide +kernel
theorem d_NetWires_launchThroughNoise_84 : decode b_NetWires_launchThroughNoise 84 = .ok (.iadd, 1) := by decide +kernel
theorem d_NetWires_launchThroughNoise_85 : decode b_NetWires_launchThroughNoise 85 = .ok (.invokevirtual 222, 3) := by decide +kernel
theorem d_NetWires_launchThroughNoise_88 : decode b_NetWires_launchThroughNoise 88 = .ok (.istore 7, 2) := by decide +kernel
theorem d_NetWires_launchThroughNoise_90 : decode b_NetWires_launchThroughNoise 90 = .ok (.iload 5, 2) := by decide +kernel
theorem d_NetWires_launchThroughNoise_92 : decode b_NetWires_launchThroughNoise 92 = .ok (.aload_n 0, 1) := by decide +kernel
theorem d_NetWires_launchThroughNoise_93 : decode b_NetWires_launchThroughNoise 93 = .ok (.iload_n 1, 1) := by decide +kernel
theorem d_NetWires_launchThroughNoise_94 : decode b_NetWires_launchThroughNoise 94 = .ok (.iload_n 2, 1) := by decide +kernel
theorem d_NetWires_launchThroughNoise_95 : decode b_NetWires_launchThroughNoise 95 = .ok (.iload 7, 2) := by decide +kernel
theorem d_NetWires_launchThroughNoise_97 : decode b_NetWires_launchThroughNoise 97 = .ok (.aload_n 3, 1) := by decide +kernel
theorem d_NetWires_launchThroughNoise_98 : decode b_NetWires_launchThroughNoise 98 = .ok (.invokevirtual 116, 3) := by decide +kernel
theorem d_NetWires_launchThroughNoise_101 : decode b_NetWires_launchThroughNoise 101 = .ok (.iadd, 1) := by decide +kernel
theorem d_NetWires_launchThroughNoise_102 : decode b_NetWires_launchThroughNoise 102 = .ok (.istore 5, 2) := by decide +kernel
theorem d_NetWires_launchThroughNoise_104 : decode b_NetWires_launchThroughNoise 104 = .ok (.iinc 6 1, 3) := by decide +kernel
theorem d_NetWires_launchThroughNoise_107 : decode b_NetWires_launchThroughNoise 107 = .ok (.goto (-42), 3) := by decide +kernel
theorem d_NetWires_launchThroughNoise_110 : decode b_NetWires_launchThroughNoise 110 = .ok (.iload 5, 2) := by decide +kernel
theorem d_NetWires_launchThroughNoise_112 : decode b_NetWires_launchThroughNoise 112 = .ok (.ireturn, 1) := by decide +kernel
theorem d_Noise_drawBelow_0 : decode b_Noise_drawBelow 0 = .ok (.aload_n 0, 1) := by decide +kernel
theorem d_Noise_drawBelow_1 : decode b_Noise_drawBelow 1 = .ok (.aload_n 0, 1) := by decide +kernel
theorem d_Noise_drawBelow_2 : decode b_Noise_drawBelow 2 = .ok (.getfield 19, 3) := by decide +kernel
theorem d_Noise_drawBelow_5 : decode b_Noise_drawBelow 5 = .ok (.ldc2_w 23, 3) := by decide +kernel
theorem d_Noise_drawBelow_8 : decode b_Noise_drawBelow 8 = .ok (.lmul, 1) := by decide +kernel
theorem d_Noise_drawBelow_9 : decode b_Noise_drawBelow 9 = .ok (.ldc2_w 25, 3) := by decide +kernel
theorem d_Noise_drawBelow_12 : decode b_Noise_drawBelow 12 = .ok (.ladd, 1) := by decide +kernel
theorem d_Noise_drawBelow_13 : decode b_Noise_drawBelow 13 = .ok (.putfield 19, 3) := by decide +kernel
theorem d_Noise_drawBelow_16 : decode b_Noise_drawBelow 16 = .ok (.iload_n 1, 1) := by decide +kernel
theorem d_Noise_drawBelow_17 : decode b_Noise_drawBelow 17 = .ok (.ifCond .gt 5, 3) := by decide +kernel
theorem d_Noise_drawBelow_20 : decode b_Noise_drawBelow 20 = .ok (.iconst 0, 1) := by decide +kernel
theorem d_Noise_drawBelow_21 : decode b_Noise_drawBelow 21 = .ok (.ireturn, 1) := by decide +kernel
theorem d_Noise_drawBelow_22 : decode b_Noise_drawBelow 22 = .ok (.aload_n 0, 1) := by decide +kernel
theorem d_Noise_drawBelow_23 : decode b_Noise_drawBelow 23 = .ok (.getfield 19, 3) := by decide +kernel
theorem d_Noise_drawBelow_26 : decode b_Noise_drawBelow 26 = .ok (.bipush 33, 2) := by decide +kernel
theorem d_Noise_drawBelow_28 : decode b_Noise_drawBelow 28 = .ok (.lushr, 1) := by decide +kernel
theorem d_Noise_drawBelow_29 : decode b_Noise_drawBelow 29 = .ok (.iload_n 1, 1) := by decide +kernel
theorem d_Noise_drawBelow_30 : decode b_Noise_drawBelow 30 = .ok (.i2l, 1) := by decide +kernel
theorem d_Noise_drawBelow_31 : decode b_Noise_drawBelow 31 = .ok (.lrem, 1) := by decide +kernel
theorem d_Noise_drawBelow_32 : decode b_Noise_drawBelow 32 = .ok (.l2i, 1) := by decide +kernel
theorem d_Noise_drawBelow_33 : decode b_Noise_drawBelow 33 = .ok (.ireturn, 1) := by decide +kernel
theorem d_NetWires_launch_0 : decode b_NetWires_launch 0 = .ok (.aload_n 0, 1) := by decide +kernel
theorem d_NetWires_launch_1 : decode b_NetWires_launch 1 = .ok (.getfield 19, 3) := by decide +kernel
theorem d_NetWires_launch_4 : decode b_NetWires_launch 4 = .ok (.getfield 206, 3) := by decide +kernel
theorem d_NetWires_launch_7 : decode b_NetWires_launch 7 = .ok (.sipush 200, 3) := by decide +kernel
theorem d_NetWires_launch_10 : decode b_NetWires_launch 10 = .ok (.if_icmp .lt 15, 3) := by decide +kernel
theorem d_NetWires_launch_13 : decode b_NetWires_launch 13 = .ok (.aload_n 0, 1) := by decide +kernel
theorem d_NetWires_launch_14 : decode b_NetWires_launch 14 = .ok (.dup, 1) := by decide +kernel
theorem d_NetWires_launch_15 : decode b_NetWires_launch 15 = .ok (.getfield 63, 3) := by decide +kernel
theorem d_NetWires_launch_18 : decode b_NetWires_launch 18 = .ok (.iconst 1, 1) := by decide +kernel
theorem d_NetWires_launch_19 : decode b_NetWires_launch 19 = .ok (.iadd, 1) := by decide +kernel
theorem d_NetWires_launch_20 : decode b_NetWires_launch 20 = .ok (.putfield 63, 3) := by decide +kernel
theorem d_NetWires_launch_23 : decode b_NetWires_launch 23 = .ok (.iconst 0, 1) := by decide +kernel
theorem d_NetWires_launch_24 : decode b_NetWires_launch 24 = .ok (.ireturn, 1) := by decide +kernel
theorem d_NetWires_launch_25 : decode b_NetWires_launch 25 = .ok (.aload_n 0, 1) := by decide +kernel
theorem d_NetWires_launch_26 : decode b_NetWires_launch 26 = .ok (.iload_n 1, 1) := by decide +kernel
theorem d_NetWires_launch_27 : decode b_NetWires_launch 27 = .ok (.iload_n 2, 1) := by decide +kernel
theorem d_NetWires_launch_28 : decode b_NetWires_launch 28 = .ok (.aload_n 0, 1) := by decide +kernel
theorem d_NetWires_launch_29 : decode b_NetWires_launch 29 = .ok (.getfield 47, 3) := by decide +kernel
theorem d_NetWires_launch_32 : decode b_NetWires_launch 32 = .ok (.aload_n 0, 1) := by decide +kernel
theorem d_NetWires_launch_33 : decode b_NetWires_launch 33 = .ok (.getfield 37, 3) := by decide +kernel
theorem d_NetWires_launch_36 : decode b_NetWires_launch 36 = .ok (.iload_n 1, 1) := by decide +kernel
theorem d_NetWires_launch_37 : decode b_NetWires_launch 37 = .ok (.iload_n 2, 1) := by decide +kernel
theorem d_NetWires_launch_38 : decode b_NetWires_launch 38 = .ok (.invokestatic 153, 3) := by decide +kernel
theorem d_NetWires_launch_41 : decode b_NetWires_launch 41 = .ok (.iaload, 1) := by decide +kernel
theorem d_NetWires_launch_42 : decode b_NetWires_launch 42 = .ok (.iadd, 1) := by decide +kernel
theorem d_NetWires_launch_43 : decode b_NetWires_launch 43 = .ok (.iload_n 3, 1) := by decide +kernel
theorem d_NetWires_launch_44 : decode b_NetWires_launch 44 = .ok (.iadd, 1) := by decide +kernel
theorem d_NetWires_launch_45 : decode b_NetWires_launch 45 = .ok (.aload 4, 2) := by decide +kernel
theorem d_NetWires_launch_47 : decode b_NetWires_launch 47 = .ok (.invokevirtual 184, 3) := by decide +kernel
theorem d_NetWires_launch_50 : decode b_NetWires_launch 50 = .ok (.aload_n 0, 1) := by decide +kernel
theorem d_NetWires_launch_51 : decode b_NetWires_launch 51 = .ok (.dup, 1) := by decide +kernel
theorem d_NetWires_launch_52 : decode b_NetWires_launch 52 = .ok (.getfield 60, 3) := by decide +kernel
theorem d_NetWires_launch_55 : decode b_NetWires_launch 55 = .ok (.iconst 1, 1) := by decide +kernel
theorem d_NetWires_launch_56 : decode b_NetWires_launch 56 = .ok (.iadd, 1) := by decide +kernel
theorem d_NetWires_launch_57 : decode b_NetWires_launch 57 = .ok (.putfield 60, 3) := by decide +kernel
theorem d_NetWires_launch_60 : decode b_NetWires_launch 60 = .ok (.iconst 1, 1) := by decide +kernel
theorem d_NetWires_launch_61 : decode b_NetWires_launch 61 = .ok (.ireturn, 1) := by decide +kernel
theorem d_NetWires_linkOf_0 : decode b_NetWires_linkOf 0 = .ok (.iload_n 0, 1) := by decide +kernel
theorem d_NetWires_linkOf_1 : decode b_NetWires_linkOf 1 = .ok (.bipush 16, 2) := by decide +kernel
theorem d_NetWires_linkOf_3 : decode b_NetWires_linkOf 3 = .ok (.imul, 1) := by decide +kernel
theorem d_NetWires_linkOf_4 : decode b_NetWires_linkOf 4 = .ok (.iload_n 1, 1) := by decide +kernel
theorem d_NetWires_linkOf_5 : decode b_NetWires_linkOf 5 = .ok (.iadd, 1) := by decide +kernel
theorem d_NetWires_linkOf_6 : decode b_NetWires_linkOf 6 = .ok (.ireturn, 1) := by decide +kernel
theorem d_NetWires_addMessage_0 : decode b_NetWires_addMessage 0 = .ok (.aload_n 0, 1) := by decide +kernel
theorem d_NetWires_addMessage_1 : decode b_NetWires_addMessage 1 = .ok (.getfield 19, 3) := by decide +kernel
theorem d_NetWires_addMessage_4 : decode b_NetWires_addMessage 4 = .ok (.new 149, 3) := by decide +kernel
theorem d_NetWires_addMessage_7 : decode b_NetWires_addMessage 7 = .ok (.dup, 1) := by decide +kernel
theorem d_NetWires_addMessage_8 : decode b_NetWires_addMessage 8 = .ok (.iconst 0, 1) := by decide +kernel
theorem d_NetWires_addMessage_9 : decode b_NetWires_addMessage 9 = .ok (.iload_n 2, 1) := by decide +kernel
theorem d_NetWires_addMessage_10 : decode b_NetWires_addMessage 10 = .ok (.iload_n 1, 1) := by decide +kernel
theorem d_NetWires_addMessage_11 : decode b_NetWires_addMessage 11 = .ok (.iload_n 3, 1) := by decide +kernel
theorem d_NetWires_addMessage_12 : decode b_NetWires_addMessage 12 = .ok (.aload_n 0, 1) := by decide +kernel
theorem d_NetWires_addMessage_13 : decode b_NetWires_addMessage 13 = .ok (.invokevirtual 234, 3) := by decide +kernel
theorem d_NetWires_addMessage_16 : decode b_NetWires_addMessage 16 = .ok (.aload 4, 2) := by decide +kernel
theorem d_NetWires_addMessage_18 : decode b_NetWires_addMessage 18 = .ok (.invokespecial 238, 3) := by decide +kernel
theorem d_NetWires_addMessage_21 : decode b_NetWires_addMessage 21 = .ok (.invokevirtual 241, 3) := by decide +kernel
theorem d_NetWires_addMessage_24 : decode b_NetWires_addMessage 24 = .ok (.return_, 1) := by decide +kernel
theorem d_NetWires_takeNumber_0 : decode b_NetWires_takeNumber 0 = .ok (.aload_n 0, 1) := by decide +kernel
theorem d_NetWires_takeNumber_1 : decode b_NetWires_takeNumber 1 = .ok (.getfield 51, 3) := by decide +kernel
theorem d_NetWires_takeNumber_4 : decode b_NetWires_takeNumber 4 = .ok (.istore_n 1, 1) := by decide +kernel
theorem d_NetWires_takeNumber_5 : decode b_NetWires_takeNumber 5 = .ok (.aload_n 0, 1) := by decide +kernel
theorem d_NetWires_takeNumber_6 : decode b_NetWires_takeNumber 6 = .ok (.dup, 1) := by decide +kernel
theorem d_NetWires_takeNumber_7 : decode b_NetWires_takeNumber 7 = .ok (.getfield 51, 3) := by decide +kernel
theorem d_NetWires_takeNumber_10 : decode b_NetWires_takeNumber 10 = .ok (.iconst 1, 1) := by decide +kernel
theorem d_NetWires_takeNumber_11 : decode b_NetWires_takeNumber 11 = .ok (.iadd, 1) := by decide +kernel
theorem d_NetWires_takeNumber_12 : decode b_NetWires_takeNumber 12 = .ok (.putfield 51, 3) := by decide +kernel
theorem d_NetWires_takeNumber_15 : decode b_NetWires_takeNumber 15 = .ok (.iload_n 1, 1) := by decide +kernel
theorem d_NetWires_takeNumber_16 : decode b_NetWires_takeNumber 16 = .ok (.ireturn, 1) := by decide +kernel
theorem d_Event_init_0 : decode b_Event_init 0 = .ok (.aload_n 0, 1) := by decide +kernel
theorem d_Event_init_1 : decode b_Event_init 1 = .ok (.invokespecial 1, 3) := by decide +kernel
theorem d_Event_init_4 : decode b_Event_init 4 = .ok (.aload_n 0, 1) := by decide +kernel
theorem d_Event_init_5 : decode b_Event_init 5 = .ok (.iload_n 1, 1) := by decide +kernel
theorem d_Event_init_6 : decode b_Event_init 6 = .ok (.putfield 7, 3) := by decide +kernel
theorem d_Event_init_9 : decode b_Event_init 9 = .ok (.aload_n 0, 1) := by decide +kernel
theorem d_Event_init_10 : decode b_Event_init 10 = .ok (.iload_n 2, 1) := by decide +kernel
theorem d_Event_init_11 : decode b_Event_init 11 = .ok (.putfield 13, 3) := by decide +kernel
theorem d_Event_init_14 : decode b_Event_init 14 = .ok (.aload_n 0, 1) := by decide +kernel
theorem d_Event_init_15 : decode b_Event_init 15 = .ok (.iload_n 3, 1) := by decide +kernel
theorem d_Event_init_16 : decode b_Event_init 16 = .ok (.putfield 16, 3) := by decide +kernel
theorem d_Event_init_19 : decode b_Event_init 19 = .ok (.aload_n 0, 1) := by decide +kernel
theorem d_Event_init_20 : decode b_Event_init 20 = .ok (.iload 4, 2) := by decide +kernel
theorem d_Event_init_22 : decode b_Event_init 22 = .ok (.putfield 19, 3) := by decide +kernel
theorem d_Event_init_25 : decode b_Event_init 25 = .ok (.aload_n 0, 1) := by decide +kernel
theorem d_Event_init_26 : decode b_Event_init 26 = .ok (.iload 5, 2) := by decide +kernel
theorem d_Event_init_28 : decode b_Event_init 28 = .ok (.putfield 22, 3) := by decide +kernel
theorem d_Event_init_31 : decode b_Event_init 31 = .ok (.aload_n 0, 1) := by decide +kernel
theorem d_Event_init_32 : decode b_Event_init 32 = .ok (.aload 6, 2) := by decide +kernel
theorem d_Event_init_34 : decode b_Event_init 34 = .ok (.putfield 25, 3) := by decide +kernel
theorem d_Event_init_37 : decode b_Event_init 37 = .ok (.return_, 1) := by decide +kernel
theorem d_Agenda_insert_0 : decode b_Agenda_insert 0 = .ok (.aload_n 0, 1) := by decide +kernel
theorem d_Agenda_insert_1 : decode b_Agenda_insert 1 = .ok (.getfield 17, 3) := by decide +kernel
theorem d_Agenda_insert_4 : decode b_Agenda_insert 4 = .ok (.sipush 232, 3) := by decide +kernel
theorem d_Agenda_insert_7 : decode b_Agenda_insert 7 = .ok (.if_icmp .lt 4, 3) := by decide +kernel
theorem d_Agenda_insert_10 : decode b_Agenda_insert 10 = .ok (.return_, 1) := by decide +kernel
theorem d_Agenda_insert_11 : decode b_Agenda_insert 11 = .ok (.aload_n 0, 1) := by decide +kernel
theorem d_Agenda_insert_12 : decode b_Agenda_insert 12 = .ok (.getfield 17, 3) := by decide +kernel
theorem d_Agenda_insert_15 : decode b_Agenda_insert 15 = .ok (.istore_n 2, 1) := by decide +kernel
theorem d_Agenda_insert_16 : decode b_Agenda_insert 16 = .ok (.iload_n 2, 1) := by decide +kernel
theorem d_Agenda_insert_17 : decode b_Agenda_insert 17 = .ok (.ifCond .le 37, 3) := by decide +kernel
theorem d_Agenda_insert_20 : decode b_Agenda_insert 20 = .ok (.aload_n 0, 1) := by decide +kernel
theorem d_Agenda_insert_21 : decode b_Agenda_insert 21 = .ok (.iload_n 2, 1) := by decide +kernel
theorem d_Agenda_insert_22 : decode b_Agenda_insert 22 = .ok (.iconst 1, 1) := by decide +kernel
theorem d_Agenda_insert_23 : decode b_Agenda_insert 23 = .ok (.isub, 1) := by decide +kernel
theorem d_Agenda_insert_24 : decode b_Agenda_insert 24 = .ok (.aload_n 1, 1) := by decide +kernel
theorem d_Agenda_insert_25 : decode b_Agenda_insert 25 = .ok (.getfield 24, 3) := by decide +kernel
theorem d_Agenda_insert_28 : decode b_Agenda_insert 28 = .ok (.invokevirtual 27, 3) := by decide +kernel
theorem d_Agenda_insert_31 : decode b_Agenda_insert 31 = .ok (.ifCond .eq 23, 3) := by decide +kernel
theorem d_Agenda_insert_34 : decode b_Agenda_insert 34 = .ok (.aload_n 0, 1) := by decide +kernel
theorem d_Agenda_insert_35 : decode b_Agenda_insert 35 = .ok (.getfield 11, 3) := by decide +kernel
theorem d_Agenda_insert_38 : decode b_Agenda_insert 38 = .ok (.iload_n 2, 1) := by decide +kernel
theorem d_Agenda_insert_39 : decode b_Agenda_insert 39 = .ok (.aload_n 0, 1) := by decide +kernel
theorem d_Agenda_insert_40 : decode b_Agenda_insert 40 = .ok (.getfield 11, 3) := by decide +kernel
theorem d_Agenda_insert_43 : decode b_Agenda_insert 43 = .ok (.iload_n 2, 1) := by decide +kernel
theorem d_Agenda_insert_44 : decode b_Agenda_insert 44 = .ok (.iconst 1, 1) := by decide +kernel
theorem d_Agenda_insert_45 : decode b_Agenda_insert 45 = .ok (.isub, 1) := by decide +kernel
theorem d_Agenda_insert_46 : decode b_Agenda_insert 46 = .ok (.aaload, 1) := by decide +kernel
theorem d_Agenda_insert_47 : decode b_Agenda_insert 47 = .ok (.aastore, 1) := by decide +kernel
theorem d_Agenda_insert_48 : decode b_Agenda_insert 48 = .ok (.iinc 2 (-1), 3) := by decide +kernel
theorem d_Agenda_insert_51 : decode b_Agenda_insert 51 = .ok (.goto (-35), 3) := by decide +kernel
theorem d_Agenda_insert_54 : decode b_Agenda_insert 54 = .ok (.aload_n 0, 1) := by decide +kernel
theorem d_Agenda_insert_55 : decode b_Agenda_insert 55 = .ok (.getfield 11, 3) := by decide +kernel
theorem d_Agenda_insert_58 : decode b_Agenda_insert 58 = .ok (.iload_n 2, 1) := by decide +kernel
theorem d_Agenda_insert_59 : decode b_Agenda_insert 59 = .ok (.aload_n 1, 1) := by decide +kernel
theorem d_Agenda_insert_60 : decode b_Agenda_insert 60 = .ok (.aastore, 1) := by decide +kernel
theorem d_Agenda_insert_61 : decode b_Agenda_insert 61 = .ok (.aload_n 0, 1) := by decide +kernel
theorem d_Agenda_insert_62 : decode b_Agenda_insert 62 = .ok (.dup, 1) := by decide +kernel
theorem d_Agenda_insert_63 : decode b_Agenda_insert 63 = .ok (.getfield 17, 3) := by decide +kernel
theorem d_Agenda_insert_66 : decode b_Agenda_insert 66 = .ok (.iconst 1, 1) := by decide +kernel
theorem d_Agenda_insert_67 : decode b_Agenda_insert 67 = .ok (.iadd, 1) := by decide +kernel
theorem d_Agenda_insert_68 : decode b_Agenda_insert 68 = .ok (.putfield 17, 3) := by decide +kernel
theorem d_Agenda_insert_71 : decode b_Agenda_insert 71 = .ok (.aload_n 1, 1) := by decide +kernel
theorem d_Agenda_insert_72 : decode b_Agenda_insert 72 = .ok (.getfield 31, 3) := by decide +kernel
theorem d_Agenda_insert_75 : decode b_Agenda_insert 75 = .ok (.ifCond .ne 13, 3) := by decide +kernel
theorem d_Agenda_insert_78 : decode b_Agenda_insert 78 = .ok (.aload_n 0, 1) := by decide +kernel
theorem d_Agenda_insert_79 : decode b_Agenda_insert 79 = .ok (.dup, 1) := by decide +kernel
theorem d_Agenda_insert_80 : decode b_Agenda_insert 80 = .ok (.getfield 21, 3) := by decide +kernel
theorem d_Agenda_insert_83 : decode b_Agenda_insert 83 = .ok (.iconst 1, 1) := by decide +kernel
theorem d_Agenda_insert_84 : decode b_Agenda_insert 84 = .ok (.iadd, 1) := by decide +kernel
theorem d_Agenda_insert_85 : decode b_Agenda_insert 85 = .ok (.putfield 21, 3) := by decide +kernel
theorem d_Agenda_insert_88 : decode b_Agenda_insert 88 = .ok (.return_, 1) := by decide +kernel
theorem d_Agenda_isAfter_0 : decode b_Agenda_isAfter 0 = .ok (.aload_n 0, 1) := by decide +kernel
theorem d_Agenda_isAfter_1 : decode b_Agenda_isAfter 1 = .ok (.iload_n 1, 1) := by decide +kernel
theorem d_Agenda_isAfter_2 : decode b_Agenda_isAfter 2 = .ok (.invokevirtual 34, 3) := by decide +kernel
theorem d_Agenda_isAfter_5 : decode b_Agenda_isAfter 5 = .ok (.astore_n 3, 1) := by decide +kernel
theorem d_Agenda_isAfter_6 : decode b_Agenda_isAfter 6 = .ok (.aload_n 3, 1) := by decide +kernel
theorem d_Agenda_isAfter_7 : decode b_Agenda_isAfter 7 = .ok (.ifnull 15, 3) := by decide +kernel
theorem d_Agenda_isAfter_10 : decode b_Agenda_isAfter 10 = .ok (.aload_n 3, 1) := by decide +kernel
theorem d_Agenda_isAfter_11 : decode b_Agenda_isAfter 11 = .ok (.getfield 24, 3) := by decide +kernel
theorem d_Agenda_isAfter_14 : decode b_Agenda_isAfter 14 = .ok (.iload_n 2, 1) := by decide +kernel
theorem d_Agenda_isAfter_15 : decode b_Agenda_isAfter 15 = .ok (.if_icmp .le 7, 3) := by decide +kernel
theorem d_Agenda_isAfter_18 : decode b_Agenda_isAfter 18 = .ok (.iconst 1, 1) := by decide +kernel
theorem d_Agenda_isAfter_19 : decode b_Agenda_isAfter 19 = .ok (.goto 4, 3) := by decide +kernel
theorem d_Agenda_isAfter_22 : decode b_Agenda_isAfter 22 = .ok (.iconst 0, 1) := by decide +kernel
theorem d_Agenda_isAfter_23 : decode b_Agenda_isAfter 23 = .ok (.ireturn, 1) := by decide +kernel
theorem d_NetWires_alarm_0 : decode b_NetWires_alarm 0 = .ok (.iload_n 1, 1) := by decide +kernel
theorem d_NetWires_alarm_1 : decode b_NetWires_alarm 1 = .ok (.invokestatic 100, 3) := by decide +kernel
theorem d_NetWires_alarm_4 : decode b_NetWires_alarm 4 = .ok (.iload_n 2, 1) := by decide +kernel
theorem d_NetWires_alarm_5 : decode b_NetWires_alarm 5 = .ok (.ldc 120, 2) := by decide +kernel
theorem d_NetWires_alarm_7 : decode b_NetWires_alarm 7 = .ok (.invokestatic 121, 3) := by decide +kernel
theorem d_NetWires_alarm_10 : decode b_NetWires_alarm 10 = .ok (.aload_n 0, 1) := by decide +kernel
theorem d_NetWires_alarm_11 : decode b_NetWires_alarm 11 = .ok (.bipush 32, 2) := by decide +kernel
theorem d_NetWires_alarm_13 : decode b_NetWires_alarm 13 = .ok (.iload_n 1, 1) := by decide +kernel
theorem d_NetWires_alarm_14 : decode b_NetWires_alarm 14 = .ok (.iload_n 2, 1) := by decide +kernel
theorem d_NetWires_alarm_15 : decode b_NetWires_alarm 15 = .ok (.invokevirtual 125, 3) := by decide +kernel
theorem d_NetWires_alarm_18 : decode b_NetWires_alarm 18 = .ok (.ireturn, 1) := by decide +kernel
theorem d_NetWires_demandTicks_0 : decode b_NetWires_demandTicks 0 = .ok (.iload_n 0, 1) := by decide +kernel
theorem d_NetWires_demandTicks_1 : decode b_NetWires_demandTicks 1 = .ok (.iconst 0, 1) := by decide +kernel
theorem d_NetWires_demandTicks_2 : decode b_NetWires_demandTicks 2 = .ok (.iload_n 1, 1) := by decide +kernel
theorem d_NetWires_demandTicks_3 : decode b_NetWires_demandTicks 3 = .ok (.invokestatic 140, 3) := by decide +kernel
theorem d_NetWires_demandTicks_6 : decode b_NetWires_demandTicks 6 = .ok (.ifCond .ne 13, 3) := by decide +kernel
theorem d_NetWires_demandTicks_9 : decode b_NetWires_demandTicks 9 = .ok (.new 73, 3) := by decide +kernel
theorem d_NetWires_demandTicks_12 : decode b_NetWires_demandTicks 12 = .ok (.dup, 1) := by decide +kernel
theorem d_NetWires_demandTicks_13 : decode b_NetWires_demandTicks 13 = .ok (.ldc 214, 2) := by decide +kernel
theorem d_NetWires_demandTicks_15 : decode b_NetWires_demandTicks 15 = .ok (.invokespecial 77, 3) := by decide +kernel
theorem d_NetWires_demandTicks_18 : decode b_NetWires_demandTicks 18 = .ok (.athrow, 1) := by decide +kernel
theorem d_NetWires_demandTicks_19 : decode b_NetWires_demandTicks 19 = .ok (.return_, 1) := by decide +kernel
theorem d_NetWires_setTimer_0 : decode b_NetWires_setTimer 0 = .ok (.aload_n 0, 1) := by decide +kernel
theorem d_NetWires_setTimer_1 : decode b_NetWires_setTimer 1 = .ok (.iload_n 1, 1) := by decide +kernel
theorem d_NetWires_setTimer_2 : decode b_NetWires_setTimer 2 = .ok (.iload_n 2, 1) := by decide +kernel
theorem d_NetWires_setTimer_3 : decode b_NetWires_setTimer 3 = .ok (.invokevirtual 129, 3) := by decide +kernel
theorem d_NetWires_setTimer_6 : decode b_NetWires_setTimer 6 = .ok (.istore 4, 2) := by decide +kernel
theorem d_NetWires_setTimer_8 : decode b_NetWires_setTimer 8 = .ok (.aload_n 0, 1) := by decide +kernel
theorem d_NetWires_setTimer_9 : decode b_NetWires_setTimer 9 = .ok (.getfield 19, 3) := by decide +kernel
theorem d_NetWires_setTimer_12 : decode b_NetWires_setTimer 12 = .ok (.new 149, 3) := by decide +kernel
theorem d_NetWires_setTimer_15 : decode b_NetWires_setTimer 15 = .ok (.dup, 1) := by decide +kernel
theorem d_NetWires_setTimer_16 : decode b_NetWires_setTimer 16 = .ok (.iload_n 1, 1) := by decide +kernel
theorem d_NetWires_setTimer_17 : decode b_NetWires_setTimer 17 = .ok (.iload_n 2, 1) := by decide +kernel
theorem d_NetWires_setTimer_18 : decode b_NetWires_setTimer 18 = .ok (.iconst (-1), 1) := by decide +kernel
theorem d_NetWires_setTimer_19 : decode b_NetWires_setTimer 19 = .ok (.aload_n 0, 1) := by decide +kernel
theorem d_NetWires_setTimer_20 : decode b_NetWires_setTimer 20 = .ok (.getfield 47, 3) := by decide +kernel
theorem d_NetWires_setTimer_23 : decode b_NetWires_setTimer 23 = .ok (.iload_n 3, 1) := by decide +kernel
theorem d_NetWires_setTimer_24 : decode b_NetWires_setTimer 24 = .ok (.iadd, 1) := by decide +kernel
theorem d_NetWires_setTimer_25 : decode b_NetWires_setTimer 25 = .ok (.aload_n 0, 1) := by decide +kernel
theorem d_NetWires_setTimer_26 : decode b_NetWires_setTimer 26 = .ok (.invokevirtual 234, 3) := by decide +kernel
theorem d_NetWires_setTimer_29 : decode b_NetWires_setTimer 29 = .ok (.getstatic 66, 3) := by decide +kernel
theorem d_NetWires_setTimer_32 : decode b_NetWires_setTimer 32 = .ok (.invokespecial 238, 3) := by decide +kernel
theorem d_NetWires_setTimer_35 : decode b_NetWires_setTimer 35 = .ok (.invokevirtual 241, 3) := by decide +kernel
theorem d_NetWires_setTimer_38 : decode b_NetWires_setTimer 38 = .ok (.iload 4, 2) := by decide +kernel
theorem d_NetWires_setTimer_40 : decode b_NetWires_setTimer 40 = .ok (.ireturn, 1) := by decide +kernel
theorem d_NetWires_dropTimer_0 : decode b_NetWires_dropTimer 0 = .ok (.aload_n 0, 1) := by decide +kernel
theorem d_NetWires_dropTimer_1 : decode b_NetWires_dropTimer 1 = .ok (.getfield 19, 3) := by decide +kernel
theorem d_NetWires_dropTimer_4 : decode b_NetWires_dropTimer 4 = .ok (.aload_n 0, 1) := by decide +kernel
theorem d_NetWires_dropTimer_5 : decode b_NetWires_dropTimer 5 = .ok (.getfield 19, 3) := by decide +kernel
theorem d_NetWires_dropTimer_8 : decode b_NetWires_dropTimer 8 = .ok (.iload_n 1, 1) := by decide +kernel
theorem d_NetWires_dropTimer_9 : decode b_NetWires_dropTimer 9 = .ok (.iload_n 2, 1) := by decide +kernel
theorem d_NetWires_dropTimer_10 : decode b_NetWires_dropTimer 10 = .ok (.invokevirtual 203, 3) := by decide +kernel
theorem d_NetWires_dropTimer_13 : decode b_NetWires_dropTimer 13 = .ok (.invokevirtual 132, 3) := by decide +kernel
theorem d_NetWires_dropTimer_16 : decode b_NetWires_dropTimer 16 = .ok (.ifnull 7, 3) := by decide +kernel
theorem d_NetWires_dropTimer_19 : decode b_NetWires_dropTimer 19 = .ok (.iconst 1, 1) := by decide +kernel
theorem d_NetWires_dropTimer_20 : decode b_NetWires_dropTimer 20 = .ok (.goto 4, 3) := by decide +kernel
theorem d_NetWires_dropTimer_23 : decode b_NetWires_dropTimer 23 = .ok (.iconst 0, 1) := by decide +kernel
theorem d_NetWires_dropTimer_24 : decode b_NetWires_dropTimer 24 = .ok (.ireturn, 1) := by decide +kernel
theorem d_Agenda_placeOfTimer_0 : decode b_Agenda_placeOfTimer 0 = .ok (.iconst 0, 1) := by decide +kernel
theorem d_Agenda_placeOfTimer_1 : decode b_Agenda_placeOfTimer 1 = .ok (.istore_n 3, 1) := by decide +kernel
theorem d_Agenda_placeOfTimer_2 : decode b_Agenda_placeOfTimer 2 = .ok (.iload_n 3, 1) := by decide +kernel
theorem d_Agenda_placeOfTimer_3 : decode b_Agenda_placeOfTimer 3 = .ok (.aload_n 0, 1) := by decide +kernel
theorem d_Agenda_placeOfTimer_4 : decode b_Agenda_placeOfTimer 4 = .ok (.getfield 17, 3) := by decide +kernel
theorem d_Agenda_placeOfTimer_7 : decode b_Agenda_placeOfTimer 7 = .ok (.if_icmp .ge 41, 3) := by decide +kernel
theorem d_Agenda_placeOfTimer_10 : decode b_Agenda_placeOfTimer 10 = .ok (.aload_n 0, 1) := by decide +kernel
theorem d_Agenda_placeOfTimer_11 : decode b_Agenda_placeOfTimer 11 = .ok (.iload_n 3, 1) := by decide +kernel
theorem d_Agenda_placeOfTimer_12 : decode b_Agenda_placeOfTimer 12 = .ok (.invokevirtual 34, 3) := by decide +kernel
theorem d_Agenda_placeOfTimer_15 : decode b_Agenda_placeOfTimer 15 = .ok (.astore 4, 2) := by decide +kernel
theorem d_Agenda_placeOfTimer_17 : decode b_Agenda_placeOfTimer 17 = .ok (.aload 4, 2) := by decide +kernel
theorem d_Agenda_placeOfTimer_19 : decode b_Agenda_placeOfTimer 19 = .ok (.ifnull 23, 3) := by decide +kernel
theorem d_Agenda_placeOfTimer_22 : decode b_Agenda_placeOfTimer 22 = .ok (.aload 4, 2) := by decide +kernel
theorem d_Agenda_placeOfTimer_24 : decode b_Agenda_placeOfTimer 24 = .ok (.getfield 31, 3) := by decide +kernel
theorem d_Agenda_placeOfTimer_27 : decode b_Agenda_placeOfTimer 27 = .ok (.iload_n 1, 1) := by decide +kernel
theorem d_Agenda_placeOfTimer_28 : decode b_Agenda_placeOfTimer 28 = .ok (.if_icmp .ne 14, 3) := by decide +kernel
theorem d_Agenda_placeOfTimer_31 : decode b_Agenda_placeOfTimer 31 = .ok (.aload 4, 2) := by decide +kernel
theorem d_Agenda_placeOfTimer_33 : decode b_Agenda_placeOfTimer 33 = .ok (.getfield 38, 3) := by decide +kernel
theorem d_Agenda_placeOfTimer_36 : decode b_Agenda_placeOfTimer 36 = .ok (.iload_n 2, 1) := by decide +kernel
theorem d_Agenda_placeOfTimer_37 : decode b_Agenda_placeOfTimer 37 = .ok (.if_icmp .ne 5, 3) := by decide +kernel
theorem d_Agenda_placeOfTimer_40 : decode b_Agenda_placeOfTimer 40 = .ok (.iload_n 3, 1) := by decide +kernel
theorem d_Agenda_placeOfTimer_41 : decode b_Agenda_placeOfTimer 41 = .ok (.ireturn, 1) := by decide +kernel
theorem d_Agenda_placeOfTimer_42 : decode b_Agenda_placeOfTimer 42 = .ok (.iinc 3 1, 3) := by decide +kernel
theorem d_Agenda_placeOfTimer_45 : decode b_Agenda_placeOfTimer 45 = .ok (.goto (-43), 3) := by decide +kernel
theorem d_Agenda_placeOfTimer_48 : decode b_Agenda_placeOfTimer 48 = .ok (.iconst (-1), 1) := by decide +kernel
theorem d_Agenda_placeOfTimer_49 : decode b_Agenda_placeOfTimer 49 = .ok (.ireturn, 1) := by decide +kernel
theorem d_NetWires_noAlarm_0 : decode b_NetWires_noAlarm 0 = .ok (.iload_n 1, 1) := by decide +kernel
theorem d_NetWires_noAlarm_1 : decode b_NetWires_noAlarm 1 = .ok (.invokestatic 100, 3) := by decide +kernel
theorem d_NetWires_noAlarm_4 : decode b_NetWires_noAlarm 4 = .ok (.aload_n 0, 1) := by decide +kernel
theorem d_NetWires_noAlarm_5 : decode b_NetWires_noAlarm 5 = .ok (.bipush 32, 2) := by decide +kernel
theorem d_NetWires_noAlarm_7 : decode b_NetWires_noAlarm 7 = .ok (.iload_n 1, 1) := by decide +kernel
theorem d_NetWires_noAlarm_8 : decode b_NetWires_noAlarm 8 = .ok (.invokevirtual 129, 3) := by decide +kernel
theorem d_NetWires_noAlarm_11 : decode b_NetWires_noAlarm 11 = .ok (.ireturn, 1) := by decide +kernel
theorem d_NetWires_sync_0 : decode b_NetWires_sync 0 = .ok (.iload_n 1, 1) := by decide +kernel
theorem d_NetWires_sync_1 : decode b_NetWires_sync 1 = .ok (.invokestatic 100, 3) := by decide +kernel
theorem d_NetWires_sync_4 : decode b_NetWires_sync 4 = .ok (.iload_n 2, 1) := by decide +kernel
theorem d_NetWires_sync_5 : decode b_NetWires_sync 5 = .ok (.ldc 120, 2) := by decide +kernel
theorem d_NetWires_sync_7 : decode b_NetWires_sync 7 = .ok (.invokestatic 121, 3) := by decide +kernel
theorem d_NetWires_sync_10 : decode b_NetWires_sync 10 = .ok (.aload_n 0, 1) := by decide +kernel
theorem d_NetWires_sync_11 : decode b_NetWires_sync 11 = .ok (.bipush 48, 2) := by decide +kernel
theorem d_NetWires_sync_13 : decode b_NetWires_sync 13 = .ok (.iload_n 1, 1) := by decide +kernel
theorem d_NetWires_sync_14 : decode b_NetWires_sync 14 = .ok (.iload_n 2, 1) := by decide +kernel
theorem d_NetWires_sync_15 : decode b_NetWires_sync 15 = .ok (.invokevirtual 125, 3) := by decide +kernel
theorem d_NetWires_sync_18 : decode b_NetWires_sync 18 = .ok (.ireturn, 1) := by decide +kernel
theorem d_NetWires_noSync_0 : decode b_NetWires_noSync 0 = .ok (.iload_n 1, 1) := by decide +kernel
theorem d_NetWires_noSync_1 : decode b_NetWires_noSync 1 = .ok (.invokestatic 100, 3) := by decide +kernel
theorem d_NetWires_noSync_4 : decode b_NetWires_noSync 4 = .ok (.aload_n 0, 1) := by decide +kernel
theorem d_NetWires_noSync_5 : decode b_NetWires_noSync 5 = .ok (.bipush 48, 2) := by decide +kernel
theorem d_NetWires_noSync_7 : decode b_NetWires_noSync 7 = .ok (.iload_n 1, 1) := by decide +kernel
theorem d_NetWires_noSync_8 : decode b_NetWires_noSync 8 = .ok (.invokevirtual 129, 3) := by decide +kernel
theorem d_NetWires_noSync_11 : decode b_NetWires_noSync 11 = .ok (.ireturn, 1) := by decide +kernel
theorem d_NetWires_run_0 : decode b_NetWires_run 0 = .ok (.iload_n 1, 1) := by decide +kernel
theorem d_NetWires_run_1 : decode b_NetWires_run 1 = .ok (.iconst 1, 1) := by decide +kernel
theorem d_NetWires_run_2 : decode b_NetWires_run 2 = .ok (.sipush 1000, 3) := by decide +kernel
theorem d_NetWires_run_5 : decode b_NetWires_run 5 = .ok (.invokestatic 140, 3) := by decide +kernel
theorem d_NetWires_run_8 : decode b_NetWires_run 8 = .ok (.ifCond .ne 13, 3) := by decide +kernel
theorem d_NetWires_run_11 : decode b_NetWires_run 11 = .ok (.new 73, 3) := by decide +kernel
theorem d_NetWires_run_14 : decode b_NetWires_run 14 = .ok (.dup, 1) := by decide +kernel
theorem d_NetWires_run_15 : decode b_NetWires_run 15 = .ok (.ldc 143, 2) := by decide +kernel
theorem d_NetWires_run_17 : decode b_NetWires_run 17 = .ok (.invokespecial 77, 3) := by decide +kernel
theorem d_NetWires_run_20 : decode b_NetWires_run 20 = .ok (.athrow, 1) := by decide +kernel
theorem d_NetWires_run_21 : decode b_NetWires_run 21 = .ok (.aload_n 0, 1) := by decide +kernel
theorem d_NetWires_run_22 : decode b_NetWires_run 22 = .ok (.getfield 47, 3) := by decide +kernel
theorem d_NetWires_run_25 : decode b_NetWires_run 25 = .ok (.iload_n 1, 1) := by decide +kernel
theorem d_NetWires_run_26 : decode b_NetWires_run 26 = .ok (.iadd, 1) := by decide +kernel
theorem d_NetWires_run_27 : decode b_NetWires_run 27 = .ok (.istore_n 2, 1) := by decide +kernel
theorem d_NetWires_run_28 : decode b_NetWires_run 28 = .ok (.iconst 0, 1) := by decide +kernel
theorem d_NetWires_run_29 : decode b_NetWires_run 29 = .ok (.istore_n 3, 1) := by decide +kernel
theorem d_NetWires_run_30 : decode b_NetWires_run 30 = .ok (.iload_n 3, 1) := by decide +kernel
theorem d_NetWires_run_31 : decode b_NetWires_run 31 = .ok (.sipush 232, 3) := by decide +kernel
theorem d_NetWires_run_34 : decode b_NetWires_run 34 = .ok (.if_icmp .ge 52, 3) := by decide +kernel
theorem d_NetWires_run_37 : decode b_NetWires_run 37 = .ok (.aload_n 0, 1) := by decide +kernel
theorem d_NetWires_run_38 : decode b_NetWires_run 38 = .ok (.getfield 19, 3) := by decide +kernel
theorem d_NetWires_run_41 : decode b_NetWires_run 41 = .ok (.iconst 0, 1) := by decide +kernel
theorem d_NetWires_run_42 : decode b_NetWires_run 42 = .ok (.invokevirtual 145, 3) := by decide +kernel
theorem d_NetWires_run_45 : decode b_NetWires_run 45 = .ok (.astore 4, 2) := by decide +kernel
theorem d_NetWires_run_47 : decode b_NetWires_run 47 = .ok (.aload 4, 2) := by decide +kernel
theorem d_NetWires_run_49 : decode b_NetWires_run 49 = .ok (.ifnull 37, 3) := by decide +kernel
theorem d_NetWires_run_52 : decode b_NetWires_run 52 = .ok (.aload 4, 2) := by decide +kernel
theorem d_NetWires_run_54 : decode b_NetWires_run 54 = .ok (.getfield 148, 3) := by decide +kernel
theorem d_NetWires_run_57 : decode b_NetWires_run 57 = .ok (.iload_n 2, 1) := by decide +kernel
theorem d_NetWires_run_58 : decode b_NetWires_run 58 = .ok (.if_icmp .le 6, 3) := by decide +kernel
theorem d_NetWires_run_61 : decode b_NetWires_run 61 = .ok (.goto 25, 3) := by decide +kernel
theorem d_NetWires_run_64 : decode b_NetWires_run 64 = .ok (.aload_n 0, 1) := by decide +kernel
theorem d_NetWires_run_65 : decode b_NetWires_run 65 = .ok (.getfield 19, 3) := by decide +kernel
theorem d_NetWires_run_68 : decode b_NetWires_run 68 = .ok (.iconst 0, 1) := by decide +kernel
theorem d_NetWires_run_69 : decode b_NetWires_run 69 = .ok (.invokevirtual 132, 3) := by decide +kernel
theorem d_NetWires_run_72 : decode b_NetWires_run 72 = .ok (.pop, 1) := by decide +kernel
theorem d_NetWires_run_73 : decode b_NetWires_run 73 = .ok (.aload_n 0, 1) := by decide +kernel
theorem d_NetWires_run_74 : decode b_NetWires_run 74 = .ok (.aload 4, 2) := by decide +kernel
theorem d_NetWires_run_76 : decode b_NetWires_run 76 = .ok (.invokevirtual 136, 3) := by decide +kernel
theorem d_NetWires_run_79 : decode b_NetWires_run 79 = .ok (.pop, 1) := by decide +kernel
theorem d_NetWires_run_80 : decode b_NetWires_run 80 = .ok (.iinc 3 1, 3) := by decide +kernel
theorem d_NetWires_run_83 : decode b_NetWires_run 83 = .ok (.goto (-53), 3) := by decide +kernel
theorem d_NetWires_run_86 : decode b_NetWires_run 86 = .ok (.aload_n 0, 1) := by decide +kernel
theorem d_NetWires_run_87 : decode b_NetWires_run 87 = .ok (.iload_n 2, 1) := by decide +kernel
theorem d_NetWires_run_88 : decode b_NetWires_run 88 = .ok (.putfield 47, 3) := by decide +kernel
theorem d_NetWires_run_91 : decode b_NetWires_run 91 = .ok (.iload_n 3, 1) := by decide +kernel
theorem d_NetWires_run_92 : decode b_NetWires_run 92 = .ok (.ireturn, 1) := by decide +kernel
theorem d_NetWires_delay_0 : decode b_NetWires_delay 0 = .ok (.iload_n 1, 1) := by decide +kernel
theorem d_NetWires_delay_1 : decode b_NetWires_delay 1 = .ok (.invokestatic 100, 3) := by decide +kernel
theorem d_NetWires_delay_4 : decode b_NetWires_delay 4 = .ok (.iload_n 2, 1) := by decide +kernel
theorem d_NetWires_delay_5 : decode b_NetWires_delay 5 = .ok (.invokestatic 100, 3) := by decide +kernel
theorem d_NetWires_delay_8 : decode b_NetWires_delay 8 = .ok (.iload_n 3, 1) := by decide +kernel
theorem d_NetWires_delay_9 : decode b_NetWires_delay 9 = .ok (.sipush 1000, 3) := by decide +kernel
theorem d_NetWires_delay_12 : decode b_NetWires_delay 12 = .ok (.invokestatic 121, 3) := by decide +kernel
theorem d_NetWires_delay_15 : decode b_NetWires_delay 15 = .ok (.iload_n 1, 1) := by decide +kernel
theorem d_NetWires_delay_16 : decode b_NetWires_delay 16 = .ok (.iload_n 2, 1) := by decide +kernel
theorem d_NetWires_delay_17 : decode b_NetWires_delay 17 = .ok (.invokestatic 153, 3) := by decide +kernel
theorem d_NetWires_delay_20 : decode b_NetWires_delay 20 = .ok (.istore 4, 2) := by decide +kernel
theorem d_NetWires_delay_22 : decode b_NetWires_delay 22 = .ok (.aload_n 0, 1) := by decide +kernel
theorem d_NetWires_delay_23 : decode b_NetWires_delay 23 = .ok (.getfield 37, 3) := by decide +kernel
theorem d_NetWires_delay_26 : decode b_NetWires_delay 26 = .ok (.iload 4, 2) := by decide +kernel
theorem d_NetWires_delay_28 : decode b_NetWires_delay 28 = .ok (.iaload, 1) := by decide +kernel
theorem d_NetWires_delay_29 : decode b_NetWires_delay 29 = .ok (.istore 5, 2) := by decide +kernel
theorem d_NetWires_delay_31 : decode b_NetWires_delay 31 = .ok (.aload_n 0, 1) := by decide +kernel
theorem d_NetWires_delay_32 : decode b_NetWires_delay 32 = .ok (.getfield 37, 3) := by decide +kernel
theorem d_NetWires_delay_35 : decode b_NetWires_delay 35 = .ok (.iload 4, 2) := by decide +kernel
theorem d_NetWires_delay_37 : decode b_NetWires_delay 37 = .ok (.iload_n 3, 1) := by decide +kernel
theorem d_NetWires_delay_38 : decode b_NetWires_delay 38 = .ok (.iastore, 1) := by decide +kernel
theorem d_NetWires_delay_39 : decode b_NetWires_delay 39 = .ok (.iload 5, 2) := by decide +kernel
theorem d_NetWires_delay_41 : decode b_NetWires_delay 41 = .ok (.ireturn, 1) := by decide +kernel
theorem d_NetWires_part_0 : decode b_NetWires_part 0 = .ok (.iload_n 1, 1) := by decide +kernel
theorem d_NetWires_part_1 : decode b_NetWires_part 1 = .ok (.invokestatic 157, 3) := by decide +kernel
theorem d_NetWires_part_4 : decode b_NetWires_part 4 = .ok (.aload_n 0, 1) := by decide +kernel
theorem d_NetWires_part_5 : decode b_NetWires_part 5 = .ok (.getfield 54, 3) := by decide +kernel
theorem d_NetWires_part_8 : decode b_NetWires_part 8 = .ok (.istore_n 2, 1) := by decide +kernel
theorem d_NetWires_part_9 : decode b_NetWires_part 9 = .ok (.aload_n 0, 1) := by decide +kernel
theorem d_NetWires_part_10 : decode b_NetWires_part 10 = .ok (.iload_n 1, 1) := by decide +kernel
theorem d_NetWires_part_11 : decode b_NetWires_part 11 = .ok (.putfield 54, 3) := by decide +kernel
theorem d_NetWires_part_14 : decode b_NetWires_part 14 = .ok (.iload_n 2, 1) := by decide +kernel
theorem d_NetWires_part_15 : decode b_NetWires_part 15 = .ok (.ireturn, 1) := by decide +kernel
theorem d_NetWires_demandSet_0 : decode b_NetWires_demandSet 0 = .ok (.iload_n 0, 1) := by decide +kernel
theorem d_NetWires_demandSet_1 : decode b_NetWires_demandSet 1 = .ok (.iconst 0, 1) := by decide +kernel
theorem d_NetWires_demandSet_2 : decode b_NetWires_demandSet 2 = .ok (.ldc 216, 2) := by decide +kernel
theorem d_NetWires_demandSet_4 : decode b_NetWires_demandSet 4 = .ok (.invokestatic 140, 3) := by decide +kernel
theorem d_NetWires_demandSet_7 : decode b_NetWires_demandSet 7 = .ok (.ifCond .ne 13, 3) := by decide +kernel
theorem d_NetWires_demandSet_10 : decode b_NetWires_demandSet 10 = .ok (.new 73, 3) := by decide +kernel
theorem d_NetWires_demandSet_13 : decode b_NetWires_demandSet 13 = .ok (.dup, 1) := by decide +kernel
theorem d_NetWires_demandSet_14 : decode b_NetWires_demandSet 14 = .ok (.ldc 217, 2) := by decide +kernel
theorem d_NetWires_demandSet_16 : decode b_NetWires_demandSet 16 = .ok (.invokespecial 77, 3) := by decide +kernel
theorem d_NetWires_demandSet_19 : decode b_NetWires_demandSet 19 = .ok (.athrow, 1) := by decide +kernel
theorem d_NetWires_demandSet_20 : decode b_NetWires_demandSet 20 = .ok (.return_, 1) := by decide +kernel
theorem d_NetWires_down_0 : decode b_NetWires_down 0 = .ok (.iload_n 1, 1) := by decide +kernel
theorem d_NetWires_down_1 : decode b_NetWires_down 1 = .ok (.invokestatic 157, 3) := by decide +kernel
theorem d_NetWires_down_4 : decode b_NetWires_down 4 = .ok (.aload_n 0, 1) := by decide +kernel
theorem d_NetWires_down_5 : decode b_NetWires_down 5 = .ok (.getfield 57, 3) := by decide +kernel
theorem d_NetWires_down_8 : decode b_NetWires_down 8 = .ok (.istore_n 2, 1) := by decide +kernel
theorem d_NetWires_down_9 : decode b_NetWires_down 9 = .ok (.aload_n 0, 1) := by decide +kernel
theorem d_NetWires_down_10 : decode b_NetWires_down 10 = .ok (.iload_n 1, 1) := by decide +kernel
theorem d_NetWires_down_11 : decode b_NetWires_down 11 = .ok (.putfield 57, 3) := by decide +kernel
theorem d_NetWires_down_14 : decode b_NetWires_down 14 = .ok (.iload_n 2, 1) := by decide +kernel
theorem d_NetWires_down_15 : decode b_NetWires_down 15 = .ok (.ireturn, 1) := by decide +kernel
theorem d_NetWires_noise_0 : decode b_NetWires_noise 0 = .ok (.iload_n 1, 1) := by decide +kernel
theorem d_NetWires_noise_1 : decode b_NetWires_noise 1 = .ok (.iconst 0, 1) := by decide +kernel
theorem d_NetWires_noise_2 : decode b_NetWires_noise 2 = .ok (.sipush 1000, 3) := by decide +kernel
theorem d_NetWires_noise_5 : decode b_NetWires_noise 5 = .ok (.invokestatic 140, 3) := by decide +kernel
theorem d_NetWires_noise_8 : decode b_NetWires_noise 8 = .ok (.ifCond .eq 25, 3) := by decide +kernel
theorem d_NetWires_noise_11 : decode b_NetWires_noise 11 = .ok (.iload_n 2, 1) := by decide +kernel
theorem d_NetWires_noise_12 : decode b_NetWires_noise 12 = .ok (.iconst 0, 1) := by decide +kernel
theorem d_NetWires_noise_13 : decode b_NetWires_noise 13 = .ok (.sipush 1000, 3) := by decide +kernel
theorem d_NetWires_noise_16 : decode b_NetWires_noise 16 = .ok (.invokestatic 140, 3) := by decide +kernel
theorem d_NetWires_noise_19 : decode b_NetWires_noise 19 = .ok (.ifCond .eq 14, 3) := by decide +kernel
theorem d_NetWires_noise_22 : decode b_NetWires_noise 22 = .ok (.iload_n 3, 1) := by decide +kernel
theorem d_NetWires_noise_23 : decode b_NetWires_noise 23 = .ok (.iconst 0, 1) := by decide +kernel
theorem d_NetWires_noise_24 : decode b_NetWires_noise 24 = .ok (.sipush 1000, 3) := by decide +kernel
theorem d_NetWires_noise_27 : decode b_NetWires_noise 27 = .ok (.invokestatic 140, 3) := by decide +kernel
theorem d_NetWires_noise_30 : decode b_NetWires_noise 30 = .ok (.ifCond .ne 13, 3) := by decide +kernel
theorem d_NetWires_noise_33 : decode b_NetWires_noise 33 = .ok (.new 73, 3) := by decide +kernel
theorem d_NetWires_noise_36 : decode b_NetWires_noise 36 = .ok (.dup, 1) := by decide +kernel
theorem d_NetWires_noise_37 : decode b_NetWires_noise 37 = .ok (.ldc 160, 2) := by decide +kernel
theorem d_NetWires_noise_39 : decode b_NetWires_noise 39 = .ok (.invokespecial 77, 3) := by decide +kernel
theorem d_NetWires_noise_42 : decode b_NetWires_noise 42 = .ok (.athrow, 1) := by decide +kernel
theorem d_NetWires_noise_43 : decode b_NetWires_noise 43 = .ok (.aload_n 0, 1) := by decide +kernel
theorem d_NetWires_noise_44 : decode b_NetWires_noise 44 = .ok (.getfield 33, 3) := by decide +kernel
theorem d_NetWires_noise_47 : decode b_NetWires_noise 47 = .ok (.iload_n 1, 1) := by decide +kernel
theorem d_NetWires_noise_48 : decode b_NetWires_noise 48 = .ok (.iload_n 2, 1) := by decide +kernel
theorem d_NetWires_noise_49 : decode b_NetWires_noise 49 = .ok (.iload_n 3, 1) := by decide +kernel
theorem d_NetWires_noise_50 : decode b_NetWires_noise 50 = .ok (.lload 4, 2) := by decide +kernel
theorem d_NetWires_noise_52 : decode b_NetWires_noise 52 = .ok (.invokevirtual 162, 3) := by decide +kernel
theorem d_NetWires_noise_55 : decode b_NetWires_noise 55 = .ok (.return_, 1) := by decide +kernel
theorem d_Noise_set_0 : decode b_Noise_set 0 = .ok (.aload_n 0, 1) := by decide +kernel
theorem d_Noise_set_1 : decode b_Noise_set 1 = .ok (.iload_n 1, 1) := by decide +kernel
theorem d_Noise_set_2 : decode b_Noise_set 2 = .ok (.putfield 7, 3) := by decide +kernel
theorem d_Noise_set_5 : decode b_Noise_set 5 = .ok (.aload_n 0, 1) := by decide +kernel
theorem d_Noise_set_6 : decode b_Noise_set 6 = .ok (.iload_n 2, 1) := by decide +kernel
theorem d_Noise_set_7 : decode b_Noise_set 7 = .ok (.putfield 13, 3) := by decide +kernel
theorem d_Noise_set_10 : decode b_Noise_set 10 = .ok (.aload_n 0, 1) := by decide +kernel
theorem d_Noise_set_11 : decode b_Noise_set 11 = .ok (.iload_n 3, 1) := by decide +kernel
theorem d_Noise_set_12 : decode b_Noise_set 12 = .ok (.putfield 16, 3) := by decide +kernel
theorem d_Noise_set_15 : decode b_Noise_set 15 = .ok (.aload_n 0, 1) := by decide +kernel
theorem d_Noise_set_16 : decode b_Noise_set 16 = .ok (.lload 4, 2) := by decide +kernel
theorem d_Noise_set_18 : decode b_Noise_set 18 = .ok (.putfield 19, 3) := by decide +kernel
theorem d_Noise_set_21 : decode b_Noise_set 21 = .ok (.return_, 1) := by decide +kernel
theorem d_NetWires_meddle_0 : decode b_NetWires_meddle 0 = .ok (.iload_n 2, 1) := by decide +kernel
theorem d_NetWires_meddle_1 : decode b_NetWires_meddle 1 = .ok (.iload_n 3, 1) := by decide +kernel
theorem d_NetWires_meddle_2 : decode b_NetWires_meddle 2 = .ok (.invokestatic 166, 3) := by decide +kernel
theorem d_NetWires_meddle_5 : decode b_NetWires_meddle 5 = .ok (.ifCond .ne 13, 3) := by decide +kernel
theorem d_NetWires_meddle_8 : decode b_NetWires_meddle 8 = .ok (.new 73, 3) := by decide +kernel
theorem d_NetWires_meddle_11 : decode b_NetWires_meddle 11 = .ok (.dup, 1) := by decide +kernel
theorem d_NetWires_meddle_12 : decode b_NetWires_meddle 12 = .ok (.ldc 169, 2) := by decide +kernel
theorem d_NetWires_meddle_14 : decode b_NetWires_meddle 14 = .ok (.invokespecial 77, 3) := by decide +kernel
theorem d_NetWires_meddle_17 : decode b_NetWires_meddle 17 = .ok (.athrow, 1) := by decide +kernel
theorem d_NetWires_meddle_18 : decode b_NetWires_meddle 18 = .ok (.aload_n 0, 1) := by decide +kernel
theorem d_NetWires_meddle_19 : decode b_NetWires_meddle 19 = .ok (.getfield 19, 3) := by decide +kernel
theorem d_NetWires_meddle_22 : decode b_NetWires_meddle 22 = .ok (.iload_n 1, 1) := by decide +kernel
theorem d_NetWires_meddle_23 : decode b_NetWires_meddle 23 = .ok (.invokevirtual 171, 3) := by decide +kernel
theorem d_NetWires_meddle_26 : decode b_NetWires_meddle 26 = .ok (.istore 4, 2) := by decide +kernel
theorem d_NetWires_meddle_28 : decode b_NetWires_meddle 28 = .ok (.aload_n 0, 1) := by decide +kernel
theorem d_NetWires_meddle_29 : decode b_NetWires_meddle 29 = .ok (.getfield 19, 3) := by decide +kernel
theorem d_NetWires_meddle_32 : decode b_NetWires_meddle 32 = .ok (.iload 4, 2) := by decide +kernel
theorem d_NetWires_meddle_34 : decode b_NetWires_meddle 34 = .ok (.invokevirtual 145, 3) := by decide +kernel
theorem d_NetWires_meddle_37 : decode b_NetWires_meddle 37 = .ok (.astore 5, 2) := by decide +kernel
theorem d_NetWires_meddle_39 : decode b_NetWires_meddle 39 = .ok (.aload 5, 2) := by decide +kernel
theorem d_NetWires_meddle_41 : decode b_NetWires_meddle 41 = .ok (.ifnonnull 5, 3) := by decide +kernel
theorem d_NetWires_meddle_44 : decode b_NetWires_meddle 44 = .ok (.iconst 0, 1) := by decide +kernel
theorem d_NetWires_meddle_45 : decode b_NetWires_meddle 45 = .ok (.ireturn, 1) := by decide +kernel
theorem d_NetWires_meddle_46 : decode b_NetWires_meddle 46 = .ok (.iload_n 2, 1) := by decide +kernel
theorem d_NetWires_meddle_47 : decode b_NetWires_meddle 47 = .ok (.iconst 1, 1) := by decide +kernel
theorem d_NetWires_meddle_48 : decode b_NetWires_meddle 48 = .ok (.if_icmp .ne 26, 3) := by decide +kernel
theorem d_NetWires_meddle_51 : decode b_NetWires_meddle 51 = .ok (.aload_n 0, 1) := by decide +kernel
theorem d_NetWires_meddle_52 : decode b_NetWires_meddle 52 = .ok (.aload 5, 2) := by decide +kernel
theorem d_NetWires_meddle_54 : decode b_NetWires_meddle 54 = .ok (.getfield 175, 3) := by decide +kernel
theorem d_NetWires_meddle_57 : decode b_NetWires_meddle 57 = .ok (.aload 5, 2) := by decide +kernel
theorem d_NetWires_meddle_59 : decode b_NetWires_meddle 59 = .ok (.getfield 178, 3) := by decide +kernel
theorem d_NetWires_meddle_62 : decode b_NetWires_meddle 62 = .ok (.iconst 0, 1) := by decide +kernel
theorem d_NetWires_meddle_63 : decode b_NetWires_meddle 63 = .ok (.aload 5, 2) := by decide +kernel
theorem d_NetWires_meddle_65 : decode b_NetWires_meddle 65 = .ok (.getfield 181, 3) := by decide +kernel
theorem d_NetWires_meddle_68 : decode b_NetWires_meddle 68 = .ok (.invokevirtual 116, 3) := by decide +kernel
theorem d_NetWires_meddle_71 : decode b_NetWires_meddle 71 = .ok (.pop, 1) := by decide +kernel
theorem d_NetWires_meddle_72 : decode b_NetWires_meddle 72 = .ok (.iconst 1, 1) := by decide +kernel
theorem d_NetWires_meddle_73 : decode b_NetWires_meddle 73 = .ok (.ireturn, 1) := by decide +kernel
theorem d_NetWires_meddle_74 : decode b_NetWires_meddle 74 = .ok (.aload_n 0, 1) := by decide +kernel
theorem d_NetWires_meddle_75 : decode b_NetWires_meddle 75 = .ok (.getfield 19, 3) := by decide +kernel
theorem d_NetWires_meddle_78 : decode b_NetWires_meddle 78 = .ok (.iload 4, 2) := by decide +kernel
theorem d_NetWires_meddle_80 : decode b_NetWires_meddle 80 = .ok (.invokevirtual 132, 3) := by decide +kernel
theorem d_NetWires_meddle_83 : decode b_NetWires_meddle 83 = .ok (.pop, 1) := by decide +kernel
theorem d_NetWires_meddle_84 : decode b_NetWires_meddle 84 = .ok (.iload_n 2, 1) := by decide +kernel
theorem d_NetWires_meddle_85 : decode b_NetWires_meddle 85 = .ok (.ifCond .ne 16, 3) := by decide +kernel
theorem d_NetWires_meddle_88 : decode b_NetWires_meddle 88 = .ok (.aload_n 0, 1) := by decide +kernel
theorem d_NetWires_meddle_89 : decode b_NetWires_meddle 89 = .ok (.dup, 1) := by decide +kernel
theorem d_NetWires_meddle_90 : decode b_NetWires_meddle 90 = .ok (.getfield 63, 3) := by decide +kernel
theorem d_NetWires_meddle_93 : decode b_NetWires_meddle 93 = .ok (.iconst 1, 1) := by decide +kernel
theorem d_NetWires_meddle_94 : decode b_NetWires_meddle 94 = .ok (.iadd, 1) := by decide +kernel
theorem d_NetWires_meddle_95 : decode b_NetWires_meddle 95 = .ok (.putfield 63, 3) := by decide +kernel
theorem d_NetWires_meddle_98 : decode b_NetWires_meddle 98 = .ok (.goto 29, 3) := by decide +kernel
theorem d_NetWires_meddle_101 : decode b_NetWires_meddle 101 = .ok (.aload_n 0, 1) := by decide +kernel
theorem d_NetWires_meddle_102 : decode b_NetWires_meddle 102 = .ok (.aload 5, 2) := by decide +kernel
theorem d_NetWires_meddle_104 : decode b_NetWires_meddle 104 = .ok (.getfield 175, 3) := by decide +kernel
theorem d_NetWires_meddle_107 : decode b_NetWires_meddle 107 = .ok (.aload 5, 2) := by decide +kernel
theorem d_NetWires_meddle_109 : decode b_NetWires_meddle 109 = .ok (.getfield 178, 3) := by decide +kernel
theorem d_NetWires_meddle_112 : decode b_NetWires_meddle 112 = .ok (.aload 5, 2) := by decide +kernel
theorem d_NetWires_meddle_114 : decode b_NetWires_meddle 114 = .ok (.getfield 148, 3) := by decide +kernel
theorem d_NetWires_meddle_117 : decode b_NetWires_meddle 117 = .ok (.iload_n 3, 1) := by decide +kernel
theorem d_NetWires_meddle_118 : decode b_NetWires_meddle 118 = .ok (.iadd, 1) := by decide +kernel
theorem d_NetWires_meddle_119 : decode b_NetWires_meddle 119 = .ok (.aload 5, 2) := by decide +kernel
theorem d_NetWires_meddle_121 : decode b_NetWires_meddle 121 = .ok (.getfield 181, 3) := by decide +kernel
theorem d_NetWires_meddle_124 : decode b_NetWires_meddle 124 = .ok (.invokevirtual 184, 3) := by decide +kernel
theorem d_NetWires_meddle_127 : decode b_NetWires_meddle 127 = .ok (.iconst 1, 1) := by decide +kernel
theorem d_NetWires_meddle_128 : decode b_NetWires_meddle 128 = .ok (.ireturn, 1) := by decide +kernel
theorem d_NetWires_canMeddle_0 : decode b_NetWires_canMeddle 0 = .ok (.iload_n 0, 1) := by decide +kernel
theorem d_NetWires_canMeddle_1 : decode b_NetWires_canMeddle 1 = .ok (.iconst 2, 1) := by decide +kernel
theorem d_NetWires_canMeddle_2 : decode b_NetWires_canMeddle 2 = .ok (.if_icmp .ne 12, 3) := by decide +kernel
theorem d_NetWires_canMeddle_5 : decode b_NetWires_canMeddle 5 = .ok (.iload_n 1, 1) := by decide +kernel
theorem d_NetWires_canMeddle_6 : decode b_NetWires_canMeddle 6 = .ok (.iconst 0, 1) := by decide +kernel
theorem d_NetWires_canMeddle_7 : decode b_NetWires_canMeddle 7 = .ok (.sipush 1000, 3) := by decide +kernel
theorem d_NetWires_canMeddle_10 : decode b_NetWires_canMeddle 10 = .ok (.invokestatic 140, 3) := by decide +kernel
theorem d_NetWires_canMeddle_13 : decode b_NetWires_canMeddle 13 = .ok (.ireturn, 1) := by decide +kernel
theorem d_NetWires_canMeddle_14 : decode b_NetWires_canMeddle 14 = .ok (.iload_n 0, 1) := by decide +kernel
theorem d_NetWires_canMeddle_15 : decode b_NetWires_canMeddle 15 = .ok (.ifCond .eq 8, 3) := by decide +kernel
theorem d_NetWires_canMeddle_18 : decode b_NetWires_canMeddle 18 = .ok (.iload_n 0, 1) := by decide +kernel
theorem d_NetWires_canMeddle_19 : decode b_NetWires_canMeddle 19 = .ok (.iconst 1, 1) := by decide +kernel
theorem d_NetWires_canMeddle_20 : decode b_NetWires_canMeddle 20 = .ok (.if_icmp .ne 11, 3) := by decide +kernel
theorem d_NetWires_canMeddle_23 : decode b_NetWires_canMeddle 23 = .ok (.iload_n 1, 1) := by decide +kernel
theorem d_NetWires_canMeddle_24 : decode b_NetWires_canMeddle 24 = .ok (.ifCond .ne 7, 3) := by decide +kernel
theorem d_NetWires_canMeddle_27 : decode b_NetWires_canMeddle 27 = .ok (.iconst 1, 1) := by decide +kernel
theorem d_NetWires_canMeddle_28 : decode b_NetWires_canMeddle 28 = .ok (.goto 4, 3) := by decide +kernel
theorem d_NetWires_canMeddle_31 : decode b_NetWires_canMeddle 31 = .ok (.iconst 0, 1) := by decide +kernel
theorem d_NetWires_canMeddle_32 : decode b_NetWires_canMeddle 32 = .ok (.ireturn, 1) := by decide +kernel
theorem d_NetWires_messageAt_0 : decode b_NetWires_messageAt 0 = .ok (.aload_n 0, 1) := by decide +kernel
theorem d_NetWires_messageAt_1 : decode b_NetWires_messageAt 1 = .ok (.getfield 19, 3) := by decide +kernel
theorem d_NetWires_messageAt_4 : decode b_NetWires_messageAt 4 = .ok (.aload_n 0, 1) := by decide +kernel
theorem d_NetWires_messageAt_5 : decode b_NetWires_messageAt 5 = .ok (.getfield 19, 3) := by decide +kernel
theorem d_NetWires_messageAt_8 : decode b_NetWires_messageAt 8 = .ok (.iload_n 1, 1) := by decide +kernel
theorem d_NetWires_messageAt_9 : decode b_NetWires_messageAt 9 = .ok (.invokevirtual 171, 3) := by decide +kernel
theorem d_NetWires_messageAt_12 : decode b_NetWires_messageAt 12 = .ok (.invokevirtual 145, 3) := by decide +kernel
theorem d_NetWires_messageAt_15 : decode b_NetWires_messageAt 15 = .ok (.astore_n 3, 1) := by decide +kernel
theorem d_NetWires_messageAt_16 : decode b_NetWires_messageAt 16 = .ok (.aload_n 3, 1) := by decide +kernel
theorem d_NetWires_messageAt_17 : decode b_NetWires_messageAt 17 = .ok (.ifnonnull 13, 3) := by decide +kernel
theorem d_NetWires_messageAt_20 : decode b_NetWires_messageAt 20 = .ok (.new 191, 3) := by decide +kernel
theorem d_NetWires_messageAt_23 : decode b_NetWires_messageAt 23 = .ok (.dup, 1) := by decide +kernel
theorem d_NetWires_messageAt_24 : decode b_NetWires_messageAt 24 = .ok (.ldc 193, 2) := by decide +kernel
theorem d_NetWires_messageAt_26 : decode b_NetWires_messageAt 26 = .ok (.invokespecial 195, 3) := by decide +kernel
theorem d_NetWires_messageAt_29 : decode b_NetWires_messageAt 29 = .ok (.athrow, 1) := by decide +kernel
theorem d_NetWires_messageAt_30 : decode b_NetWires_messageAt 30 = .ok (.iload_n 2, 1) := by decide +kernel
theorem d_NetWires_messageAt_31 : decode b_NetWires_messageAt 31 = .ok (.ifCond .lt 12, 3) := by decide +kernel
theorem d_NetWires_messageAt_34 : decode b_NetWires_messageAt 34 = .ok (.iload_n 2, 1) := by decide +kernel
theorem d_NetWires_messageAt_35 : decode b_NetWires_messageAt 35 = .ok (.aload_n 3, 1) := by decide +kernel
theorem d_NetWires_messageAt_36 : decode b_NetWires_messageAt 36 = .ok (.getfield 181, 3) := by decide +kernel
theorem d_NetWires_messageAt_39 : decode b_NetWires_messageAt 39 = .ok (.arraylength, 1) := by decide +kernel
theorem d_NetWires_messageAt_40 : decode b_NetWires_messageAt 40 = .ok (.if_icmp .lt 13, 3) := by decide +kernel
theorem d_NetWires_messageAt_43 : decode b_NetWires_messageAt 43 = .ok (.new 191, 3) := by decide +kernel
theorem d_NetWires_messageAt_46 : decode b_NetWires_messageAt 46 = .ok (.dup, 1) := by decide +kernel
theorem d_NetWires_messageAt_47 : decode b_NetWires_messageAt 47 = .ok (.ldc 196, 2) := by decide +kernel
theorem d_NetWires_messageAt_49 : decode b_NetWires_messageAt 49 = .ok (.invokespecial 195, 3) := by decide +kernel
theorem d_NetWires_messageAt_52 : decode b_NetWires_messageAt 52 = .ok (.athrow, 1) := by decide +kernel
theorem d_NetWires_messageAt_53 : decode b_NetWires_messageAt 53 = .ok (.aload_n 3, 1) := by decide +kernel
theorem d_NetWires_messageAt_54 : decode b_NetWires_messageAt 54 = .ok (.getfield 181, 3) := by decide +kernel
theorem d_NetWires_messageAt_57 : decode b_NetWires_messageAt 57 = .ok (.iload_n 2, 1) := by decide +kernel
theorem d_NetWires_messageAt_58 : decode b_NetWires_messageAt 58 = .ok (.baload, 1) := by decide +kernel
theorem d_NetWires_messageAt_59 : decode b_NetWires_messageAt 59 = .ok (.sipush 255, 3) := by decide +kernel
theorem d_NetWires_messageAt_62 : decode b_NetWires_messageAt 62 = .ok (.iand, 1) := by decide +kernel
theorem d_NetWires_messageAt_63 : decode b_NetWires_messageAt 63 = .ok (.ireturn, 1) := by decide +kernel
theorem d_NetWires_byteAt_0 : decode b_NetWires_byteAt 0 = .ok (.iload_n 1, 1) := by decide +kernel
theorem d_NetWires_byteAt_1 : decode b_NetWires_byteAt 1 = .ok (.ifCond .lt 12, 3) := by decide +kernel
theorem d_NetWires_byteAt_4 : decode b_NetWires_byteAt 4 = .ok (.iload_n 1, 1) := by decide +kernel
theorem d_NetWires_byteAt_5 : decode b_NetWires_byteAt 5 = .ok (.aload_n 0, 1) := by decide +kernel
theorem d_NetWires_byteAt_6 : decode b_NetWires_byteAt 6 = .ok (.getfield 70, 3) := by decide +kernel
theorem d_NetWires_byteAt_9 : decode b_NetWires_byteAt 9 = .ok (.arraylength, 1) := by decide +kernel
theorem d_NetWires_byteAt_10 : decode b_NetWires_byteAt 10 = .ok (.if_icmp .lt 13, 3) := by decide +kernel
theorem d_NetWires_byteAt_13 : decode b_NetWires_byteAt 13 = .ok (.new 191, 3) := by decide +kernel
theorem d_NetWires_byteAt_16 : decode b_NetWires_byteAt 16 = .ok (.dup, 1) := by decide +kernel
theorem d_NetWires_byteAt_17 : decode b_NetWires_byteAt 17 = .ok (.ldc 196, 2) := by decide +kernel
theorem d_NetWires_byteAt_19 : decode b_NetWires_byteAt 19 = .ok (.invokespecial 195, 3) := by decide +kernel
theorem d_NetWires_byteAt_22 : decode b_NetWires_byteAt 22 = .ok (.athrow, 1) := by decide +kernel
theorem d_NetWires_byteAt_23 : decode b_NetWires_byteAt 23 = .ok (.aload_n 0, 1) := by decide +kernel
theorem d_NetWires_byteAt_24 : decode b_NetWires_byteAt 24 = .ok (.getfield 70, 3) := by decide +kernel
theorem d_NetWires_byteAt_27 : decode b_NetWires_byteAt 27 = .ok (.iload_n 1, 1) := by decide +kernel
theorem d_NetWires_byteAt_28 : decode b_NetWires_byteAt 28 = .ok (.baload, 1) := by decide +kernel
theorem d_NetWires_byteAt_29 : decode b_NetWires_byteAt 29 = .ok (.sipush 255, 3) := by decide +kernel
theorem d_NetWires_byteAt_32 : decode b_NetWires_byteAt 32 = .ok (.iand, 1) := by decide +kernel
theorem d_NetWires_byteAt_33 : decode b_NetWires_byteAt 33 = .ok (.ireturn, 1) := by decide +kernel
theorem d_NetWires_when_0 : decode b_NetWires_when 0 = .ok (.iload_n 1, 1) := by decide +kernel
theorem d_NetWires_when_1 : decode b_NetWires_when 1 = .ok (.invokestatic 100, 3) := by decide +kernel
theorem d_NetWires_when_4 : decode b_NetWires_when 4 = .ok (.iload_n 2, 1) := by decide +kernel
theorem d_NetWires_when_5 : decode b_NetWires_when 5 = .ok (.ifCond .eq 18, 3) := by decide +kernel
theorem d_NetWires_when_8 : decode b_NetWires_when 8 = .ok (.iload_n 2, 1) := by decide +kernel
theorem d_NetWires_when_9 : decode b_NetWires_when 9 = .ok (.iconst 1, 1) := by decide +kernel
theorem d_NetWires_when_10 : decode b_NetWires_when 10 = .ok (.if_icmp .eq 13, 3) := by decide +kernel
theorem d_NetWires_when_13 : decode b_NetWires_when 13 = .ok (.new 191, 3) := by decide +kernel
theorem d_NetWires_when_16 : decode b_NetWires_when 16 = .ok (.dup, 1) := by decide +kernel
theorem d_NetWires_when_17 : decode b_NetWires_when 17 = .ok (.ldc 201, 2) := by decide +kernel
theorem d_NetWires_when_19 : decode b_NetWires_when 19 = .ok (.invokespecial 195, 3) := by decide +kernel
theorem d_NetWires_when_22 : decode b_NetWires_when 22 = .ok (.athrow, 1) := by decide +kernel
theorem d_NetWires_when_23 : decode b_NetWires_when 23 = .ok (.aload_n 0, 1) := by decide +kernel
theorem d_NetWires_when_24 : decode b_NetWires_when 24 = .ok (.getfield 19, 3) := by decide +kernel
theorem d_NetWires_when_27 : decode b_NetWires_when 27 = .ok (.aload_n 0, 1) := by decide +kernel
theorem d_NetWires_when_28 : decode b_NetWires_when 28 = .ok (.getfield 19, 3) := by decide +kernel
theorem d_NetWires_when_31 : decode b_NetWires_when 31 = .ok (.iload_n 2, 1) := by decide +kernel
theorem d_NetWires_when_32 : decode b_NetWires_when 32 = .ok (.ifCond .ne 8, 3) := by decide +kernel
theorem d_NetWires_when_35 : decode b_NetWires_when 35 = .ok (.bipush 32, 2) := by decide +kernel
theorem d_NetWires_when_37 : decode b_NetWires_when 37 = .ok (.goto 5, 3) := by decide +kernel
theorem d_NetWires_when_40 : decode b_NetWires_when 40 = .ok (.bipush 48, 2) := by decide +kernel
theorem d_NetWires_when_42 : decode b_NetWires_when 42 = .ok (.iload_n 1, 1) := by decide +kernel
theorem d_NetWires_when_43 : decode b_NetWires_when 43 = .ok (.invokevirtual 203, 3) := by decide +kernel
theorem d_NetWires_when_46 : decode b_NetWires_when 46 = .ok (.invokevirtual 145, 3) := by decide +kernel
theorem d_NetWires_when_49 : decode b_NetWires_when 49 = .ok (.astore_n 3, 1) := by decide +kernel
theorem d_NetWires_when_50 : decode b_NetWires_when 50 = .ok (.aload_n 3, 1) := by decide +kernel
theorem d_NetWires_when_51 : decode b_NetWires_when 51 = .ok (.ifnonnull 7, 3) := by decide +kernel
theorem d_NetWires_when_54 : decode b_NetWires_when 54 = .ok (.iconst (-1), 1) := by decide +kernel
theorem d_NetWires_when_55 : decode b_NetWires_when 55 = .ok (.goto 7, 3) := by decide +kernel
theorem d_NetWires_when_58 : decode b_NetWires_when 58 = .ok (.aload_n 3, 1) := by decide +kernel
theorem d_NetWires_when_59 : decode b_NetWires_when 59 = .ok (.getfield 148, 3) := by decide +kernel
theorem d_NetWires_when_62 : decode b_NetWires_when 62 = .ok (.ireturn, 1) := by decide +kernel

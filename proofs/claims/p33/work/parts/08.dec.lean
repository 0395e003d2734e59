theorem dX0_init_0 : decode cX0_init 0 = .ok (.aload_n 0, 1) := by decide +kernel
theorem dX0_init_1 : decode cX0_init 1 = .ok (.invokespecial 3, 3) := by decide +kernel
theorem dX0_init_4 : decode cX0_init 4 = .ok (.aload_n 0, 1) := by decide +kernel
theorem dX0_init_5 : decode cX0_init 5 = .ok (.iconst 4, 1) := by decide +kernel
theorem dX0_init_6 : decode cX0_init 6 = .ok (.newarray .int, 2) := by decide +kernel
theorem dX0_init_8 : decode cX0_init 8 = .ok (.putfield 9, 3) := by decide +kernel
theorem dX0_init_11 : decode cX0_init 11 = .ok (.aload_n 0, 1) := by decide +kernel
theorem dX0_init_12 : decode cX0_init 12 = .ok (.iconst 4, 1) := by decide +kernel
theorem dX0_init_13 : decode cX0_init 13 = .ok (.newarray .int, 2) := by decide +kernel
theorem dX0_init_15 : decode cX0_init 15 = .ok (.putfield 15, 3) := by decide +kernel
theorem dX0_init_18 : decode cX0_init 18 = .ok (.aload_n 0, 1) := by decide +kernel
theorem dX0_init_19 : decode cX0_init 19 = .ok (.iconst 4, 1) := by decide +kernel
theorem dX0_init_20 : decode cX0_init 20 = .ok (.newarray .int, 2) := by decide +kernel
theorem dX0_init_22 : decode cX0_init 22 = .ok (.putfield 18, 3) := by decide +kernel
theorem dX0_init_25 : decode cX0_init 25 = .ok (.aload_n 0, 1) := by decide +kernel
theorem dX0_init_26 : decode cX0_init 26 = .ok (.iconst 4, 1) := by decide +kernel
theorem dX0_init_27 : decode cX0_init 27 = .ok (.newarray .int, 2) := by decide +kernel
theorem dX0_init_29 : decode cX0_init 29 = .ok (.putfield 21, 3) := by decide +kernel
theorem dX0_init_32 : decode cX0_init 32 = .ok (.iconst 0, 1) := by decide +kernel
theorem dX0_init_33 : decode cX0_init 33 = .ok (.istore_n 1, 1) := by decide +kernel
theorem dX0_init_34 : decode cX0_init 34 = .ok (.iload_n 1, 1) := by decide +kernel
theorem dX0_init_35 : decode cX0_init 35 = .ok (.iconst 4, 1) := by decide +kernel
theorem dX0_init_36 : decode cX0_init 36 = .ok (.if_icmp .ge 25, 3) := by decide +kernel
theorem dX0_init_39 : decode cX0_init 39 = .ok (.aload_n 0, 1) := by decide +kernel
theorem dX0_init_40 : decode cX0_init 40 = .ok (.getfield 9, 3) := by decide +kernel
theorem dX0_init_43 : decode cX0_init 43 = .ok (.iload_n 1, 1) := by decide +kernel
theorem dX0_init_44 : decode cX0_init 44 = .ok (.bipush 50, 2) := by decide +kernel
theorem dX0_init_46 : decode cX0_init 46 = .ok (.iastore, 1) := by decide +kernel
theorem dX0_init_47 : decode cX0_init 47 = .ok (.aload_n 0, 1) := by decide +kernel
theorem dX0_init_48 : decode cX0_init 48 = .ok (.getfield 15, 3) := by decide +kernel
theorem dX0_init_51 : decode cX0_init 51 = .ok (.iload_n 1, 1) := by decide +kernel
theorem dX0_init_52 : decode cX0_init 52 = .ok (.bipush 20, 2) := by decide +kernel
theorem dX0_init_54 : decode cX0_init 54 = .ok (.iastore, 1) := by decide +kernel
theorem dX0_init_55 : decode cX0_init 55 = .ok (.iinc 1 1, 3) := by decide +kernel
theorem dX0_init_58 : decode cX0_init 58 = .ok (.goto (-24), 3) := by decide +kernel
theorem dX0_init_61 : decode cX0_init 61 = .ok (.return_, 1) := by decide +kernel
theorem dX0_learn_0 : decode cX0_learn 0 = .ok (.aload_n 0, 1) := by decide +kernel
theorem dX0_learn_1 : decode cX0_learn 1 = .ok (.getfield 15, 3) := by decide +kernel
theorem dX0_learn_4 : decode cX0_learn 4 = .ok (.iload_n 1, 1) := by decide +kernel
theorem dX0_learn_5 : decode cX0_learn 5 = .ok (.invokestatic 24, 3) := by decide +kernel
theorem dX0_learn_8 : decode cX0_learn 8 = .ok (.iload_n 2, 1) := by decide +kernel
theorem dX0_learn_9 : decode cX0_learn 9 = .ok (.iconst 4, 1) := by decide +kernel
theorem dX0_learn_10 : decode cX0_learn 10 = .ok (.invokestatic 28, 3) := by decide +kernel
theorem dX0_learn_13 : decode cX0_learn 13 = .ok (.iadd, 1) := by decide +kernel
theorem dX0_learn_14 : decode cX0_learn 14 = .ok (.istore_n 3, 1) := by decide +kernel
theorem dX0_learn_15 : decode cX0_learn 15 = .ok (.aload_n 0, 1) := by decide +kernel
theorem dX0_learn_16 : decode cX0_learn 16 = .ok (.getfield 15, 3) := by decide +kernel
theorem dX0_learn_19 : decode cX0_learn 19 = .ok (.iload_n 1, 1) := by decide +kernel
theorem dX0_learn_20 : decode cX0_learn 20 = .ok (.iconst 0, 1) := by decide +kernel
theorem dX0_learn_21 : decode cX0_learn 21 = .ok (.sipush 500, 3) := by decide +kernel
theorem dX0_learn_24 : decode cX0_learn 24 = .ok (.iload_n 3, 1) := by decide +kernel
theorem dX0_learn_25 : decode cX0_learn 25 = .ok (.invokestatic 34, 3) := by decide +kernel
theorem dX0_learn_28 : decode cX0_learn 28 = .ok (.invokestatic 37, 3) := by decide +kernel
theorem dX0_learn_31 : decode cX0_learn 31 = .ok (.invokestatic 40, 3) := by decide +kernel
theorem dX0_learn_34 : decode cX0_learn 34 = .ok (.return_, 1) := by decide +kernel
theorem dX1_init_0 : decode cX1_init 0 = .ok (.aload_n 0, 1) := by decide +kernel
theorem dX1_init_1 : decode cX1_init 1 = .ok (.invokespecial 3, 3) := by decide +kernel
theorem dX1_init_4 : decode cX1_init 4 = .ok (.aload_n 0, 1) := by decide +kernel
theorem dX1_init_5 : decode cX1_init 5 = .ok (.new 9, 3) := by decide +kernel
theorem dX1_init_8 : decode cX1_init 8 = .ok (.dup, 1) := by decide +kernel
theorem dX1_init_9 : decode cX1_init 9 = .ok (.invokespecial 11, 3) := by decide +kernel
theorem dX1_init_12 : decode cX1_init 12 = .ok (.putfield 12, 3) := by decide +kernel
theorem dX1_init_15 : decode cX1_init 15 = .ok (.aload_n 0, 1) := by decide +kernel
theorem dX1_init_16 : decode cX1_init 16 = .ok (.new 18, 3) := by decide +kernel
theorem dX1_init_19 : decode cX1_init 19 = .ok (.dup, 1) := by decide +kernel
theorem dX1_init_20 : decode cX1_init 20 = .ok (.invokespecial 20, 3) := by decide +kernel
theorem dX1_init_23 : decode cX1_init 23 = .ok (.putfield 21, 3) := by decide +kernel
theorem dX1_init_26 : decode cX1_init 26 = .ok (.aload_n 0, 1) := by decide +kernel
theorem dX1_init_27 : decode cX1_init 27 = .ok (.new 25, 3) := by decide +kernel
theorem dX1_init_30 : decode cX1_init 30 = .ok (.dup, 1) := by decide +kernel
theorem dX1_init_31 : decode cX1_init 31 = .ok (.invokespecial 27, 3) := by decide +kernel
theorem dX1_init_34 : decode cX1_init 34 = .ok (.putfield 28, 3) := by decide +kernel
theorem dX1_init_37 : decode cX1_init 37 = .ok (.aload_n 0, 1) := by decide +kernel
theorem dX1_init_38 : decode cX1_init 38 = .ok (.new 32, 3) := by decide +kernel
theorem dX1_init_41 : decode cX1_init 41 = .ok (.dup, 1) := by decide +kernel
theorem dX1_init_42 : decode cX1_init 42 = .ok (.invokespecial 34, 3) := by decide +kernel
theorem dX1_init_45 : decode cX1_init 45 = .ok (.putfield 35, 3) := by decide +kernel
theorem dX1_init_48 : decode cX1_init 48 = .ok (.aload_n 0, 1) := by decide +kernel
theorem dX1_init_49 : decode cX1_init 49 = .ok (.iconst 0, 1) := by decide +kernel
theorem dX1_init_50 : decode cX1_init 50 = .ok (.putfield 39, 3) := by decide +kernel
theorem dX1_init_53 : decode cX1_init 53 = .ok (.aload_n 0, 1) := by decide +kernel
theorem dX1_init_54 : decode cX1_init 54 = .ok (.iconst 0, 1) := by decide +kernel
theorem dX1_init_55 : decode cX1_init 55 = .ok (.putfield 43, 3) := by decide +kernel
theorem dX1_init_58 : decode cX1_init 58 = .ok (.aload_n 0, 1) := by decide +kernel
theorem dX1_init_59 : decode cX1_init 59 = .ok (.iconst 0, 1) := by decide +kernel
theorem dX1_init_60 : decode cX1_init 60 = .ok (.putfield 46, 3) := by decide +kernel
theorem dX1_init_63 : decode cX1_init 63 = .ok (.return_, 1) := by decide +kernel
theorem dX1_bring_0 : decode cX1_bring 0 = .ok (.aload_n 0, 1) := by decide +kernel
theorem dX1_bring_1 : decode cX1_bring 1 = .ok (.getfield 12, 3) := by decide +kernel
theorem dX1_bring_4 : decode cX1_bring 4 = .ok (.iload_n 1, 1) := by decide +kernel
theorem dX1_bring_5 : decode cX1_bring 5 = .ok (.invokevirtual 49, 3) := by decide +kernel
theorem dX1_bring_8 : decode cX1_bring 8 = .ok (.aload_n 0, 1) := by decide +kernel
theorem dX1_bring_9 : decode cX1_bring 9 = .ok (.dup, 1) := by decide +kernel
theorem dX1_bring_10 : decode cX1_bring 10 = .ok (.getfield 53, 3) := by decide +kernel
theorem dX1_bring_13 : decode cX1_bring 13 = .ok (.iconst 1, 1) := by decide +kernel
theorem dX1_bring_14 : decode cX1_bring 14 = .ok (.iadd, 1) := by decide +kernel
theorem dX1_bring_15 : decode cX1_bring 15 = .ok (.putfield 53, 3) := by decide +kernel
theorem dX1_bring_18 : decode cX1_bring 18 = .ok (.aload_n 0, 1) := by decide +kernel
theorem dX1_bring_19 : decode cX1_bring 19 = .ok (.getfield 39, 3) := by decide +kernel
theorem dX1_bring_22 : decode cX1_bring 22 = .ok (.tableswitch 103 0 5 #[38, 48, 55, 55, 62, 87], 38) := by decide +kernel
theorem dX1_bring_60 : decode cX1_bring 60 = .ok (.aload_n 0, 1) := by decide +kernel
theorem dX1_bring_61 : decode cX1_bring 61 = .ok (.getfield 12, 3) := by decide +kernel
theorem dX1_bring_64 : decode cX1_bring 64 = .ok (.invokevirtual 56, 3) := by decide +kernel
theorem dX1_bring_67 : decode cX1_bring 67 = .ok (.goto 58, 3) := by decide +kernel
theorem dX1_bring_70 : decode cX1_bring 70 = .ok (.aload_n 0, 1) := by decide +kernel
theorem dX1_bring_71 : decode cX1_bring 71 = .ok (.invokevirtual 59, 3) := by decide +kernel
theorem dX1_bring_74 : decode cX1_bring 74 = .ok (.goto 51, 3) := by decide +kernel
theorem dX1_bring_77 : decode cX1_bring 77 = .ok (.aload_n 0, 1) := by decide +kernel
theorem dX1_bring_78 : decode cX1_bring 78 = .ok (.invokevirtual 62, 3) := by decide +kernel
theorem dX1_bring_81 : decode cX1_bring 81 = .ok (.goto 44, 3) := by decide +kernel
theorem dX1_bring_84 : decode cX1_bring 84 = .ok (.aload_n 0, 1) := by decide +kernel
theorem dX1_bring_85 : decode cX1_bring 85 = .ok (.getfield 53, 3) := by decide +kernel
theorem dX1_bring_88 : decode cX1_bring 88 = .ok (.iconst 4, 1) := by decide +kernel
theorem dX1_bring_89 : decode cX1_bring 89 = .ok (.if_icmp .lt 36, 3) := by decide +kernel
theorem dX1_bring_92 : decode cX1_bring 92 = .ok (.aload_n 0, 1) := by decide +kernel
theorem dX1_bring_93 : decode cX1_bring 93 = .ok (.getfield 12, 3) := by decide +kernel
theorem dX1_bring_96 : decode cX1_bring 96 = .ok (.invokevirtual 65, 3) := by decide +kernel
theorem dX1_bring_99 : decode cX1_bring 99 = .ok (.ifCond .eq 26, 3) := by decide +kernel
theorem dX1_bring_102 : decode cX1_bring 102 = .ok (.aload_n 0, 1) := by decide +kernel
theorem dX1_bring_103 : decode cX1_bring 103 = .ok (.invokevirtual 69, 3) := by decide +kernel
theorem dX1_bring_106 : decode cX1_bring 106 = .ok (.goto 19, 3) := by decide +kernel
theorem dX1_bring_109 : decode cX1_bring 109 = .ok (.aload_n 0, 1) := by decide +kernel
theorem dX1_bring_110 : decode cX1_bring 110 = .ok (.getfield 53, 3) := by decide +kernel
theorem dX1_bring_113 : decode cX1_bring 113 = .ok (.iconst 2, 1) := by decide +kernel
theorem dX1_bring_114 : decode cX1_bring 114 = .ok (.if_icmp .lt 11, 3) := by decide +kernel
theorem dX1_bring_117 : decode cX1_bring 117 = .ok (.aload_n 0, 1) := by decide +kernel
theorem dX1_bring_118 : decode cX1_bring 118 = .ok (.iconst 4, 1) := by decide +kernel
theorem dX1_bring_119 : decode cX1_bring 119 = .ok (.invokevirtual 72, 3) := by decide +kernel
theorem dX1_bring_122 : decode cX1_bring 122 = .ok (.goto 3, 3) := by decide +kernel
theorem dX1_bring_125 : decode cX1_bring 125 = .ok (.return_, 1) := by decide +kernel
theorem dX1_gateOf_0 : decode cX1_gateOf 0 = .ok (.aload_n 0, 1) := by decide +kernel
theorem dX1_gateOf_1 : decode cX1_gateOf 1 = .ok (.invokevirtual 75, 3) := by decide +kernel
theorem dX1_gateOf_4 : decode cX1_gateOf 4 = .ok (.iload_n 1, 1) := by decide +kernel
theorem dX1_gateOf_5 : decode cX1_gateOf 5 = .ok (.if_icmp .eq 5, 3) := by decide +kernel
theorem dX1_gateOf_8 : decode cX1_gateOf 8 = .ok (.iconst 0, 1) := by decide +kernel
theorem dX1_gateOf_9 : decode cX1_gateOf 9 = .ok (.ireturn, 1) := by decide +kernel
theorem dX1_gateOf_10 : decode cX1_gateOf 10 = .ok (.aload_n 0, 1) := by decide +kernel
theorem dX1_gateOf_11 : decode cX1_gateOf 11 = .ok (.getfield 39, 3) := by decide +kernel
theorem dX1_gateOf_14 : decode cX1_gateOf 14 = .ok (.iconst 2, 1) := by decide +kernel
theorem dX1_gateOf_15 : decode cX1_gateOf 15 = .ok (.if_icmp .ne 5, 3) := by decide +kernel
theorem dX1_gateOf_18 : decode cX1_gateOf 18 = .ok (.iconst 2, 1) := by decide +kernel
theorem dX1_gateOf_19 : decode cX1_gateOf 19 = .ok (.ireturn, 1) := by decide +kernel
theorem dX1_gateOf_20 : decode cX1_gateOf 20 = .ok (.aload_n 0, 1) := by decide +kernel
theorem dX1_gateOf_21 : decode cX1_gateOf 21 = .ok (.getfield 39, 3) := by decide +kernel
theorem dX1_gateOf_24 : decode cX1_gateOf 24 = .ok (.iconst 3, 1) := by decide +kernel
theorem dX1_gateOf_25 : decode cX1_gateOf 25 = .ok (.if_icmp .eq 11, 3) := by decide +kernel
theorem dX1_gateOf_28 : decode cX1_gateOf 28 = .ok (.aload_n 0, 1) := by decide +kernel
theorem dX1_gateOf_29 : decode cX1_gateOf 29 = .ok (.getfield 39, 3) := by decide +kernel
theorem dX1_gateOf_32 : decode cX1_gateOf 32 = .ok (.iconst 5, 1) := by decide +kernel
theorem dX1_gateOf_33 : decode cX1_gateOf 33 = .ok (.if_icmp .ne 7, 3) := by decide +kernel
theorem dX1_gateOf_36 : decode cX1_gateOf 36 = .ok (.iconst 1, 1) := by decide +kernel
theorem dX1_gateOf_37 : decode cX1_gateOf 37 = .ok (.goto 4, 3) := by decide +kernel
theorem dX1_gateOf_40 : decode cX1_gateOf 40 = .ok (.iconst 0, 1) := by decide +kernel
theorem dX1_gateOf_41 : decode cX1_gateOf 41 = .ok (.ireturn, 1) := by decide +kernel
theorem dX1_startBatch_0 : decode cX1_startBatch 0 = .ok (.aload_n 0, 1) := by decide +kernel
theorem dX1_startBatch_1 : decode cX1_startBatch 1 = .ok (.getfield 79, 3) := by decide +kernel
theorem dX1_startBatch_4 : decode cX1_startBatch 4 = .ok (.istore_n 1, 1) := by decide +kernel
theorem dX1_startBatch_5 : decode cX1_startBatch 5 = .ok (.aload_n 0, 1) := by decide +kernel
theorem dX1_startBatch_6 : decode cX1_startBatch 6 = .ok (.dup, 1) := by decide +kernel
theorem dX1_startBatch_7 : decode cX1_startBatch 7 = .ok (.getfield 79, 3) := by decide +kernel
theorem dX1_startBatch_10 : decode cX1_startBatch 10 = .ok (.iconst 1, 1) := by decide +kernel
theorem dX1_startBatch_11 : decode cX1_startBatch 11 = .ok (.iadd, 1) := by decide +kernel
theorem dX1_startBatch_12 : decode cX1_startBatch 12 = .ok (.putfield 79, 3) := by decide +kernel
theorem dX1_startBatch_15 : decode cX1_startBatch 15 = .ok (.aload_n 0, 1) := by decide +kernel
theorem dX1_startBatch_16 : decode cX1_startBatch 16 = .ok (.iconst 0, 1) := by decide +kernel
theorem dX1_startBatch_17 : decode cX1_startBatch 17 = .ok (.invokevirtual 82, 3) := by decide +kernel
theorem dX1_startBatch_20 : decode cX1_startBatch 20 = .ok (.iload_n 1, 1) := by decide +kernel
theorem dX1_startBatch_21 : decode cX1_startBatch 21 = .ok (.ireturn, 1) := by decide +kernel
theorem dX1_halt_0 : decode cX1_halt 0 = .ok (.aload_n 0, 1) := by decide +kernel
theorem dX1_halt_1 : decode cX1_halt 1 = .ok (.aload_n 0, 1) := by decide +kernel
theorem dX1_halt_2 : decode cX1_halt 2 = .ok (.getfield 39, 3) := by decide +kernel
theorem dX1_halt_5 : decode cX1_halt 5 = .ok (.putfield 46, 3) := by decide +kernel
theorem dX1_halt_8 : decode cX1_halt 8 = .ok (.aload_n 0, 1) := by decide +kernel
theorem dX1_halt_9 : decode cX1_halt 9 = .ok (.bipush 6, 2) := by decide +kernel
theorem dX1_halt_11 : decode cX1_halt 11 = .ok (.invokevirtual 72, 3) := by decide +kernel
theorem dX1_halt_14 : decode cX1_halt 14 = .ok (.aload_n 0, 1) := by decide +kernel
theorem dX1_halt_15 : decode cX1_halt 15 = .ok (.iload_n 1, 1) := by decide +kernel
theorem dX1_halt_16 : decode cX1_halt 16 = .ok (.putfield 43, 3) := by decide +kernel
theorem dX1_halt_19 : decode cX1_halt 19 = .ok (.return_, 1) := by decide +kernel
theorem dX1_goOn_0 : decode cX1_goOn 0 = .ok (.aload_n 0, 1) := by decide +kernel
theorem dX1_goOn_1 : decode cX1_goOn 1 = .ok (.getfield 43, 3) := by decide +kernel
theorem dX1_goOn_4 : decode cX1_goOn 4 = .ok (.iconst 1, 1) := by decide +kernel
theorem dX1_goOn_5 : decode cX1_goOn 5 = .ok (.if_icmp .eq 11, 3) := by decide +kernel
theorem dX1_goOn_8 : decode cX1_goOn 8 = .ok (.aload_n 0, 1) := by decide +kernel
theorem dX1_goOn_9 : decode cX1_goOn 9 = .ok (.getfield 43, 3) := by decide +kernel
theorem dX1_goOn_12 : decode cX1_goOn 12 = .ok (.iconst 2, 1) := by decide +kernel
theorem dX1_goOn_13 : decode cX1_goOn 13 = .ok (.if_icmp .ne 10, 3) := by decide +kernel
theorem dX1_goOn_16 : decode cX1_goOn 16 = .ok (.aload_n 0, 1) := by decide +kernel
theorem dX1_goOn_17 : decode cX1_goOn 17 = .ok (.invokevirtual 85, 3) := by decide +kernel
theorem dX1_goOn_20 : decode cX1_goOn 20 = .ok (.goto 16, 3) := by decide +kernel
theorem dX1_goOn_23 : decode cX1_goOn 23 = .ok (.aload_n 0, 1) := by decide +kernel
theorem dX1_goOn_24 : decode cX1_goOn 24 = .ok (.iconst 0, 1) := by decide +kernel
theorem dX1_goOn_25 : decode cX1_goOn 25 = .ok (.putfield 88, 3) := by decide +kernel
theorem dX1_goOn_28 : decode cX1_goOn 28 = .ok (.aload_n 0, 1) := by decide +kernel
theorem dX1_goOn_29 : decode cX1_goOn 29 = .ok (.aload_n 0, 1) := by decide +kernel
theorem dX1_goOn_30 : decode cX1_goOn 30 = .ok (.getfield 46, 3) := by decide +kernel
theorem dX1_goOn_33 : decode cX1_goOn 33 = .ok (.invokevirtual 72, 3) := by decide +kernel
theorem dX1_goOn_36 : decode cX1_goOn 36 = .ok (.return_, 1) := by decide +kernel
theorem dX1_breakOff_0 : decode cX1_breakOff 0 = .ok (.aload_n 0, 1) := by decide +kernel
theorem dX1_breakOff_1 : decode cX1_breakOff 1 = .ok (.getfield 91, 3) := by decide +kernel
theorem dX1_breakOff_4 : decode cX1_breakOff 4 = .ok (.ifCond .eq 10, 3) := by decide +kernel
theorem dX1_breakOff_7 : decode cX1_breakOff 7 = .ok (.aload_n 0, 1) := by decide +kernel
theorem dX1_breakOff_8 : decode cX1_breakOff 8 = .ok (.invokevirtual 95, 3) := by decide +kernel
theorem dX1_breakOff_11 : decode cX1_breakOff 11 = .ok (.goto 4, 3) := by decide +kernel
theorem dX1_breakOff_14 : decode cX1_breakOff 14 = .ok (.iconst 0, 1) := by decide +kernel
theorem dX1_breakOff_15 : decode cX1_breakOff 15 = .ok (.istore_n 1, 1) := by decide +kernel
theorem dX1_breakOff_16 : decode cX1_breakOff 16 = .ok (.aload_n 0, 1) := by decide +kernel
theorem dX1_breakOff_17 : decode cX1_breakOff 17 = .ok (.iconst 0, 1) := by decide +kernel
theorem dX1_breakOff_18 : decode cX1_breakOff 18 = .ok (.invokevirtual 72, 3) := by decide +kernel
theorem dX1_breakOff_21 : decode cX1_breakOff 21 = .ok (.iload_n 1, 1) := by decide +kernel
theorem dX1_breakOff_22 : decode cX1_breakOff 22 = .ok (.ireturn, 1) := by decide +kernel
theorem dX1_tareStep_0 : decode cX1_tareStep 0 = .ok (.aload_n 0, 1) := by decide +kernel
theorem dX1_tareStep_1 : decode cX1_tareStep 1 = .ok (.getfield 12, 3) := by decide +kernel
theorem dX1_tareStep_4 : decode cX1_tareStep 4 = .ok (.invokevirtual 65, 3) := by decide +kernel
theorem dX1_tareStep_7 : decode cX1_tareStep 7 = .ok (.ifCond .eq 52, 3) := by decide +kernel
theorem dX1_tareStep_10 : decode cX1_tareStep 10 = .ok (.aload_n 0, 1) := by decide +kernel
theorem dX1_tareStep_11 : decode cX1_tareStep 11 = .ok (.getfield 12, 3) := by decide +kernel
theorem dX1_tareStep_14 : decode cX1_tareStep 14 = .ok (.aload_n 0, 1) := by decide +kernel
theorem dX1_tareStep_15 : decode cX1_tareStep 15 = .ok (.getfield 12, 3) := by decide +kernel
theorem dX1_tareStep_18 : decode cX1_tareStep 18 = .ok (.invokevirtual 98, 3) := by decide +kernel
theorem dX1_tareStep_21 : decode cX1_tareStep 21 = .ok (.putfield 101, 3) := by decide +kernel
theorem dX1_tareStep_24 : decode cX1_tareStep 24 = .ok (.aload_n 0, 1) := by decide +kernel
theorem dX1_tareStep_25 : decode cX1_tareStep 25 = .ok (.iconst 1, 1) := by decide +kernel
theorem dX1_tareStep_26 : decode cX1_tareStep 26 = .ok (.putfield 91, 3) := by decide +kernel
theorem dX1_tareStep_29 : decode cX1_tareStep 29 = .ok (.aload_n 0, 1) := by decide +kernel
theorem dX1_tareStep_30 : decode cX1_tareStep 30 = .ok (.aload_n 0, 1) := by decide +kernel
theorem dX1_tareStep_31 : decode cX1_tareStep 31 = .ok (.invokevirtual 104, 3) := by decide +kernel
theorem dX1_tareStep_34 : decode cX1_tareStep 34 = .ok (.aload_n 0, 1) := by decide +kernel
theorem dX1_tareStep_35 : decode cX1_tareStep 35 = .ok (.getfield 21, 3) := by decide +kernel
theorem dX1_tareStep_38 : decode cX1_tareStep 38 = .ok (.getfield 107, 3) := by decide +kernel
theorem dX1_tareStep_41 : decode cX1_tareStep 41 = .ok (.aload_n 0, 1) := by decide +kernel
theorem dX1_tareStep_42 : decode cX1_tareStep 42 = .ok (.invokevirtual 75, 3) := by decide +kernel
theorem dX1_tareStep_45 : decode cX1_tareStep 45 = .ok (.invokestatic 111, 3) := by decide +kernel
theorem dX1_tareStep_48 : decode cX1_tareStep 48 = .ok (.if_icmp .le 7, 3) := by decide +kernel
theorem dX1_tareStep_51 : decode cX1_tareStep 51 = .ok (.iconst 2, 1) := by decide +kernel
theorem dX1_tareStep_52 : decode cX1_tareStep 52 = .ok (.goto 4, 3) := by decide +kernel
theorem dX1_tareStep_55 : decode cX1_tareStep 55 = .ok (.iconst 3, 1) := by decide +kernel
theorem dX1_tareStep_56 : decode cX1_tareStep 56 = .ok (.invokevirtual 72, 3) := by decide +kernel
theorem dX1_tareStep_59 : decode cX1_tareStep 59 = .ok (.return_, 1) := by decide +kernel
theorem dX1_feed_0 : decode cX1_feed 0 = .ok (.aload_n 0, 1) := by decide +kernel
theorem dX1_feed_1 : decode cX1_feed 1 = .ok (.getfield 12, 3) := by decide +kernel
theorem dX1_feed_4 : decode cX1_feed 4 = .ok (.invokevirtual 115, 3) := by decide +kernel
theorem dX1_feed_7 : decode cX1_feed 7 = .ok (.istore_n 1, 1) := by decide +kernel
theorem dX1_feed_8 : decode cX1_feed 8 = .ok (.iload_n 1, 1) := by decide +kernel
theorem dX1_feed_9 : decode cX1_feed 9 = .ok (.aload_n 0, 1) := by decide +kernel
theorem dX1_feed_10 : decode cX1_feed 10 = .ok (.getfield 118, 3) := by decide +kernel
theorem dX1_feed_13 : decode cX1_feed 13 = .ok (.if_icmp .le 16, 3) := by decide +kernel
theorem dX1_feed_16 : decode cX1_feed 16 = .ok (.aload_n 0, 1) := by decide +kernel
theorem dX1_feed_17 : decode cX1_feed 17 = .ok (.iload_n 1, 1) := by decide +kernel
theorem dX1_feed_18 : decode cX1_feed 18 = .ok (.putfield 118, 3) := by decide +kernel
theorem dX1_feed_21 : decode cX1_feed 21 = .ok (.aload_n 0, 1) := by decide +kernel
theorem dX1_feed_22 : decode cX1_feed 22 = .ok (.iconst 0, 1) := by decide +kernel
theorem dX1_feed_23 : decode cX1_feed 23 = .ok (.putfield 88, 3) := by decide +kernel
theorem dX1_feed_26 : decode cX1_feed 26 = .ok (.goto 13, 3) := by decide +kernel
theorem dX1_feed_29 : decode cX1_feed 29 = .ok (.aload_n 0, 1) := by decide +kernel
theorem dX1_feed_30 : decode cX1_feed 30 = .ok (.dup, 1) := by decide +kernel
theorem dX1_feed_31 : decode cX1_feed 31 = .ok (.getfield 88, 3) := by decide +kernel
theorem dX1_feed_34 : decode cX1_feed 34 = .ok (.iconst 1, 1) := by decide +kernel
theorem dX1_feed_35 : decode cX1_feed 35 = .ok (.iadd, 1) := by decide +kernel
theorem dX1_feed_36 : decode cX1_feed 36 = .ok (.putfield 88, 3) := by decide +kernel
theorem dX1_feed_39 : decode cX1_feed 39 = .ok (.aload_n 0, 1) := by decide +kernel
theorem dX1_feed_40 : decode cX1_feed 40 = .ok (.getfield 39, 3) := by decide +kernel
theorem dX1_feed_43 : decode cX1_feed 43 = .ok (.iconst 2, 1) := by decide +kernel
theorem dX1_feed_44 : decode cX1_feed 44 = .ok (.if_icmp .ne 13, 3) := by decide +kernel
theorem dX1_feed_47 : decode cX1_feed 47 = .ok (.aload_n 0, 1) := by decide +kernel
theorem dX1_feed_48 : decode cX1_feed 48 = .ok (.getfield 21, 3) := by decide +kernel
theorem dX1_feed_51 : decode cX1_feed 51 = .ok (.getfield 107, 3) := by decide +kernel
theorem dX1_feed_54 : decode cX1_feed 54 = .ok (.goto 10, 3) := by decide +kernel
theorem dX1_feed_57 : decode cX1_feed 57 = .ok (.aload_n 0, 1) := by decide +kernel
theorem dX1_feed_58 : decode cX1_feed 58 = .ok (.getfield 21, 3) := by decide +kernel
theorem dX1_feed_61 : decode cX1_feed 61 = .ok (.getfield 121, 3) := by decide +kernel
theorem dX1_feed_64 : decode cX1_feed 64 = .ok (.astore_n 2, 1) := by decide +kernel
theorem dX1_feed_65 : decode cX1_feed 65 = .ok (.iload_n 1, 1) := by decide +kernel
theorem dX1_feed_66 : decode cX1_feed 66 = .ok (.aload_n 0, 1) := by decide +kernel
theorem dX1_feed_67 : decode cX1_feed 67 = .ok (.invokevirtual 104, 3) := by decide +kernel
theorem dX1_feed_70 : decode cX1_feed 70 = .ok (.aload_n 2, 1) := by decide +kernel
theorem dX1_feed_71 : decode cX1_feed 71 = .ok (.aload_n 0, 1) := by decide +kernel
theorem dX1_feed_72 : decode cX1_feed 72 = .ok (.invokevirtual 75, 3) := by decide +kernel
theorem dX1_feed_75 : decode cX1_feed 75 = .ok (.invokestatic 111, 3) := by decide +kernel
theorem dX1_feed_78 : decode cX1_feed 78 = .ok (.isub, 1) := by decide +kernel
theorem dX1_feed_79 : decode cX1_feed 79 = .ok (.if_icmp .lt 23, 3) := by decide +kernel
theorem dX1_feed_82 : decode cX1_feed 82 = .ok (.aload_n 0, 1) := by decide +kernel
theorem dX1_feed_83 : decode cX1_feed 83 = .ok (.aload_n 0, 1) := by decide +kernel
theorem dX1_feed_84 : decode cX1_feed 84 = .ok (.getfield 39, 3) := by decide +kernel
theorem dX1_feed_87 : decode cX1_feed 87 = .ok (.iconst 2, 1) := by decide +kernel
theorem dX1_feed_88 : decode cX1_feed 88 = .ok (.if_icmp .ne 7, 3) := by decide +kernel
theorem dX1_feed_91 : decode cX1_feed 91 = .ok (.iconst 3, 1) := by decide +kernel
theorem dX1_feed_92 : decode cX1_feed 92 = .ok (.goto 4, 3) := by decide +kernel
theorem dX1_feed_95 : decode cX1_feed 95 = .ok (.iconst 4, 1) := by decide +kernel
theorem dX1_feed_96 : decode cX1_feed 96 = .ok (.invokevirtual 72, 3) := by decide +kernel
theorem dX1_feed_99 : decode cX1_feed 99 = .ok (.goto 17, 3) := by decide +kernel
theorem dX1_feed_102 : decode cX1_feed 102 = .ok (.aload_n 0, 1) := by decide +kernel
theorem dX1_feed_103 : decode cX1_feed 103 = .ok (.getfield 88, 3) := by decide +kernel
theorem dX1_feed_106 : decode cX1_feed 106 = .ok (.bipush 20, 2) := by decide +kernel
theorem dX1_feed_108 : decode cX1_feed 108 = .ok (.if_icmp .lt 8, 3) := by decide +kernel
theorem dX1_feed_111 : decode cX1_feed 111 = .ok (.aload_n 0, 1) := by decide +kernel
theorem dX1_feed_112 : decode cX1_feed 112 = .ok (.iconst 3, 1) := by decide +kernel
theorem dX1_feed_113 : decode cX1_feed 113 = .ok (.invokevirtual 124, 3) := by decide +kernel
theorem dX1_feed_116 : decode cX1_feed 116 = .ok (.return_, 1) := by decide +kernel
theorem dX1_weigh_0 : decode cX1_weigh 0 = .ok (.aload_n 0, 1) := by decide +kernel
theorem dX1_weigh_1 : decode cX1_weigh 1 = .ok (.getfield 12, 3) := by decide +kernel
theorem dX1_weigh_4 : decode cX1_weigh 4 = .ok (.invokevirtual 115, 3) := by decide +kernel
theorem dX1_weigh_7 : decode cX1_weigh 7 = .ok (.aload_n 0, 1) := by decide +kernel
theorem dX1_weigh_8 : decode cX1_weigh 8 = .ok (.invokevirtual 104, 3) := by decide +kernel
theorem dX1_weigh_11 : decode cX1_weigh 11 = .ok (.isub, 1) := by decide +kernel
theorem dX1_weigh_12 : decode cX1_weigh 12 = .ok (.istore_n 1, 1) := by decide +kernel
theorem dX1_weigh_13 : decode cX1_weigh 13 = .ok (.aload_n 0, 1) := by decide +kernel
theorem dX1_weigh_14 : decode cX1_weigh 14 = .ok (.getfield 35, 3) := by decide +kernel
theorem dX1_weigh_17 : decode cX1_weigh 17 = .ok (.getfield 127, 3) := by decide +kernel
theorem dX1_weigh_20 : decode cX1_weigh 20 = .ok (.aload_n 0, 1) := by decide +kernel
theorem dX1_weigh_21 : decode cX1_weigh 21 = .ok (.getfield 130, 3) := by decide +kernel
theorem dX1_weigh_24 : decode cX1_weigh 24 = .ok (.invokestatic 111, 3) := by decide +kernel
theorem dX1_weigh_27 : decode cX1_weigh 27 = .ok (.istore_n 2, 1) := by decide +kernel
theorem dX1_weigh_28 : decode cX1_weigh 28 = .ok (.aload_n 0, 1) := by decide +kernel
theorem dX1_weigh_29 : decode cX1_weigh 29 = .ok (.getfield 133, 3) := by decide +kernel
theorem dX1_weigh_32 : decode cX1_weigh 32 = .ok (.ifCond .ne 20, 3) := by decide +kernel
theorem dX1_weigh_35 : decode cX1_weigh 35 = .ok (.aload_n 0, 1) := by decide +kernel
theorem dX1_weigh_36 : decode cX1_weigh 36 = .ok (.iconst 1, 1) := by decide +kernel
theorem dX1_weigh_37 : decode cX1_weigh 37 = .ok (.putfield 133, 3) := by decide +kernel
theorem dX1_weigh_40 : decode cX1_weigh 40 = .ok (.aload_n 0, 1) := by decide +kernel
theorem dX1_weigh_41 : decode cX1_weigh 41 = .ok (.getfield 21, 3) := by decide +kernel
theorem dX1_weigh_44 : decode cX1_weigh 44 = .ok (.aload_n 0, 1) := by decide +kernel
theorem dX1_weigh_45 : decode cX1_weigh 45 = .ok (.invokevirtual 75, 3) := by decide +kernel
theorem dX1_weigh_48 : decode cX1_weigh 48 = .ok (.iload_n 1, 1) := by decide +kernel
theorem dX1_weigh_49 : decode cX1_weigh 49 = .ok (.invokevirtual 136, 3) := by decide +kernel
theorem dX1_weigh_52 : decode cX1_weigh 52 = .ok (.iload_n 1, 1) := by decide +kernel
theorem dX1_weigh_53 : decode cX1_weigh 53 = .ok (.iload_n 2, 1) := by decide +kernel
theorem dX1_weigh_54 : decode cX1_weigh 54 = .ok (.ineg, 1) := by decide +kernel
theorem dX1_weigh_55 : decode cX1_weigh 55 = .ok (.if_icmp .ge 10, 3) := by decide +kernel
theorem dX1_weigh_58 : decode cX1_weigh 58 = .ok (.aload_n 0, 1) := by decide +kernel
theorem dX1_weigh_59 : decode cX1_weigh 59 = .ok (.invokevirtual 140, 3) := by decide +kernel
theorem dX1_weigh_62 : decode cX1_weigh 62 = .ok (.goto 20, 3) := by decide +kernel
theorem dX1_weigh_65 : decode cX1_weigh 65 = .ok (.iload_n 1, 1) := by decide +kernel
theorem dX1_weigh_66 : decode cX1_weigh 66 = .ok (.iload_n 2, 1) := by decide +kernel
theorem dX1_weigh_67 : decode cX1_weigh 67 = .ok (.if_icmp .le 11, 3) := by decide +kernel
theorem dX1_weigh_70 : decode cX1_weigh 70 = .ok (.aload_n 0, 1) := by decide +kernel
theorem dX1_weigh_71 : decode cX1_weigh 71 = .ok (.iconst 2, 1) := by decide +kernel
theorem dX1_weigh_72 : decode cX1_weigh 72 = .ok (.invokevirtual 124, 3) := by decide +kernel
theorem dX1_weigh_75 : decode cX1_weigh 75 = .ok (.goto 7, 3) := by decide +kernel
theorem dX1_weigh_78 : decode cX1_weigh 78 = .ok (.aload_n 0, 1) := by decide +kernel
theorem dX1_weigh_79 : decode cX1_weigh 79 = .ok (.invokevirtual 85, 3) := by decide +kernel
theorem dX1_weigh_82 : decode cX1_weigh 82 = .ok (.return_, 1) := by decide +kernel
theorem dX1_jog_0 : decode cX1_jog 0 = .ok (.aload_n 0, 1) := by decide +kernel
theorem dX1_jog_1 : decode cX1_jog 1 = .ok (.getfield 143, 3) := by decide +kernel
theorem dX1_jog_4 : decode cX1_jog 4 = .ok (.iconst 5, 1) := by decide +kernel
theorem dX1_jog_5 : decode cX1_jog 5 = .ok (.if_icmp .ge 21, 3) := by decide +kernel
theorem dX1_jog_8 : decode cX1_jog 8 = .ok (.aload_n 0, 1) := by decide +kernel
theorem dX1_jog_9 : decode cX1_jog 9 = .ok (.dup, 1) := by decide +kernel
theorem dX1_jog_10 : decode cX1_jog 10 = .ok (.getfield 143, 3) := by decide +kernel
theorem dX1_jog_13 : decode cX1_jog 13 = .ok (.iconst 1, 1) := by decide +kernel
theorem dX1_jog_14 : decode cX1_jog 14 = .ok (.iadd, 1) := by decide +kernel
theorem dX1_jog_15 : decode cX1_jog 15 = .ok (.putfield 143, 3) := by decide +kernel
theorem dX1_jog_18 : decode cX1_jog 18 = .ok (.aload_n 0, 1) := by decide +kernel
theorem dX1_jog_19 : decode cX1_jog 19 = .ok (.iconst 5, 1) := by decide +kernel
theorem dX1_jog_20 : decode cX1_jog 20 = .ok (.invokevirtual 72, 3) := by decide +kernel
theorem dX1_jog_23 : decode cX1_jog 23 = .ok (.goto 8, 3) := by decide +kernel
theorem dX1_jog_26 : decode cX1_jog 26 = .ok (.aload_n 0, 1) := by decide +kernel
theorem dX1_jog_27 : decode cX1_jog 27 = .ok (.iconst 1, 1) := by decide +kernel
theorem dX1_jog_28 : decode cX1_jog 28 = .ok (.invokevirtual 124, 3) := by decide +kernel
theorem dX1_jog_31 : decode cX1_jog 31 = .ok (.return_, 1) := by decide +kernel
theorem dX1_finishStep_0 : decode cX1_finishStep 0 = .ok (.aload_n 0, 1) := by decide +kernel
theorem dX1_finishStep_1 : decode cX1_finishStep 1 = .ok (.invokevirtual 95, 3) := by decide +kernel
theorem dX1_finishStep_4 : decode cX1_finishStep 4 = .ok (.pop, 1) := by decide +kernel
theorem dX1_finishStep_5 : decode cX1_finishStep 5 = .ok (.aload_n 0, 1) := by decide +kernel
theorem dX1_finishStep_6 : decode cX1_finishStep 6 = .ok (.getfield 130, 3) := by decide +kernel
theorem dX1_finishStep_9 : decode cX1_finishStep 9 = .ok (.iconst 1, 1) := by decide +kernel
theorem dX1_finishStep_10 : decode cX1_finishStep 10 = .ok (.iadd, 1) := by decide +kernel
theorem dX1_finishStep_11 : decode cX1_finishStep 11 = .ok (.aload_n 0, 1) := by decide +kernel
theorem dX1_finishStep_12 : decode cX1_finishStep 12 = .ok (.getfield 35, 3) := by decide +kernel
theorem dX1_finishStep_15 : decode cX1_finishStep 15 = .ok (.getfield 146, 3) := by decide +kernel
theorem dX1_finishStep_18 : decode cX1_finishStep 18 = .ok (.if_icmp .ge 16, 3) := by decide +kernel
theorem dX1_finishStep_21 : decode cX1_finishStep 21 = .ok (.aload_n 0, 1) := by decide +kernel
theorem dX1_finishStep_22 : decode cX1_finishStep 22 = .ok (.aload_n 0, 1) := by decide +kernel
theorem dX1_finishStep_23 : decode cX1_finishStep 23 = .ok (.getfield 130, 3) := by decide +kernel
theorem dX1_finishStep_26 : decode cX1_finishStep 26 = .ok (.iconst 1, 1) := by decide +kernel
theorem dX1_finishStep_27 : decode cX1_finishStep 27 = .ok (.iadd, 1) := by decide +kernel
theorem dX1_finishStep_28 : decode cX1_finishStep 28 = .ok (.invokevirtual 82, 3) := by decide +kernel
theorem dX1_finishStep_31 : decode cX1_finishStep 31 = .ok (.goto 18, 3) := by decide +kernel
theorem dX1_finishStep_34 : decode cX1_finishStep 34 = .ok (.aload_n 0, 1) := by decide +kernel
theorem dX1_finishStep_35 : decode cX1_finishStep 35 = .ok (.dup, 1) := by decide +kernel
theorem dX1_finishStep_36 : decode cX1_finishStep 36 = .ok (.getfield 149, 3) := by decide +kernel
theorem dX1_finishStep_39 : decode cX1_finishStep 39 = .ok (.iconst 1, 1) := by decide +kernel
theorem dX1_finishStep_40 : decode cX1_finishStep 40 = .ok (.iadd, 1) := by decide +kernel
theorem dX1_finishStep_41 : decode cX1_finishStep 41 = .ok (.putfield 149, 3) := by decide +kernel
theorem dX1_finishStep_44 : decode cX1_finishStep 44 = .ok (.aload_n 0, 1) := by decide +kernel
theorem dX1_finishStep_45 : decode cX1_finishStep 45 = .ok (.iconst 0, 1) := by decide +kernel
theorem dX1_finishStep_46 : decode cX1_finishStep 46 = .ok (.invokevirtual 72, 3) := by decide +kernel
theorem dX1_finishStep_49 : decode cX1_finishStep 49 = .ok (.return_, 1) := by decide +kernel
theorem dX1_beginStep_0 : decode cX1_beginStep 0 = .ok (.aload_n 0, 1) := by decide +kernel
theorem dX1_beginStep_1 : decode cX1_beginStep 1 = .ok (.iload_n 1, 1) := by decide +kernel
theorem dX1_beginStep_2 : decode cX1_beginStep 2 = .ok (.putfield 130, 3) := by decide +kernel
theorem dX1_beginStep_5 : decode cX1_beginStep 5 = .ok (.aload_n 0, 1) := by decide +kernel
theorem dX1_beginStep_6 : decode cX1_beginStep 6 = .ok (.iconst 0, 1) := by decide +kernel
theorem dX1_beginStep_7 : decode cX1_beginStep 7 = .ok (.putfield 143, 3) := by decide +kernel
theorem dX1_beginStep_10 : decode cX1_beginStep 10 = .ok (.aload_n 0, 1) := by decide +kernel
theorem dX1_beginStep_11 : decode cX1_beginStep 11 = .ok (.iconst 0, 1) := by decide +kernel
theorem dX1_beginStep_12 : decode cX1_beginStep 12 = .ok (.putfield 88, 3) := by decide +kernel
theorem dX1_beginStep_15 : decode cX1_beginStep 15 = .ok (.aload_n 0, 1) := by decide +kernel
theorem dX1_beginStep_16 : decode cX1_beginStep 16 = .ok (.iconst 0, 1) := by decide +kernel
theorem dX1_beginStep_17 : decode cX1_beginStep 17 = .ok (.putfield 118, 3) := by decide +kernel
theorem dX1_beginStep_20 : decode cX1_beginStep 20 = .ok (.aload_n 0, 1) := by decide +kernel
theorem dX1_beginStep_21 : decode cX1_beginStep 21 = .ok (.iconst 0, 1) := by decide +kernel
theorem dX1_beginStep_22 : decode cX1_beginStep 22 = .ok (.putfield 91, 3) := by decide +kernel
theorem dX1_beginStep_25 : decode cX1_beginStep 25 = .ok (.aload_n 0, 1) := by decide +kernel
theorem dX1_beginStep_26 : decode cX1_beginStep 26 = .ok (.iconst 0, 1) := by decide +kernel
theorem dX1_beginStep_27 : decode cX1_beginStep 27 = .ok (.putfield 133, 3) := by decide +kernel
theorem dX1_beginStep_30 : decode cX1_beginStep 30 = .ok (.aload_n 0, 1) := by decide +kernel
theorem dX1_beginStep_31 : decode cX1_beginStep 31 = .ok (.iconst 1, 1) := by decide +kernel
theorem dX1_beginStep_32 : decode cX1_beginStep 32 = .ok (.invokevirtual 72, 3) := by decide +kernel
theorem dX1_beginStep_35 : decode cX1_beginStep 35 = .ok (.return_, 1) := by decide +kernel
theorem dX1_enter_0 : decode cX1_enter 0 = .ok (.aload_n 0, 1) := by decide +kernel
theorem dX1_enter_1 : decode cX1_enter 1 = .ok (.iload_n 1, 1) := by decide +kernel
theorem dX1_enter_2 : decode cX1_enter 2 = .ok (.putfield 39, 3) := by decide +kernel
theorem dX1_enter_5 : decode cX1_enter 5 = .ok (.aload_n 0, 1) := by decide +kernel
theorem dX1_enter_6 : decode cX1_enter 6 = .ok (.iconst 0, 1) := by decide +kernel
theorem dX1_enter_7 : decode cX1_enter 7 = .ok (.putfield 53, 3) := by decide +kernel
theorem dX1_enter_10 : decode cX1_enter 10 = .ok (.aload_n 0, 1) := by decide +kernel
theorem dX1_enter_11 : decode cX1_enter 11 = .ok (.iconst 0, 1) := by decide +kernel
theorem dX1_enter_12 : decode cX1_enter 12 = .ok (.putfield 43, 3) := by decide +kernel
theorem dX1_enter_15 : decode cX1_enter 15 = .ok (.return_, 1) := by decide +kernel
theorem dX1_bookNet_0 : decode cX1_bookNet 0 = .ok (.iconst 0, 1) := by decide +kernel
theorem dX1_bookNet_1 : decode cX1_bookNet 1 = .ok (.aload_n 0, 1) := by decide +kernel
theorem dX1_bookNet_2 : decode cX1_bookNet 2 = .ok (.getfield 12, 3) := by decide +kernel
theorem dX1_bookNet_5 : decode cX1_bookNet 5 = .ok (.invokevirtual 115, 3) := by decide +kernel
theorem dX1_bookNet_8 : decode cX1_bookNet 8 = .ok (.invokestatic 152, 3) := by decide +kernel
theorem dX1_bookNet_11 : decode cX1_bookNet 11 = .ok (.istore_n 1, 1) := by decide +kernel
theorem dX1_bookNet_12 : decode cX1_bookNet 12 = .ok (.aload_n 0, 1) := by decide +kernel
theorem dX1_bookNet_13 : decode cX1_bookNet 13 = .ok (.invokevirtual 75, 3) := by decide +kernel
theorem dX1_bookNet_16 : decode cX1_bookNet 16 = .ok (.istore_n 2, 1) := by decide +kernel
theorem dX1_bookNet_17 : decode cX1_bookNet 17 = .ok (.aload_n 0, 1) := by decide +kernel
theorem dX1_bookNet_18 : decode cX1_bookNet 18 = .ok (.getfield 28, 3) := by decide +kernel
theorem dX1_bookNet_21 : decode cX1_bookNet 21 = .ok (.iload_n 2, 1) := by decide +kernel
theorem dX1_bookNet_22 : decode cX1_bookNet 22 = .ok (.iload_n 1, 1) := by decide +kernel
theorem dX1_bookNet_23 : decode cX1_bookNet 23 = .ok (.aload_n 0, 1) := by decide +kernel
theorem dX1_bookNet_24 : decode cX1_bookNet 24 = .ok (.getfield 79, 3) := by decide +kernel
theorem dX1_bookNet_27 : decode cX1_bookNet 27 = .ok (.iconst 1, 1) := by decide +kernel
theorem dX1_bookNet_28 : decode cX1_bookNet 28 = .ok (.isub, 1) := by decide +kernel
theorem dX1_bookNet_29 : decode cX1_bookNet 29 = .ok (.invokevirtual 158, 3) := by decide +kernel
theorem dX1_bookNet_32 : decode cX1_bookNet 32 = .ok (.istore_n 3, 1) := by decide +kernel
theorem dX1_bookNet_33 : decode cX1_bookNet 33 = .ok (.aload_n 0, 1) := by decide +kernel
theorem dX1_bookNet_34 : decode cX1_bookNet 34 = .ok (.getfield 21, 3) := by decide +kernel
theorem dX1_bookNet_37 : decode cX1_bookNet 37 = .ok (.getfield 162, 3) := by decide +kernel
theorem dX1_bookNet_40 : decode cX1_bookNet 40 = .ok (.iload_n 2, 1) := by decide +kernel
theorem dX1_bookNet_41 : decode cX1_bookNet 41 = .ok (.iload_n 1, 1) := by decide +kernel
theorem dX1_bookNet_42 : decode cX1_bookNet 42 = .ok (.invokestatic 165, 3) := by decide +kernel
theorem dX1_bookNet_45 : decode cX1_bookNet 45 = .ok (.aload_n 0, 1) := by decide +kernel
theorem dX1_bookNet_46 : decode cX1_bookNet 46 = .ok (.getfield 21, 3) := by decide +kernel
theorem dX1_bookNet_49 : decode cX1_bookNet 49 = .ok (.getfield 169, 3) := by decide +kernel
theorem dX1_bookNet_52 : decode cX1_bookNet 52 = .ok (.iload_n 2, 1) := by decide +kernel
theorem dX1_bookNet_53 : decode cX1_bookNet 53 = .ok (.iload_n 1, 1) := by decide +kernel
theorem dX1_bookNet_54 : decode cX1_bookNet 54 = .ok (.iload_n 3, 1) := by decide +kernel
theorem dX1_bookNet_55 : decode cX1_bookNet 55 = .ok (.isub, 1) := by decide +kernel
theorem dX1_bookNet_56 : decode cX1_bookNet 56 = .ok (.invokestatic 165, 3) := by decide +kernel
theorem dX1_bookNet_59 : decode cX1_bookNet 59 = .ok (.iload_n 1, 1) := by decide +kernel
theorem dX1_bookNet_60 : decode cX1_bookNet 60 = .ok (.ireturn, 1) := by decide +kernel
theorem dX1_stepBin_0 : decode cX1_stepBin 0 = .ok (.aload_n 0, 1) := by decide +kernel
theorem dX1_stepBin_1 : decode cX1_stepBin 1 = .ok (.getfield 35, 3) := by decide +kernel
theorem dX1_stepBin_4 : decode cX1_stepBin 4 = .ok (.getfield 172, 3) := by decide +kernel
theorem dX1_stepBin_7 : decode cX1_stepBin 7 = .ok (.aload_n 0, 1) := by decide +kernel
theorem dX1_stepBin_8 : decode cX1_stepBin 8 = .ok (.getfield 130, 3) := by decide +kernel
theorem dX1_stepBin_11 : decode cX1_stepBin 11 = .ok (.invokestatic 111, 3) := by decide +kernel
theorem dX1_stepBin_14 : decode cX1_stepBin 14 = .ok (.ireturn, 1) := by decide +kernel
theorem dX1_target_0 : decode cX1_target 0 = .ok (.aload_n 0, 1) := by decide +kernel
theorem dX1_target_1 : decode cX1_target 1 = .ok (.getfield 35, 3) := by decide +kernel
theorem dX1_target_4 : decode cX1_target 4 = .ok (.getfield 175, 3) := by decide +kernel
theorem dX1_target_7 : decode cX1_target 7 = .ok (.aload_n 0, 1) := by decide +kernel
theorem dX1_target_8 : decode cX1_target 8 = .ok (.getfield 130, 3) := by decide +kernel
theorem dX1_target_11 : decode cX1_target 11 = .ok (.invokestatic 111, 3) := by decide +kernel
theorem dX1_target_14 : decode cX1_target 14 = .ok (.ireturn, 1) := by decide +kernel
theorem dX2_init_0 : decode cX2_init 0 = .ok (.aload_n 0, 1) := by decide +kernel
theorem dX2_init_1 : decode cX2_init 1 = .ok (.invokespecial 3, 3) := by decide +kernel
theorem dX2_init_4 : decode cX2_init 4 = .ok (.aload_n 0, 1) := by decide +kernel
theorem dX2_init_5 : decode cX2_init 5 = .ok (.bipush 30, 2) := by decide +kernel
theorem dX2_init_7 : decode cX2_init 7 = .ok (.newarray .int, 2) := by decide +kernel
theorem dX2_init_9 : decode cX2_init 9 = .ok (.putfield 9, 3) := by decide +kernel
theorem dX2_init_12 : decode cX2_init 12 = .ok (.aload_n 0, 1) := by decide +kernel
theorem dX2_init_13 : decode cX2_init 13 = .ok (.bipush 30, 2) := by decide +kernel
theorem dX2_init_15 : decode cX2_init 15 = .ok (.newarray .int, 2) := by decide +kernel
theorem dX2_init_17 : decode cX2_init 17 = .ok (.putfield 15, 3) := by decide +kernel
theorem dX2_init_20 : decode cX2_init 20 = .ok (.aload_n 0, 1) := by decide +kernel
theorem dX2_init_21 : decode cX2_init 21 = .ok (.bipush 30, 2) := by decide +kernel
theorem dX2_init_23 : decode cX2_init 23 = .ok (.newarray .int, 2) := by decide +kernel
theorem dX2_init_25 : decode cX2_init 25 = .ok (.putfield 18, 3) := by decide +kernel
theorem dX2_init_28 : decode cX2_init 28 = .ok (.aload_n 0, 1) := by decide +kernel
theorem dX2_init_29 : decode cX2_init 29 = .ok (.sipush 600, 3) := by decide +kernel
theorem dX2_init_32 : decode cX2_init 32 = .ok (.newarray .int, 2) := by decide +kernel
theorem dX2_init_34 : decode cX2_init 34 = .ok (.putfield 21, 3) := by decide +kernel
theorem dX2_init_37 : decode cX2_init 37 = .ok (.return_, 1) := by decide +kernel
theorem dX2_store_0 : decode cX2_store 0 = .ok (.aload_n 0, 1) := by decide +kernel
theorem dX2_store_1 : decode cX2_store 1 = .ok (.getfield 24, 3) := by decide +kernel
theorem dX2_store_4 : decode cX2_store 4 = .ok (.istore_n 3, 1) := by decide +kernel
theorem dX2_store_5 : decode cX2_store 5 = .ok (.aload_n 0, 1) := by decide +kernel
theorem dX2_store_6 : decode cX2_store 6 = .ok (.getfield 9, 3) := by decide +kernel
theorem dX2_store_9 : decode cX2_store 9 = .ok (.iload_n 3, 1) := by decide +kernel
theorem dX2_store_10 : decode cX2_store 10 = .ok (.iload_n 1, 1) := by decide +kernel
theorem dX2_store_11 : decode cX2_store 11 = .ok (.invokestatic 28, 3) := by decide +kernel
theorem dX2_store_14 : decode cX2_store 14 = .ok (.aload_n 0, 1) := by decide +kernel
theorem dX2_store_15 : decode cX2_store 15 = .ok (.getfield 15, 3) := by decide +kernel
theorem dX2_store_18 : decode cX2_store 18 = .ok (.iload_n 3, 1) := by decide +kernel
theorem dX2_store_19 : decode cX2_store 19 = .ok (.iload_n 2, 1) := by decide +kernel
theorem dX2_store_20 : decode cX2_store 20 = .ok (.invokestatic 28, 3) := by decide +kernel
theorem dX2_store_23 : decode cX2_store 23 = .ok (.aload_n 0, 1) := by decide +kernel
theorem dX2_store_24 : decode cX2_store 24 = .ok (.getfield 18, 3) := by decide +kernel
theorem dX2_store_27 : decode cX2_store 27 = .ok (.iload_n 3, 1) := by decide +kernel
theorem dX2_store_28 : decode cX2_store 28 = .ok (.iload_n 2, 1) := by decide +kernel
theorem dX2_store_29 : decode cX2_store 29 = .ok (.invokestatic 28, 3) := by decide +kernel
theorem dX2_store_32 : decode cX2_store 32 = .ok (.aload_n 0, 1) := by decide +kernel
theorem dX2_store_33 : decode cX2_store 33 = .ok (.dup, 1) := by decide +kernel
theorem dX2_store_34 : decode cX2_store 34 = .ok (.getfield 24, 3) := by decide +kernel
theorem dX2_store_37 : decode cX2_store 37 = .ok (.iconst 1, 1) := by decide +kernel
theorem dX2_store_38 : decode cX2_store 38 = .ok (.iadd, 1) := by decide +kernel
theorem dX2_store_39 : decode cX2_store 39 = .ok (.putfield 24, 3) := by decide +kernel
theorem dX2_store_42 : decode cX2_store 42 = .ok (.iload_n 3, 1) := by decide +kernel
theorem dX2_store_43 : decode cX2_store 43 = .ok (.ireturn, 1) := by decide +kernel
theorem dX2_takeOut_0 : decode cX2_takeOut 0 = .ok (.iload_n 2, 1) := by decide +kernel
theorem dX2_takeOut_1 : decode cX2_takeOut 1 = .ok (.istore 4, 2) := by decide +kernel
theorem dX2_takeOut_3 : decode cX2_takeOut 3 = .ok (.iconst 0, 1) := by decide +kernel
theorem dX2_takeOut_4 : decode cX2_takeOut 4 = .ok (.istore 5, 2) := by decide +kernel
theorem dX2_takeOut_6 : decode cX2_takeOut 6 = .ok (.iload 5, 2) := by decide +kernel
theorem dX2_takeOut_8 : decode cX2_takeOut 8 = .ok (.aload_n 0, 1) := by decide +kernel
theorem dX2_takeOut_9 : decode cX2_takeOut 9 = .ok (.getfield 24, 3) := by decide +kernel
theorem dX2_takeOut_12 : decode cX2_takeOut 12 = .ok (.if_icmp .ge 72, 3) := by decide +kernel
theorem dX2_takeOut_15 : decode cX2_takeOut 15 = .ok (.aload_n 0, 1) := by decide +kernel
theorem dX2_takeOut_16 : decode cX2_takeOut 16 = .ok (.getfield 9, 3) := by decide +kernel
theorem dX2_takeOut_19 : decode cX2_takeOut 19 = .ok (.iload 5, 2) := by decide +kernel
theorem dX2_takeOut_21 : decode cX2_takeOut 21 = .ok (.invokestatic 32, 3) := by decide +kernel
theorem dX2_takeOut_24 : decode cX2_takeOut 24 = .ok (.iload_n 1, 1) := by decide +kernel
theorem dX2_takeOut_25 : decode cX2_takeOut 25 = .ok (.if_icmp .ne 53, 3) := by decide +kernel
theorem dX2_takeOut_28 : decode cX2_takeOut 28 = .ok (.iload 4, 2) := by decide +kernel
theorem dX2_takeOut_30 : decode cX2_takeOut 30 = .ok (.aload_n 0, 1) := by decide +kernel
theorem dX2_takeOut_31 : decode cX2_takeOut 31 = .ok (.getfield 18, 3) := by decide +kernel
theorem dX2_takeOut_34 : decode cX2_takeOut 34 = .ok (.iload 5, 2) := by decide +kernel
theorem dX2_takeOut_36 : decode cX2_takeOut 36 = .ok (.invokestatic 32, 3) := by decide +kernel
theorem dX2_takeOut_39 : decode cX2_takeOut 39 = .ok (.invokestatic 36, 3) := by decide +kernel
theorem dX2_takeOut_42 : decode cX2_takeOut 42 = .ok (.istore 6, 2) := by decide +kernel
theorem dX2_takeOut_44 : decode cX2_takeOut 44 = .ok (.aload_n 0, 1) := by decide +kernel
theorem dX2_takeOut_45 : decode cX2_takeOut 45 = .ok (.getfield 18, 3) := by decide +kernel
theorem dX2_takeOut_48 : decode cX2_takeOut 48 = .ok (.iload 5, 2) := by decide +kernel
theorem dX2_takeOut_50 : decode cX2_takeOut 50 = .ok (.iload 6, 2) := by decide +kernel
theorem dX2_takeOut_52 : decode cX2_takeOut 52 = .ok (.ineg, 1) := by decide +kernel
theorem dX2_takeOut_53 : decode cX2_takeOut 53 = .ok (.invokestatic 42, 3) := by decide +kernel
theorem dX2_takeOut_56 : decode cX2_takeOut 56 = .ok (.aload_n 0, 1) := by decide +kernel
theorem dX2_takeOut_57 : decode cX2_takeOut 57 = .ok (.getfield 21, 3) := by decide +kernel
theorem dX2_takeOut_60 : decode cX2_takeOut 60 = .ok (.iload 5, 2) := by decide +kernel
theorem dX2_takeOut_62 : decode cX2_takeOut 62 = .ok (.iload_n 3, 1) := by decide +kernel
theorem dX2_takeOut_63 : decode cX2_takeOut 63 = .ok (.invokestatic 45, 3) := by decide +kernel
theorem dX2_takeOut_66 : decode cX2_takeOut 66 = .ok (.iload 6, 2) := by decide +kernel
theorem dX2_takeOut_68 : decode cX2_takeOut 68 = .ok (.invokestatic 42, 3) := by decide +kernel
theorem dX2_takeOut_71 : decode cX2_takeOut 71 = .ok (.iload 4, 2) := by decide +kernel
theorem dX2_takeOut_73 : decode cX2_takeOut 73 = .ok (.iload 6, 2) := by decide +kernel
theorem dX2_takeOut_75 : decode cX2_takeOut 75 = .ok (.isub, 1) := by decide +kernel
theorem dX2_takeOut_76 : decode cX2_takeOut 76 = .ok (.istore 4, 2) := by decide +kernel
theorem dX2_takeOut_78 : decode cX2_takeOut 78 = .ok (.iinc 5 1, 3) := by decide +kernel
theorem dX2_takeOut_81 : decode cX2_takeOut 81 = .ok (.goto (-75), 3) := by decide +kernel
theorem dX2_takeOut_84 : decode cX2_takeOut 84 = .ok (.iload_n 2, 1) := by decide +kernel
theorem dX2_takeOut_85 : decode cX2_takeOut 85 = .ok (.iload 4, 2) := by decide +kernel
theorem dX2_takeOut_87 : decode cX2_takeOut 87 = .ok (.isub, 1) := by decide +kernel
theorem dX2_takeOut_88 : decode cX2_takeOut 88 = .ok (.ireturn, 1) := by decide +kernel
theorem dX2_leftIn_0 : decode cX2_leftIn 0 = .ok (.iconst 0, 1) := by decide +kernel
theorem dX2_leftIn_1 : decode cX2_leftIn 1 = .ok (.istore_n 2, 1) := by decide +kernel
theorem dX2_leftIn_2 : decode cX2_leftIn 2 = .ok (.iconst 0, 1) := by decide +kernel
theorem dX2_leftIn_3 : decode cX2_leftIn 3 = .ok (.istore_n 3, 1) := by decide +kernel
theorem dX2_leftIn_4 : decode cX2_leftIn 4 = .ok (.iload_n 3, 1) := by decide +kernel
theorem dX2_leftIn_5 : decode cX2_leftIn 5 = .ok (.aload_n 0, 1) := by decide +kernel
theorem dX2_leftIn_6 : decode cX2_leftIn 6 = .ok (.getfield 24, 3) := by decide +kernel
theorem dX2_leftIn_9 : decode cX2_leftIn 9 = .ok (.if_icmp .ge 36, 3) := by decide +kernel
theorem dX2_leftIn_12 : decode cX2_leftIn 12 = .ok (.iload_n 2, 1) := by decide +kernel
theorem dX2_leftIn_13 : decode cX2_leftIn 13 = .ok (.aload_n 0, 1) := by decide +kernel
theorem dX2_leftIn_14 : decode cX2_leftIn 14 = .ok (.getfield 9, 3) := by decide +kernel
theorem dX2_leftIn_17 : decode cX2_leftIn 17 = .ok (.iload_n 3, 1) := by decide +kernel
theorem dX2_leftIn_18 : decode cX2_leftIn 18 = .ok (.invokestatic 32, 3) := by decide +kernel
theorem dX2_leftIn_21 : decode cX2_leftIn 21 = .ok (.iload_n 1, 1) := by decide +kernel
theorem dX2_leftIn_22 : decode cX2_leftIn 22 = .ok (.if_icmp .ne 14, 3) := by decide +kernel
theorem dX2_leftIn_25 : decode cX2_leftIn 25 = .ok (.aload_n 0, 1) := by decide +kernel
theorem dX2_leftIn_26 : decode cX2_leftIn 26 = .ok (.getfield 18, 3) := by decide +kernel
theorem dX2_leftIn_29 : decode cX2_leftIn 29 = .ok (.iload_n 3, 1) := by decide +kernel
theorem dX2_leftIn_30 : decode cX2_leftIn 30 = .ok (.invokestatic 32, 3) := by decide +kernel
theorem dX2_leftIn_33 : decode cX2_leftIn 33 = .ok (.goto 4, 3) := by decide +kernel
theorem dX2_leftIn_36 : decode cX2_leftIn 36 = .ok (.iconst 0, 1) := by decide +kernel
theorem dX2_leftIn_37 : decode cX2_leftIn 37 = .ok (.iadd, 1) := by decide +kernel
theorem dX2_leftIn_38 : decode cX2_leftIn 38 = .ok (.istore_n 2, 1) := by decide +kernel
theorem dX2_leftIn_39 : decode cX2_leftIn 39 = .ok (.iinc 3 1, 3) := by decide +kernel
theorem dX2_leftIn_42 : decode cX2_leftIn 42 = .ok (.goto (-38), 3) := by decide +kernel
theorem dX2_leftIn_45 : decode cX2_leftIn 45 = .ok (.iload_n 2, 1) := by decide +kernel
theorem dX2_leftIn_46 : decode cX2_leftIn 46 = .ok (.ireturn, 1) := by decide +kernel
theorem dX2_goneFrom_0 : decode cX2_goneFrom 0 = .ok (.iconst 0, 1) := by decide +kernel
theorem dX2_goneFrom_1 : decode cX2_goneFrom 1 = .ok (.istore_n 2, 1) := by decide +kernel
theorem dX2_goneFrom_2 : decode cX2_goneFrom 2 = .ok (.iconst 0, 1) := by decide +kernel
theorem dX2_goneFrom_3 : decode cX2_goneFrom 3 = .ok (.istore_n 3, 1) := by decide +kernel
theorem dX2_goneFrom_4 : decode cX2_goneFrom 4 = .ok (.iload_n 3, 1) := by decide +kernel
theorem dX2_goneFrom_5 : decode cX2_goneFrom 5 = .ok (.aload_n 0, 1) := by decide +kernel
theorem dX2_goneFrom_6 : decode cX2_goneFrom 6 = .ok (.getfield 24, 3) := by decide +kernel
theorem dX2_goneFrom_9 : decode cX2_goneFrom 9 = .ok (.if_icmp .ge 45, 3) := by decide +kernel
theorem dX2_goneFrom_12 : decode cX2_goneFrom 12 = .ok (.iload_n 2, 1) := by decide +kernel
theorem dX2_goneFrom_13 : decode cX2_goneFrom 13 = .ok (.aload_n 0, 1) := by decide +kernel
theorem dX2_goneFrom_14 : decode cX2_goneFrom 14 = .ok (.getfield 9, 3) := by decide +kernel
theorem dX2_goneFrom_17 : decode cX2_goneFrom 17 = .ok (.iload_n 3, 1) := by decide +kernel
theorem dX2_goneFrom_18 : decode cX2_goneFrom 18 = .ok (.invokestatic 32, 3) := by decide +kernel
theorem dX2_goneFrom_21 : decode cX2_goneFrom 21 = .ok (.iload_n 1, 1) := by decide +kernel
theorem dX2_goneFrom_22 : decode cX2_goneFrom 22 = .ok (.if_icmp .ne 23, 3) := by decide +kernel
theorem dX2_goneFrom_25 : decode cX2_goneFrom 25 = .ok (.aload_n 0, 1) := by decide +kernel
theorem dX2_goneFrom_26 : decode cX2_goneFrom 26 = .ok (.getfield 15, 3) := by decide +kernel
theorem dX2_goneFrom_29 : decode cX2_goneFrom 29 = .ok (.iload_n 3, 1) := by decide +kernel
theorem dX2_goneFrom_30 : decode cX2_goneFrom 30 = .ok (.invokestatic 32, 3) := by decide +kernel
theorem dX2_goneFrom_33 : decode cX2_goneFrom 33 = .ok (.aload_n 0, 1) := by decide +kernel
theorem dX2_goneFrom_34 : decode cX2_goneFrom 34 = .ok (.getfield 18, 3) := by decide +kernel
theorem dX2_goneFrom_37 : decode cX2_goneFrom 37 = .ok (.iload_n 3, 1) := by decide +kernel
theorem dX2_goneFrom_38 : decode cX2_goneFrom 38 = .ok (.invokestatic 32, 3) := by decide +kernel
theorem dX2_goneFrom_41 : decode cX2_goneFrom 41 = .ok (.isub, 1) := by decide +kernel
theorem dX2_goneFrom_42 : decode cX2_goneFrom 42 = .ok (.goto 4, 3) := by decide +kernel
theorem dX2_goneFrom_45 : decode cX2_goneFrom 45 = .ok (.iconst 0, 1) := by decide +kernel
theorem dX2_goneFrom_46 : decode cX2_goneFrom 46 = .ok (.iadd, 1) := by decide +kernel
theorem dX2_goneFrom_47 : decode cX2_goneFrom 47 = .ok (.istore_n 2, 1) := by decide +kernel
theorem dX2_goneFrom_48 : decode cX2_goneFrom 48 = .ok (.iinc 3 1, 3) := by decide +kernel
theorem dX2_goneFrom_51 : decode cX2_goneFrom 51 = .ok (.goto (-47), 3) := by decide +kernel
theorem dX2_goneFrom_54 : decode cX2_goneFrom 54 = .ok (.iload_n 2, 1) := by decide +kernel
theorem dX2_goneFrom_55 : decode cX2_goneFrom 55 = .ok (.ireturn, 1) := by decide +kernel
theorem dX2_usedFor_0 : decode cX2_usedFor 0 = .ok (.aload_n 0, 1) := by decide +kernel
theorem dX2_usedFor_1 : decode cX2_usedFor 1 = .ok (.getfield 21, 3) := by decide +kernel
theorem dX2_usedFor_4 : decode cX2_usedFor 4 = .ok (.iload_n 1, 1) := by decide +kernel
theorem dX2_usedFor_5 : decode cX2_usedFor 5 = .ok (.iload_n 2, 1) := by decide +kernel
theorem dX2_usedFor_6 : decode cX2_usedFor 6 = .ok (.invokestatic 45, 3) := by decide +kernel
theorem dX2_usedFor_9 : decode cX2_usedFor 9 = .ok (.invokestatic 32, 3) := by decide +kernel
theorem dX2_usedFor_12 : decode cX2_usedFor 12 = .ok (.ireturn, 1) := by decide +kernel
theorem dX2_firstBatchOf_0 : decode cX2_firstBatchOf 0 = .ok (.iconst 0, 1) := by decide +kernel
theorem dX2_firstBatchOf_1 : decode cX2_firstBatchOf 1 = .ok (.istore_n 3, 1) := by decide +kernel
theorem dX2_firstBatchOf_2 : decode cX2_firstBatchOf 2 = .ok (.iload_n 3, 1) := by decide +kernel
theorem dX2_firstBatchOf_3 : decode cX2_firstBatchOf 3 = .ok (.iload_n 2, 1) := by decide +kernel
theorem dX2_firstBatchOf_4 : decode cX2_firstBatchOf 4 = .ok (.if_icmp .ge 20, 3) := by decide +kernel
theorem dX2_firstBatchOf_7 : decode cX2_firstBatchOf 7 = .ok (.aload_n 0, 1) := by decide +kernel
theorem dX2_firstBatchOf_8 : decode cX2_firstBatchOf 8 = .ok (.iload_n 1, 1) := by decide +kernel
theorem dX2_firstBatchOf_9 : decode cX2_firstBatchOf 9 = .ok (.iload_n 3, 1) := by decide +kernel
theorem dX2_firstBatchOf_10 : decode cX2_firstBatchOf 10 = .ok (.invokevirtual 48, 3) := by decide +kernel
theorem dX2_firstBatchOf_13 : decode cX2_firstBatchOf 13 = .ok (.ifCond .le 5, 3) := by decide +kernel
theorem dX2_firstBatchOf_16 : decode cX2_firstBatchOf 16 = .ok (.iload_n 3, 1) := by decide +kernel
theorem dX2_firstBatchOf_17 : decode cX2_firstBatchOf 17 = .ok (.ireturn, 1) := by decide +kernel
theorem dX2_firstBatchOf_18 : decode cX2_firstBatchOf 18 = .ok (.iinc 3 1, 3) := by decide +kernel
theorem dX2_firstBatchOf_21 : decode cX2_firstBatchOf 21 = .ok (.goto (-19), 3) := by decide +kernel
theorem dX2_firstBatchOf_24 : decode cX2_firstBatchOf 24 = .ok (.iconst (-1), 1) := by decide +kernel
theorem dX2_firstBatchOf_25 : decode cX2_firstBatchOf 25 = .ok (.ireturn, 1) := by decide +kernel
theorem dX2_place_0 : decode cX2_place 0 = .ok (.iload_n 0, 1) := by decide +kernel
theorem dX2_place_1 : decode cX2_place 1 = .ok (.bipush 20, 2) := by decide +kernel
theorem dX2_place_3 : decode cX2_place 3 = .ok (.imul, 1) := by decide +kernel
theorem dX2_place_4 : decode cX2_place 4 = .ok (.iload_n 1, 1) := by decide +kernel
theorem dX2_place_5 : decode cX2_place 5 = .ok (.iadd, 1) := by decide +kernel
theorem dX2_place_6 : decode cX2_place 6 = .ok (.ireturn, 1) := by decide +kernel
theorem dX3_init_0 : decode cX3_init 0 = .ok (.aload_n 0, 1) := by decide +kernel
theorem dX3_init_1 : decode cX3_init 1 = .ok (.invokespecial 3, 3) := by decide +kernel
theorem dX3_init_4 : decode cX3_init 4 = .ok (.aload_n 0, 1) := by decide +kernel
theorem dX3_init_5 : decode cX3_init 5 = .ok (.bipush 6, 2) := by decide +kernel
theorem dX3_init_7 : decode cX3_init 7 = .ok (.newarray .int, 2) := by decide +kernel
theorem dX3_init_9 : decode cX3_init 9 = .ok (.putfield 9, 3) := by decide +kernel
theorem dX3_init_12 : decode cX3_init 12 = .ok (.aload_n 0, 1) := by decide +kernel
theorem dX3_init_13 : decode cX3_init 13 = .ok (.bipush 6, 2) := by decide +kernel
theorem dX3_init_15 : decode cX3_init 15 = .ok (.newarray .int, 2) := by decide +kernel
theorem dX3_init_17 : decode cX3_init 17 = .ok (.putfield 15, 3) := by decide +kernel
theorem dX3_init_20 : decode cX3_init 20 = .ok (.aload_n 0, 1) := by decide +kernel
theorem dX3_init_21 : decode cX3_init 21 = .ok (.bipush 6, 2) := by decide +kernel
theorem dX3_init_23 : decode cX3_init 23 = .ok (.newarray .int, 2) := by decide +kernel
theorem dX3_init_25 : decode cX3_init 25 = .ok (.putfield 18, 3) := by decide +kernel
theorem dX3_init_28 : decode cX3_init 28 = .ok (.return_, 1) := by decide +kernel
theorem dX3_append_0 : decode cX3_append 0 = .ok (.aload_n 0, 1) := by decide +kernel
theorem dX3_append_1 : decode cX3_append 1 = .ok (.getfield 9, 3) := by decide +kernel
theorem dX3_append_4 : decode cX3_append 4 = .ok (.aload_n 0, 1) := by decide +kernel
theorem dX3_append_5 : decode cX3_append 5 = .ok (.getfield 21, 3) := by decide +kernel
theorem dX3_append_8 : decode cX3_append 8 = .ok (.iload_n 1, 1) := by decide +kernel
theorem dX3_append_9 : decode cX3_append 9 = .ok (.invokestatic 25, 3) := by decide +kernel
theorem dX3_append_12 : decode cX3_append 12 = .ok (.aload_n 0, 1) := by decide +kernel
theorem dX3_append_13 : decode cX3_append 13 = .ok (.getfield 15, 3) := by decide +kernel
theorem dX3_append_16 : decode cX3_append 16 = .ok (.aload_n 0, 1) := by decide +kernel
theorem dX3_append_17 : decode cX3_append 17 = .ok (.getfield 21, 3) := by decide +kernel
theorem dX3_append_20 : decode cX3_append 20 = .ok (.iload_n 2, 1) := by decide +kernel
theorem dX3_append_21 : decode cX3_append 21 = .ok (.invokestatic 25, 3) := by decide +kernel
theorem dX3_append_24 : decode cX3_append 24 = .ok (.aload_n 0, 1) := by decide +kernel
theorem dX3_append_25 : decode cX3_append 25 = .ok (.getfield 18, 3) := by decide +kernel
theorem dX3_append_28 : decode cX3_append 28 = .ok (.aload_n 0, 1) := by decide +kernel
theorem dX3_append_29 : decode cX3_append 29 = .ok (.getfield 21, 3) := by decide +kernel
theorem dX3_append_32 : decode cX3_append 32 = .ok (.iload_n 3, 1) := by decide +kernel
theorem dX3_append_33 : decode cX3_append 33 = .ok (.invokestatic 25, 3) := by decide +kernel
theorem dX3_append_36 : decode cX3_append 36 = .ok (.aload_n 0, 1) := by decide +kernel
theorem dX3_append_37 : decode cX3_append 37 = .ok (.dup, 1) := by decide +kernel
theorem dX3_append_38 : decode cX3_append 38 = .ok (.getfield 21, 3) := by decide +kernel
theorem dX3_append_41 : decode cX3_append 41 = .ok (.iconst 1, 1) := by decide +kernel
theorem dX3_append_42 : decode cX3_append 42 = .ok (.iadd, 1) := by decide +kernel
theorem dX3_append_43 : decode cX3_append 43 = .ok (.putfield 21, 3) := by decide +kernel
theorem dX3_append_46 : decode cX3_append 46 = .ok (.return_, 1) := by decide +kernel
theorem dX4_init_0 : decode cX4_init 0 = .ok (.aload_n 0, 1) := by decide +kernel
theorem dX4_init_1 : decode cX4_init 1 = .ok (.invokespecial 3, 3) := by decide +kernel
theorem dX4_init_4 : decode cX4_init 4 = .ok (.aload_n 0, 1) := by decide +kernel
theorem dX4_init_5 : decode cX4_init 5 = .ok (.iconst 3, 1) := by decide +kernel
theorem dX4_init_6 : decode cX4_init 6 = .ok (.putfield 9, 3) := by decide +kernel
theorem dX4_init_9 : decode cX4_init 9 = .ok (.return_, 1) := by decide +kernel
theorem dX4_take_0 : decode cX4_take 0 = .ok (.aload_n 0, 1) := by decide +kernel
theorem dX4_take_1 : decode cX4_take 1 = .ok (.aload_n 0, 1) := by decide +kernel
theorem dX4_take_2 : decode cX4_take 2 = .ok (.getfield 15, 3) := by decide +kernel
theorem dX4_take_5 : decode cX4_take 5 = .ok (.putfield 18, 3) := by decide +kernel
theorem dX4_take_8 : decode cX4_take 8 = .ok (.aload_n 0, 1) := by decide +kernel
theorem dX4_take_9 : decode cX4_take 9 = .ok (.aload_n 0, 1) := by decide +kernel
theorem dX4_take_10 : decode cX4_take 10 = .ok (.getfield 21, 3) := by decide +kernel
theorem dX4_take_13 : decode cX4_take 13 = .ok (.putfield 15, 3) := by decide +kernel
theorem dX4_take_16 : decode cX4_take 16 = .ok (.aload_n 0, 1) := by decide +kernel
theorem dX4_take_17 : decode cX4_take 17 = .ok (.aload_n 0, 1) := by decide +kernel
theorem dX4_take_18 : decode cX4_take 18 = .ok (.getfield 24, 3) := by decide +kernel
theorem dX4_take_21 : decode cX4_take 21 = .ok (.putfield 21, 3) := by decide +kernel
theorem dX4_take_24 : decode cX4_take 24 = .ok (.aload_n 0, 1) := by decide +kernel
theorem dX4_take_25 : decode cX4_take 25 = .ok (.iload_n 1, 1) := by decide +kernel
theorem dX4_take_26 : decode cX4_take 26 = .ok (.putfield 24, 3) := by decide +kernel
theorem dX4_take_29 : decode cX4_take 29 = .ok (.aload_n 0, 1) := by decide +kernel
theorem dX4_take_30 : decode cX4_take 30 = .ok (.getfield 27, 3) := by decide +kernel
theorem dX4_take_33 : decode cX4_take 33 = .ok (.iconst 4, 1) := by decide +kernel
theorem dX4_take_34 : decode cX4_take 34 = .ok (.if_icmp .ge 13, 3) := by decide +kernel
theorem dX4_take_37 : decode cX4_take 37 = .ok (.aload_n 0, 1) := by decide +kernel
theorem dX4_take_38 : decode cX4_take 38 = .ok (.dup, 1) := by decide +kernel
theorem dX4_take_39 : decode cX4_take 39 = .ok (.getfield 27, 3) := by decide +kernel
theorem dX4_take_42 : decode cX4_take 42 = .ok (.iconst 1, 1) := by decide +kernel
theorem dX4_take_43 : decode cX4_take 43 = .ok (.iadd, 1) := by decide +kernel
theorem dX4_take_44 : decode cX4_take 44 = .ok (.putfield 27, 3) := by decide +kernel
theorem dX4_take_47 : decode cX4_take 47 = .ok (.return_, 1) := by decide +kernel
theorem dX4_isCalm_0 : decode cX4_isCalm 0 = .ok (.aload_n 0, 1) := by decide +kernel
theorem dX4_isCalm_1 : decode cX4_isCalm 1 = .ok (.getfield 24, 3) := by decide +kernel
theorem dX4_isCalm_4 : decode cX4_isCalm 4 = .ok (.aload_n 0, 1) := by decide +kernel
theorem dX4_isCalm_5 : decode cX4_isCalm 5 = .ok (.getfield 21, 3) := by decide +kernel
theorem dX4_isCalm_8 : decode cX4_isCalm 8 = .ok (.invokestatic 30, 3) := by decide +kernel
theorem dX4_isCalm_11 : decode cX4_isCalm 11 = .ok (.aload_n 0, 1) := by decide +kernel
theorem dX4_isCalm_12 : decode cX4_isCalm 12 = .ok (.getfield 15, 3) := by decide +kernel
theorem dX4_isCalm_15 : decode cX4_isCalm 15 = .ok (.aload_n 0, 1) := by decide +kernel
theorem dX4_isCalm_16 : decode cX4_isCalm 16 = .ok (.getfield 18, 3) := by decide +kernel
theorem dX4_isCalm_19 : decode cX4_isCalm 19 = .ok (.invokestatic 30, 3) := by decide +kernel
theorem dX4_isCalm_22 : decode cX4_isCalm 22 = .ok (.invokestatic 30, 3) := by decide +kernel
theorem dX4_isCalm_25 : decode cX4_isCalm 25 = .ok (.istore_n 1, 1) := by decide +kernel
theorem dX4_isCalm_26 : decode cX4_isCalm 26 = .ok (.aload_n 0, 1) := by decide +kernel
theorem dX4_isCalm_27 : decode cX4_isCalm 27 = .ok (.getfield 24, 3) := by decide +kernel
theorem dX4_isCalm_30 : decode cX4_isCalm 30 = .ok (.aload_n 0, 1) := by decide +kernel
theorem dX4_isCalm_31 : decode cX4_isCalm 31 = .ok (.getfield 21, 3) := by decide +kernel
theorem dX4_isCalm_34 : decode cX4_isCalm 34 = .ok (.invokestatic 36, 3) := by decide +kernel
theorem dX4_isCalm_37 : decode cX4_isCalm 37 = .ok (.aload_n 0, 1) := by decide +kernel
theorem dX4_isCalm_38 : decode cX4_isCalm 38 = .ok (.getfield 15, 3) := by decide +kernel
theorem dX4_isCalm_41 : decode cX4_isCalm 41 = .ok (.aload_n 0, 1) := by decide +kernel
theorem dX4_isCalm_42 : decode cX4_isCalm 42 = .ok (.getfield 18, 3) := by decide +kernel
theorem dX4_isCalm_45 : decode cX4_isCalm 45 = .ok (.invokestatic 36, 3) := by decide +kernel
theorem dX4_isCalm_48 : decode cX4_isCalm 48 = .ok (.invokestatic 36, 3) := by decide +kernel
theorem dX4_isCalm_51 : decode cX4_isCalm 51 = .ok (.istore_n 2, 1) := by decide +kernel
theorem dX4_isCalm_52 : decode cX4_isCalm 52 = .ok (.aload_n 0, 1) := by decide +kernel
theorem dX4_isCalm_53 : decode cX4_isCalm 53 = .ok (.getfield 27, 3) := by decide +kernel
theorem dX4_isCalm_56 : decode cX4_isCalm 56 = .ok (.iconst 4, 1) := by decide +kernel
theorem dX4_isCalm_57 : decode cX4_isCalm 57 = .ok (.if_icmp .lt 17, 3) := by decide +kernel
theorem dX4_isCalm_60 : decode cX4_isCalm 60 = .ok (.iload_n 1, 1) := by decide +kernel
theorem dX4_isCalm_61 : decode cX4_isCalm 61 = .ok (.iload_n 2, 1) := by decide +kernel
theorem dX4_isCalm_62 : decode cX4_isCalm 62 = .ok (.isub, 1) := by decide +kernel
theorem dX4_isCalm_63 : decode cX4_isCalm 63 = .ok (.aload_n 0, 1) := by decide +kernel
theorem dX4_isCalm_64 : decode cX4_isCalm 64 = .ok (.getfield 9, 3) := by decide +kernel
theorem dX4_isCalm_67 : decode cX4_isCalm 67 = .ok (.if_icmp .gt 7, 3) := by decide +kernel
theorem dX4_isCalm_70 : decode cX4_isCalm 70 = .ok (.iconst 1, 1) := by decide +kernel
theorem dX4_isCalm_71 : decode cX4_isCalm 71 = .ok (.goto 4, 3) := by decide +kernel
theorem dX4_isCalm_74 : decode cX4_isCalm 74 = .ok (.iconst 0, 1) := by decide +kernel
theorem dX4_isCalm_75 : decode cX4_isCalm 75 = .ok (.ireturn, 1) := by decide +kernel
theorem dX4_grossNow_0 : decode cX4_grossNow 0 = .ok (.aload_n 0, 1) := by decide +kernel
theorem dX4_grossNow_1 : decode cX4_grossNow 1 = .ok (.getfield 24, 3) := by decide +kernel
theorem dX4_grossNow_4 : decode cX4_grossNow 4 = .ok (.aload_n 0, 1) := by decide +kernel
theorem dX4_grossNow_5 : decode cX4_grossNow 5 = .ok (.getfield 39, 3) := by decide +kernel
theorem dX4_grossNow_8 : decode cX4_grossNow 8 = .ok (.isub, 1) := by decide +kernel
theorem dX4_grossNow_9 : decode cX4_grossNow 9 = .ok (.ireturn, 1) := by decide +kernel
theorem dX4_netNow_0 : decode cX4_netNow 0 = .ok (.aload_n 0, 1) := by decide +kernel
theorem dX4_netNow_1 : decode cX4_netNow 1 = .ok (.invokevirtual 42, 3) := by decide +kernel
theorem dX4_netNow_4 : decode cX4_netNow 4 = .ok (.aload_n 0, 1) := by decide +kernel
theorem dX4_netNow_5 : decode cX4_netNow 5 = .ok (.getfield 46, 3) := by decide +kernel
theorem dX4_netNow_8 : decode cX4_netNow 8 = .ok (.isub, 1) := by decide +kernel
theorem dX4_netNow_9 : decode cX4_netNow 9 = .ok (.ireturn, 1) := by decide +kernel
theorem dX4_trackZero_0 : decode cX4_trackZero 0 = .ok (.aload_n 0, 1) := by decide +kernel
theorem dX4_trackZero_1 : decode cX4_trackZero 1 = .ok (.invokevirtual 42, 3) := by decide +kernel
theorem dX4_trackZero_4 : decode cX4_trackZero 4 = .ok (.istore_n 1, 1) := by decide +kernel
theorem dX4_trackZero_5 : decode cX4_trackZero 5 = .ok (.iload_n 1, 1) := by decide +kernel
theorem dX4_trackZero_6 : decode cX4_trackZero 6 = .ok (.ifCond .eq 21, 3) := by decide +kernel
theorem dX4_trackZero_9 : decode cX4_trackZero 9 = .ok (.iload_n 1, 1) := by decide +kernel
theorem dX4_trackZero_10 : decode cX4_trackZero 10 = .ok (.bipush (-10), 2) := by decide +kernel
theorem dX4_trackZero_12 : decode cX4_trackZero 12 = .ok (.bipush 10, 2) := by decide +kernel
theorem dX4_trackZero_14 : decode cX4_trackZero 14 = .ok (.invokestatic 49, 3) := by decide +kernel
theorem dX4_trackZero_17 : decode cX4_trackZero 17 = .ok (.ifCond .eq 10, 3) := by decide +kernel
theorem dX4_trackZero_20 : decode cX4_trackZero 20 = .ok (.aload_n 0, 1) := by decide +kernel
theorem dX4_trackZero_21 : decode cX4_trackZero 21 = .ok (.invokevirtual 53, 3) := by decide +kernel
theorem dX4_trackZero_24 : decode cX4_trackZero 24 = .ok (.ifCond .ne 4, 3) := by decide +kernel
theorem dX4_trackZero_27 : decode cX4_trackZero 27 = .ok (.return_, 1) := by decide +kernel
theorem dX4_trackZero_28 : decode cX4_trackZero 28 = .ok (.aload_n 0, 1) := by decide +kernel
theorem dX4_trackZero_29 : decode cX4_trackZero 29 = .ok (.getfield 39, 3) := by decide +kernel
theorem dX4_trackZero_32 : decode cX4_trackZero 32 = .ok (.iload_n 1, 1) := by decide +kernel
theorem dX4_trackZero_33 : decode cX4_trackZero 33 = .ok (.ifCond .le 7, 3) := by decide +kernel
theorem dX4_trackZero_36 : decode cX4_trackZero 36 = .ok (.iconst 1, 1) := by decide +kernel
theorem dX4_trackZero_37 : decode cX4_trackZero 37 = .ok (.goto 4, 3) := by decide +kernel
theorem dX4_trackZero_40 : decode cX4_trackZero 40 = .ok (.iconst (-1), 1) := by decide +kernel
theorem dX4_trackZero_41 : decode cX4_trackZero 41 = .ok (.iadd, 1) := by decide +kernel
theorem dX4_trackZero_42 : decode cX4_trackZero 42 = .ok (.istore_n 2, 1) := by decide +kernel
theorem dX4_trackZero_43 : decode cX4_trackZero 43 = .ok (.iload_n 2, 1) := by decide +kernel
theorem dX4_trackZero_44 : decode cX4_trackZero 44 = .ok (.sipush (-500), 3) := by decide +kernel
theorem dX4_trackZero_47 : decode cX4_trackZero 47 = .ok (.sipush 500, 3) := by decide +kernel
theorem dX4_trackZero_50 : decode cX4_trackZero 50 = .ok (.invokestatic 49, 3) := by decide +kernel
theorem dX4_trackZero_53 : decode cX4_trackZero 53 = .ok (.ifCond .eq 8, 3) := by decide +kernel
theorem dX4_trackZero_56 : decode cX4_trackZero 56 = .ok (.aload_n 0, 1) := by decide +kernel
theorem dX4_trackZero_57 : decode cX4_trackZero 57 = .ok (.iload_n 2, 1) := by decide +kernel
theorem dX4_trackZero_58 : decode cX4_trackZero 58 = .ok (.putfield 39, 3) := by decide +kernel
theorem dX4_trackZero_61 : decode cX4_trackZero 61 = .ok (.return_, 1) := by decide +kernel
theorem dX5_init_0 : decode cX5_init 0 = .ok (.aload_n 0, 1) := by decide +kernel
theorem dX5_init_1 : decode cX5_init 1 = .ok (.invokespecial 1, 3) := by decide +kernel
theorem dX5_init_4 : decode cX5_init 4 = .ok (.aload_n 0, 1) := by decide +kernel
theorem dX5_init_5 : decode cX5_init 5 = .ok (.new 7, 3) := by decide +kernel
theorem dX5_init_8 : decode cX5_init 8 = .ok (.dup, 1) := by decide +kernel
theorem dX5_init_9 : decode cX5_init 9 = .ok (.invokespecial 9, 3) := by decide +kernel
theorem dX5_init_12 : decode cX5_init 12 = .ok (.putfield 10, 3) := by decide +kernel
theorem dX5_init_15 : decode cX5_init 15 = .ok (.aload_n 0, 1) := by decide +kernel
theorem dX5_init_16 : decode cX5_init 16 = .ok (.aload_n 0, 1) := by decide +kernel
theorem dX5_init_17 : decode cX5_init 17 = .ok (.getfield 10, 3) := by decide +kernel
theorem dX5_init_20 : decode cX5_init 20 = .ok (.getfield 16, 3) := by decide +kernel
theorem dX5_init_23 : decode cX5_init 23 = .ok (.putfield 20, 3) := by decide +kernel
theorem dX5_init_26 : decode cX5_init 26 = .ok (.aload_n 0, 1) := by decide +kernel
theorem dX5_init_27 : decode cX5_init 27 = .ok (.aload_n 0, 1) := by decide +kernel
theorem dX5_init_28 : decode cX5_init 28 = .ok (.getfield 10, 3) := by decide +kernel
theorem dX5_init_31 : decode cX5_init 31 = .ok (.getfield 21, 3) := by decide +kernel
theorem dX5_init_34 : decode cX5_init 34 = .ok (.putfield 25, 3) := by decide +kernel
theorem dX5_init_37 : decode cX5_init 37 = .ok (.aload_n 0, 1) := by decide +kernel
theorem dX5_init_38 : decode cX5_init 38 = .ok (.aload_n 0, 1) := by decide +kernel
theorem dX5_init_39 : decode cX5_init 39 = .ok (.getfield 10, 3) := by decide +kernel
theorem dX5_init_42 : decode cX5_init 42 = .ok (.getfield 26, 3) := by decide +kernel
theorem dX5_init_45 : decode cX5_init 45 = .ok (.putfield 30, 3) := by decide +kernel
theorem dX5_init_48 : decode cX5_init 48 = .ok (.aload_n 0, 1) := by decide +kernel
theorem dX5_init_49 : decode cX5_init 49 = .ok (.aload_n 0, 1) := by decide +kernel
theorem dX5_init_50 : decode cX5_init 50 = .ok (.getfield 10, 3) := by decide +kernel
theorem dX5_init_53 : decode cX5_init 53 = .ok (.getfield 31, 3) := by decide +kernel
theorem dX5_init_56 : decode cX5_init 56 = .ok (.putfield 35, 3) := by decide +kernel
theorem dX5_init_59 : decode cX5_init 59 = .ok (.return_, 1) := by decide +kernel
theorem dX5_tick_0 : decode cX5_tick 0 = .ok (.iload_n 1, 1) := by decide +kernel
theorem dX5_tick_1 : decode cX5_tick 1 = .ok (.invokestatic 36, 3) := by decide +kernel
theorem dX5_tick_4 : decode cX5_tick 4 = .ok (.aload_n 0, 1) := by decide +kernel
theorem dX5_tick_5 : decode cX5_tick 5 = .ok (.getfield 10, 3) := by decide +kernel
theorem dX5_tick_8 : decode cX5_tick 8 = .ok (.iload_n 1, 1) := by decide +kernel
theorem dX5_tick_9 : decode cX5_tick 9 = .ok (.invokevirtual 40, 3) := by decide +kernel
theorem dX5_tick_12 : decode cX5_tick 12 = .ok (.aload_n 0, 1) := by decide +kernel
theorem dX5_tick_13 : decode cX5_tick 13 = .ok (.getfield 10, 3) := by decide +kernel
theorem dX5_tick_16 : decode cX5_tick 16 = .ok (.getfield 43, 3) := by decide +kernel
theorem dX5_tick_19 : decode cX5_tick 19 = .ok (.ireturn, 1) := by decide +kernel
theorem dX5_ticks_0 : decode cX5_ticks 0 = .ok (.iload_n 1, 1) := by decide +kernel
theorem dX5_ticks_1 : decode cX5_ticks 1 = .ok (.invokestatic 36, 3) := by decide +kernel
theorem dX5_ticks_4 : decode cX5_ticks 4 = .ok (.iload_n 2, 1) := by decide +kernel
theorem dX5_ticks_5 : decode cX5_ticks 5 = .ok (.iconst 1, 1) := by decide +kernel
theorem dX5_ticks_6 : decode cX5_ticks 6 = .ok (.bipush 50, 2) := by decide +kernel
theorem dX5_ticks_8 : decode cX5_ticks 8 = .ok (.invokestatic 47, 3) := by decide +kernel
theorem dX5_ticks_11 : decode cX5_ticks 11 = .ok (.invokestatic 51, 3) := by decide +kernel
theorem dX5_ticks_14 : decode cX5_ticks 14 = .ok (.iconst 0, 1) := by decide +kernel
theorem dX5_ticks_15 : decode cX5_ticks 15 = .ok (.istore_n 3, 1) := by decide +kernel
theorem dX5_ticks_16 : decode cX5_ticks 16 = .ok (.iload_n 3, 1) := by decide +kernel
theorem dX5_ticks_17 : decode cX5_ticks 17 = .ok (.iload_n 2, 1) := by decide +kernel
theorem dX5_ticks_18 : decode cX5_ticks 18 = .ok (.if_icmp .ge 17, 3) := by decide +kernel
theorem dX5_ticks_21 : decode cX5_ticks 21 = .ok (.aload_n 0, 1) := by decide +kernel
theorem dX5_ticks_22 : decode cX5_ticks 22 = .ok (.getfield 10, 3) := by decide +kernel
theorem dX5_ticks_25 : decode cX5_ticks 25 = .ok (.iload_n 1, 1) := by decide +kernel
theorem dX5_ticks_26 : decode cX5_ticks 26 = .ok (.invokevirtual 40, 3) := by decide +kernel
theorem dX5_ticks_29 : decode cX5_ticks 29 = .ok (.iinc 3 1, 3) := by decide +kernel
theorem dX5_ticks_32 : decode cX5_ticks 32 = .ok (.goto (-16), 3) := by decide +kernel
theorem dX5_ticks_35 : decode cX5_ticks 35 = .ok (.aload_n 0, 1) := by decide +kernel
theorem dX5_ticks_36 : decode cX5_ticks 36 = .ok (.getfield 10, 3) := by decide +kernel
theorem dX5_ticks_39 : decode cX5_ticks 39 = .ok (.getfield 43, 3) := by decide +kernel
theorem dX5_ticks_42 : decode cX5_ticks 42 = .ok (.ireturn, 1) := by decide +kernel
theorem dX5_zero_0 : decode cX5_zero 0 = .ok (.aload_n 0, 1) := by decide +kernel
theorem dX5_zero_1 : decode cX5_zero 1 = .ok (.getfield 10, 3) := by decide +kernel
theorem dX5_zero_4 : decode cX5_zero 4 = .ok (.getfield 43, 3) := by decide +kernel
theorem dX5_zero_7 : decode cX5_zero 7 = .ok (.ifCond .ne 17, 3) := by decide +kernel
theorem dX5_zero_10 : decode cX5_zero 10 = .ok (.aload_n 0, 1) := by decide +kernel
theorem dX5_zero_11 : decode cX5_zero 11 = .ok (.getfield 20, 3) := by decide +kernel
theorem dX5_zero_14 : decode cX5_zero 14 = .ok (.invokevirtual 55, 3) := by decide +kernel
theorem dX5_zero_17 : decode cX5_zero 17 = .ok (.ifCond .eq 7, 3) := by decide +kernel
theorem dX5_zero_20 : decode cX5_zero 20 = .ok (.iconst 1, 1) := by decide +kernel
theorem dX5_zero_21 : decode cX5_zero 21 = .ok (.goto 4, 3) := by decide +kernel
theorem dX5_zero_24 : decode cX5_zero 24 = .ok (.iconst 0, 1) := by decide +kernel
theorem dX5_zero_25 : decode cX5_zero 25 = .ok (.invokestatic 61, 3) := by decide +kernel
theorem dX5_zero_28 : decode cX5_zero 28 = .ok (.aload_n 0, 1) := by decide +kernel
theorem dX5_zero_29 : decode cX5_zero 29 = .ok (.getfield 20, 3) := by decide +kernel
theorem dX5_zero_32 : decode cX5_zero 32 = .ok (.getfield 64, 3) := by decide +kernel
theorem dX5_zero_35 : decode cX5_zero 35 = .ok (.sipush (-500), 3) := by decide +kernel
theorem dX5_zero_38 : decode cX5_zero 38 = .ok (.sipush 500, 3) := by decide +kernel
theorem dX5_zero_41 : decode cX5_zero 41 = .ok (.invokestatic 47, 3) := by decide +kernel
theorem dX5_zero_44 : decode cX5_zero 44 = .ok (.invokestatic 61, 3) := by decide +kernel
theorem dX5_zero_47 : decode cX5_zero 47 = .ok (.aload_n 0, 1) := by decide +kernel
theorem dX5_zero_48 : decode cX5_zero 48 = .ok (.getfield 20, 3) := by decide +kernel
theorem dX5_zero_51 : decode cX5_zero 51 = .ok (.getfield 67, 3) := by decide +kernel
theorem dX5_zero_54 : decode cX5_zero 54 = .ok (.istore_n 1, 1) := by decide +kernel
theorem dX5_zero_55 : decode cX5_zero 55 = .ok (.aload_n 0, 1) := by decide +kernel
theorem dX5_zero_56 : decode cX5_zero 56 = .ok (.getfield 20, 3) := by decide +kernel
theorem dX5_zero_59 : decode cX5_zero 59 = .ok (.aload_n 0, 1) := by decide +kernel
theorem dX5_zero_60 : decode cX5_zero 60 = .ok (.getfield 20, 3) := by decide +kernel
theorem dX5_zero_63 : decode cX5_zero 63 = .ok (.getfield 64, 3) := by decide +kernel
theorem dX5_zero_66 : decode cX5_zero 66 = .ok (.putfield 67, 3) := by decide +kernel
theorem dX5_zero_69 : decode cX5_zero 69 = .ok (.iload_n 1, 1) := by decide +kernel
theorem dX5_zero_70 : decode cX5_zero 70 = .ok (.ireturn, 1) := by decide +kernel
theorem dX5_setBand_0 : decode cX5_setBand 0 = .ok (.iload_n 1, 1) := by decide +kernel
theorem dX5_setBand_1 : decode cX5_setBand 1 = .ok (.iconst 0, 1) := by decide +kernel
theorem dX5_setBand_2 : decode cX5_setBand 2 = .ok (.bipush 50, 2) := by decide +kernel
theorem dX5_setBand_4 : decode cX5_setBand 4 = .ok (.invokestatic 47, 3) := by decide +kernel
theorem dX5_setBand_7 : decode cX5_setBand 7 = .ok (.invokestatic 51, 3) := by decide +kernel
theorem dX5_setBand_10 : decode cX5_setBand 10 = .ok (.aload_n 0, 1) := by decide +kernel
theorem dX5_setBand_11 : decode cX5_setBand 11 = .ok (.getfield 20, 3) := by decide +kernel
theorem dX5_setBand_14 : decode cX5_setBand 14 = .ok (.getfield 70, 3) := by decide +kernel
theorem dX5_setBand_17 : decode cX5_setBand 17 = .ok (.istore_n 2, 1) := by decide +kernel
theorem dX5_setBand_18 : decode cX5_setBand 18 = .ok (.aload_n 0, 1) := by decide +kernel
theorem dX5_setBand_19 : decode cX5_setBand 19 = .ok (.getfield 20, 3) := by decide +kernel
theorem dX5_setBand_22 : decode cX5_setBand 22 = .ok (.iload_n 1, 1) := by decide +kernel
theorem dX5_setBand_23 : decode cX5_setBand 23 = .ok (.putfield 70, 3) := by decide +kernel
theorem dX5_setBand_26 : decode cX5_setBand 26 = .ok (.iload_n 2, 1) := by decide +kernel
theorem dX5_setBand_27 : decode cX5_setBand 27 = .ok (.ireturn, 1) := by decide +kernel
theorem dX5_gross_0 : decode cX5_gross 0 = .ok (.aload_n 0, 1) := by decide +kernel
theorem dX5_gross_1 : decode cX5_gross 1 = .ok (.getfield 20, 3) := by decide +kernel
theorem dX5_gross_4 : decode cX5_gross 4 = .ok (.invokevirtual 73, 3) := by decide +kernel
theorem dX5_gross_7 : decode cX5_gross 7 = .ok (.ireturn, 1) := by decide +kernel
theorem dX5_net_0 : decode cX5_net 0 = .ok (.aload_n 0, 1) := by decide +kernel
theorem dX5_net_1 : decode cX5_net 1 = .ok (.getfield 20, 3) := by decide +kernel
theorem dX5_net_4 : decode cX5_net 4 = .ok (.invokevirtual 77, 3) := by decide +kernel
theorem dX5_net_7 : decode cX5_net 7 = .ok (.ireturn, 1) := by decide +kernel
theorem dX5_isSettled_0 : decode cX5_isSettled 0 = .ok (.aload_n 0, 1) := by decide +kernel
theorem dX5_isSettled_1 : decode cX5_isSettled 1 = .ok (.getfield 20, 3) := by decide +kernel
theorem dX5_isSettled_4 : decode cX5_isSettled 4 = .ok (.invokevirtual 55, 3) := by decide +kernel
theorem dX5_isSettled_7 : decode cX5_isSettled 7 = .ok (.ireturn, 1) := by decide +kernel
theorem dX5_fill_0 : decode cX5_fill 0 = .ok (.iload_n 1, 1) := by decide +kernel
theorem dX5_fill_1 : decode cX5_fill 1 = .ok (.invokestatic 80, 3) := by decide +kernel
theorem dX5_fill_4 : decode cX5_fill 4 = .ok (.iload_n 2, 1) := by decide +kernel
theorem dX5_fill_5 : decode cX5_fill 5 = .ok (.iconst 1, 1) := by decide +kernel
theorem dX5_fill_6 : decode cX5_fill 6 = .ok (.ldc 83, 2) := by decide +kernel
theorem dX5_fill_8 : decode cX5_fill 8 = .ok (.invokestatic 47, 3) := by decide +kernel
theorem dX5_fill_11 : decode cX5_fill 11 = .ok (.invokestatic 51, 3) := by decide +kernel
theorem dX5_fill_14 : decode cX5_fill 14 = .ok (.aload_n 0, 1) := by decide +kernel
theorem dX5_fill_15 : decode cX5_fill 15 = .ok (.getfield 30, 3) := by decide +kernel
theorem dX5_fill_18 : decode cX5_fill 18 = .ok (.getfield 84, 3) := by decide +kernel
theorem dX5_fill_21 : decode cX5_fill 21 = .ok (.bipush 30, 2) := by decide +kernel
theorem dX5_fill_23 : decode cX5_fill 23 = .ok (.if_icmp .ge 7, 3) := by decide +kernel
theorem dX5_fill_26 : decode cX5_fill 26 = .ok (.iconst 1, 1) := by decide +kernel
theorem dX5_fill_27 : decode cX5_fill 27 = .ok (.goto 4, 3) := by decide +kernel
theorem dX5_fill_30 : decode cX5_fill 30 = .ok (.iconst 0, 1) := by decide +kernel
theorem dX5_fill_31 : decode cX5_fill 31 = .ok (.invokestatic 61, 3) := by decide +kernel
theorem dX5_fill_34 : decode cX5_fill 34 = .ok (.aload_n 0, 1) := by decide +kernel
theorem dX5_fill_35 : decode cX5_fill 35 = .ok (.getfield 30, 3) := by decide +kernel
theorem dX5_fill_38 : decode cX5_fill 38 = .ok (.iload_n 1, 1) := by decide +kernel
theorem dX5_fill_39 : decode cX5_fill 39 = .ok (.iload_n 2, 1) := by decide +kernel
theorem dX5_fill_40 : decode cX5_fill 40 = .ok (.invokevirtual 89, 3) := by decide +kernel
theorem dX5_fill_43 : decode cX5_fill 43 = .ok (.ireturn, 1) := by decide +kernel
theorem dX5_setMargin_0 : decode cX5_setMargin 0 = .ok (.iload_n 1, 1) := by decide +kernel
theorem dX5_setMargin_1 : decode cX5_setMargin 1 = .ok (.invokestatic 80, 3) := by decide +kernel
theorem dX5_setMargin_4 : decode cX5_setMargin 4 = .ok (.iload_n 2, 1) := by decide +kernel
theorem dX5_setMargin_5 : decode cX5_setMargin 5 = .ok (.iconst 0, 1) := by decide +kernel
theorem dX5_setMargin_6 : decode cX5_setMargin 6 = .ok (.sipush 1000, 3) := by decide +kernel
theorem dX5_setMargin_9 : decode cX5_setMargin 9 = .ok (.invokestatic 47, 3) := by decide +kernel
theorem dX5_setMargin_12 : decode cX5_setMargin 12 = .ok (.invokestatic 51, 3) := by decide +kernel
theorem dX5_setMargin_15 : decode cX5_setMargin 15 = .ok (.aload_n 0, 1) := by decide +kernel
theorem dX5_setMargin_16 : decode cX5_setMargin 16 = .ok (.getfield 25, 3) := by decide +kernel
theorem dX5_setMargin_19 : decode cX5_setMargin 19 = .ok (.getfield 93, 3) := by decide +kernel
theorem dX5_setMargin_22 : decode cX5_setMargin 22 = .ok (.iload_n 1, 1) := by decide +kernel
theorem dX5_setMargin_23 : decode cX5_setMargin 23 = .ok (.invokestatic 99, 3) := by decide +kernel
theorem dX5_setMargin_26 : decode cX5_setMargin 26 = .ok (.istore_n 3, 1) := by decide +kernel
theorem dX5_setMargin_27 : decode cX5_setMargin 27 = .ok (.aload_n 0, 1) := by decide +kernel
theorem dX5_setMargin_28 : decode cX5_setMargin 28 = .ok (.getfield 25, 3) := by decide +kernel
theorem dX5_setMargin_31 : decode cX5_setMargin 31 = .ok (.getfield 93, 3) := by decide +kernel
theorem dX5_setMargin_34 : decode cX5_setMargin 34 = .ok (.iload_n 1, 1) := by decide +kernel
theorem dX5_setMargin_35 : decode cX5_setMargin 35 = .ok (.iload_n 2, 1) := by decide +kernel
theorem dX5_setMargin_36 : decode cX5_setMargin 36 = .ok (.invokestatic 103, 3) := by decide +kernel
theorem dX5_setMargin_39 : decode cX5_setMargin 39 = .ok (.iload_n 3, 1) := by decide +kernel
theorem dX5_setMargin_40 : decode cX5_setMargin 40 = .ok (.ireturn, 1) := by decide +kernel
theorem dX5_flight_0 : decode cX5_flight 0 = .ok (.iload_n 1, 1) := by decide +kernel
theorem dX5_flight_1 : decode cX5_flight 1 = .ok (.invokestatic 80, 3) := by decide +kernel
theorem dX5_flight_4 : decode cX5_flight 4 = .ok (.aload_n 0, 1) := by decide +kernel
theorem dX5_flight_5 : decode cX5_flight 5 = .ok (.getfield 25, 3) := by decide +kernel
theorem dX5_flight_8 : decode cX5_flight 8 = .ok (.getfield 107, 3) := by decide +kernel
theorem dX5_flight_11 : decode cX5_flight 11 = .ok (.iload_n 1, 1) := by decide +kernel
theorem dX5_flight_12 : decode cX5_flight 12 = .ok (.invokestatic 99, 3) := by decide +kernel
theorem dX5_flight_15 : decode cX5_flight 15 = .ok (.ireturn, 1) := by decide +kernel
theorem dX5_gate_0 : decode cX5_gate 0 = .ok (.iload_n 1, 1) := by decide +kernel
theorem dX5_gate_1 : decode cX5_gate 1 = .ok (.invokestatic 80, 3) := by decide +kernel
theorem dX5_gate_4 : decode cX5_gate 4 = .ok (.aload_n 0, 1) := by decide +kernel
theorem dX5_gate_5 : decode cX5_gate 5 = .ok (.getfield 10, 3) := by decide +kernel
theorem dX5_gate_8 : decode cX5_gate 8 = .ok (.iload_n 1, 1) := by decide +kernel
theorem dX5_gate_9 : decode cX5_gate 9 = .ok (.invokevirtual 110, 3) := by decide +kernel
theorem dX5_gate_12 : decode cX5_gate 12 = .ok (.ireturn, 1) := by decide +kernel
theorem dX5_stock_0 : decode cX5_stock 0 = .ok (.iload_n 1, 1) := by decide +kernel
theorem dX5_stock_1 : decode cX5_stock 1 = .ok (.invokestatic 80, 3) := by decide +kernel
theorem dX5_stock_4 : decode cX5_stock 4 = .ok (.aload_n 0, 1) := by decide +kernel
theorem dX5_stock_5 : decode cX5_stock 5 = .ok (.getfield 30, 3) := by decide +kernel
theorem dX5_stock_8 : decode cX5_stock 8 = .ok (.iload_n 1, 1) := by decide +kernel
theorem dX5_stock_9 : decode cX5_stock 9 = .ok (.invokevirtual 114, 3) := by decide +kernel
theorem dX5_stock_12 : decode cX5_stock 12 = .ok (.ireturn, 1) := by decide +kernel
theorem dX5_register_0 : decode cX5_register 0 = .ok (.iload_n 1, 1) := by decide +kernel
theorem dX5_register_1 : decode cX5_register 1 = .ok (.invokestatic 80, 3) := by decide +kernel
theorem dX5_register_4 : decode cX5_register 4 = .ok (.aload_n 0, 1) := by decide +kernel
theorem dX5_register_5 : decode cX5_register 5 = .ok (.getfield 25, 3) := by decide +kernel
theorem dX5_register_8 : decode cX5_register 8 = .ok (.getfield 117, 3) := by decide +kernel
theorem dX5_register_11 : decode cX5_register 11 = .ok (.iload_n 1, 1) := by decide +kernel
theorem dX5_register_12 : decode cX5_register 12 = .ok (.invokestatic 99, 3) := by decide +kernel
theorem dX5_register_15 : decode cX5_register 15 = .ok (.ireturn, 1) := by decide +kernel
theorem dX5_registerByLots_0 : decode cX5_registerByLots 0 = .ok (.iload_n 1, 1) := by decide +kernel
theorem dX5_registerByLots_1 : decode cX5_registerByLots 1 = .ok (.invokestatic 80, 3) := by decide +kernel
theorem dX5_registerByLots_4 : decode cX5_registerByLots 4 = .ok (.aload_n 0, 1) := by decide +kernel
theorem dX5_registerByLots_5 : decode cX5_registerByLots 5 = .ok (.getfield 30, 3) := by decide +kernel
theorem dX5_registerByLots_8 : decode cX5_registerByLots 8 = .ok (.iload_n 1, 1) := by decide +kernel
theorem dX5_registerByLots_9 : decode cX5_registerByLots 9 = .ok (.invokevirtual 120, 3) := by decide +kernel
theorem dX5_registerByLots_12 : decode cX5_registerByLots 12 = .ok (.aload_n 0, 1) := by decide +kernel
theorem dX5_registerByLots_13 : decode cX5_registerByLots 13 = .ok (.getfield 25, 3) := by decide +kernel
theorem dX5_registerByLots_16 : decode cX5_registerByLots 16 = .ok (.getfield 123, 3) := by decide +kernel
theorem dX5_registerByLots_19 : decode cX5_registerByLots 19 = .ok (.iload_n 1, 1) := by decide +kernel
theorem dX5_registerByLots_20 : decode cX5_registerByLots 20 = .ok (.invokestatic 99, 3) := by decide +kernel
theorem dX5_registerByLots_23 : decode cX5_registerByLots 23 = .ok (.iadd, 1) := by decide +kernel
theorem dX5_registerByLots_24 : decode cX5_registerByLots 24 = .ok (.ireturn, 1) := by decide +kernel
theorem dX5_leftOf_0 : decode cX5_leftOf 0 = .ok (.aload_n 0, 1) := by decide +kernel
theorem dX5_leftOf_1 : decode cX5_leftOf 1 = .ok (.iload_n 1, 1) := by decide +kernel
theorem dX5_leftOf_2 : decode cX5_leftOf 2 = .ok (.invokevirtual 126, 3) := by decide +kernel
theorem dX5_leftOf_5 : decode cX5_leftOf 5 = .ok (.aload_n 0, 1) := by decide +kernel
theorem dX5_leftOf_6 : decode cX5_leftOf 6 = .ok (.getfield 30, 3) := by decide +kernel
theorem dX5_leftOf_9 : decode cX5_leftOf 9 = .ok (.getfield 129, 3) := by decide +kernel
theorem dX5_leftOf_12 : decode cX5_leftOf 12 = .ok (.iload_n 1, 1) := by decide +kernel
theorem dX5_leftOf_13 : decode cX5_leftOf 13 = .ok (.invokestatic 99, 3) := by decide +kernel
theorem dX5_leftOf_16 : decode cX5_leftOf 16 = .ok (.ireturn, 1) := by decide +kernel
theorem dX5_firstBatch_0 : decode cX5_firstBatch 0 = .ok (.aload_n 0, 1) := by decide +kernel
theorem dX5_firstBatch_1 : decode cX5_firstBatch 1 = .ok (.iload_n 1, 1) := by decide +kernel
theorem dX5_firstBatch_2 : decode cX5_firstBatch 2 = .ok (.invokevirtual 126, 3) := by decide +kernel
theorem dX5_firstBatch_5 : decode cX5_firstBatch 5 = .ok (.aload_n 0, 1) := by decide +kernel
theorem dX5_firstBatch_6 : decode cX5_firstBatch 6 = .ok (.getfield 30, 3) := by decide +kernel
theorem dX5_firstBatch_9 : decode cX5_firstBatch 9 = .ok (.iload_n 1, 1) := by decide +kernel
theorem dX5_firstBatch_10 : decode cX5_firstBatch 10 = .ok (.aload_n 0, 1) := by decide +kernel
theorem dX5_firstBatch_11 : decode cX5_firstBatch 11 = .ok (.getfield 10, 3) := by decide +kernel
theorem dX5_firstBatch_14 : decode cX5_firstBatch 14 = .ok (.getfield 132, 3) := by decide +kernel
theorem dX5_firstBatch_17 : decode cX5_firstBatch 17 = .ok (.invokevirtual 135, 3) := by decide +kernel
theorem dX5_firstBatch_20 : decode cX5_firstBatch 20 = .ok (.ireturn, 1) := by decide +kernel
theorem dX5_used_0 : decode cX5_used 0 = .ok (.aload_n 0, 1) := by decide +kernel
theorem dX5_used_1 : decode cX5_used 1 = .ok (.iload_n 1, 1) := by decide +kernel
theorem dX5_used_2 : decode cX5_used 2 = .ok (.invokevirtual 126, 3) := by decide +kernel
theorem dX5_used_5 : decode cX5_used 5 = .ok (.aload_n 0, 1) := by decide +kernel
theorem dX5_used_6 : decode cX5_used 6 = .ok (.iload_n 2, 1) := by decide +kernel
theorem dX5_used_7 : decode cX5_used 7 = .ok (.invokevirtual 138, 3) := by decide +kernel
theorem dX5_used_10 : decode cX5_used 10 = .ok (.aload_n 0, 1) := by decide +kernel
theorem dX5_used_11 : decode cX5_used 11 = .ok (.getfield 30, 3) := by decide +kernel
theorem dX5_used_14 : decode cX5_used 14 = .ok (.iload_n 1, 1) := by decide +kernel
theorem dX5_used_15 : decode cX5_used 15 = .ok (.iload_n 2, 1) := by decide +kernel
theorem dX5_used_16 : decode cX5_used 16 = .ok (.invokevirtual 141, 3) := by decide +kernel
theorem dX5_used_19 : decode cX5_used 19 = .ok (.ireturn, 1) := by decide +kernel
theorem dX5_addStep_0 : decode cX5_addStep 0 = .ok (.iload_n 1, 1) := by decide +kernel
theorem dX5_addStep_1 : decode cX5_addStep 1 = .ok (.invokestatic 80, 3) := by decide +kernel
theorem dX5_addStep_4 : decode cX5_addStep 4 = .ok (.iload_n 2, 1) := by decide +kernel
theorem dX5_addStep_5 : decode cX5_addStep 5 = .ok (.iconst 1, 1) := by decide +kernel
theorem dX5_addStep_6 : decode cX5_addStep 6 = .ok (.sipush 10000, 3) := by decide +kernel
theorem dX5_addStep_9 : decode cX5_addStep 9 = .ok (.invokestatic 47, 3) := by decide +kernel
theorem dX5_addStep_12 : decode cX5_addStep 12 = .ok (.ifCond .eq 18, 3) := by decide +kernel
theorem dX5_addStep_15 : decode cX5_addStep 15 = .ok (.iload_n 3, 1) := by decide +kernel
theorem dX5_addStep_16 : decode cX5_addStep 16 = .ok (.iconst 0, 1) := by decide +kernel
theorem dX5_addStep_17 : decode cX5_addStep 17 = .ok (.sipush 1000, 3) := by decide +kernel
theorem dX5_addStep_20 : decode cX5_addStep 20 = .ok (.invokestatic 47, 3) := by decide +kernel
theorem dX5_addStep_23 : decode cX5_addStep 23 = .ok (.ifCond .eq 7, 3) := by decide +kernel
theorem dX5_addStep_26 : decode cX5_addStep 26 = .ok (.iconst 1, 1) := by decide +kernel
theorem dX5_addStep_27 : decode cX5_addStep 27 = .ok (.goto 4, 3) := by decide +kernel
theorem dX5_addStep_30 : decode cX5_addStep 30 = .ok (.iconst 0, 1) := by decide +kernel
theorem dX5_addStep_31 : decode cX5_addStep 31 = .ok (.invokestatic 51, 3) := by decide +kernel
theorem dX5_addStep_34 : decode cX5_addStep 34 = .ok (.aload_n 0, 1) := by decide +kernel
theorem dX5_addStep_35 : decode cX5_addStep 35 = .ok (.getfield 10, 3) := by decide +kernel
theorem dX5_addStep_38 : decode cX5_addStep 38 = .ok (.getfield 43, 3) := by decide +kernel
theorem dX5_addStep_41 : decode cX5_addStep 41 = .ok (.ifCond .ne 19, 3) := by decide +kernel
theorem dX5_addStep_44 : decode cX5_addStep 44 = .ok (.aload_n 0, 1) := by decide +kernel
theorem dX5_addStep_45 : decode cX5_addStep 45 = .ok (.getfield 35, 3) := by decide +kernel
theorem dX5_addStep_48 : decode cX5_addStep 48 = .ok (.getfield 144, 3) := by decide +kernel
theorem dX5_addStep_51 : decode cX5_addStep 51 = .ok (.bipush 6, 2) := by decide +kernel
theorem dX5_addStep_53 : decode cX5_addStep 53 = .ok (.if_icmp .ge 7, 3) := by decide +kernel
theorem dX5_addStep_56 : decode cX5_addStep 56 = .ok (.iconst 1, 1) := by decide +kernel
theorem dX5_addStep_57 : decode cX5_addStep 57 = .ok (.goto 4, 3) := by decide +kernel
theorem dX5_addStep_60 : decode cX5_addStep 60 = .ok (.iconst 0, 1) := by decide +kernel
theorem dX5_addStep_61 : decode cX5_addStep 61 = .ok (.invokestatic 61, 3) := by decide +kernel
theorem dX5_addStep_64 : decode cX5_addStep 64 = .ok (.aload_n 0, 1) := by decide +kernel
theorem dX5_addStep_65 : decode cX5_addStep 65 = .ok (.getfield 35, 3) := by decide +kernel
theorem dX5_addStep_68 : decode cX5_addStep 68 = .ok (.iload_n 1, 1) := by decide +kernel
theorem dX5_addStep_69 : decode cX5_addStep 69 = .ok (.iload_n 2, 1) := by decide +kernel
theorem dX5_addStep_70 : decode cX5_addStep 70 = .ok (.iload_n 3, 1) := by decide +kernel
theorem dX5_addStep_71 : decode cX5_addStep 71 = .ok (.invokevirtual 147, 3) := by decide +kernel
theorem dX5_addStep_74 : decode cX5_addStep 74 = .ok (.aload_n 0, 1) := by decide +kernel
theorem dX5_addStep_75 : decode cX5_addStep 75 = .ok (.getfield 35, 3) := by decide +kernel
theorem dX5_addStep_78 : decode cX5_addStep 78 = .ok (.getfield 144, 3) := by decide +kernel
theorem dX5_addStep_81 : decode cX5_addStep 81 = .ok (.ireturn, 1) := by decide +kernel
theorem dX5_start_0 : decode cX5_start 0 = .ok (.aload_n 0, 1) := by decide +kernel
theorem dX5_start_1 : decode cX5_start 1 = .ok (.getfield 10, 3) := by decide +kernel
theorem dX5_start_4 : decode cX5_start 4 = .ok (.getfield 43, 3) := by decide +kernel
theorem dX5_start_7 : decode cX5_start 7 = .ok (.ifCond .ne 29, 3) := by decide +kernel
theorem dX5_start_10 : decode cX5_start 10 = .ok (.aload_n 0, 1) := by decide +kernel
theorem dX5_start_11 : decode cX5_start 11 = .ok (.getfield 35, 3) := by decide +kernel
theorem dX5_start_14 : decode cX5_start 14 = .ok (.getfield 144, 3) := by decide +kernel
theorem dX5_start_17 : decode cX5_start 17 = .ok (.ifCond .le 19, 3) := by decide +kernel
theorem dX5_start_20 : decode cX5_start 20 = .ok (.aload_n 0, 1) := by decide +kernel
theorem dX5_start_21 : decode cX5_start 21 = .ok (.getfield 10, 3) := by decide +kernel
theorem dX5_start_24 : decode cX5_start 24 = .ok (.getfield 132, 3) := by decide +kernel
theorem dX5_start_27 : decode cX5_start 27 = .ok (.bipush 20, 2) := by decide +kernel
theorem dX5_start_29 : decode cX5_start 29 = .ok (.if_icmp .ge 7, 3) := by decide +kernel
theorem dX5_start_32 : decode cX5_start 32 = .ok (.iconst 1, 1) := by decide +kernel
theorem dX5_start_33 : decode cX5_start 33 = .ok (.goto 4, 3) := by decide +kernel
theorem dX5_start_36 : decode cX5_start 36 = .ok (.iconst 0, 1) := by decide +kernel
theorem dX5_start_37 : decode cX5_start 37 = .ok (.invokestatic 61, 3) := by decide +kernel
theorem dX5_start_40 : decode cX5_start 40 = .ok (.aload_n 0, 1) := by decide +kernel
theorem dX5_start_41 : decode cX5_start 41 = .ok (.getfield 10, 3) := by decide +kernel
theorem dX5_start_44 : decode cX5_start 44 = .ok (.invokevirtual 151, 3) := by decide +kernel
theorem dX5_start_47 : decode cX5_start 47 = .ok (.ireturn, 1) := by decide +kernel
theorem dX5_hold_0 : decode cX5_hold 0 = .ok (.aload_n 0, 1) := by decide +kernel
theorem dX5_hold_1 : decode cX5_hold 1 = .ok (.getfield 10, 3) := by decide +kernel
theorem dX5_hold_4 : decode cX5_hold 4 = .ok (.getfield 43, 3) := by decide +kernel
theorem dX5_hold_7 : decode cX5_hold 7 = .ok (.ifCond .eq 19, 3) := by decide +kernel
theorem dX5_hold_10 : decode cX5_hold 10 = .ok (.aload_n 0, 1) := by decide +kernel
theorem dX5_hold_11 : decode cX5_hold 11 = .ok (.getfield 10, 3) := by decide +kernel
theorem dX5_hold_14 : decode cX5_hold 14 = .ok (.getfield 43, 3) := by decide +kernel
theorem dX5_hold_17 : decode cX5_hold 17 = .ok (.bipush 6, 2) := by decide +kernel
theorem dX5_hold_19 : decode cX5_hold 19 = .ok (.if_icmp .eq 7, 3) := by decide +kernel
theorem dX5_hold_22 : decode cX5_hold 22 = .ok (.iconst 1, 1) := by decide +kernel
theorem dX5_hold_23 : decode cX5_hold 23 = .ok (.goto 4, 3) := by decide +kernel
theorem dX5_hold_26 : decode cX5_hold 26 = .ok (.iconst 0, 1) := by decide +kernel
theorem dX5_hold_27 : decode cX5_hold 27 = .ok (.invokestatic 61, 3) := by decide +kernel
theorem dX5_hold_30 : decode cX5_hold 30 = .ok (.aload_n 0, 1) := by decide +kernel
theorem dX5_hold_31 : decode cX5_hold 31 = .ok (.getfield 10, 3) := by decide +kernel
theorem dX5_hold_34 : decode cX5_hold 34 = .ok (.iconst 0, 1) := by decide +kernel
theorem dX5_hold_35 : decode cX5_hold 35 = .ok (.invokevirtual 154, 3) := by decide +kernel
theorem dX5_hold_38 : decode cX5_hold 38 = .ok (.aload_n 0, 1) := by decide +kernel
theorem dX5_hold_39 : decode cX5_hold 39 = .ok (.getfield 10, 3) := by decide +kernel
theorem dX5_hold_42 : decode cX5_hold 42 = .ok (.getfield 157, 3) := by decide +kernel
theorem dX5_hold_45 : decode cX5_hold 45 = .ok (.ireturn, 1) := by decide +kernel
theorem dX5_resume_0 : decode cX5_resume 0 = .ok (.aload_n 0, 1) := by decide +kernel
theorem dX5_resume_1 : decode cX5_resume 1 = .ok (.getfield 10, 3) := by decide +kernel
theorem dX5_resume_4 : decode cX5_resume 4 = .ok (.getfield 43, 3) := by decide +kernel
theorem dX5_resume_7 : decode cX5_resume 7 = .ok (.bipush 6, 2) := by decide +kernel
theorem dX5_resume_9 : decode cX5_resume 9 = .ok (.if_icmp .ne 7, 3) := by decide +kernel
theorem dX5_resume_12 : decode cX5_resume 12 = .ok (.iconst 1, 1) := by decide +kernel
theorem dX5_resume_13 : decode cX5_resume 13 = .ok (.goto 4, 3) := by decide +kernel
theorem dX5_resume_16 : decode cX5_resume 16 = .ok (.iconst 0, 1) := by decide +kernel
theorem dX5_resume_17 : decode cX5_resume 17 = .ok (.invokestatic 61, 3) := by decide +kernel
theorem dX5_resume_20 : decode cX5_resume 20 = .ok (.aload_n 0, 1) := by decide +kernel
theorem dX5_resume_21 : decode cX5_resume 21 = .ok (.getfield 10, 3) := by decide +kernel
theorem dX5_resume_24 : decode cX5_resume 24 = .ok (.invokevirtual 160, 3) := by decide +kernel
theorem dX5_resume_27 : decode cX5_resume 27 = .ok (.aload_n 0, 1) := by decide +kernel
theorem dX5_resume_28 : decode cX5_resume 28 = .ok (.getfield 10, 3) := by decide +kernel
theorem dX5_resume_31 : decode cX5_resume 31 = .ok (.getfield 43, 3) := by decide +kernel
theorem dX5_resume_34 : decode cX5_resume 34 = .ok (.ireturn, 1) := by decide +kernel
theorem dX5_abort_0 : decode cX5_abort 0 = .ok (.aload_n 0, 1) := by decide +kernel
theorem dX5_abort_1 : decode cX5_abort 1 = .ok (.getfield 10, 3) := by decide +kernel
theorem dX5_abort_4 : decode cX5_abort 4 = .ok (.getfield 43, 3) := by decide +kernel
theorem dX5_abort_7 : decode cX5_abort 7 = .ok (.ifCond .eq 7, 3) := by decide +kernel
theorem dX5_abort_10 : decode cX5_abort 10 = .ok (.iconst 1, 1) := by decide +kernel
theorem dX5_abort_11 : decode cX5_abort 11 = .ok (.goto 4, 3) := by decide +kernel
theorem dX5_abort_14 : decode cX5_abort 14 = .ok (.iconst 0, 1) := by decide +kernel
theorem dX5_abort_15 : decode cX5_abort 15 = .ok (.invokestatic 61, 3) := by decide +kernel
theorem dX5_abort_18 : decode cX5_abort 18 = .ok (.aload_n 0, 1) := by decide +kernel
theorem dX5_abort_19 : decode cX5_abort 19 = .ok (.getfield 10, 3) := by decide +kernel
theorem dX5_abort_22 : decode cX5_abort 22 = .ok (.invokevirtual 163, 3) := by decide +kernel
theorem dX5_abort_25 : decode cX5_abort 25 = .ok (.ireturn, 1) := by decide +kernel
theorem dX5_state_0 : decode cX5_state 0 = .ok (.aload_n 0, 1) := by decide +kernel
theorem dX5_state_1 : decode cX5_state 1 = .ok (.getfield 10, 3) := by decide +kernel
theorem dX5_state_4 : decode cX5_state 4 = .ok (.getfield 43, 3) := by decide +kernel
theorem dX5_state_7 : decode cX5_state 7 = .ok (.ireturn, 1) := by decide +kernel
theorem dX5_alarm_0 : decode cX5_alarm 0 = .ok (.aload_n 0, 1) := by decide +kernel
theorem dX5_alarm_1 : decode cX5_alarm 1 = .ok (.getfield 10, 3) := by decide +kernel
theorem dX5_alarm_4 : decode cX5_alarm 4 = .ok (.getfield 166, 3) := by decide +kernel
theorem dX5_alarm_7 : decode cX5_alarm 7 = .ok (.ireturn, 1) := by decide +kernel
theorem dX5_step_0 : decode cX5_step 0 = .ok (.aload_n 0, 1) := by decide +kernel
theorem dX5_step_1 : decode cX5_step 1 = .ok (.getfield 10, 3) := by decide +kernel
theorem dX5_step_4 : decode cX5_step 4 = .ok (.getfield 43, 3) := by decide +kernel
theorem dX5_step_7 : decode cX5_step 7 = .ok (.ifCond .ne 7, 3) := by decide +kernel
theorem dX5_step_10 : decode cX5_step 10 = .ok (.iconst (-1), 1) := by decide +kernel
theorem dX5_step_11 : decode cX5_step 11 = .ok (.goto 10, 3) := by decide +kernel
theorem dX5_step_14 : decode cX5_step 14 = .ok (.aload_n 0, 1) := by decide +kernel
theorem dX5_step_15 : decode cX5_step 15 = .ok (.getfield 10, 3) := by decide +kernel
theorem dX5_step_18 : decode cX5_step 18 = .ok (.getfield 169, 3) := by decide +kernel
theorem dX5_step_21 : decode cX5_step 21 = .ok (.ireturn, 1) := by decide +kernel
theorem dX5_jogs_0 : decode cX5_jogs 0 = .ok (.aload_n 0, 1) := by decide +kernel
theorem dX5_jogs_1 : decode cX5_jogs 1 = .ok (.getfield 10, 3) := by decide +kernel
theorem dX5_jogs_4 : decode cX5_jogs 4 = .ok (.getfield 43, 3) := by decide +kernel
theorem dX5_jogs_7 : decode cX5_jogs 7 = .ok (.ifCond .ne 7, 3) := by decide +kernel
theorem dX5_jogs_10 : decode cX5_jogs 10 = .ok (.iconst 0, 1) := by decide +kernel
theorem dX5_jogs_11 : decode cX5_jogs 11 = .ok (.goto 10, 3) := by decide +kernel
theorem dX5_jogs_14 : decode cX5_jogs 14 = .ok (.aload_n 0, 1) := by decide +kernel
theorem dX5_jogs_15 : decode cX5_jogs 15 = .ok (.getfield 10, 3) := by decide +kernel
theorem dX5_jogs_18 : decode cX5_jogs 18 = .ok (.getfield 172, 3) := by decide +kernel
theorem dX5_jogs_21 : decode cX5_jogs 21 = .ok (.ireturn, 1) := by decide +kernel
theorem dX5_batches_0 : decode cX5_batches 0 = .ok (.aload_n 0, 1) := by decide +kernel
theorem dX5_batches_1 : decode cX5_batches 1 = .ok (.getfield 10, 3) := by decide +kernel
theorem dX5_batches_4 : decode cX5_batches 4 = .ok (.getfield 132, 3) := by decide +kernel
theorem dX5_batches_7 : decode cX5_batches 7 = .ok (.ireturn, 1) := by decide +kernel
theorem dX5_done_0 : decode cX5_done 0 = .ok (.aload_n 0, 1) := by decide +kernel
theorem dX5_done_1 : decode cX5_done 1 = .ok (.getfield 10, 3) := by decide +kernel
theorem dX5_done_4 : decode cX5_done 4 = .ok (.getfield 175, 3) := by decide +kernel
theorem dX5_done_7 : decode cX5_done 7 = .ok (.ireturn, 1) := by decide +kernel
theorem dX5_belt_0 : decode cX5_belt 0 = .ok (.iload_n 1, 1) := by decide +kernel
theorem dX5_belt_1 : decode cX5_belt 1 = .ok (.iconst 0, 1) := by decide +kernel
theorem dX5_belt_2 : decode cX5_belt 2 = .ok (.sipush 10000, 3) := by decide +kernel
theorem dX5_belt_5 : decode cX5_belt 5 = .ok (.invokestatic 47, 3) := by decide +kernel
theorem dX5_belt_8 : decode cX5_belt 8 = .ok (.ifCond .eq 18, 3) := by decide +kernel
theorem dX5_belt_11 : decode cX5_belt 11 = .ok (.iload_n 2, 1) := by decide +kernel
theorem dX5_belt_12 : decode cX5_belt 12 = .ok (.iconst 0, 1) := by decide +kernel
theorem dX5_belt_13 : decode cX5_belt 13 = .ok (.sipush 1000, 3) := by decide +kernel
theorem dX5_belt_16 : decode cX5_belt 16 = .ok (.invokestatic 47, 3) := by decide +kernel
theorem dX5_belt_19 : decode cX5_belt 19 = .ok (.ifCond .eq 7, 3) := by decide +kernel
theorem dX5_belt_22 : decode cX5_belt 22 = .ok (.iconst 1, 1) := by decide +kernel
theorem dX5_belt_23 : decode cX5_belt 23 = .ok (.goto 4, 3) := by decide +kernel
theorem dX5_belt_26 : decode cX5_belt 26 = .ok (.iconst 0, 1) := by decide +kernel
theorem dX5_belt_27 : decode cX5_belt 27 = .ok (.invokestatic 51, 3) := by decide +kernel
theorem dX5_belt_30 : decode cX5_belt 30 = .ok (.iload_n 3, 1) := by decide +kernel
theorem dX5_belt_31 : decode cX5_belt 31 = .ok (.iconst 1, 1) := by decide +kernel
theorem dX5_belt_32 : decode cX5_belt 32 = .ok (.bipush 100, 2) := by decide +kernel
theorem dX5_belt_34 : decode cX5_belt 34 = .ok (.invokestatic 47, 3) := by decide +kernel
theorem dX5_belt_37 : decode cX5_belt 37 = .ok (.invokestatic 51, 3) := by decide +kernel
theorem dX5_belt_40 : decode cX5_belt 40 = .ok (.aload_n 0, 1) := by decide +kernel
theorem dX5_belt_41 : decode cX5_belt 41 = .ok (.dup, 1) := by decide +kernel
theorem dX5_belt_42 : decode cX5_belt 42 = .ok (.getfield 178, 3) := by decide +kernel
theorem dX5_belt_45 : decode cX5_belt 45 = .ok (.iload_n 1, 1) := by decide +kernel
theorem dX5_belt_46 : decode cX5_belt 46 = .ok (.i2l, 1) := by decide +kernel
theorem dX5_belt_47 : decode cX5_belt 47 = .ok (.iload_n 2, 1) := by decide +kernel
theorem dX5_belt_48 : decode cX5_belt 48 = .ok (.i2l, 1) := by decide +kernel
theorem dX5_belt_49 : decode cX5_belt 49 = .ok (.lmul, 1) := by decide +kernel
theorem dX5_belt_50 : decode cX5_belt 50 = .ok (.iload_n 3, 1) := by decide +kernel
theorem dX5_belt_51 : decode cX5_belt 51 = .ok (.i2l, 1) := by decide +kernel
theorem dX5_belt_52 : decode cX5_belt 52 = .ok (.lmul, 1) := by decide +kernel
theorem dX5_belt_53 : decode cX5_belt 53 = .ok (.ladd, 1) := by decide +kernel
theorem dX5_belt_54 : decode cX5_belt 54 = .ok (.putfield 178, 3) := by decide +kernel
theorem dX5_belt_57 : decode cX5_belt 57 = .ok (.aload_n 0, 1) := by decide +kernel
theorem dX5_belt_58 : decode cX5_belt 58 = .ok (.getfield 178, 3) := by decide +kernel
theorem dX5_belt_61 : decode cX5_belt 61 = .ok (.ldc2_w 182, 3) := by decide +kernel
theorem dX5_belt_64 : decode cX5_belt 64 = .ok (.ldiv, 1) := by decide +kernel
theorem dX5_belt_65 : decode cX5_belt 65 = .ok (.lreturn, 1) := by decide +kernel
theorem dX5_needLot_0 : decode cX5_needLot 0 = .ok (.iload_n 1, 1) := by decide +kernel
theorem dX5_needLot_1 : decode cX5_needLot 1 = .ok (.iconst 0, 1) := by decide +kernel
theorem dX5_needLot_2 : decode cX5_needLot 2 = .ok (.aload_n 0, 1) := by decide +kernel
theorem dX5_needLot_3 : decode cX5_needLot 3 = .ok (.getfield 30, 3) := by decide +kernel
theorem dX5_needLot_6 : decode cX5_needLot 6 = .ok (.getfield 84, 3) := by decide +kernel
theorem dX5_needLot_9 : decode cX5_needLot 9 = .ok (.iconst 1, 1) := by decide +kernel
theorem dX5_needLot_10 : decode cX5_needLot 10 = .ok (.isub, 1) := by decide +kernel
theorem dX5_needLot_11 : decode cX5_needLot 11 = .ok (.invokestatic 47, 3) := by decide +kernel
theorem dX5_needLot_14 : decode cX5_needLot 14 = .ok (.ifCond .ne 13, 3) := by decide +kernel
theorem dX5_needLot_17 : decode cX5_needLot 17 = .ok (.new 184, 3) := by decide +kernel
theorem dX5_needLot_20 : decode cX5_needLot 20 = .ok (.dup, 1) := by decide +kernel
theorem dX5_needLot_21 : decode cX5_needLot 21 = .ok (.ldc 186, 2) := by decide +kernel
theorem dX5_needLot_23 : decode cX5_needLot 23 = .ok (.invokespecial 188, 3) := by decide +kernel
theorem dX5_needLot_26 : decode cX5_needLot 26 = .ok (.athrow, 1) := by decide +kernel
theorem dX5_needLot_27 : decode cX5_needLot 27 = .ok (.return_, 1) := by decide +kernel
theorem dX5_needBatch_0 : decode cX5_needBatch 0 = .ok (.iload_n 1, 1) := by decide +kernel
theorem dX5_needBatch_1 : decode cX5_needBatch 1 = .ok (.iconst 0, 1) := by decide +kernel
theorem dX5_needBatch_2 : decode cX5_needBatch 2 = .ok (.aload_n 0, 1) := by decide +kernel
theorem dX5_needBatch_3 : decode cX5_needBatch 3 = .ok (.getfield 10, 3) := by decide +kernel
theorem dX5_needBatch_6 : decode cX5_needBatch 6 = .ok (.getfield 132, 3) := by decide +kernel
theorem dX5_needBatch_9 : decode cX5_needBatch 9 = .ok (.iconst 1, 1) := by decide +kernel
theorem dX5_needBatch_10 : decode cX5_needBatch 10 = .ok (.isub, 1) := by decide +kernel
theorem dX5_needBatch_11 : decode cX5_needBatch 11 = .ok (.invokestatic 47, 3) := by decide +kernel
theorem dX5_needBatch_14 : decode cX5_needBatch 14 = .ok (.ifCond .ne 13, 3) := by decide +kernel
theorem dX5_needBatch_17 : decode cX5_needBatch 17 = .ok (.new 184, 3) := by decide +kernel
theorem dX5_needBatch_20 : decode cX5_needBatch 20 = .ok (.dup, 1) := by decide +kernel
theorem dX5_needBatch_21 : decode cX5_needBatch 21 = .ok (.ldc 191, 2) := by decide +kernel
theorem dX5_needBatch_23 : decode cX5_needBatch 23 = .ok (.invokespecial 188, 3) := by decide +kernel
theorem dX5_needBatch_26 : decode cX5_needBatch 26 = .ok (.athrow, 1) := by decide +kernel
theorem dX5_needBatch_27 : decode cX5_needBatch 27 = .ok (.return_, 1) := by decide +kernel
theorem dX5_needBin_0 : decode cX5_needBin 0 = .ok (.iload_n 0, 1) := by decide +kernel
theorem dX5_needBin_1 : decode cX5_needBin 1 = .ok (.iconst 0, 1) := by decide +kernel
theorem dX5_needBin_2 : decode cX5_needBin 2 = .ok (.iconst 3, 1) := by decide +kernel
theorem dX5_needBin_3 : decode cX5_needBin 3 = .ok (.invokestatic 47, 3) := by decide +kernel
theorem dX5_needBin_6 : decode cX5_needBin 6 = .ok (.ifCond .ne 13, 3) := by decide +kernel
theorem dX5_needBin_9 : decode cX5_needBin 9 = .ok (.new 184, 3) := by decide +kernel
theorem dX5_needBin_12 : decode cX5_needBin 12 = .ok (.dup, 1) := by decide +kernel
theorem dX5_needBin_13 : decode cX5_needBin 13 = .ok (.ldc 193, 2) := by decide +kernel
theorem dX5_needBin_15 : decode cX5_needBin 15 = .ok (.invokespecial 188, 3) := by decide +kernel
theorem dX5_needBin_18 : decode cX5_needBin 18 = .ok (.athrow, 1) := by decide +kernel
theorem dX5_needBin_19 : decode cX5_needBin 19 = .ok (.return_, 1) := by decide +kernel
theorem dX5_needReading_0 : decode cX5_needReading 0 = .ok (.iload_n 0, 1) := by decide +kernel
theorem dX5_needReading_1 : decode cX5_needReading 1 = .ok (.sipush (-1000), 3) := by decide +kernel
theorem dX5_needReading_4 : decode cX5_needReading 4 = .ok (.ldc 83, 2) := by decide +kernel
theorem dX5_needReading_6 : decode cX5_needReading 6 = .ok (.invokestatic 47, 3) := by decide +kernel
theorem dX5_needReading_9 : decode cX5_needReading 9 = .ok (.invokestatic 51, 3) := by decide +kernel
theorem dX5_needReading_12 : decode cX5_needReading 12 = .ok (.return_, 1) := by decide +kernel
theorem dX5_needArgument_0 : decode cX5_needArgument 0 = .ok (.iload_n 0, 1) := by decide +kernel
theorem dX5_needArgument_1 : decode cX5_needArgument 1 = .ok (.ifCond .ne 13, 3) := by decide +kernel
theorem dX5_needArgument_4 : decode cX5_needArgument 4 = .ok (.new 195, 3) := by decide +kernel
theorem dX5_needArgument_7 : decode cX5_needArgument 7 = .ok (.dup, 1) := by decide +kernel
theorem dX5_needArgument_8 : decode cX5_needArgument 8 = .ok (.ldc 197, 2) := by decide +kernel
theorem dX5_needArgument_10 : decode cX5_needArgument 10 = .ok (.invokespecial 199, 3) := by decide +kernel
theorem dX5_needArgument_13 : decode cX5_needArgument 13 = .ok (.athrow, 1) := by decide +kernel
theorem dX5_needArgument_14 : decode cX5_needArgument 14 = .ok (.return_, 1) := by decide +kernel
theorem dX5_needState_0 : decode cX5_needState 0 = .ok (.iload_n 0, 1) := by decide +kernel
theorem dX5_needState_1 : decode cX5_needState 1 = .ok (.ifCond .ne 13, 3) := by decide +kernel
theorem dX5_needState_4 : decode cX5_needState 4 = .ok (.new 200, 3) := by decide +kernel
theorem dX5_needState_7 : decode cX5_needState 7 = .ok (.dup, 1) := by decide +kernel
theorem dX5_needState_8 : decode cX5_needState 8 = .ok (.ldc 202, 2) := by decide +kernel
theorem dX5_needState_10 : decode cX5_needState 10 = .ok (.invokespecial 204, 3) := by decide +kernel
theorem dX5_needState_13 : decode cX5_needState 13 = .ok (.athrow, 1) := by decide +kernel
theorem dX5_needState_14 : decode cX5_needState 14 = .ok (.return_, 1) := by decide +kernel
theorem dX5_isWithin_0 : decode cX5_isWithin 0 = .ok (.iload_n 0, 1) := by decide +kernel
theorem dX5_isWithin_1 : decode cX5_isWithin 1 = .ok (.iload_n 1, 1) := by decide +kernel
theorem dX5_isWithin_2 : decode cX5_isWithin 2 = .ok (.if_icmp .lt 12, 3) := by decide +kernel
theorem dX5_isWithin_5 : decode cX5_isWithin 5 = .ok (.iload_n 0, 1) := by decide +kernel
theorem dX5_isWithin_6 : decode cX5_isWithin 6 = .ok (.iload_n 2, 1) := by decide +kernel
theorem dX5_isWithin_7 : decode cX5_isWithin 7 = .ok (.if_icmp .gt 7, 3) := by decide +kernel
theorem dX5_isWithin_10 : decode cX5_isWithin 10 = .ok (.iconst 1, 1) := by decide +kernel
theorem dX5_isWithin_11 : decode cX5_isWithin 11 = .ok (.goto 4, 3) := by decide +kernel
theorem dX5_isWithin_14 : decode cX5_isWithin 14 = .ok (.iconst 0, 1) := by decide +kernel
theorem dX5_isWithin_15 : decode cX5_isWithin 15 = .ok (.ireturn, 1) := by decide +kernel
theorem dX5_at_0 : decode cX5_at 0 = .ok (.iload_n 1, 1) := by decide +kernel
theorem dX5_at_1 : decode cX5_at 1 = .ok (.ifCond .lt 15, 3) := by decide +kernel
theorem dX5_at_4 : decode cX5_at 4 = .ok (.iload_n 1, 1) := by decide +kernel
theorem dX5_at_5 : decode cX5_at 5 = .ok (.aload_n 0, 1) := by decide +kernel
theorem dX5_at_6 : decode cX5_at 6 = .ok (.arraylength, 1) := by decide +kernel
theorem dX5_at_7 : decode cX5_at 7 = .ok (.if_icmp .ge 9, 3) := by decide +kernel
theorem dX5_at_10 : decode cX5_at 10 = .ok (.aload_n 0, 1) := by decide +kernel
theorem dX5_at_11 : decode cX5_at 11 = .ok (.iload_n 1, 1) := by decide +kernel
theorem dX5_at_12 : decode cX5_at 12 = .ok (.iaload, 1) := by decide +kernel
theorem dX5_at_13 : decode cX5_at 13 = .ok (.goto 4, 3) := by decide +kernel
theorem dX5_at_16 : decode cX5_at 16 = .ok (.iconst 0, 1) := by decide +kernel
theorem dX5_at_17 : decode cX5_at 17 = .ok (.ireturn, 1) := by decide +kernel
theorem dX5_put_0 : decode cX5_put 0 = .ok (.iload_n 1, 1) := by decide +kernel
theorem dX5_put_1 : decode cX5_put 1 = .ok (.ifCond .lt 13, 3) := by decide +kernel
theorem dX5_put_4 : decode cX5_put 4 = .ok (.iload_n 1, 1) := by decide +kernel
theorem dX5_put_5 : decode cX5_put 5 = .ok (.aload_n 0, 1) := by decide +kernel
theorem dX5_put_6 : decode cX5_put 6 = .ok (.arraylength, 1) := by decide +kernel
theorem dX5_put_7 : decode cX5_put 7 = .ok (.if_icmp .ge 7, 3) := by decide +kernel
theorem dX5_put_10 : decode cX5_put 10 = .ok (.aload_n 0, 1) := by decide +kernel
theorem dX5_put_11 : decode cX5_put 11 = .ok (.iload_n 1, 1) := by decide +kernel
theorem dX5_put_12 : decode cX5_put 12 = .ok (.iload_n 2, 1) := by decide +kernel
theorem dX5_put_13 : decode cX5_put 13 = .ok (.iastore, 1) := by decide +kernel
theorem dX5_put_14 : decode cX5_put 14 = .ok (.return_, 1) := by decide +kernel
theorem dX5_increase_0 : decode cX5_increase 0 = .ok (.iload_n 1, 1) := by decide +kernel
theorem dX5_increase_1 : decode cX5_increase 1 = .ok (.ifCond .lt 16, 3) := by decide +kernel
theorem dX5_increase_4 : decode cX5_increase 4 = .ok (.iload_n 1, 1) := by decide +kernel
theorem dX5_increase_5 : decode cX5_increase 5 = .ok (.aload_n 0, 1) := by decide +kernel
theorem dX5_increase_6 : decode cX5_increase 6 = .ok (.arraylength, 1) := by decide +kernel
theorem dX5_increase_7 : decode cX5_increase 7 = .ok (.if_icmp .ge 10, 3) := by decide +kernel
theorem dX5_increase_10 : decode cX5_increase 10 = .ok (.aload_n 0, 1) := by decide +kernel
theorem dX5_increase_11 : decode cX5_increase 11 = .ok (.iload_n 1, 1) := by decide +kernel
theorem dX5_increase_12 : decode cX5_increase 12 = .ok (.dup2, 1) := by decide +kernel
theorem dX5_increase_13 : decode cX5_increase 13 = .ok (.iaload, 1) := by decide +kernel
theorem dX5_increase_14 : decode cX5_increase 14 = .ok (.iload_n 2, 1) := by decide +kernel
theorem dX5_increase_15 : decode cX5_increase 15 = .ok (.iadd, 1) := by decide +kernel
theorem dX5_increase_16 : decode cX5_increase 16 = .ok (.iastore, 1) := by decide +kernel
theorem dX5_increase_17 : decode cX5_increase 17 = .ok (.return_, 1) := by decide +kernel
theorem dJ9_floorDiv_7cf53_0 : decode cJ9_floorDiv_7cf53 0 = .ok (.iload_n 0, 1) := by decide +kernel
theorem dJ9_floorDiv_7cf53_1 : decode cJ9_floorDiv_7cf53 1 = .ok (.iload_n 1, 1) := by decide +kernel
theorem dJ9_floorDiv_7cf53_2 : decode cJ9_floorDiv_7cf53 2 = .ok (.idiv, 1) := by decide +kernel
theorem dJ9_floorDiv_7cf53_3 : decode cJ9_floorDiv_7cf53 3 = .ok (.istore_n 2, 1) := by decide +kernel
theorem dJ9_floorDiv_7cf53_4 : decode cJ9_floorDiv_7cf53 4 = .ok (.iload_n 0, 1) := by decide +kernel
theorem dJ9_floorDiv_7cf53_5 : decode cJ9_floorDiv_7cf53 5 = .ok (.iload_n 1, 1) := by decide +kernel
theorem dJ9_floorDiv_7cf53_6 : decode cJ9_floorDiv_7cf53 6 = .ok (.ixor, 1) := by decide +kernel
theorem dJ9_floorDiv_7cf53_7 : decode cJ9_floorDiv_7cf53 7 = .ok (.ifCond .ge 14, 3) := by decide +kernel
theorem dJ9_floorDiv_7cf53_10 : decode cJ9_floorDiv_7cf53 10 = .ok (.iload_n 2, 1) := by decide +kernel
theorem dJ9_floorDiv_7cf53_11 : decode cJ9_floorDiv_7cf53 11 = .ok (.iload_n 1, 1) := by decide +kernel
theorem dJ9_floorDiv_7cf53_12 : decode cJ9_floorDiv_7cf53 12 = .ok (.imul, 1) := by decide +kernel
theorem dJ9_floorDiv_7cf53_13 : decode cJ9_floorDiv_7cf53 13 = .ok (.iload_n 0, 1) := by decide +kernel
theorem dJ9_floorDiv_7cf53_14 : decode cJ9_floorDiv_7cf53 14 = .ok (.if_icmp .eq 7, 3) := by decide +kernel
theorem dJ9_floorDiv_7cf53_17 : decode cJ9_floorDiv_7cf53 17 = .ok (.iload_n 2, 1) := by decide +kernel
theorem dJ9_floorDiv_7cf53_18 : decode cJ9_floorDiv_7cf53 18 = .ok (.iconst 1, 1) := by decide +kernel
theorem dJ9_floorDiv_7cf53_19 : decode cJ9_floorDiv_7cf53 19 = .ok (.isub, 1) := by decide +kernel
theorem dJ9_floorDiv_7cf53_20 : decode cJ9_floorDiv_7cf53 20 = .ok (.ireturn, 1) := by decide +kernel
theorem dJ9_floorDiv_7cf53_21 : decode cJ9_floorDiv_7cf53 21 = .ok (.iload_n 2, 1) := by decide +kernel
theorem dJ9_floorDiv_7cf53_22 : decode cJ9_floorDiv_7cf53 22 = .ok (.ireturn, 1) := by decide +kernel
theorem dJ9_max_7cf53_0 : decode cJ9_max_7cf53 0 = .ok (.iload_n 0, 1) := by decide +kernel
theorem dJ9_max_7cf53_1 : decode cJ9_max_7cf53 1 = .ok (.iload_n 1, 1) := by decide +kernel
theorem dJ9_max_7cf53_2 : decode cJ9_max_7cf53 2 = .ok (.if_icmp .lt 7, 3) := by decide +kernel
theorem dJ9_max_7cf53_5 : decode cJ9_max_7cf53 5 = .ok (.iload_n 0, 1) := by decide +kernel
theorem dJ9_max_7cf53_6 : decode cJ9_max_7cf53 6 = .ok (.goto 4, 3) := by decide +kernel
theorem dJ9_max_7cf53_9 : decode cJ9_max_7cf53 9 = .ok (.iload_n 1, 1) := by decide +kernel
theorem dJ9_max_7cf53_10 : decode cJ9_max_7cf53 10 = .ok (.ireturn, 1) := by decide +kernel
theorem dJ9_min_7cf53_0 : decode cJ9_min_7cf53 0 = .ok (.iload_n 0, 1) := by decide +kernel
theorem dJ9_min_7cf53_1 : decode cJ9_min_7cf53 1 = .ok (.iload_n 1, 1) := by decide +kernel
theorem dJ9_min_7cf53_2 : decode cJ9_min_7cf53 2 = .ok (.if_icmp .gt 7, 3) := by decide +kernel
theorem dJ9_min_7cf53_5 : decode cJ9_min_7cf53 5 = .ok (.iload_n 0, 1) := by decide +kernel
theorem dJ9_min_7cf53_6 : decode cJ9_min_7cf53 6 = .ok (.goto 4, 3) := by decide +kernel
theorem dJ9_min_7cf53_9 : decode cJ9_min_7cf53 9 = .ok (.iload_n 1, 1) := by decide +kernel
theorem dJ9_min_7cf53_10 : decode cJ9_min_7cf53 10 = .ok (.ireturn, 1) := by decide +kernel

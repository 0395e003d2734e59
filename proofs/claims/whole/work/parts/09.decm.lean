theorem dX6_init_0 : decode cX6_init 0 = .ok (.aload_n 0, 1) := by decide +kernel
theorem dX6_init_1 : decode cX6_init 1 = .ok (.invokespecial 1, 3) := by decide +kernel
theorem dX6_init_4 : decode cX6_init 4 = .ok (.aload_n 0, 1) := by decide +kernel
theorem dX6_init_5 : decode cX6_init 5 = .ok (.iconst 4, 1) := by decide +kernel
theorem dX6_init_6 : decode cX6_init 6 = .ok (.newarray .int, 2) := by decide +kernel
theorem dX6_init_8 : decode cX6_init 8 = .ok (.putfield 7, 3) := by decide +kernel
theorem dX6_init_11 : decode cX6_init 11 = .ok (.aload_n 0, 1) := by decide +kernel
theorem dX6_init_12 : decode cX6_init 12 = .ok (.iconst 3, 1) := by decide +kernel
theorem dX6_init_13 : decode cX6_init 13 = .ok (.putfield 13, 3) := by decide +kernel
theorem dX6_init_16 : decode cX6_init 16 = .ok (.aload_n 0, 1) := by decide +kernel
theorem dX6_init_17 : decode cX6_init 17 = .ok (.iconst 4, 1) := by decide +kernel
theorem dX6_init_18 : decode cX6_init 18 = .ok (.newarray .int, 2) := by decide +kernel
theorem dX6_init_20 : decode cX6_init 20 = .ok (.putfield 17, 3) := by decide +kernel
theorem dX6_init_23 : decode cX6_init 23 = .ok (.aload_n 0, 1) := by decide +kernel
theorem dX6_init_24 : decode cX6_init 24 = .ok (.iconst 4, 1) := by decide +kernel
theorem dX6_init_25 : decode cX6_init 25 = .ok (.newarray .int, 2) := by decide +kernel
theorem dX6_init_27 : decode cX6_init 27 = .ok (.putfield 20, 3) := by decide +kernel
theorem dX6_init_30 : decode cX6_init 30 = .ok (.aload_n 0, 1) := by decide +kernel
theorem dX6_init_31 : decode cX6_init 31 = .ok (.iconst 4, 1) := by decide +kernel
theorem dX6_init_32 : decode cX6_init 32 = .ok (.newarray .int, 2) := by decide +kernel
theorem dX6_init_34 : decode cX6_init 34 = .ok (.putfield 23, 3) := by decide +kernel
theorem dX6_init_37 : decode cX6_init 37 = .ok (.aload_n 0, 1) := by decide +kernel
theorem dX6_init_38 : decode cX6_init 38 = .ok (.iconst 4, 1) := by decide +kernel
theorem dX6_init_39 : decode cX6_init 39 = .ok (.newarray .int, 2) := by decide +kernel
theorem dX6_init_41 : decode cX6_init 41 = .ok (.putfield 26, 3) := by decide +kernel
theorem dX6_init_44 : decode cX6_init 44 = .ok (.aload_n 0, 1) := by decide +kernel
theorem dX6_init_45 : decode cX6_init 45 = .ok (.bipush 30, 2) := by decide +kernel
theorem dX6_init_47 : decode cX6_init 47 = .ok (.newarray .int, 2) := by decide +kernel
theorem dX6_init_49 : decode cX6_init 49 = .ok (.putfield 29, 3) := by decide +kernel
theorem dX6_init_52 : decode cX6_init 52 = .ok (.aload_n 0, 1) := by decide +kernel
theorem dX6_init_53 : decode cX6_init 53 = .ok (.bipush 30, 2) := by decide +kernel
theorem dX6_init_55 : decode cX6_init 55 = .ok (.newarray .int, 2) := by decide +kernel
theorem dX6_init_57 : decode cX6_init 57 = .ok (.putfield 32, 3) := by decide +kernel
theorem dX6_init_60 : decode cX6_init 60 = .ok (.aload_n 0, 1) := by decide +kernel
theorem dX6_init_61 : decode cX6_init 61 = .ok (.bipush 30, 2) := by decide +kernel
theorem dX6_init_63 : decode cX6_init 63 = .ok (.newarray .int, 2) := by decide +kernel
theorem dX6_init_65 : decode cX6_init 65 = .ok (.putfield 35, 3) := by decide +kernel
theorem dX6_init_68 : decode cX6_init 68 = .ok (.aload_n 0, 1) := by decide +kernel
theorem dX6_init_69 : decode cX6_init 69 = .ok (.bipush 30, 2) := by decide +kernel
theorem dX6_init_71 : decode cX6_init 71 = .ok (.newarray .int, 2) := by decide +kernel
theorem dX6_init_73 : decode cX6_init 73 = .ok (.putfield 38, 3) := by decide +kernel
theorem dX6_init_76 : decode cX6_init 76 = .ok (.aload_n 0, 1) := by decide +kernel
theorem dX6_init_77 : decode cX6_init 77 = .ok (.sipush 600, 3) := by decide +kernel
theorem dX6_init_80 : decode cX6_init 80 = .ok (.newarray .int, 2) := by decide +kernel
theorem dX6_init_82 : decode cX6_init 82 = .ok (.putfield 41, 3) := by decide +kernel
theorem dX6_init_85 : decode cX6_init 85 = .ok (.aload_n 0, 1) := by decide +kernel
theorem dX6_init_86 : decode cX6_init 86 = .ok (.bipush 6, 2) := by decide +kernel
theorem dX6_init_88 : decode cX6_init 88 = .ok (.newarray .int, 2) := by decide +kernel
theorem dX6_init_90 : decode cX6_init 90 = .ok (.putfield 44, 3) := by decide +kernel
theorem dX6_init_93 : decode cX6_init 93 = .ok (.aload_n 0, 1) := by decide +kernel
theorem dX6_init_94 : decode cX6_init 94 = .ok (.bipush 6, 2) := by decide +kernel
theorem dX6_init_96 : decode cX6_init 96 = .ok (.newarray .int, 2) := by decide +kernel
theorem dX6_init_98 : decode cX6_init 98 = .ok (.putfield 47, 3) := by decide +kernel
theorem dX6_init_101 : decode cX6_init 101 = .ok (.aload_n 0, 1) := by decide +kernel
theorem dX6_init_102 : decode cX6_init 102 = .ok (.bipush 6, 2) := by decide +kernel
theorem dX6_init_104 : decode cX6_init 104 = .ok (.newarray .int, 2) := by decide +kernel
theorem dX6_init_106 : decode cX6_init 106 = .ok (.putfield 50, 3) := by decide +kernel
theorem dX6_init_109 : decode cX6_init 109 = .ok (.iconst 0, 1) := by decide +kernel
theorem dX6_init_110 : decode cX6_init 110 = .ok (.istore_n 1, 1) := by decide +kernel
theorem dX6_init_111 : decode cX6_init 111 = .ok (.iload_n 1, 1) := by decide +kernel
theorem dX6_init_112 : decode cX6_init 112 = .ok (.iconst 4, 1) := by decide +kernel
theorem dX6_init_113 : decode cX6_init 113 = .ok (.if_icmp .ge 25, 3) := by decide +kernel
theorem dX6_init_116 : decode cX6_init 116 = .ok (.aload_n 0, 1) := by decide +kernel
theorem dX6_init_117 : decode cX6_init 117 = .ok (.getfield 17, 3) := by decide +kernel
theorem dX6_init_120 : decode cX6_init 120 = .ok (.iload_n 1, 1) := by decide +kernel
theorem dX6_init_121 : decode cX6_init 121 = .ok (.bipush 50, 2) := by decide +kernel
theorem dX6_init_123 : decode cX6_init 123 = .ok (.iastore, 1) := by decide +kernel
theorem dX6_init_124 : decode cX6_init 124 = .ok (.aload_n 0, 1) := by decide +kernel
theorem dX6_init_125 : decode cX6_init 125 = .ok (.getfield 20, 3) := by decide +kernel
theorem dX6_init_128 : decode cX6_init 128 = .ok (.iload_n 1, 1) := by decide +kernel
theorem dX6_init_129 : decode cX6_init 129 = .ok (.bipush 20, 2) := by decide +kernel
theorem dX6_init_131 : decode cX6_init 131 = .ok (.iastore, 1) := by decide +kernel
theorem dX6_init_132 : decode cX6_init 132 = .ok (.iinc 1 1, 3) := by decide +kernel
theorem dX6_init_135 : decode cX6_init 135 = .ok (.goto (-24), 3) := by decide +kernel
theorem dX6_init_138 : decode cX6_init 138 = .ok (.return_, 1) := by decide +kernel
theorem dX6_thrown_0 : decode cX6_thrown 0 = .ok (.aload_n 0, 1) := by decide +kernel
theorem dX6_thrown_1 : decode cX6_thrown 1 = .ok (.getfield 53, 3) := by decide +kernel
theorem dX6_thrown_4 : decode cX6_thrown 4 = .ok (.ireturn, 1) := by decide +kernel
theorem dX6_in_0 : decode cX6_in 0 = .ok (.iload_n 0, 1) := by decide +kernel
theorem dX6_in_1 : decode cX6_in 1 = .ok (.iload_n 1, 1) := by decide +kernel
theorem dX6_in_2 : decode cX6_in 2 = .ok (.if_icmp .lt 12, 3) := by decide +kernel
theorem dX6_in_5 : decode cX6_in 5 = .ok (.iload_n 0, 1) := by decide +kernel
theorem dX6_in_6 : decode cX6_in 6 = .ok (.iload_n 2, 1) := by decide +kernel
theorem dX6_in_7 : decode cX6_in 7 = .ok (.if_icmp .gt 7, 3) := by decide +kernel
theorem dX6_in_10 : decode cX6_in 10 = .ok (.iconst 1, 1) := by decide +kernel
theorem dX6_in_11 : decode cX6_in 11 = .ok (.goto 4, 3) := by decide +kernel
theorem dX6_in_14 : decode cX6_in 14 = .ok (.iconst 0, 1) := by decide +kernel
theorem dX6_in_15 : decode cX6_in 15 = .ok (.ireturn, 1) := by decide +kernel
theorem dX6_goes_0 : decode cX6_goes 0 = .ok (.aload_n 0, 1) := by decide +kernel
theorem dX6_goes_1 : decode cX6_goes 1 = .ok (.iload_n 1, 1) := by decide +kernel
theorem dX6_goes_2 : decode cX6_goes 2 = .ok (.ifCond .ne 7, 3) := by decide +kernel
theorem dX6_goes_5 : decode cX6_goes 5 = .ok (.iconst 1, 1) := by decide +kernel
theorem dX6_goes_6 : decode cX6_goes 6 = .ok (.goto 20, 3) := by decide +kernel
theorem dX6_goes_9 : decode cX6_goes 9 = .ok (.iload_n 2, 1) := by decide +kernel
theorem dX6_goes_10 : decode cX6_goes 10 = .ok (.ifCond .ne 7, 3) := by decide +kernel
theorem dX6_goes_13 : decode cX6_goes 13 = .ok (.iconst 2, 1) := by decide +kernel
theorem dX6_goes_14 : decode cX6_goes 14 = .ok (.goto 12, 3) := by decide +kernel
theorem dX6_goes_17 : decode cX6_goes 17 = .ok (.iload_n 3, 1) := by decide +kernel
theorem dX6_goes_18 : decode cX6_goes 18 = .ok (.ifCond .eq 7, 3) := by decide +kernel
theorem dX6_goes_21 : decode cX6_goes 21 = .ok (.iconst 0, 1) := by decide +kernel
theorem dX6_goes_22 : decode cX6_goes 22 = .ok (.goto 4, 3) := by decide +kernel
theorem dX6_goes_25 : decode cX6_goes 25 = .ok (.iconst 3, 1) := by decide +kernel
theorem dX6_goes_26 : decode cX6_goes 26 = .ok (.putfield 53, 3) := by decide +kernel
theorem dX6_goes_29 : decode cX6_goes 29 = .ok (.aload_n 0, 1) := by decide +kernel
theorem dX6_goes_30 : decode cX6_goes 30 = .ok (.getfield 53, 3) := by decide +kernel
theorem dX6_goes_33 : decode cX6_goes 33 = .ok (.ifCond .ne 7, 3) := by decide +kernel
theorem dX6_goes_36 : decode cX6_goes 36 = .ok (.iconst 1, 1) := by decide +kernel
theorem dX6_goes_37 : decode cX6_goes 37 = .ok (.goto 4, 3) := by decide +kernel
theorem dX6_goes_40 : decode cX6_goes 40 = .ok (.iconst 0, 1) := by decide +kernel
theorem dX6_goes_41 : decode cX6_goes 41 = .ok (.ireturn, 1) := by decide +kernel
theorem dX6_isBin_0 : decode cX6_isBin 0 = .ok (.iload_n 0, 1) := by decide +kernel
theorem dX6_isBin_1 : decode cX6_isBin 1 = .ok (.iconst 0, 1) := by decide +kernel
theorem dX6_isBin_2 : decode cX6_isBin 2 = .ok (.iconst 3, 1) := by decide +kernel
theorem dX6_isBin_3 : decode cX6_isBin 3 = .ok (.invokestatic 56, 3) := by decide +kernel
theorem dX6_isBin_6 : decode cX6_isBin 6 = .ok (.ireturn, 1) := by decide +kernel
theorem dX6_isLot_0 : decode cX6_isLot 0 = .ok (.iload_n 1, 1) := by decide +kernel
theorem dX6_isLot_1 : decode cX6_isLot 1 = .ok (.iconst 0, 1) := by decide +kernel
theorem dX6_isLot_2 : decode cX6_isLot 2 = .ok (.aload_n 0, 1) := by decide +kernel
theorem dX6_isLot_3 : decode cX6_isLot 3 = .ok (.getfield 60, 3) := by decide +kernel
theorem dX6_isLot_6 : decode cX6_isLot 6 = .ok (.iconst 1, 1) := by decide +kernel
theorem dX6_isLot_7 : decode cX6_isLot 7 = .ok (.isub, 1) := by decide +kernel
theorem dX6_isLot_8 : decode cX6_isLot 8 = .ok (.invokestatic 56, 3) := by decide +kernel
theorem dX6_isLot_11 : decode cX6_isLot 11 = .ok (.ireturn, 1) := by decide +kernel
theorem dX6_settles_0 : decode cX6_settles 0 = .ok (.aload_n 0, 1) := by decide +kernel
theorem dX6_settles_1 : decode cX6_settles 1 = .ok (.getfield 7, 3) := by decide +kernel
theorem dX6_settles_4 : decode cX6_settles 4 = .ok (.iconst 0, 1) := by decide +kernel
theorem dX6_settles_5 : decode cX6_settles 5 = .ok (.iaload, 1) := by decide +kernel
theorem dX6_settles_6 : decode cX6_settles 6 = .ok (.istore_n 1, 1) := by decide +kernel
theorem dX6_settles_7 : decode cX6_settles 7 = .ok (.aload_n 0, 1) := by decide +kernel
theorem dX6_settles_8 : decode cX6_settles 8 = .ok (.getfield 7, 3) := by decide +kernel
theorem dX6_settles_11 : decode cX6_settles 11 = .ok (.iconst 0, 1) := by decide +kernel
theorem dX6_settles_12 : decode cX6_settles 12 = .ok (.iaload, 1) := by decide +kernel
theorem dX6_settles_13 : decode cX6_settles 13 = .ok (.istore_n 2, 1) := by decide +kernel
theorem dX6_settles_14 : decode cX6_settles 14 = .ok (.iconst 1, 1) := by decide +kernel
theorem dX6_settles_15 : decode cX6_settles 15 = .ok (.istore_n 3, 1) := by decide +kernel
theorem dX6_settles_16 : decode cX6_settles 16 = .ok (.iload_n 3, 1) := by decide +kernel
theorem dX6_settles_17 : decode cX6_settles 17 = .ok (.iconst 4, 1) := by decide +kernel
theorem dX6_settles_18 : decode cX6_settles 18 = .ok (.if_icmp .ge 51, 3) := by decide +kernel
theorem dX6_settles_21 : decode cX6_settles 21 = .ok (.aload_n 0, 1) := by decide +kernel
theorem dX6_settles_22 : decode cX6_settles 22 = .ok (.getfield 7, 3) := by decide +kernel
theorem dX6_settles_25 : decode cX6_settles 25 = .ok (.iload_n 3, 1) := by decide +kernel
theorem dX6_settles_26 : decode cX6_settles 26 = .ok (.iaload, 1) := by decide +kernel
theorem dX6_settles_27 : decode cX6_settles 27 = .ok (.iload_n 1, 1) := by decide +kernel
theorem dX6_settles_28 : decode cX6_settles 28 = .ok (.if_icmp .ge 12, 3) := by decide +kernel
theorem dX6_settles_31 : decode cX6_settles 31 = .ok (.aload_n 0, 1) := by decide +kernel
theorem dX6_settles_32 : decode cX6_settles 32 = .ok (.getfield 7, 3) := by decide +kernel
theorem dX6_settles_35 : decode cX6_settles 35 = .ok (.iload_n 3, 1) := by decide +kernel
theorem dX6_settles_36 : decode cX6_settles 36 = .ok (.iaload, 1) := by decide +kernel
theorem dX6_settles_37 : decode cX6_settles 37 = .ok (.goto 4, 3) := by decide +kernel
theorem dX6_settles_40 : decode cX6_settles 40 = .ok (.iload_n 1, 1) := by decide +kernel
theorem dX6_settles_41 : decode cX6_settles 41 = .ok (.istore_n 1, 1) := by decide +kernel
theorem dX6_settles_42 : decode cX6_settles 42 = .ok (.aload_n 0, 1) := by decide +kernel
theorem dX6_settles_43 : decode cX6_settles 43 = .ok (.getfield 7, 3) := by decide +kernel
theorem dX6_settles_46 : decode cX6_settles 46 = .ok (.iload_n 3, 1) := by decide +kernel
theorem dX6_settles_47 : decode cX6_settles 47 = .ok (.iaload, 1) := by decide +kernel
theorem dX6_settles_48 : decode cX6_settles 48 = .ok (.iload_n 2, 1) := by decide +kernel
theorem dX6_settles_49 : decode cX6_settles 49 = .ok (.if_icmp .le 12, 3) := by decide +kernel
theorem dX6_settles_52 : decode cX6_settles 52 = .ok (.aload_n 0, 1) := by decide +kernel
theorem dX6_settles_53 : decode cX6_settles 53 = .ok (.getfield 7, 3) := by decide +kernel
theorem dX6_settles_56 : decode cX6_settles 56 = .ok (.iload_n 3, 1) := by decide +kernel
theorem dX6_settles_57 : decode cX6_settles 57 = .ok (.iaload, 1) := by decide +kernel
theorem dX6_settles_58 : decode cX6_settles 58 = .ok (.goto 4, 3) := by decide +kernel
theorem dX6_settles_61 : decode cX6_settles 61 = .ok (.iload_n 2, 1) := by decide +kernel
theorem dX6_settles_62 : decode cX6_settles 62 = .ok (.istore_n 2, 1) := by decide +kernel
theorem dX6_settles_63 : decode cX6_settles 63 = .ok (.iinc 3 1, 3) := by decide +kernel
theorem dX6_settles_66 : decode cX6_settles 66 = .ok (.goto (-50), 3) := by decide +kernel
theorem dX6_settles_69 : decode cX6_settles 69 = .ok (.aload_n 0, 1) := by decide +kernel
theorem dX6_settles_70 : decode cX6_settles 70 = .ok (.getfield 63, 3) := by decide +kernel
theorem dX6_settles_73 : decode cX6_settles 73 = .ok (.iconst 4, 1) := by decide +kernel
theorem dX6_settles_74 : decode cX6_settles 74 = .ok (.if_icmp .lt 17, 3) := by decide +kernel
theorem dX6_settles_77 : decode cX6_settles 77 = .ok (.iload_n 2, 1) := by decide +kernel
theorem dX6_settles_78 : decode cX6_settles 78 = .ok (.iload_n 1, 1) := by decide +kernel
theorem dX6_settles_79 : decode cX6_settles 79 = .ok (.isub, 1) := by decide +kernel
theorem dX6_settles_80 : decode cX6_settles 80 = .ok (.aload_n 0, 1) := by decide +kernel
theorem dX6_settles_81 : decode cX6_settles 81 = .ok (.getfield 13, 3) := by decide +kernel
theorem dX6_settles_84 : decode cX6_settles 84 = .ok (.if_icmp .gt 7, 3) := by decide +kernel
theorem dX6_settles_87 : decode cX6_settles 87 = .ok (.iconst 1, 1) := by decide +kernel
theorem dX6_settles_88 : decode cX6_settles 88 = .ok (.goto 4, 3) := by decide +kernel
theorem dX6_settles_91 : decode cX6_settles 91 = .ok (.iconst 0, 1) := by decide +kernel
theorem dX6_settles_92 : decode cX6_settles 92 = .ok (.ireturn, 1) := by decide +kernel
theorem dX6_grossNow_0 : decode cX6_grossNow 0 = .ok (.aload_n 0, 1) := by decide +kernel
theorem dX6_grossNow_1 : decode cX6_grossNow 1 = .ok (.getfield 66, 3) := by decide +kernel
theorem dX6_grossNow_4 : decode cX6_grossNow 4 = .ok (.aload_n 0, 1) := by decide +kernel
theorem dX6_grossNow_5 : decode cX6_grossNow 5 = .ok (.getfield 69, 3) := by decide +kernel
theorem dX6_grossNow_8 : decode cX6_grossNow 8 = .ok (.isub, 1) := by decide +kernel
theorem dX6_grossNow_9 : decode cX6_grossNow 9 = .ok (.ireturn, 1) := by decide +kernel
theorem dX6_netNow_0 : decode cX6_netNow 0 = .ok (.aload_n 0, 1) := by decide +kernel
theorem dX6_netNow_1 : decode cX6_netNow 1 = .ok (.invokevirtual 72, 3) := by decide +kernel
theorem dX6_netNow_4 : decode cX6_netNow 4 = .ok (.aload_n 0, 1) := by decide +kernel
theorem dX6_netNow_5 : decode cX6_netNow 5 = .ok (.getfield 76, 3) := by decide +kernel
theorem dX6_netNow_8 : decode cX6_netNow 8 = .ok (.isub, 1) := by decide +kernel
theorem dX6_netNow_9 : decode cX6_netNow 9 = .ok (.ireturn, 1) := by decide +kernel
theorem dX6_becomes_0 : decode cX6_becomes 0 = .ok (.aload_n 0, 1) := by decide +kernel
theorem dX6_becomes_1 : decode cX6_becomes 1 = .ok (.iload_n 1, 1) := by decide +kernel
theorem dX6_becomes_2 : decode cX6_becomes 2 = .ok (.putfield 79, 3) := by decide +kernel
theorem dX6_becomes_5 : decode cX6_becomes 5 = .ok (.aload_n 0, 1) := by decide +kernel
theorem dX6_becomes_6 : decode cX6_becomes 6 = .ok (.iconst 0, 1) := by decide +kernel
theorem dX6_becomes_7 : decode cX6_becomes 7 = .ok (.putfield 82, 3) := by decide +kernel
theorem dX6_becomes_10 : decode cX6_becomes 10 = .ok (.return_, 1) := by decide +kernel
theorem dX6_holds_0 : decode cX6_holds 0 = .ok (.aload_n 0, 1) := by decide +kernel
theorem dX6_holds_1 : decode cX6_holds 1 = .ok (.aload_n 0, 1) := by decide +kernel
theorem dX6_holds_2 : decode cX6_holds 2 = .ok (.getfield 79, 3) := by decide +kernel
theorem dX6_holds_5 : decode cX6_holds 5 = .ok (.putfield 85, 3) := by decide +kernel
theorem dX6_holds_8 : decode cX6_holds 8 = .ok (.aload_n 0, 1) := by decide +kernel
theorem dX6_holds_9 : decode cX6_holds 9 = .ok (.iload_n 1, 1) := by decide +kernel
theorem dX6_holds_10 : decode cX6_holds 10 = .ok (.putfield 88, 3) := by decide +kernel
theorem dX6_holds_13 : decode cX6_holds 13 = .ok (.aload_n 0, 1) := by decide +kernel
theorem dX6_holds_14 : decode cX6_holds 14 = .ok (.bipush 6, 2) := by decide +kernel
theorem dX6_holds_16 : decode cX6_holds 16 = .ok (.invokevirtual 91, 3) := by decide +kernel
theorem dX6_holds_19 : decode cX6_holds 19 = .ok (.return_, 1) := by decide +kernel
theorem dX6_tracks_0 : decode cX6_tracks 0 = .ok (.aload_n 0, 1) := by decide +kernel
theorem dX6_tracks_1 : decode cX6_tracks 1 = .ok (.invokevirtual 72, 3) := by decide +kernel
theorem dX6_tracks_4 : decode cX6_tracks 4 = .ok (.istore_n 1, 1) := by decide +kernel
theorem dX6_tracks_5 : decode cX6_tracks 5 = .ok (.iload_n 1, 1) := by decide +kernel
theorem dX6_tracks_6 : decode cX6_tracks 6 = .ok (.ifCond .le 12, 3) := by decide +kernel
theorem dX6_tracks_9 : decode cX6_tracks 9 = .ok (.aload_n 0, 1) := by decide +kernel
theorem dX6_tracks_10 : decode cX6_tracks 10 = .ok (.getfield 69, 3) := by decide +kernel
theorem dX6_tracks_13 : decode cX6_tracks 13 = .ok (.iconst 1, 1) := by decide +kernel
theorem dX6_tracks_14 : decode cX6_tracks 14 = .ok (.iadd, 1) := by decide +kernel
theorem dX6_tracks_15 : decode cX6_tracks 15 = .ok (.goto 9, 3) := by decide +kernel
theorem dX6_tracks_18 : decode cX6_tracks 18 = .ok (.aload_n 0, 1) := by decide +kernel
theorem dX6_tracks_19 : decode cX6_tracks 19 = .ok (.getfield 69, 3) := by decide +kernel
theorem dX6_tracks_22 : decode cX6_tracks 22 = .ok (.iconst 1, 1) := by decide +kernel
theorem dX6_tracks_23 : decode cX6_tracks 23 = .ok (.isub, 1) := by decide +kernel
theorem dX6_tracks_24 : decode cX6_tracks 24 = .ok (.istore_n 2, 1) := by decide +kernel
theorem dX6_tracks_25 : decode cX6_tracks 25 = .ok (.aload_n 0, 1) := by decide +kernel
theorem dX6_tracks_26 : decode cX6_tracks 26 = .ok (.invokevirtual 95, 3) := by decide +kernel
theorem dX6_tracks_29 : decode cX6_tracks 29 = .ok (.ifCond .eq 36, 3) := by decide +kernel
theorem dX6_tracks_32 : decode cX6_tracks 32 = .ok (.iload_n 1, 1) := by decide +kernel
theorem dX6_tracks_33 : decode cX6_tracks 33 = .ok (.bipush (-10), 2) := by decide +kernel
theorem dX6_tracks_35 : decode cX6_tracks 35 = .ok (.bipush 10, 2) := by decide +kernel
theorem dX6_tracks_37 : decode cX6_tracks 37 = .ok (.invokestatic 56, 3) := by decide +kernel
theorem dX6_tracks_40 : decode cX6_tracks 40 = .ok (.ifCond .eq 25, 3) := by decide +kernel
theorem dX6_tracks_43 : decode cX6_tracks 43 = .ok (.iload_n 1, 1) := by decide +kernel
theorem dX6_tracks_44 : decode cX6_tracks 44 = .ok (.ifCond .eq 21, 3) := by decide +kernel
theorem dX6_tracks_47 : decode cX6_tracks 47 = .ok (.iload_n 2, 1) := by decide +kernel
theorem dX6_tracks_48 : decode cX6_tracks 48 = .ok (.sipush (-500), 3) := by decide +kernel
theorem dX6_tracks_51 : decode cX6_tracks 51 = .ok (.sipush 500, 3) := by decide +kernel
theorem dX6_tracks_54 : decode cX6_tracks 54 = .ok (.invokestatic 56, 3) := by decide +kernel
theorem dX6_tracks_57 : decode cX6_tracks 57 = .ok (.ifCond .eq 8, 3) := by decide +kernel
theorem dX6_tracks_60 : decode cX6_tracks 60 = .ok (.aload_n 0, 1) := by decide +kernel
theorem dX6_tracks_61 : decode cX6_tracks 61 = .ok (.iload_n 2, 1) := by decide +kernel
theorem dX6_tracks_62 : decode cX6_tracks 62 = .ok (.putfield 69, 3) := by decide +kernel
theorem dX6_tracks_65 : decode cX6_tracks 65 = .ok (.return_, 1) := by decide +kernel
theorem dX6_down_0 : decode cX6_down 0 = .ok (.iload_n 0, 1) := by decide +kernel
theorem dX6_down_1 : decode cX6_down 1 = .ok (.ifCond .lt 9, 3) := by decide +kernel
theorem dX6_down_4 : decode cX6_down 4 = .ok (.iload_n 0, 1) := by decide +kernel
theorem dX6_down_5 : decode cX6_down 5 = .ok (.iload_n 1, 1) := by decide +kernel
theorem dX6_down_6 : decode cX6_down 6 = .ok (.idiv, 1) := by decide +kernel
theorem dX6_down_7 : decode cX6_down 7 = .ok (.goto 11, 3) := by decide +kernel
theorem dX6_down_10 : decode cX6_down 10 = .ok (.iload_n 1, 1) := by decide +kernel
theorem dX6_down_11 : decode cX6_down 11 = .ok (.iconst 1, 1) := by decide +kernel
theorem dX6_down_12 : decode cX6_down 12 = .ok (.isub, 1) := by decide +kernel
theorem dX6_down_13 : decode cX6_down 13 = .ok (.iload_n 0, 1) := by decide +kernel
theorem dX6_down_14 : decode cX6_down 14 = .ok (.isub, 1) := by decide +kernel
theorem dX6_down_15 : decode cX6_down 15 = .ok (.iload_n 1, 1) := by decide +kernel
theorem dX6_down_16 : decode cX6_down 16 = .ok (.idiv, 1) := by decide +kernel
theorem dX6_down_17 : decode cX6_down 17 = .ok (.ineg, 1) := by decide +kernel
theorem dX6_down_18 : decode cX6_down 18 = .ok (.ireturn, 1) := by decide +kernel
theorem dX6_weighs_0 : decode cX6_weighs 0 = .ok (.aload_n 0, 1) := by decide +kernel
theorem dX6_weighs_1 : decode cX6_weighs 1 = .ok (.getfield 44, 3) := by decide +kernel
theorem dX6_weighs_4 : decode cX6_weighs 4 = .ok (.aload_n 0, 1) := by decide +kernel
theorem dX6_weighs_5 : decode cX6_weighs 5 = .ok (.getfield 99, 3) := by decide +kernel
theorem dX6_weighs_8 : decode cX6_weighs 8 = .ok (.iaload, 1) := by decide +kernel
theorem dX6_weighs_9 : decode cX6_weighs 9 = .ok (.istore_n 1, 1) := by decide +kernel
theorem dX6_weighs_10 : decode cX6_weighs 10 = .ok (.aload_n 0, 1) := by decide +kernel
theorem dX6_weighs_11 : decode cX6_weighs 11 = .ok (.invokevirtual 102, 3) := by decide +kernel
theorem dX6_weighs_14 : decode cX6_weighs 14 = .ok (.aload_n 0, 1) := by decide +kernel
theorem dX6_weighs_15 : decode cX6_weighs 15 = .ok (.getfield 47, 3) := by decide +kernel
theorem dX6_weighs_18 : decode cX6_weighs 18 = .ok (.aload_n 0, 1) := by decide +kernel
theorem dX6_weighs_19 : decode cX6_weighs 19 = .ok (.getfield 99, 3) := by decide +kernel
theorem dX6_weighs_22 : decode cX6_weighs 22 = .ok (.iaload, 1) := by decide +kernel
theorem dX6_weighs_23 : decode cX6_weighs 23 = .ok (.isub, 1) := by decide +kernel
theorem dX6_weighs_24 : decode cX6_weighs 24 = .ok (.istore_n 2, 1) := by decide +kernel
theorem dX6_weighs_25 : decode cX6_weighs 25 = .ok (.aload_n 0, 1) := by decide +kernel
theorem dX6_weighs_26 : decode cX6_weighs 26 = .ok (.getfield 105, 3) := by decide +kernel
theorem dX6_weighs_29 : decode cX6_weighs 29 = .ok (.ifCond .ne 49, 3) := by decide +kernel
theorem dX6_weighs_32 : decode cX6_weighs 32 = .ok (.aload_n 0, 1) := by decide +kernel
theorem dX6_weighs_33 : decode cX6_weighs 33 = .ok (.getfield 20, 3) := by decide +kernel
theorem dX6_weighs_36 : decode cX6_weighs 36 = .ok (.iload_n 1, 1) := by decide +kernel
theorem dX6_weighs_37 : decode cX6_weighs 37 = .ok (.iaload, 1) := by decide +kernel
theorem dX6_weighs_38 : decode cX6_weighs 38 = .ok (.iload_n 2, 1) := by decide +kernel
theorem dX6_weighs_39 : decode cX6_weighs 39 = .ok (.iconst 4, 1) := by decide +kernel
theorem dX6_weighs_40 : decode cX6_weighs 40 = .ok (.invokestatic 109, 3) := by decide +kernel
theorem dX6_weighs_43 : decode cX6_weighs 43 = .ok (.iadd, 1) := by decide +kernel
theorem dX6_weighs_44 : decode cX6_weighs 44 = .ok (.istore_n 3, 1) := by decide +kernel
theorem dX6_weighs_45 : decode cX6_weighs 45 = .ok (.aload_n 0, 1) := by decide +kernel
theorem dX6_weighs_46 : decode cX6_weighs 46 = .ok (.getfield 20, 3) := by decide +kernel
theorem dX6_weighs_49 : decode cX6_weighs 49 = .ok (.iload_n 1, 1) := by decide +kernel
theorem dX6_weighs_50 : decode cX6_weighs 50 = .ok (.iload_n 3, 1) := by decide +kernel
theorem dX6_weighs_51 : decode cX6_weighs 51 = .ok (.ifCond .ge 7, 3) := by decide +kernel
theorem dX6_weighs_54 : decode cX6_weighs 54 = .ok (.iconst 0, 1) := by decide +kernel
theorem dX6_weighs_55 : decode cX6_weighs 55 = .ok (.goto 17, 3) := by decide +kernel
theorem dX6_weighs_58 : decode cX6_weighs 58 = .ok (.iload_n 3, 1) := by decide +kernel
theorem dX6_weighs_59 : decode cX6_weighs 59 = .ok (.sipush 500, 3) := by decide +kernel
theorem dX6_weighs_62 : decode cX6_weighs 62 = .ok (.if_icmp .le 9, 3) := by decide +kernel
theorem dX6_weighs_65 : decode cX6_weighs 65 = .ok (.sipush 500, 3) := by decide +kernel
theorem dX6_weighs_68 : decode cX6_weighs 68 = .ok (.goto 4, 3) := by decide +kernel
theorem dX6_weighs_71 : decode cX6_weighs 71 = .ok (.iload_n 3, 1) := by decide +kernel
theorem dX6_weighs_72 : decode cX6_weighs 72 = .ok (.iastore, 1) := by decide +kernel
theorem dX6_weighs_73 : decode cX6_weighs 73 = .ok (.aload_n 0, 1) := by decide +kernel
theorem dX6_weighs_74 : decode cX6_weighs 74 = .ok (.iconst 1, 1) := by decide +kernel
theorem dX6_weighs_75 : decode cX6_weighs 75 = .ok (.putfield 105, 3) := by decide +kernel
theorem dX6_weighs_78 : decode cX6_weighs 78 = .ok (.iload_n 2, 1) := by decide +kernel
theorem dX6_weighs_79 : decode cX6_weighs 79 = .ok (.aload_n 0, 1) := by decide +kernel
theorem dX6_weighs_80 : decode cX6_weighs 80 = .ok (.getfield 50, 3) := by decide +kernel
theorem dX6_weighs_83 : decode cX6_weighs 83 = .ok (.aload_n 0, 1) := by decide +kernel
theorem dX6_weighs_84 : decode cX6_weighs 84 = .ok (.getfield 99, 3) := by decide +kernel
theorem dX6_weighs_87 : decode cX6_weighs 87 = .ok (.iaload, 1) := by decide +kernel
theorem dX6_weighs_88 : decode cX6_weighs 88 = .ok (.ineg, 1) := by decide +kernel
theorem dX6_weighs_89 : decode cX6_weighs 89 = .ok (.if_icmp .ge 37, 3) := by decide +kernel
theorem dX6_weighs_92 : decode cX6_weighs 92 = .ok (.aload_n 0, 1) := by decide +kernel
theorem dX6_weighs_93 : decode cX6_weighs 93 = .ok (.getfield 113, 3) := by decide +kernel
theorem dX6_weighs_96 : decode cX6_weighs 96 = .ok (.iconst 5, 1) := by decide +kernel
theorem dX6_weighs_97 : decode cX6_weighs 97 = .ok (.if_icmp .ge 21, 3) := by decide +kernel
theorem dX6_weighs_100 : decode cX6_weighs 100 = .ok (.aload_n 0, 1) := by decide +kernel
theorem dX6_weighs_101 : decode cX6_weighs 101 = .ok (.dup, 1) := by decide +kernel
theorem dX6_weighs_102 : decode cX6_weighs 102 = .ok (.getfield 113, 3) := by decide +kernel
theorem dX6_weighs_105 : decode cX6_weighs 105 = .ok (.iconst 1, 1) := by decide +kernel
theorem dX6_weighs_106 : decode cX6_weighs 106 = .ok (.iadd, 1) := by decide +kernel
theorem dX6_weighs_107 : decode cX6_weighs 107 = .ok (.putfield 113, 3) := by decide +kernel
theorem dX6_weighs_110 : decode cX6_weighs 110 = .ok (.aload_n 0, 1) := by decide +kernel
theorem dX6_weighs_111 : decode cX6_weighs 111 = .ok (.iconst 5, 1) := by decide +kernel
theorem dX6_weighs_112 : decode cX6_weighs 112 = .ok (.invokevirtual 91, 3) := by decide +kernel
theorem dX6_weighs_115 : decode cX6_weighs 115 = .ok (.goto 36, 3) := by decide +kernel
theorem dX6_weighs_118 : decode cX6_weighs 118 = .ok (.aload_n 0, 1) := by decide +kernel
theorem dX6_weighs_119 : decode cX6_weighs 119 = .ok (.iconst 1, 1) := by decide +kernel
theorem dX6_weighs_120 : decode cX6_weighs 120 = .ok (.invokevirtual 116, 3) := by decide +kernel
theorem dX6_weighs_123 : decode cX6_weighs 123 = .ok (.goto 28, 3) := by decide +kernel
theorem dX6_weighs_126 : decode cX6_weighs 126 = .ok (.iload_n 2, 1) := by decide +kernel
theorem dX6_weighs_127 : decode cX6_weighs 127 = .ok (.aload_n 0, 1) := by decide +kernel
theorem dX6_weighs_128 : decode cX6_weighs 128 = .ok (.getfield 50, 3) := by decide +kernel
theorem dX6_weighs_131 : decode cX6_weighs 131 = .ok (.aload_n 0, 1) := by decide +kernel
theorem dX6_weighs_132 : decode cX6_weighs 132 = .ok (.getfield 99, 3) := by decide +kernel
theorem dX6_weighs_135 : decode cX6_weighs 135 = .ok (.iaload, 1) := by decide +kernel
theorem dX6_weighs_136 : decode cX6_weighs 136 = .ok (.if_icmp .le 11, 3) := by decide +kernel
theorem dX6_weighs_139 : decode cX6_weighs 139 = .ok (.aload_n 0, 1) := by decide +kernel
theorem dX6_weighs_140 : decode cX6_weighs 140 = .ok (.iconst 2, 1) := by decide +kernel
theorem dX6_weighs_141 : decode cX6_weighs 141 = .ok (.invokevirtual 116, 3) := by decide +kernel
theorem dX6_weighs_144 : decode cX6_weighs 144 = .ok (.goto 7, 3) := by decide +kernel
theorem dX6_weighs_147 : decode cX6_weighs 147 = .ok (.aload_n 0, 1) := by decide +kernel
theorem dX6_weighs_148 : decode cX6_weighs 148 = .ok (.invokevirtual 119, 3) := by decide +kernel
theorem dX6_weighs_151 : decode cX6_weighs 151 = .ok (.return_, 1) := by decide +kernel
theorem dX6_goesOn_0 : decode cX6_goesOn 0 = .ok (.aload_n 0, 1) := by decide +kernel
theorem dX6_goesOn_1 : decode cX6_goesOn 1 = .ok (.getfield 79, 3) := by decide +kernel
theorem dX6_goesOn_4 : decode cX6_goesOn 4 = .ok (.istore_n 1, 1) := by decide +kernel
theorem dX6_goesOn_5 : decode cX6_goesOn 5 = .ok (.aload_n 0, 1) := by decide +kernel
theorem dX6_goesOn_6 : decode cX6_goesOn 6 = .ok (.getfield 44, 3) := by decide +kernel
theorem dX6_goesOn_9 : decode cX6_goesOn 9 = .ok (.aload_n 0, 1) := by decide +kernel
theorem dX6_goesOn_10 : decode cX6_goesOn 10 = .ok (.getfield 99, 3) := by decide +kernel
theorem dX6_goesOn_13 : decode cX6_goesOn 13 = .ok (.iaload, 1) := by decide +kernel
theorem dX6_goesOn_14 : decode cX6_goesOn 14 = .ok (.istore_n 2, 1) := by decide +kernel
theorem dX6_goesOn_15 : decode cX6_goesOn 15 = .ok (.aload_n 0, 1) := by decide +kernel
theorem dX6_goesOn_16 : decode cX6_goesOn 16 = .ok (.invokevirtual 102, 3) := by decide +kernel
theorem dX6_goesOn_19 : decode cX6_goesOn 19 = .ok (.istore_n 3, 1) := by decide +kernel
theorem dX6_goesOn_20 : decode cX6_goesOn 20 = .ok (.aload_n 0, 1) := by decide +kernel
theorem dX6_goesOn_21 : decode cX6_goesOn 21 = .ok (.dup, 1) := by decide +kernel
theorem dX6_goesOn_22 : decode cX6_goesOn 22 = .ok (.getfield 82, 3) := by decide +kernel
theorem dX6_goesOn_25 : decode cX6_goesOn 25 = .ok (.iconst 1, 1) := by decide +kernel
theorem dX6_goesOn_26 : decode cX6_goesOn 26 = .ok (.iadd, 1) := by decide +kernel
theorem dX6_goesOn_27 : decode cX6_goesOn 27 = .ok (.putfield 82, 3) := by decide +kernel
theorem dX6_goesOn_30 : decode cX6_goesOn 30 = .ok (.iload_n 1, 1) := by decide +kernel
theorem dX6_goesOn_31 : decode cX6_goesOn 31 = .ok (.iconst 1, 1) := by decide +kernel
theorem dX6_goesOn_32 : decode cX6_goesOn 32 = .ok (.if_icmp .ne 53, 3) := by decide +kernel
theorem dX6_goesOn_35 : decode cX6_goesOn 35 = .ok (.aload_n 0, 1) := by decide +kernel
theorem dX6_goesOn_36 : decode cX6_goesOn 36 = .ok (.invokevirtual 95, 3) := by decide +kernel
theorem dX6_goesOn_39 : decode cX6_goesOn 39 = .ok (.ifCond .eq 46, 3) := by decide +kernel
theorem dX6_goesOn_42 : decode cX6_goesOn 42 = .ok (.aload_n 0, 1) := by decide +kernel
theorem dX6_goesOn_43 : decode cX6_goesOn 43 = .ok (.aload_n 0, 1) := by decide +kernel
theorem dX6_goesOn_44 : decode cX6_goesOn 44 = .ok (.invokevirtual 72, 3) := by decide +kernel
theorem dX6_goesOn_47 : decode cX6_goesOn 47 = .ok (.putfield 76, 3) := by decide +kernel
theorem dX6_goesOn_50 : decode cX6_goesOn 50 = .ok (.aload_n 0, 1) := by decide +kernel
theorem dX6_goesOn_51 : decode cX6_goesOn 51 = .ok (.iconst 1, 1) := by decide +kernel
theorem dX6_goesOn_52 : decode cX6_goesOn 52 = .ok (.putfield 122, 3) := by decide +kernel
theorem dX6_goesOn_55 : decode cX6_goesOn 55 = .ok (.aload_n 0, 1) := by decide +kernel
theorem dX6_goesOn_56 : decode cX6_goesOn 56 = .ok (.aload_n 0, 1) := by decide +kernel
theorem dX6_goesOn_57 : decode cX6_goesOn 57 = .ok (.getfield 47, 3) := by decide +kernel
theorem dX6_goesOn_60 : decode cX6_goesOn 60 = .ok (.aload_n 0, 1) := by decide +kernel
theorem dX6_goesOn_61 : decode cX6_goesOn 61 = .ok (.getfield 99, 3) := by decide +kernel
theorem dX6_goesOn_64 : decode cX6_goesOn 64 = .ok (.iaload, 1) := by decide +kernel
theorem dX6_goesOn_65 : decode cX6_goesOn 65 = .ok (.aload_n 0, 1) := by decide +kernel
theorem dX6_goesOn_66 : decode cX6_goesOn 66 = .ok (.getfield 17, 3) := by decide +kernel
theorem dX6_goesOn_69 : decode cX6_goesOn 69 = .ok (.iload_n 2, 1) := by decide +kernel
theorem dX6_goesOn_70 : decode cX6_goesOn 70 = .ok (.iaload, 1) := by decide +kernel
theorem dX6_goesOn_71 : decode cX6_goesOn 71 = .ok (.if_icmp .le 7, 3) := by decide +kernel
theorem dX6_goesOn_74 : decode cX6_goesOn 74 = .ok (.iconst 2, 1) := by decide +kernel
theorem dX6_goesOn_75 : decode cX6_goesOn 75 = .ok (.goto 4, 3) := by decide +kernel
theorem dX6_goesOn_78 : decode cX6_goesOn 78 = .ok (.iconst 3, 1) := by decide +kernel
theorem dX6_goesOn_79 : decode cX6_goesOn 79 = .ok (.invokevirtual 91, 3) := by decide +kernel
theorem dX6_goesOn_82 : decode cX6_goesOn 82 = .ok (.goto 114, 3) := by decide +kernel
theorem dX6_goesOn_85 : decode cX6_goesOn 85 = .ok (.iload_n 1, 1) := by decide +kernel
theorem dX6_goesOn_86 : decode cX6_goesOn 86 = .ok (.iconst 2, 1) := by decide +kernel
theorem dX6_goesOn_87 : decode cX6_goesOn 87 = .ok (.if_icmp .ne 31, 3) := by decide +kernel
theorem dX6_goesOn_90 : decode cX6_goesOn 90 = .ok (.iload_n 3, 1) := by decide +kernel
theorem dX6_goesOn_91 : decode cX6_goesOn 91 = .ok (.aload_n 0, 1) := by decide +kernel
theorem dX6_goesOn_92 : decode cX6_goesOn 92 = .ok (.getfield 47, 3) := by decide +kernel
theorem dX6_goesOn_95 : decode cX6_goesOn 95 = .ok (.aload_n 0, 1) := by decide +kernel
theorem dX6_goesOn_96 : decode cX6_goesOn 96 = .ok (.getfield 99, 3) := by decide +kernel
theorem dX6_goesOn_99 : decode cX6_goesOn 99 = .ok (.iaload, 1) := by decide +kernel
theorem dX6_goesOn_100 : decode cX6_goesOn 100 = .ok (.aload_n 0, 1) := by decide +kernel
theorem dX6_goesOn_101 : decode cX6_goesOn 101 = .ok (.getfield 17, 3) := by decide +kernel
theorem dX6_goesOn_104 : decode cX6_goesOn 104 = .ok (.iload_n 2, 1) := by decide +kernel
theorem dX6_goesOn_105 : decode cX6_goesOn 105 = .ok (.iaload, 1) := by decide +kernel
theorem dX6_goesOn_106 : decode cX6_goesOn 106 = .ok (.isub, 1) := by decide +kernel
theorem dX6_goesOn_107 : decode cX6_goesOn 107 = .ok (.if_icmp .lt 11, 3) := by decide +kernel
theorem dX6_goesOn_110 : decode cX6_goesOn 110 = .ok (.aload_n 0, 1) := by decide +kernel
theorem dX6_goesOn_111 : decode cX6_goesOn 111 = .ok (.iconst 3, 1) := by decide +kernel
theorem dX6_goesOn_112 : decode cX6_goesOn 112 = .ok (.invokevirtual 91, 3) := by decide +kernel
theorem dX6_goesOn_115 : decode cX6_goesOn 115 = .ok (.goto 81, 3) := by decide +kernel
theorem dX6_goesOn_118 : decode cX6_goesOn 118 = .ok (.iload_n 1, 1) := by decide +kernel
theorem dX6_goesOn_119 : decode cX6_goesOn 119 = .ok (.iconst 3, 1) := by decide +kernel
theorem dX6_goesOn_120 : decode cX6_goesOn 120 = .ok (.if_icmp .ne 31, 3) := by decide +kernel
theorem dX6_goesOn_123 : decode cX6_goesOn 123 = .ok (.iload_n 3, 1) := by decide +kernel
theorem dX6_goesOn_124 : decode cX6_goesOn 124 = .ok (.aload_n 0, 1) := by decide +kernel
theorem dX6_goesOn_125 : decode cX6_goesOn 125 = .ok (.getfield 47, 3) := by decide +kernel
theorem dX6_goesOn_128 : decode cX6_goesOn 128 = .ok (.aload_n 0, 1) := by decide +kernel
theorem dX6_goesOn_129 : decode cX6_goesOn 129 = .ok (.getfield 99, 3) := by decide +kernel
theorem dX6_goesOn_132 : decode cX6_goesOn 132 = .ok (.iaload, 1) := by decide +kernel
theorem dX6_goesOn_133 : decode cX6_goesOn 133 = .ok (.aload_n 0, 1) := by decide +kernel
theorem dX6_goesOn_134 : decode cX6_goesOn 134 = .ok (.getfield 20, 3) := by decide +kernel
theorem dX6_goesOn_137 : decode cX6_goesOn 137 = .ok (.iload_n 2, 1) := by decide +kernel
theorem dX6_goesOn_138 : decode cX6_goesOn 138 = .ok (.iaload, 1) := by decide +kernel
theorem dX6_goesOn_139 : decode cX6_goesOn 139 = .ok (.isub, 1) := by decide +kernel
theorem dX6_goesOn_140 : decode cX6_goesOn 140 = .ok (.if_icmp .lt 11, 3) := by decide +kernel
theorem dX6_goesOn_143 : decode cX6_goesOn 143 = .ok (.aload_n 0, 1) := by decide +kernel
theorem dX6_goesOn_144 : decode cX6_goesOn 144 = .ok (.iconst 4, 1) := by decide +kernel
theorem dX6_goesOn_145 : decode cX6_goesOn 145 = .ok (.invokevirtual 91, 3) := by decide +kernel
theorem dX6_goesOn_148 : decode cX6_goesOn 148 = .ok (.goto 48, 3) := by decide +kernel
theorem dX6_goesOn_151 : decode cX6_goesOn 151 = .ok (.iload_n 1, 1) := by decide +kernel
theorem dX6_goesOn_152 : decode cX6_goesOn 152 = .ok (.iconst 4, 1) := by decide +kernel
theorem dX6_goesOn_153 : decode cX6_goesOn 153 = .ok (.if_icmp .ne 25, 3) := by decide +kernel
theorem dX6_goesOn_156 : decode cX6_goesOn 156 = .ok (.aload_n 0, 1) := by decide +kernel
theorem dX6_goesOn_157 : decode cX6_goesOn 157 = .ok (.getfield 82, 3) := by decide +kernel
theorem dX6_goesOn_160 : decode cX6_goesOn 160 = .ok (.iconst 4, 1) := by decide +kernel
theorem dX6_goesOn_161 : decode cX6_goesOn 161 = .ok (.if_icmp .lt 17, 3) := by decide +kernel
theorem dX6_goesOn_164 : decode cX6_goesOn 164 = .ok (.aload_n 0, 1) := by decide +kernel
theorem dX6_goesOn_165 : decode cX6_goesOn 165 = .ok (.invokevirtual 95, 3) := by decide +kernel
theorem dX6_goesOn_168 : decode cX6_goesOn 168 = .ok (.ifCond .eq 10, 3) := by decide +kernel
theorem dX6_goesOn_171 : decode cX6_goesOn 171 = .ok (.aload_n 0, 1) := by decide +kernel
theorem dX6_goesOn_172 : decode cX6_goesOn 172 = .ok (.invokevirtual 125, 3) := by decide +kernel
theorem dX6_goesOn_175 : decode cX6_goesOn 175 = .ok (.goto 21, 3) := by decide +kernel
theorem dX6_goesOn_178 : decode cX6_goesOn 178 = .ok (.iload_n 1, 1) := by decide +kernel
theorem dX6_goesOn_179 : decode cX6_goesOn 179 = .ok (.iconst 5, 1) := by decide +kernel
theorem dX6_goesOn_180 : decode cX6_goesOn 180 = .ok (.if_icmp .ne 16, 3) := by decide +kernel
theorem dX6_goesOn_183 : decode cX6_goesOn 183 = .ok (.aload_n 0, 1) := by decide +kernel
theorem dX6_goesOn_184 : decode cX6_goesOn 184 = .ok (.getfield 82, 3) := by decide +kernel
theorem dX6_goesOn_187 : decode cX6_goesOn 187 = .ok (.iconst 2, 1) := by decide +kernel
theorem dX6_goesOn_188 : decode cX6_goesOn 188 = .ok (.if_icmp .ne 8, 3) := by decide +kernel
theorem dX6_goesOn_191 : decode cX6_goesOn 191 = .ok (.aload_n 0, 1) := by decide +kernel
theorem dX6_goesOn_192 : decode cX6_goesOn 192 = .ok (.iconst 4, 1) := by decide +kernel
theorem dX6_goesOn_193 : decode cX6_goesOn 193 = .ok (.invokevirtual 91, 3) := by decide +kernel
theorem dX6_goesOn_196 : decode cX6_goesOn 196 = .ok (.iload_n 1, 1) := by decide +kernel
theorem dX6_goesOn_197 : decode cX6_goesOn 197 = .ok (.iconst 2, 1) := by decide +kernel
theorem dX6_goesOn_198 : decode cX6_goesOn 198 = .ok (.if_icmp .eq 8, 3) := by decide +kernel
theorem dX6_goesOn_201 : decode cX6_goesOn 201 = .ok (.iload_n 1, 1) := by decide +kernel
theorem dX6_goesOn_202 : decode cX6_goesOn 202 = .ok (.iconst 3, 1) := by decide +kernel
theorem dX6_goesOn_203 : decode cX6_goesOn 203 = .ok (.if_icmp .ne 67, 3) := by decide +kernel
theorem dX6_goesOn_206 : decode cX6_goesOn 206 = .ok (.aload_n 0, 1) := by decide +kernel
theorem dX6_goesOn_207 : decode cX6_goesOn 207 = .ok (.iload_n 3, 1) := by decide +kernel
theorem dX6_goesOn_208 : decode cX6_goesOn 208 = .ok (.aload_n 0, 1) := by decide +kernel
theorem dX6_goesOn_209 : decode cX6_goesOn 209 = .ok (.getfield 128, 3) := by decide +kernel
theorem dX6_goesOn_212 : decode cX6_goesOn 212 = .ok (.if_icmp .le 7, 3) := by decide +kernel
theorem dX6_goesOn_215 : decode cX6_goesOn 215 = .ok (.iconst 0, 1) := by decide +kernel
theorem dX6_goesOn_216 : decode cX6_goesOn 216 = .ok (.goto 9, 3) := by decide +kernel
theorem dX6_goesOn_219 : decode cX6_goesOn 219 = .ok (.aload_n 0, 1) := by decide +kernel
theorem dX6_goesOn_220 : decode cX6_goesOn 220 = .ok (.getfield 131, 3) := by decide +kernel
theorem dX6_goesOn_223 : decode cX6_goesOn 223 = .ok (.iconst 1, 1) := by decide +kernel
theorem dX6_goesOn_224 : decode cX6_goesOn 224 = .ok (.iadd, 1) := by decide +kernel
theorem dX6_goesOn_225 : decode cX6_goesOn 225 = .ok (.putfield 131, 3) := by decide +kernel
theorem dX6_goesOn_228 : decode cX6_goesOn 228 = .ok (.aload_n 0, 1) := by decide +kernel
theorem dX6_goesOn_229 : decode cX6_goesOn 229 = .ok (.iload_n 3, 1) := by decide +kernel
theorem dX6_goesOn_230 : decode cX6_goesOn 230 = .ok (.aload_n 0, 1) := by decide +kernel
theorem dX6_goesOn_231 : decode cX6_goesOn 231 = .ok (.getfield 128, 3) := by decide +kernel
theorem dX6_goesOn_234 : decode cX6_goesOn 234 = .ok (.if_icmp .le 7, 3) := by decide +kernel
theorem dX6_goesOn_237 : decode cX6_goesOn 237 = .ok (.iload_n 3, 1) := by decide +kernel
theorem dX6_goesOn_238 : decode cX6_goesOn 238 = .ok (.goto 7, 3) := by decide +kernel
theorem dX6_goesOn_241 : decode cX6_goesOn 241 = .ok (.aload_n 0, 1) := by decide +kernel
theorem dX6_goesOn_242 : decode cX6_goesOn 242 = .ok (.getfield 128, 3) := by decide +kernel
theorem dX6_goesOn_245 : decode cX6_goesOn 245 = .ok (.putfield 128, 3) := by decide +kernel
theorem dX6_goesOn_248 : decode cX6_goesOn 248 = .ok (.aload_n 0, 1) := by decide +kernel
theorem dX6_goesOn_249 : decode cX6_goesOn 249 = .ok (.getfield 131, 3) := by decide +kernel
theorem dX6_goesOn_252 : decode cX6_goesOn 252 = .ok (.bipush 20, 2) := by decide +kernel
theorem dX6_goesOn_254 : decode cX6_goesOn 254 = .ok (.if_icmp .lt 16, 3) := by decide +kernel
theorem dX6_goesOn_257 : decode cX6_goesOn 257 = .ok (.aload_n 0, 1) := by decide +kernel
theorem dX6_goesOn_258 : decode cX6_goesOn 258 = .ok (.getfield 79, 3) := by decide +kernel
theorem dX6_goesOn_261 : decode cX6_goesOn 261 = .ok (.iload_n 1, 1) := by decide +kernel
theorem dX6_goesOn_262 : decode cX6_goesOn 262 = .ok (.if_icmp .ne 8, 3) := by decide +kernel
theorem dX6_goesOn_265 : decode cX6_goesOn 265 = .ok (.aload_n 0, 1) := by decide +kernel
theorem dX6_goesOn_266 : decode cX6_goesOn 266 = .ok (.iconst 3, 1) := by decide +kernel
theorem dX6_goesOn_267 : decode cX6_goesOn 267 = .ok (.invokevirtual 116, 3) := by decide +kernel
theorem dX6_goesOn_270 : decode cX6_goesOn 270 = .ok (.return_, 1) := by decide +kernel
theorem dX6_brings_0 : decode cX6_brings 0 = .ok (.aload_n 0, 1) := by decide +kernel
theorem dX6_brings_1 : decode cX6_brings 1 = .ok (.getfield 7, 3) := by decide +kernel
theorem dX6_brings_4 : decode cX6_brings 4 = .ok (.aload_n 0, 1) := by decide +kernel
theorem dX6_brings_5 : decode cX6_brings 5 = .ok (.getfield 63, 3) := by decide +kernel
theorem dX6_brings_8 : decode cX6_brings 8 = .ok (.iconst 4, 1) := by decide +kernel
theorem dX6_brings_9 : decode cX6_brings 9 = .ok (.irem, 1) := by decide +kernel
theorem dX6_brings_10 : decode cX6_brings 10 = .ok (.iload_n 1, 1) := by decide +kernel
theorem dX6_brings_11 : decode cX6_brings 11 = .ok (.iastore, 1) := by decide +kernel
theorem dX6_brings_12 : decode cX6_brings 12 = .ok (.aload_n 0, 1) := by decide +kernel
theorem dX6_brings_13 : decode cX6_brings 13 = .ok (.dup, 1) := by decide +kernel
theorem dX6_brings_14 : decode cX6_brings 14 = .ok (.getfield 63, 3) := by decide +kernel
theorem dX6_brings_17 : decode cX6_brings 17 = .ok (.iconst 1, 1) := by decide +kernel
theorem dX6_brings_18 : decode cX6_brings 18 = .ok (.iadd, 1) := by decide +kernel
theorem dX6_brings_19 : decode cX6_brings 19 = .ok (.putfield 63, 3) := by decide +kernel
theorem dX6_brings_22 : decode cX6_brings 22 = .ok (.aload_n 0, 1) := by decide +kernel
theorem dX6_brings_23 : decode cX6_brings 23 = .ok (.iload_n 1, 1) := by decide +kernel
theorem dX6_brings_24 : decode cX6_brings 24 = .ok (.putfield 66, 3) := by decide +kernel
theorem dX6_brings_27 : decode cX6_brings 27 = .ok (.aload_n 0, 1) := by decide +kernel
theorem dX6_brings_28 : decode cX6_brings 28 = .ok (.getfield 79, 3) := by decide +kernel
theorem dX6_brings_31 : decode cX6_brings 31 = .ok (.ifCond .ne 10, 3) := by decide +kernel
theorem dX6_brings_34 : decode cX6_brings 34 = .ok (.aload_n 0, 1) := by decide +kernel
theorem dX6_brings_35 : decode cX6_brings 35 = .ok (.invokevirtual 134, 3) := by decide +kernel
theorem dX6_brings_38 : decode cX6_brings 38 = .ok (.goto 16, 3) := by decide +kernel
theorem dX6_brings_41 : decode cX6_brings 41 = .ok (.aload_n 0, 1) := by decide +kernel
theorem dX6_brings_42 : decode cX6_brings 42 = .ok (.getfield 79, 3) := by decide +kernel
theorem dX6_brings_45 : decode cX6_brings 45 = .ok (.bipush 6, 2) := by decide +kernel
theorem dX6_brings_47 : decode cX6_brings 47 = .ok (.if_icmp .ge 7, 3) := by decide +kernel
theorem dX6_brings_50 : decode cX6_brings 50 = .ok (.aload_n 0, 1) := by decide +kernel
theorem dX6_brings_51 : decode cX6_brings 51 = .ok (.invokevirtual 137, 3) := by decide +kernel
theorem dX6_brings_54 : decode cX6_brings 54 = .ok (.aload_n 0, 1) := by decide +kernel
theorem dX6_brings_55 : decode cX6_brings 55 = .ok (.getfield 79, 3) := by decide +kernel
theorem dX6_brings_58 : decode cX6_brings 58 = .ok (.ireturn, 1) := by decide +kernel
theorem dX6_tick_0 : decode cX6_tick 0 = .ok (.aload_n 0, 1) := by decide +kernel
theorem dX6_tick_1 : decode cX6_tick 1 = .ok (.iload_n 1, 1) := by decide +kernel
theorem dX6_tick_2 : decode cX6_tick 2 = .ok (.sipush (-1000), 3) := by decide +kernel
theorem dX6_tick_5 : decode cX6_tick 5 = .ok (.ldc 140, 2) := by decide +kernel
theorem dX6_tick_7 : decode cX6_tick 7 = .ok (.invokestatic 56, 3) := by decide +kernel
theorem dX6_tick_10 : decode cX6_tick 10 = .ok (.iconst 1, 1) := by decide +kernel
theorem dX6_tick_11 : decode cX6_tick 11 = .ok (.iconst 1, 1) := by decide +kernel
theorem dX6_tick_12 : decode cX6_tick 12 = .ok (.invokevirtual 141, 3) := by decide +kernel
theorem dX6_tick_15 : decode cX6_tick 15 = .ok (.ifCond .eq 11, 3) := by decide +kernel
theorem dX6_tick_18 : decode cX6_tick 18 = .ok (.aload_n 0, 1) := by decide +kernel
theorem dX6_tick_19 : decode cX6_tick 19 = .ok (.iload_n 1, 1) := by decide +kernel
theorem dX6_tick_20 : decode cX6_tick 20 = .ok (.invokevirtual 145, 3) := by decide +kernel
theorem dX6_tick_23 : decode cX6_tick 23 = .ok (.goto 4, 3) := by decide +kernel
theorem dX6_tick_26 : decode cX6_tick 26 = .ok (.iconst 0, 1) := by decide +kernel
theorem dX6_tick_27 : decode cX6_tick 27 = .ok (.ireturn, 1) := by decide +kernel
theorem dX6_ticks_0 : decode cX6_ticks 0 = .ok (.aload_n 0, 1) := by decide +kernel
theorem dX6_ticks_1 : decode cX6_ticks 1 = .ok (.iload_n 1, 1) := by decide +kernel
theorem dX6_ticks_2 : decode cX6_ticks 2 = .ok (.sipush (-1000), 3) := by decide +kernel
theorem dX6_ticks_5 : decode cX6_ticks 5 = .ok (.ldc 140, 2) := by decide +kernel
theorem dX6_ticks_7 : decode cX6_ticks 7 = .ok (.invokestatic 56, 3) := by decide +kernel
theorem dX6_ticks_10 : decode cX6_ticks 10 = .ok (.ifCond .eq 17, 3) := by decide +kernel
theorem dX6_ticks_13 : decode cX6_ticks 13 = .ok (.iload_n 2, 1) := by decide +kernel
theorem dX6_ticks_14 : decode cX6_ticks 14 = .ok (.iconst 1, 1) := by decide +kernel
theorem dX6_ticks_15 : decode cX6_ticks 15 = .ok (.bipush 50, 2) := by decide +kernel
theorem dX6_ticks_17 : decode cX6_ticks 17 = .ok (.invokestatic 56, 3) := by decide +kernel
theorem dX6_ticks_20 : decode cX6_ticks 20 = .ok (.ifCond .eq 7, 3) := by decide +kernel
theorem dX6_ticks_23 : decode cX6_ticks 23 = .ok (.iconst 1, 1) := by decide +kernel
theorem dX6_ticks_24 : decode cX6_ticks 24 = .ok (.goto 4, 3) := by decide +kernel
theorem dX6_ticks_27 : decode cX6_ticks 27 = .ok (.iconst 0, 1) := by decide +kernel
theorem dX6_ticks_28 : decode cX6_ticks 28 = .ok (.iconst 1, 1) := by decide +kernel
theorem dX6_ticks_29 : decode cX6_ticks 29 = .ok (.iconst 1, 1) := by decide +kernel
theorem dX6_ticks_30 : decode cX6_ticks 30 = .ok (.invokevirtual 141, 3) := by decide +kernel
theorem dX6_ticks_33 : decode cX6_ticks 33 = .ok (.istore_n 3, 1) := by decide +kernel
theorem dX6_ticks_34 : decode cX6_ticks 34 = .ok (.iconst 0, 1) := by decide +kernel
theorem dX6_ticks_35 : decode cX6_ticks 35 = .ok (.istore 4, 2) := by decide +kernel
theorem dX6_ticks_37 : decode cX6_ticks 37 = .ok (.iload 4, 2) := by decide +kernel
theorem dX6_ticks_39 : decode cX6_ticks 39 = .ok (.iload_n 2, 1) := by decide +kernel
theorem dX6_ticks_40 : decode cX6_ticks 40 = .ok (.if_icmp .ge 19, 3) := by decide +kernel
theorem dX6_ticks_43 : decode cX6_ticks 43 = .ok (.iload_n 3, 1) := by decide +kernel
theorem dX6_ticks_44 : decode cX6_ticks 44 = .ok (.ifCond .eq 15, 3) := by decide +kernel
theorem dX6_ticks_47 : decode cX6_ticks 47 = .ok (.aload_n 0, 1) := by decide +kernel
theorem dX6_ticks_48 : decode cX6_ticks 48 = .ok (.iload_n 1, 1) := by decide +kernel
theorem dX6_ticks_49 : decode cX6_ticks 49 = .ok (.invokevirtual 145, 3) := by decide +kernel
theorem dX6_ticks_52 : decode cX6_ticks 52 = .ok (.pop, 1) := by decide +kernel
theorem dX6_ticks_53 : decode cX6_ticks 53 = .ok (.iinc 4 1, 3) := by decide +kernel
theorem dX6_ticks_56 : decode cX6_ticks 56 = .ok (.goto (-19), 3) := by decide +kernel
theorem dX6_ticks_59 : decode cX6_ticks 59 = .ok (.iload_n 3, 1) := by decide +kernel
theorem dX6_ticks_60 : decode cX6_ticks 60 = .ok (.ifCond .eq 10, 3) := by decide +kernel
theorem dX6_ticks_63 : decode cX6_ticks 63 = .ok (.aload_n 0, 1) := by decide +kernel
theorem dX6_ticks_64 : decode cX6_ticks 64 = .ok (.getfield 79, 3) := by decide +kernel
theorem dX6_ticks_67 : decode cX6_ticks 67 = .ok (.goto 4, 3) := by decide +kernel
theorem dX6_ticks_70 : decode cX6_ticks 70 = .ok (.iconst 0, 1) := by decide +kernel
theorem dX6_ticks_71 : decode cX6_ticks 71 = .ok (.ireturn, 1) := by decide +kernel
theorem dX6_zero_0 : decode cX6_zero 0 = .ok (.aload_n 0, 1) := by decide +kernel
theorem dX6_zero_1 : decode cX6_zero 1 = .ok (.aload_n 0, 1) := by decide +kernel
theorem dX6_zero_2 : decode cX6_zero 2 = .ok (.getfield 79, 3) := by decide +kernel
theorem dX6_zero_5 : decode cX6_zero 5 = .ok (.ifCond .ne 30, 3) := by decide +kernel
theorem dX6_zero_8 : decode cX6_zero 8 = .ok (.aload_n 0, 1) := by decide +kernel
theorem dX6_zero_9 : decode cX6_zero 9 = .ok (.invokevirtual 95, 3) := by decide +kernel
theorem dX6_zero_12 : decode cX6_zero 12 = .ok (.ifCond .eq 23, 3) := by decide +kernel
theorem dX6_zero_15 : decode cX6_zero 15 = .ok (.aload_n 0, 1) := by decide +kernel
theorem dX6_zero_16 : decode cX6_zero 16 = .ok (.getfield 66, 3) := by decide +kernel
theorem dX6_zero_19 : decode cX6_zero 19 = .ok (.sipush (-500), 3) := by decide +kernel
theorem dX6_zero_22 : decode cX6_zero 22 = .ok (.sipush 500, 3) := by decide +kernel
theorem dX6_zero_25 : decode cX6_zero 25 = .ok (.invokestatic 56, 3) := by decide +kernel
theorem dX6_zero_28 : decode cX6_zero 28 = .ok (.ifCond .eq 7, 3) := by decide +kernel
theorem dX6_zero_31 : decode cX6_zero 31 = .ok (.iconst 1, 1) := by decide +kernel
theorem dX6_zero_32 : decode cX6_zero 32 = .ok (.goto 4, 3) := by decide +kernel
theorem dX6_zero_35 : decode cX6_zero 35 = .ok (.iconst 0, 1) := by decide +kernel
theorem dX6_zero_36 : decode cX6_zero 36 = .ok (.iconst 1, 1) := by decide +kernel
theorem dX6_zero_37 : decode cX6_zero 37 = .ok (.iconst 1, 1) := by decide +kernel
theorem dX6_zero_38 : decode cX6_zero 38 = .ok (.invokevirtual 141, 3) := by decide +kernel
theorem dX6_zero_41 : decode cX6_zero 41 = .ok (.ifCond .ne 5, 3) := by decide +kernel
theorem dX6_zero_44 : decode cX6_zero 44 = .ok (.iconst 0, 1) := by decide +kernel
theorem dX6_zero_45 : decode cX6_zero 45 = .ok (.ireturn, 1) := by decide +kernel
theorem dX6_zero_46 : decode cX6_zero 46 = .ok (.aload_n 0, 1) := by decide +kernel
theorem dX6_zero_47 : decode cX6_zero 47 = .ok (.getfield 69, 3) := by decide +kernel
theorem dX6_zero_50 : decode cX6_zero 50 = .ok (.istore_n 1, 1) := by decide +kernel
theorem dX6_zero_51 : decode cX6_zero 51 = .ok (.aload_n 0, 1) := by decide +kernel
theorem dX6_zero_52 : decode cX6_zero 52 = .ok (.aload_n 0, 1) := by decide +kernel
theorem dX6_zero_53 : decode cX6_zero 53 = .ok (.getfield 66, 3) := by decide +kernel
theorem dX6_zero_56 : decode cX6_zero 56 = .ok (.putfield 69, 3) := by decide +kernel
theorem dX6_zero_59 : decode cX6_zero 59 = .ok (.iload_n 1, 1) := by decide +kernel
theorem dX6_zero_60 : decode cX6_zero 60 = .ok (.ireturn, 1) := by decide +kernel
theorem dX6_setBand_0 : decode cX6_setBand 0 = .ok (.aload_n 0, 1) := by decide +kernel
theorem dX6_setBand_1 : decode cX6_setBand 1 = .ok (.iload_n 1, 1) := by decide +kernel
theorem dX6_setBand_2 : decode cX6_setBand 2 = .ok (.iconst 0, 1) := by decide +kernel
theorem dX6_setBand_3 : decode cX6_setBand 3 = .ok (.bipush 50, 2) := by decide +kernel
theorem dX6_setBand_5 : decode cX6_setBand 5 = .ok (.invokestatic 56, 3) := by decide +kernel
theorem dX6_setBand_8 : decode cX6_setBand 8 = .ok (.iconst 1, 1) := by decide +kernel
theorem dX6_setBand_9 : decode cX6_setBand 9 = .ok (.iconst 1, 1) := by decide +kernel
theorem dX6_setBand_10 : decode cX6_setBand 10 = .ok (.invokevirtual 141, 3) := by decide +kernel
theorem dX6_setBand_13 : decode cX6_setBand 13 = .ok (.ifCond .ne 5, 3) := by decide +kernel
theorem dX6_setBand_16 : decode cX6_setBand 16 = .ok (.iconst 0, 1) := by decide +kernel
theorem dX6_setBand_17 : decode cX6_setBand 17 = .ok (.ireturn, 1) := by decide +kernel
theorem dX6_setBand_18 : decode cX6_setBand 18 = .ok (.aload_n 0, 1) := by decide +kernel
theorem dX6_setBand_19 : decode cX6_setBand 19 = .ok (.getfield 13, 3) := by decide +kernel
theorem dX6_setBand_22 : decode cX6_setBand 22 = .ok (.istore_n 2, 1) := by decide +kernel
theorem dX6_setBand_23 : decode cX6_setBand 23 = .ok (.aload_n 0, 1) := by decide +kernel
theorem dX6_setBand_24 : decode cX6_setBand 24 = .ok (.iload_n 1, 1) := by decide +kernel
theorem dX6_setBand_25 : decode cX6_setBand 25 = .ok (.putfield 13, 3) := by decide +kernel
theorem dX6_setBand_28 : decode cX6_setBand 28 = .ok (.iload_n 2, 1) := by decide +kernel
theorem dX6_setBand_29 : decode cX6_setBand 29 = .ok (.ireturn, 1) := by decide +kernel
theorem dX6_gross_0 : decode cX6_gross 0 = .ok (.aload_n 0, 1) := by decide +kernel
theorem dX6_gross_1 : decode cX6_gross 1 = .ok (.iconst 0, 1) := by decide +kernel
theorem dX6_gross_2 : decode cX6_gross 2 = .ok (.putfield 53, 3) := by decide +kernel
theorem dX6_gross_5 : decode cX6_gross 5 = .ok (.aload_n 0, 1) := by decide +kernel
theorem dX6_gross_6 : decode cX6_gross 6 = .ok (.invokevirtual 72, 3) := by decide +kernel
theorem dX6_gross_9 : decode cX6_gross 9 = .ok (.ireturn, 1) := by decide +kernel
theorem dX6_net_0 : decode cX6_net 0 = .ok (.aload_n 0, 1) := by decide +kernel
theorem dX6_net_1 : decode cX6_net 1 = .ok (.iconst 0, 1) := by decide +kernel
theorem dX6_net_2 : decode cX6_net 2 = .ok (.putfield 53, 3) := by decide +kernel
theorem dX6_net_5 : decode cX6_net 5 = .ok (.aload_n 0, 1) := by decide +kernel
theorem dX6_net_6 : decode cX6_net 6 = .ok (.invokevirtual 102, 3) := by decide +kernel
theorem dX6_net_9 : decode cX6_net 9 = .ok (.ireturn, 1) := by decide +kernel
theorem dX6_isSettled_0 : decode cX6_isSettled 0 = .ok (.aload_n 0, 1) := by decide +kernel
theorem dX6_isSettled_1 : decode cX6_isSettled 1 = .ok (.iconst 0, 1) := by decide +kernel
theorem dX6_isSettled_2 : decode cX6_isSettled 2 = .ok (.putfield 53, 3) := by decide +kernel
theorem dX6_isSettled_5 : decode cX6_isSettled 5 = .ok (.aload_n 0, 1) := by decide +kernel
theorem dX6_isSettled_6 : decode cX6_isSettled 6 = .ok (.invokevirtual 95, 3) := by decide +kernel
theorem dX6_isSettled_9 : decode cX6_isSettled 9 = .ok (.ireturn, 1) := by decide +kernel
theorem dX6_fill_0 : decode cX6_fill 0 = .ok (.aload_n 0, 1) := by decide +kernel
theorem dX6_fill_1 : decode cX6_fill 1 = .ok (.iload_n 1, 1) := by decide +kernel
theorem dX6_fill_2 : decode cX6_fill 2 = .ok (.invokestatic 149, 3) := by decide +kernel
theorem dX6_fill_5 : decode cX6_fill 5 = .ok (.iload_n 2, 1) := by decide +kernel
theorem dX6_fill_6 : decode cX6_fill 6 = .ok (.iconst 1, 1) := by decide +kernel
theorem dX6_fill_7 : decode cX6_fill 7 = .ok (.ldc 140, 2) := by decide +kernel
theorem dX6_fill_9 : decode cX6_fill 9 = .ok (.invokestatic 56, 3) := by decide +kernel
theorem dX6_fill_12 : decode cX6_fill 12 = .ok (.aload_n 0, 1) := by decide +kernel
theorem dX6_fill_13 : decode cX6_fill 13 = .ok (.getfield 60, 3) := by decide +kernel
theorem dX6_fill_16 : decode cX6_fill 16 = .ok (.bipush 30, 2) := by decide +kernel
theorem dX6_fill_18 : decode cX6_fill 18 = .ok (.if_icmp .ge 7, 3) := by decide +kernel
theorem dX6_fill_21 : decode cX6_fill 21 = .ok (.iconst 1, 1) := by decide +kernel
theorem dX6_fill_22 : decode cX6_fill 22 = .ok (.goto 4, 3) := by decide +kernel
theorem dX6_fill_25 : decode cX6_fill 25 = .ok (.iconst 0, 1) := by decide +kernel
theorem dX6_fill_26 : decode cX6_fill 26 = .ok (.invokevirtual 141, 3) := by decide +kernel
theorem dX6_fill_29 : decode cX6_fill 29 = .ok (.ifCond .ne 5, 3) := by decide +kernel
theorem dX6_fill_32 : decode cX6_fill 32 = .ok (.iconst 0, 1) := by decide +kernel
theorem dX6_fill_33 : decode cX6_fill 33 = .ok (.ireturn, 1) := by decide +kernel
theorem dX6_fill_34 : decode cX6_fill 34 = .ok (.aload_n 0, 1) := by decide +kernel
theorem dX6_fill_35 : decode cX6_fill 35 = .ok (.getfield 29, 3) := by decide +kernel
theorem dX6_fill_38 : decode cX6_fill 38 = .ok (.aload_n 0, 1) := by decide +kernel
theorem dX6_fill_39 : decode cX6_fill 39 = .ok (.getfield 60, 3) := by decide +kernel
theorem dX6_fill_42 : decode cX6_fill 42 = .ok (.iload_n 1, 1) := by decide +kernel
theorem dX6_fill_43 : decode cX6_fill 43 = .ok (.iastore, 1) := by decide +kernel
theorem dX6_fill_44 : decode cX6_fill 44 = .ok (.aload_n 0, 1) := by decide +kernel
theorem dX6_fill_45 : decode cX6_fill 45 = .ok (.getfield 32, 3) := by decide +kernel
theorem dX6_fill_48 : decode cX6_fill 48 = .ok (.aload_n 0, 1) := by decide +kernel
theorem dX6_fill_49 : decode cX6_fill 49 = .ok (.getfield 60, 3) := by decide +kernel
theorem dX6_fill_52 : decode cX6_fill 52 = .ok (.iload_n 2, 1) := by decide +kernel
theorem dX6_fill_53 : decode cX6_fill 53 = .ok (.iastore, 1) := by decide +kernel
theorem dX6_fill_54 : decode cX6_fill 54 = .ok (.aload_n 0, 1) := by decide +kernel
theorem dX6_fill_55 : decode cX6_fill 55 = .ok (.getfield 35, 3) := by decide +kernel
theorem dX6_fill_58 : decode cX6_fill 58 = .ok (.aload_n 0, 1) := by decide +kernel
theorem dX6_fill_59 : decode cX6_fill 59 = .ok (.getfield 60, 3) := by decide +kernel
theorem dX6_fill_62 : decode cX6_fill 62 = .ok (.iload_n 2, 1) := by decide +kernel
theorem dX6_fill_63 : decode cX6_fill 63 = .ok (.iastore, 1) := by decide +kernel
theorem dX6_fill_64 : decode cX6_fill 64 = .ok (.aload_n 0, 1) := by decide +kernel
theorem dX6_fill_65 : decode cX6_fill 65 = .ok (.getfield 38, 3) := by decide +kernel
theorem dX6_fill_68 : decode cX6_fill 68 = .ok (.aload_n 0, 1) := by decide +kernel
theorem dX6_fill_69 : decode cX6_fill 69 = .ok (.getfield 60, 3) := by decide +kernel
theorem dX6_fill_72 : decode cX6_fill 72 = .ok (.iconst (-1), 1) := by decide +kernel
theorem dX6_fill_73 : decode cX6_fill 73 = .ok (.iastore, 1) := by decide +kernel
theorem dX6_fill_74 : decode cX6_fill 74 = .ok (.aload_n 0, 1) := by decide +kernel
theorem dX6_fill_75 : decode cX6_fill 75 = .ok (.dup, 1) := by decide +kernel
theorem dX6_fill_76 : decode cX6_fill 76 = .ok (.getfield 60, 3) := by decide +kernel
theorem dX6_fill_79 : decode cX6_fill 79 = .ok (.iconst 1, 1) := by decide +kernel
theorem dX6_fill_80 : decode cX6_fill 80 = .ok (.iadd, 1) := by decide +kernel
theorem dX6_fill_81 : decode cX6_fill 81 = .ok (.putfield 60, 3) := by decide +kernel
theorem dX6_fill_84 : decode cX6_fill 84 = .ok (.aload_n 0, 1) := by decide +kernel
theorem dX6_fill_85 : decode cX6_fill 85 = .ok (.getfield 60, 3) := by decide +kernel
theorem dX6_fill_88 : decode cX6_fill 88 = .ok (.iconst 1, 1) := by decide +kernel
theorem dX6_fill_89 : decode cX6_fill 89 = .ok (.isub, 1) := by decide +kernel
theorem dX6_fill_90 : decode cX6_fill 90 = .ok (.ireturn, 1) := by decide +kernel
theorem dX6_setMargin_0 : decode cX6_setMargin 0 = .ok (.aload_n 0, 1) := by decide +kernel
theorem dX6_setMargin_1 : decode cX6_setMargin 1 = .ok (.iload_n 1, 1) := by decide +kernel
theorem dX6_setMargin_2 : decode cX6_setMargin 2 = .ok (.invokestatic 149, 3) := by decide +kernel
theorem dX6_setMargin_5 : decode cX6_setMargin 5 = .ok (.iload_n 2, 1) := by decide +kernel
theorem dX6_setMargin_6 : decode cX6_setMargin 6 = .ok (.iconst 0, 1) := by decide +kernel
theorem dX6_setMargin_7 : decode cX6_setMargin 7 = .ok (.sipush 1000, 3) := by decide +kernel
theorem dX6_setMargin_10 : decode cX6_setMargin 10 = .ok (.invokestatic 56, 3) := by decide +kernel
theorem dX6_setMargin_13 : decode cX6_setMargin 13 = .ok (.iconst 1, 1) := by decide +kernel
theorem dX6_setMargin_14 : decode cX6_setMargin 14 = .ok (.invokevirtual 141, 3) := by decide +kernel
theorem dX6_setMargin_17 : decode cX6_setMargin 17 = .ok (.ifCond .ne 5, 3) := by decide +kernel
theorem dX6_setMargin_20 : decode cX6_setMargin 20 = .ok (.iconst 0, 1) := by decide +kernel
theorem dX6_setMargin_21 : decode cX6_setMargin 21 = .ok (.ireturn, 1) := by decide +kernel
theorem dX6_setMargin_22 : decode cX6_setMargin 22 = .ok (.aload_n 0, 1) := by decide +kernel
theorem dX6_setMargin_23 : decode cX6_setMargin 23 = .ok (.getfield 17, 3) := by decide +kernel
theorem dX6_setMargin_26 : decode cX6_setMargin 26 = .ok (.iload_n 1, 1) := by decide +kernel
theorem dX6_setMargin_27 : decode cX6_setMargin 27 = .ok (.iaload, 1) := by decide +kernel
theorem dX6_setMargin_28 : decode cX6_setMargin 28 = .ok (.istore_n 3, 1) := by decide +kernel
theorem dX6_setMargin_29 : decode cX6_setMargin 29 = .ok (.aload_n 0, 1) := by decide +kernel
theorem dX6_setMargin_30 : decode cX6_setMargin 30 = .ok (.getfield 17, 3) := by decide +kernel
theorem dX6_setMargin_33 : decode cX6_setMargin 33 = .ok (.iload_n 1, 1) := by decide +kernel
theorem dX6_setMargin_34 : decode cX6_setMargin 34 = .ok (.iload_n 2, 1) := by decide +kernel
theorem dX6_setMargin_35 : decode cX6_setMargin 35 = .ok (.iastore, 1) := by decide +kernel
theorem dX6_setMargin_36 : decode cX6_setMargin 36 = .ok (.iload_n 3, 1) := by decide +kernel
theorem dX6_setMargin_37 : decode cX6_setMargin 37 = .ok (.ireturn, 1) := by decide +kernel
theorem dX6_flight_0 : decode cX6_flight 0 = .ok (.aload_n 0, 1) := by decide +kernel
theorem dX6_flight_1 : decode cX6_flight 1 = .ok (.iload_n 1, 1) := by decide +kernel
theorem dX6_flight_2 : decode cX6_flight 2 = .ok (.invokestatic 149, 3) := by decide +kernel
theorem dX6_flight_5 : decode cX6_flight 5 = .ok (.iconst 1, 1) := by decide +kernel
theorem dX6_flight_6 : decode cX6_flight 6 = .ok (.iconst 1, 1) := by decide +kernel
theorem dX6_flight_7 : decode cX6_flight 7 = .ok (.invokevirtual 141, 3) := by decide +kernel
theorem dX6_flight_10 : decode cX6_flight 10 = .ok (.ifCond .eq 12, 3) := by decide +kernel
theorem dX6_flight_13 : decode cX6_flight 13 = .ok (.aload_n 0, 1) := by decide +kernel
theorem dX6_flight_14 : decode cX6_flight 14 = .ok (.getfield 20, 3) := by decide +kernel
theorem dX6_flight_17 : decode cX6_flight 17 = .ok (.iload_n 1, 1) := by decide +kernel
theorem dX6_flight_18 : decode cX6_flight 18 = .ok (.iaload, 1) := by decide +kernel
theorem dX6_flight_19 : decode cX6_flight 19 = .ok (.goto 4, 3) := by decide +kernel
theorem dX6_flight_22 : decode cX6_flight 22 = .ok (.iconst 0, 1) := by decide +kernel
theorem dX6_flight_23 : decode cX6_flight 23 = .ok (.ireturn, 1) := by decide +kernel
theorem dX6_gate_0 : decode cX6_gate 0 = .ok (.aload_n 0, 1) := by decide +kernel
theorem dX6_gate_1 : decode cX6_gate 1 = .ok (.iload_n 1, 1) := by decide +kernel
theorem dX6_gate_2 : decode cX6_gate 2 = .ok (.invokestatic 149, 3) := by decide +kernel
theorem dX6_gate_5 : decode cX6_gate 5 = .ok (.iconst 1, 1) := by decide +kernel
theorem dX6_gate_6 : decode cX6_gate 6 = .ok (.iconst 1, 1) := by decide +kernel
theorem dX6_gate_7 : decode cX6_gate 7 = .ok (.invokevirtual 141, 3) := by decide +kernel
theorem dX6_gate_10 : decode cX6_gate 10 = .ok (.ifCond .eq 23, 3) := by decide +kernel
theorem dX6_gate_13 : decode cX6_gate 13 = .ok (.aload_n 0, 1) := by decide +kernel
theorem dX6_gate_14 : decode cX6_gate 14 = .ok (.getfield 79, 3) := by decide +kernel
theorem dX6_gate_17 : decode cX6_gate 17 = .ok (.ifCond .eq 16, 3) := by decide +kernel
theorem dX6_gate_20 : decode cX6_gate 20 = .ok (.aload_n 0, 1) := by decide +kernel
theorem dX6_gate_21 : decode cX6_gate 21 = .ok (.getfield 44, 3) := by decide +kernel
theorem dX6_gate_24 : decode cX6_gate 24 = .ok (.aload_n 0, 1) := by decide +kernel
theorem dX6_gate_25 : decode cX6_gate 25 = .ok (.getfield 99, 3) := by decide +kernel
theorem dX6_gate_28 : decode cX6_gate 28 = .ok (.iaload, 1) := by decide +kernel
theorem dX6_gate_29 : decode cX6_gate 29 = .ok (.iload_n 1, 1) := by decide +kernel
theorem dX6_gate_30 : decode cX6_gate 30 = .ok (.if_icmp .eq 5, 3) := by decide +kernel
theorem dX6_gate_33 : decode cX6_gate 33 = .ok (.iconst 0, 1) := by decide +kernel
theorem dX6_gate_34 : decode cX6_gate 34 = .ok (.ireturn, 1) := by decide +kernel
theorem dX6_gate_35 : decode cX6_gate 35 = .ok (.aload_n 0, 1) := by decide +kernel
theorem dX6_gate_36 : decode cX6_gate 36 = .ok (.getfield 79, 3) := by decide +kernel
theorem dX6_gate_39 : decode cX6_gate 39 = .ok (.iconst 2, 1) := by decide +kernel
theorem dX6_gate_40 : decode cX6_gate 40 = .ok (.if_icmp .ne 7, 3) := by decide +kernel
theorem dX6_gate_43 : decode cX6_gate 43 = .ok (.iconst 2, 1) := by decide +kernel
theorem dX6_gate_44 : decode cX6_gate 44 = .ok (.goto 24, 3) := by decide +kernel
theorem dX6_gate_47 : decode cX6_gate 47 = .ok (.aload_n 0, 1) := by decide +kernel
theorem dX6_gate_48 : decode cX6_gate 48 = .ok (.getfield 79, 3) := by decide +kernel
theorem dX6_gate_51 : decode cX6_gate 51 = .ok (.iconst 3, 1) := by decide +kernel
theorem dX6_gate_52 : decode cX6_gate 52 = .ok (.if_icmp .eq 11, 3) := by decide +kernel
theorem dX6_gate_55 : decode cX6_gate 55 = .ok (.aload_n 0, 1) := by decide +kernel
theorem dX6_gate_56 : decode cX6_gate 56 = .ok (.getfield 79, 3) := by decide +kernel
theorem dX6_gate_59 : decode cX6_gate 59 = .ok (.iconst 5, 1) := by decide +kernel
theorem dX6_gate_60 : decode cX6_gate 60 = .ok (.if_icmp .ne 7, 3) := by decide +kernel
theorem dX6_gate_63 : decode cX6_gate 63 = .ok (.iconst 1, 1) := by decide +kernel
theorem dX6_gate_64 : decode cX6_gate 64 = .ok (.goto 4, 3) := by decide +kernel
theorem dX6_gate_67 : decode cX6_gate 67 = .ok (.iconst 0, 1) := by decide +kernel
theorem dX6_gate_68 : decode cX6_gate 68 = .ok (.ireturn, 1) := by decide +kernel
theorem dX6_stock_0 : decode cX6_stock 0 = .ok (.iconst 0, 1) := by decide +kernel
theorem dX6_stock_1 : decode cX6_stock 1 = .ok (.istore_n 2, 1) := by decide +kernel
theorem dX6_stock_2 : decode cX6_stock 2 = .ok (.aload_n 0, 1) := by decide +kernel
theorem dX6_stock_3 : decode cX6_stock 3 = .ok (.iload_n 1, 1) := by decide +kernel
theorem dX6_stock_4 : decode cX6_stock 4 = .ok (.invokestatic 149, 3) := by decide +kernel
theorem dX6_stock_7 : decode cX6_stock 7 = .ok (.iconst 1, 1) := by decide +kernel
theorem dX6_stock_8 : decode cX6_stock 8 = .ok (.iconst 1, 1) := by decide +kernel
theorem dX6_stock_9 : decode cX6_stock 9 = .ok (.invokevirtual 141, 3) := by decide +kernel
theorem dX6_stock_12 : decode cX6_stock 12 = .ok (.istore_n 3, 1) := by decide +kernel
theorem dX6_stock_13 : decode cX6_stock 13 = .ok (.iconst 0, 1) := by decide +kernel
theorem dX6_stock_14 : decode cX6_stock 14 = .ok (.istore 4, 2) := by decide +kernel
theorem dX6_stock_16 : decode cX6_stock 16 = .ok (.iload 4, 2) := by decide +kernel
theorem dX6_stock_18 : decode cX6_stock 18 = .ok (.aload_n 0, 1) := by decide +kernel
theorem dX6_stock_19 : decode cX6_stock 19 = .ok (.getfield 60, 3) := by decide +kernel
theorem dX6_stock_22 : decode cX6_stock 22 = .ok (.if_icmp .ge 38, 3) := by decide +kernel
theorem dX6_stock_25 : decode cX6_stock 25 = .ok (.iload_n 3, 1) := by decide +kernel
theorem dX6_stock_26 : decode cX6_stock 26 = .ok (.ifCond .eq 34, 3) := by decide +kernel
theorem dX6_stock_29 : decode cX6_stock 29 = .ok (.iload_n 2, 1) := by decide +kernel
theorem dX6_stock_30 : decode cX6_stock 30 = .ok (.aload_n 0, 1) := by decide +kernel
theorem dX6_stock_31 : decode cX6_stock 31 = .ok (.getfield 29, 3) := by decide +kernel
theorem dX6_stock_34 : decode cX6_stock 34 = .ok (.iload 4, 2) := by decide +kernel
theorem dX6_stock_36 : decode cX6_stock 36 = .ok (.iaload, 1) := by decide +kernel
theorem dX6_stock_37 : decode cX6_stock 37 = .ok (.iload_n 1, 1) := by decide +kernel
theorem dX6_stock_38 : decode cX6_stock 38 = .ok (.if_icmp .ne 13, 3) := by decide +kernel
theorem dX6_stock_41 : decode cX6_stock 41 = .ok (.aload_n 0, 1) := by decide +kernel
theorem dX6_stock_42 : decode cX6_stock 42 = .ok (.getfield 35, 3) := by decide +kernel
theorem dX6_stock_45 : decode cX6_stock 45 = .ok (.iload 4, 2) := by decide +kernel
theorem dX6_stock_47 : decode cX6_stock 47 = .ok (.iaload, 1) := by decide +kernel
theorem dX6_stock_48 : decode cX6_stock 48 = .ok (.goto 4, 3) := by decide +kernel
theorem dX6_stock_51 : decode cX6_stock 51 = .ok (.iconst 0, 1) := by decide +kernel
theorem dX6_stock_52 : decode cX6_stock 52 = .ok (.iadd, 1) := by decide +kernel
theorem dX6_stock_53 : decode cX6_stock 53 = .ok (.istore_n 2, 1) := by decide +kernel
theorem dX6_stock_54 : decode cX6_stock 54 = .ok (.iinc 4 1, 3) := by decide +kernel
theorem dX6_stock_57 : decode cX6_stock 57 = .ok (.goto (-41), 3) := by decide +kernel
theorem dX6_stock_60 : decode cX6_stock 60 = .ok (.iload_n 2, 1) := by decide +kernel
theorem dX6_stock_61 : decode cX6_stock 61 = .ok (.ireturn, 1) := by decide +kernel
theorem dX6_register_0 : decode cX6_register 0 = .ok (.aload_n 0, 1) := by decide +kernel
theorem dX6_register_1 : decode cX6_register 1 = .ok (.iload_n 1, 1) := by decide +kernel
theorem dX6_register_2 : decode cX6_register 2 = .ok (.invokestatic 149, 3) := by decide +kernel
theorem dX6_register_5 : decode cX6_register 5 = .ok (.iconst 1, 1) := by decide +kernel
theorem dX6_register_6 : decode cX6_register 6 = .ok (.iconst 1, 1) := by decide +kernel
theorem dX6_register_7 : decode cX6_register 7 = .ok (.invokevirtual 141, 3) := by decide +kernel
theorem dX6_register_10 : decode cX6_register 10 = .ok (.ifCond .eq 12, 3) := by decide +kernel
theorem dX6_register_13 : decode cX6_register 13 = .ok (.aload_n 0, 1) := by decide +kernel
theorem dX6_register_14 : decode cX6_register 14 = .ok (.getfield 23, 3) := by decide +kernel
theorem dX6_register_17 : decode cX6_register 17 = .ok (.iload_n 1, 1) := by decide +kernel
theorem dX6_register_18 : decode cX6_register 18 = .ok (.iaload, 1) := by decide +kernel
theorem dX6_register_19 : decode cX6_register 19 = .ok (.goto 4, 3) := by decide +kernel
theorem dX6_register_22 : decode cX6_register 22 = .ok (.iconst 0, 1) := by decide +kernel
theorem dX6_register_23 : decode cX6_register 23 = .ok (.ireturn, 1) := by decide +kernel
theorem dX6_registerByLots_0 : decode cX6_registerByLots 0 = .ok (.iconst 0, 1) := by decide +kernel
theorem dX6_registerByLots_1 : decode cX6_registerByLots 1 = .ok (.istore_n 2, 1) := by decide +kernel
theorem dX6_registerByLots_2 : decode cX6_registerByLots 2 = .ok (.aload_n 0, 1) := by decide +kernel
theorem dX6_registerByLots_3 : decode cX6_registerByLots 3 = .ok (.iload_n 1, 1) := by decide +kernel
theorem dX6_registerByLots_4 : decode cX6_registerByLots 4 = .ok (.invokestatic 149, 3) := by decide +kernel
theorem dX6_registerByLots_7 : decode cX6_registerByLots 7 = .ok (.iconst 1, 1) := by decide +kernel
theorem dX6_registerByLots_8 : decode cX6_registerByLots 8 = .ok (.iconst 1, 1) := by decide +kernel
theorem dX6_registerByLots_9 : decode cX6_registerByLots 9 = .ok (.invokevirtual 141, 3) := by decide +kernel
theorem dX6_registerByLots_12 : decode cX6_registerByLots 12 = .ok (.istore_n 3, 1) := by decide +kernel
theorem dX6_registerByLots_13 : decode cX6_registerByLots 13 = .ok (.iconst 0, 1) := by decide +kernel
theorem dX6_registerByLots_14 : decode cX6_registerByLots 14 = .ok (.istore 4, 2) := by decide +kernel
theorem dX6_registerByLots_16 : decode cX6_registerByLots 16 = .ok (.iload 4, 2) := by decide +kernel
theorem dX6_registerByLots_18 : decode cX6_registerByLots 18 = .ok (.aload_n 0, 1) := by decide +kernel
theorem dX6_registerByLots_19 : decode cX6_registerByLots 19 = .ok (.getfield 60, 3) := by decide +kernel
theorem dX6_registerByLots_22 : decode cX6_registerByLots 22 = .ok (.if_icmp .ge 46, 3) := by decide +kernel
theorem dX6_registerByLots_25 : decode cX6_registerByLots 25 = .ok (.iload_n 3, 1) := by decide +kernel
theorem dX6_registerByLots_26 : decode cX6_registerByLots 26 = .ok (.ifCond .eq 42, 3) := by decide +kernel
theorem dX6_registerByLots_29 : decode cX6_registerByLots 29 = .ok (.iload_n 2, 1) := by decide +kernel
theorem dX6_registerByLots_30 : decode cX6_registerByLots 30 = .ok (.aload_n 0, 1) := by decide +kernel
theorem dX6_registerByLots_31 : decode cX6_registerByLots 31 = .ok (.getfield 29, 3) := by decide +kernel
theorem dX6_registerByLots_34 : decode cX6_registerByLots 34 = .ok (.iload 4, 2) := by decide +kernel
theorem dX6_registerByLots_36 : decode cX6_registerByLots 36 = .ok (.iaload, 1) := by decide +kernel
theorem dX6_registerByLots_37 : decode cX6_registerByLots 37 = .ok (.iload_n 1, 1) := by decide +kernel
theorem dX6_registerByLots_38 : decode cX6_registerByLots 38 = .ok (.if_icmp .ne 21, 3) := by decide +kernel
theorem dX6_registerByLots_41 : decode cX6_registerByLots 41 = .ok (.aload_n 0, 1) := by decide +kernel
theorem dX6_registerByLots_42 : decode cX6_registerByLots 42 = .ok (.getfield 32, 3) := by decide +kernel
theorem dX6_registerByLots_45 : decode cX6_registerByLots 45 = .ok (.iload 4, 2) := by decide +kernel
theorem dX6_registerByLots_47 : decode cX6_registerByLots 47 = .ok (.iaload, 1) := by decide +kernel
theorem dX6_registerByLots_48 : decode cX6_registerByLots 48 = .ok (.aload_n 0, 1) := by decide +kernel
theorem dX6_registerByLots_49 : decode cX6_registerByLots 49 = .ok (.getfield 35, 3) := by decide +kernel
theorem dX6_registerByLots_52 : decode cX6_registerByLots 52 = .ok (.iload 4, 2) := by decide +kernel
theorem dX6_registerByLots_54 : decode cX6_registerByLots 54 = .ok (.iaload, 1) := by decide +kernel
theorem dX6_registerByLots_55 : decode cX6_registerByLots 55 = .ok (.isub, 1) := by decide +kernel
theorem dX6_registerByLots_56 : decode cX6_registerByLots 56 = .ok (.goto 4, 3) := by decide +kernel
theorem dX6_registerByLots_59 : decode cX6_registerByLots 59 = .ok (.iconst 0, 1) := by decide +kernel
theorem dX6_registerByLots_60 : decode cX6_registerByLots 60 = .ok (.iadd, 1) := by decide +kernel
theorem dX6_registerByLots_61 : decode cX6_registerByLots 61 = .ok (.istore_n 2, 1) := by decide +kernel
theorem dX6_registerByLots_62 : decode cX6_registerByLots 62 = .ok (.iinc 4 1, 3) := by decide +kernel
theorem dX6_registerByLots_65 : decode cX6_registerByLots 65 = .ok (.goto (-49), 3) := by decide +kernel
theorem dX6_registerByLots_68 : decode cX6_registerByLots 68 = .ok (.iload_n 3, 1) := by decide +kernel
theorem dX6_registerByLots_69 : decode cX6_registerByLots 69 = .ok (.ifCond .eq 14, 3) := by decide +kernel
theorem dX6_registerByLots_72 : decode cX6_registerByLots 72 = .ok (.iload_n 2, 1) := by decide +kernel
theorem dX6_registerByLots_73 : decode cX6_registerByLots 73 = .ok (.aload_n 0, 1) := by decide +kernel
theorem dX6_registerByLots_74 : decode cX6_registerByLots 74 = .ok (.getfield 26, 3) := by decide +kernel
theorem dX6_registerByLots_77 : decode cX6_registerByLots 77 = .ok (.iload_n 1, 1) := by decide +kernel
theorem dX6_registerByLots_78 : decode cX6_registerByLots 78 = .ok (.iaload, 1) := by decide +kernel
theorem dX6_registerByLots_79 : decode cX6_registerByLots 79 = .ok (.iadd, 1) := by decide +kernel
theorem dX6_registerByLots_80 : decode cX6_registerByLots 80 = .ok (.goto 4, 3) := by decide +kernel
theorem dX6_registerByLots_83 : decode cX6_registerByLots 83 = .ok (.iconst 0, 1) := by decide +kernel
theorem dX6_registerByLots_84 : decode cX6_registerByLots 84 = .ok (.ireturn, 1) := by decide +kernel
theorem dX6_leftOf_0 : decode cX6_leftOf 0 = .ok (.aload_n 0, 1) := by decide +kernel
theorem dX6_leftOf_1 : decode cX6_leftOf 1 = .ok (.aload_n 0, 1) := by decide +kernel
theorem dX6_leftOf_2 : decode cX6_leftOf 2 = .ok (.iload_n 1, 1) := by decide +kernel
theorem dX6_leftOf_3 : decode cX6_leftOf 3 = .ok (.invokevirtual 153, 3) := by decide +kernel
theorem dX6_leftOf_6 : decode cX6_leftOf 6 = .ok (.iconst 1, 1) := by decide +kernel
theorem dX6_leftOf_7 : decode cX6_leftOf 7 = .ok (.iconst 1, 1) := by decide +kernel
theorem dX6_leftOf_8 : decode cX6_leftOf 8 = .ok (.invokevirtual 141, 3) := by decide +kernel
theorem dX6_leftOf_11 : decode cX6_leftOf 11 = .ok (.ifCond .eq 12, 3) := by decide +kernel
theorem dX6_leftOf_14 : decode cX6_leftOf 14 = .ok (.aload_n 0, 1) := by decide +kernel
theorem dX6_leftOf_15 : decode cX6_leftOf 15 = .ok (.getfield 35, 3) := by decide +kernel
theorem dX6_leftOf_18 : decode cX6_leftOf 18 = .ok (.iload_n 1, 1) := by decide +kernel
theorem dX6_leftOf_19 : decode cX6_leftOf 19 = .ok (.iaload, 1) := by decide +kernel
theorem dX6_leftOf_20 : decode cX6_leftOf 20 = .ok (.goto 4, 3) := by decide +kernel
theorem dX6_leftOf_23 : decode cX6_leftOf 23 = .ok (.iconst 0, 1) := by decide +kernel
theorem dX6_leftOf_24 : decode cX6_leftOf 24 = .ok (.ireturn, 1) := by decide +kernel
theorem dX6_firstBatch_0 : decode cX6_firstBatch 0 = .ok (.aload_n 0, 1) := by decide +kernel
theorem dX6_firstBatch_1 : decode cX6_firstBatch 1 = .ok (.aload_n 0, 1) := by decide +kernel
theorem dX6_firstBatch_2 : decode cX6_firstBatch 2 = .ok (.iload_n 1, 1) := by decide +kernel
theorem dX6_firstBatch_3 : decode cX6_firstBatch 3 = .ok (.invokevirtual 153, 3) := by decide +kernel
theorem dX6_firstBatch_6 : decode cX6_firstBatch 6 = .ok (.iconst 1, 1) := by decide +kernel
theorem dX6_firstBatch_7 : decode cX6_firstBatch 7 = .ok (.iconst 1, 1) := by decide +kernel
theorem dX6_firstBatch_8 : decode cX6_firstBatch 8 = .ok (.invokevirtual 141, 3) := by decide +kernel
theorem dX6_firstBatch_11 : decode cX6_firstBatch 11 = .ok (.ifCond .eq 12, 3) := by decide +kernel
theorem dX6_firstBatch_14 : decode cX6_firstBatch 14 = .ok (.aload_n 0, 1) := by decide +kernel
theorem dX6_firstBatch_15 : decode cX6_firstBatch 15 = .ok (.getfield 38, 3) := by decide +kernel
theorem dX6_firstBatch_18 : decode cX6_firstBatch 18 = .ok (.iload_n 1, 1) := by decide +kernel
theorem dX6_firstBatch_19 : decode cX6_firstBatch 19 = .ok (.iaload, 1) := by decide +kernel
theorem dX6_firstBatch_20 : decode cX6_firstBatch 20 = .ok (.goto 4, 3) := by decide +kernel
theorem dX6_firstBatch_23 : decode cX6_firstBatch 23 = .ok (.iconst 0, 1) := by decide +kernel
theorem dX6_firstBatch_24 : decode cX6_firstBatch 24 = .ok (.ireturn, 1) := by decide +kernel
theorem dX6_used_0 : decode cX6_used 0 = .ok (.aload_n 0, 1) := by decide +kernel
theorem dX6_used_1 : decode cX6_used 1 = .ok (.aload_n 0, 1) := by decide +kernel
theorem dX6_used_2 : decode cX6_used 2 = .ok (.iload_n 1, 1) := by decide +kernel
theorem dX6_used_3 : decode cX6_used 3 = .ok (.invokevirtual 153, 3) := by decide +kernel
theorem dX6_used_6 : decode cX6_used 6 = .ok (.ifCond .eq 21, 3) := by decide +kernel
theorem dX6_used_9 : decode cX6_used 9 = .ok (.iload_n 2, 1) := by decide +kernel
theorem dX6_used_10 : decode cX6_used 10 = .ok (.iconst 0, 1) := by decide +kernel
theorem dX6_used_11 : decode cX6_used 11 = .ok (.aload_n 0, 1) := by decide +kernel
theorem dX6_used_12 : decode cX6_used 12 = .ok (.getfield 156, 3) := by decide +kernel
theorem dX6_used_15 : decode cX6_used 15 = .ok (.iconst 1, 1) := by decide +kernel
theorem dX6_used_16 : decode cX6_used 16 = .ok (.isub, 1) := by decide +kernel
theorem dX6_used_17 : decode cX6_used 17 = .ok (.invokestatic 56, 3) := by decide +kernel
theorem dX6_used_20 : decode cX6_used 20 = .ok (.ifCond .eq 7, 3) := by decide +kernel
theorem dX6_used_23 : decode cX6_used 23 = .ok (.iconst 1, 1) := by decide +kernel
theorem dX6_used_24 : decode cX6_used 24 = .ok (.goto 4, 3) := by decide +kernel
theorem dX6_used_27 : decode cX6_used 27 = .ok (.iconst 0, 1) := by decide +kernel
theorem dX6_used_28 : decode cX6_used 28 = .ok (.iconst 1, 1) := by decide +kernel
theorem dX6_used_29 : decode cX6_used 29 = .ok (.iconst 1, 1) := by decide +kernel
theorem dX6_used_30 : decode cX6_used 30 = .ok (.invokevirtual 141, 3) := by decide +kernel
theorem dX6_used_33 : decode cX6_used 33 = .ok (.ifCond .eq 17, 3) := by decide +kernel
theorem dX6_used_36 : decode cX6_used 36 = .ok (.aload_n 0, 1) := by decide +kernel
theorem dX6_used_37 : decode cX6_used 37 = .ok (.getfield 41, 3) := by decide +kernel
theorem dX6_used_40 : decode cX6_used 40 = .ok (.bipush 20, 2) := by decide +kernel
theorem dX6_used_42 : decode cX6_used 42 = .ok (.iload_n 1, 1) := by decide +kernel
theorem dX6_used_43 : decode cX6_used 43 = .ok (.imul, 1) := by decide +kernel
theorem dX6_used_44 : decode cX6_used 44 = .ok (.iload_n 2, 1) := by decide +kernel
theorem dX6_used_45 : decode cX6_used 45 = .ok (.iadd, 1) := by decide +kernel
theorem dX6_used_46 : decode cX6_used 46 = .ok (.iaload, 1) := by decide +kernel
theorem dX6_used_47 : decode cX6_used 47 = .ok (.goto 4, 3) := by decide +kernel
theorem dX6_used_50 : decode cX6_used 50 = .ok (.iconst 0, 1) := by decide +kernel
theorem dX6_used_51 : decode cX6_used 51 = .ok (.ireturn, 1) := by decide +kernel
theorem dX6_books_0 : decode cX6_books 0 = .ok (.aload_n 0, 1) := by decide +kernel
theorem dX6_books_1 : decode cX6_books 1 = .ok (.invokevirtual 102, 3) := by decide +kernel
theorem dX6_books_4 : decode cX6_books 4 = .ok (.ifCond .ge 7, 3) := by decide +kernel
theorem dX6_books_7 : decode cX6_books 7 = .ok (.iconst 0, 1) := by decide +kernel
theorem dX6_books_8 : decode cX6_books 8 = .ok (.goto 7, 3) := by decide +kernel
theorem dX6_books_11 : decode cX6_books 11 = .ok (.aload_n 0, 1) := by decide +kernel
theorem dX6_books_12 : decode cX6_books 12 = .ok (.invokevirtual 102, 3) := by decide +kernel
theorem dX6_books_15 : decode cX6_books 15 = .ok (.istore_n 1, 1) := by decide +kernel
theorem dX6_books_16 : decode cX6_books 16 = .ok (.aload_n 0, 1) := by decide +kernel
theorem dX6_books_17 : decode cX6_books 17 = .ok (.getfield 44, 3) := by decide +kernel
theorem dX6_books_20 : decode cX6_books 20 = .ok (.aload_n 0, 1) := by decide +kernel
theorem dX6_books_21 : decode cX6_books 21 = .ok (.getfield 99, 3) := by decide +kernel
theorem dX6_books_24 : decode cX6_books 24 = .ok (.iaload, 1) := by decide +kernel
theorem dX6_books_25 : decode cX6_books 25 = .ok (.istore_n 2, 1) := by decide +kernel
theorem dX6_books_26 : decode cX6_books 26 = .ok (.iload_n 1, 1) := by decide +kernel
theorem dX6_books_27 : decode cX6_books 27 = .ok (.istore_n 3, 1) := by decide +kernel
theorem dX6_books_28 : decode cX6_books 28 = .ok (.aload_n 0, 1) := by decide +kernel
theorem dX6_books_29 : decode cX6_books 29 = .ok (.getfield 23, 3) := by decide +kernel
theorem dX6_books_32 : decode cX6_books 32 = .ok (.iload_n 2, 1) := by decide +kernel
theorem dX6_books_33 : decode cX6_books 33 = .ok (.dup2, 1) := by decide +kernel
theorem dX6_books_34 : decode cX6_books 34 = .ok (.iaload, 1) := by decide +kernel
theorem dX6_books_35 : decode cX6_books 35 = .ok (.iload_n 1, 1) := by decide +kernel
theorem dX6_books_36 : decode cX6_books 36 = .ok (.iadd, 1) := by decide +kernel
theorem dX6_books_37 : decode cX6_books 37 = .ok (.iastore, 1) := by decide +kernel
theorem dX6_books_38 : decode cX6_books 38 = .ok (.iconst 0, 1) := by decide +kernel
theorem dX6_books_39 : decode cX6_books 39 = .ok (.istore 4, 2) := by decide +kernel
theorem dX6_books_41 : decode cX6_books 41 = .ok (.iload 4, 2) := by decide +kernel
theorem dX6_books_43 : decode cX6_books 43 = .ok (.aload_n 0, 1) := by decide +kernel
theorem dX6_books_44 : decode cX6_books 44 = .ok (.getfield 60, 3) := by decide +kernel
theorem dX6_books_47 : decode cX6_books 47 = .ok (.if_icmp .ge 126, 3) := by decide +kernel
theorem dX6_books_50 : decode cX6_books 50 = .ok (.aload_n 0, 1) := by decide +kernel
theorem dX6_books_51 : decode cX6_books 51 = .ok (.getfield 29, 3) := by decide +kernel
theorem dX6_books_54 : decode cX6_books 54 = .ok (.iload 4, 2) := by decide +kernel
theorem dX6_books_56 : decode cX6_books 56 = .ok (.iaload, 1) := by decide +kernel
theorem dX6_books_57 : decode cX6_books 57 = .ok (.iload_n 2, 1) := by decide +kernel
theorem dX6_books_58 : decode cX6_books 58 = .ok (.if_icmp .eq 7, 3) := by decide +kernel
theorem dX6_books_61 : decode cX6_books 61 = .ok (.iconst 0, 1) := by decide +kernel
theorem dX6_books_62 : decode cX6_books 62 = .ok (.goto 25, 3) := by decide +kernel
theorem dX6_books_65 : decode cX6_books 65 = .ok (.aload_n 0, 1) := by decide +kernel
theorem dX6_books_66 : decode cX6_books 66 = .ok (.getfield 35, 3) := by decide +kernel
theorem dX6_books_69 : decode cX6_books 69 = .ok (.iload 4, 2) := by decide +kernel
theorem dX6_books_71 : decode cX6_books 71 = .ok (.iaload, 1) := by decide +kernel
theorem dX6_books_72 : decode cX6_books 72 = .ok (.iload_n 3, 1) := by decide +kernel
theorem dX6_books_73 : decode cX6_books 73 = .ok (.if_icmp .ge 13, 3) := by decide +kernel
theorem dX6_books_76 : decode cX6_books 76 = .ok (.aload_n 0, 1) := by decide +kernel
theorem dX6_books_77 : decode cX6_books 77 = .ok (.getfield 35, 3) := by decide +kernel
theorem dX6_books_80 : decode cX6_books 80 = .ok (.iload 4, 2) := by decide +kernel
theorem dX6_books_82 : decode cX6_books 82 = .ok (.iaload, 1) := by decide +kernel
theorem dX6_books_83 : decode cX6_books 83 = .ok (.goto 4, 3) := by decide +kernel
theorem dX6_books_86 : decode cX6_books 86 = .ok (.iload_n 3, 1) := by decide +kernel
theorem dX6_books_87 : decode cX6_books 87 = .ok (.istore 5, 2) := by decide +kernel
theorem dX6_books_89 : decode cX6_books 89 = .ok (.aload_n 0, 1) := by decide +kernel
theorem dX6_books_90 : decode cX6_books 90 = .ok (.getfield 35, 3) := by decide +kernel
theorem dX6_books_93 : decode cX6_books 93 = .ok (.iload 4, 2) := by decide +kernel
theorem dX6_books_95 : decode cX6_books 95 = .ok (.dup2, 1) := by decide +kernel
theorem dX6_books_96 : decode cX6_books 96 = .ok (.iaload, 1) := by decide +kernel
theorem dX6_books_97 : decode cX6_books 97 = .ok (.iload 5, 2) := by decide +kernel
theorem dX6_books_99 : decode cX6_books 99 = .ok (.isub, 1) := by decide +kernel
theorem dX6_books_100 : decode cX6_books 100 = .ok (.iastore, 1) := by decide +kernel
theorem dX6_books_101 : decode cX6_books 101 = .ok (.iload_n 3, 1) := by decide +kernel
theorem dX6_books_102 : decode cX6_books 102 = .ok (.iload 5, 2) := by decide +kernel
theorem dX6_books_104 : decode cX6_books 104 = .ok (.isub, 1) := by decide +kernel
theorem dX6_books_105 : decode cX6_books 105 = .ok (.istore_n 3, 1) := by decide +kernel
theorem dX6_books_106 : decode cX6_books 106 = .ok (.aload_n 0, 1) := by decide +kernel
theorem dX6_books_107 : decode cX6_books 107 = .ok (.getfield 41, 3) := by decide +kernel
theorem dX6_books_110 : decode cX6_books 110 = .ok (.bipush 20, 2) := by decide +kernel
theorem dX6_books_112 : decode cX6_books 112 = .ok (.iload 4, 2) := by decide +kernel
theorem dX6_books_114 : decode cX6_books 114 = .ok (.imul, 1) := by decide +kernel
theorem dX6_books_115 : decode cX6_books 115 = .ok (.aload_n 0, 1) := by decide +kernel
theorem dX6_books_116 : decode cX6_books 116 = .ok (.getfield 156, 3) := by decide +kernel
theorem dX6_books_119 : decode cX6_books 119 = .ok (.iadd, 1) := by decide +kernel
theorem dX6_books_120 : decode cX6_books 120 = .ok (.iconst 1, 1) := by decide +kernel
theorem dX6_books_121 : decode cX6_books 121 = .ok (.isub, 1) := by decide +kernel
theorem dX6_books_122 : decode cX6_books 122 = .ok (.dup2, 1) := by decide +kernel
theorem dX6_books_123 : decode cX6_books 123 = .ok (.iaload, 1) := by decide +kernel
theorem dX6_books_124 : decode cX6_books 124 = .ok (.iload 5, 2) := by decide +kernel
theorem dX6_books_126 : decode cX6_books 126 = .ok (.iadd, 1) := by decide +kernel
theorem dX6_books_127 : decode cX6_books 127 = .ok (.iastore, 1) := by decide +kernel
theorem dX6_books_128 : decode cX6_books 128 = .ok (.aload_n 0, 1) := by decide +kernel
theorem dX6_books_129 : decode cX6_books 129 = .ok (.getfield 38, 3) := by decide +kernel
theorem dX6_books_132 : decode cX6_books 132 = .ok (.iload 4, 2) := by decide +kernel
theorem dX6_books_134 : decode cX6_books 134 = .ok (.iload 5, 2) := by decide +kernel
theorem dX6_books_136 : decode cX6_books 136 = .ok (.ifCond .le 23, 3) := by decide +kernel
theorem dX6_books_139 : decode cX6_books 139 = .ok (.aload_n 0, 1) := by decide +kernel
theorem dX6_books_140 : decode cX6_books 140 = .ok (.getfield 38, 3) := by decide +kernel
theorem dX6_books_143 : decode cX6_books 143 = .ok (.iload 4, 2) := by decide +kernel
theorem dX6_books_145 : decode cX6_books 145 = .ok (.iaload, 1) := by decide +kernel
theorem dX6_books_146 : decode cX6_books 146 = .ok (.iconst (-1), 1) := by decide +kernel
theorem dX6_books_147 : decode cX6_books 147 = .ok (.if_icmp .ne 12, 3) := by decide +kernel
theorem dX6_books_150 : decode cX6_books 150 = .ok (.aload_n 0, 1) := by decide +kernel
theorem dX6_books_151 : decode cX6_books 151 = .ok (.getfield 156, 3) := by decide +kernel
theorem dX6_books_154 : decode cX6_books 154 = .ok (.iconst 1, 1) := by decide +kernel
theorem dX6_books_155 : decode cX6_books 155 = .ok (.isub, 1) := by decide +kernel
theorem dX6_books_156 : decode cX6_books 156 = .ok (.goto 10, 3) := by decide +kernel
theorem dX6_books_159 : decode cX6_books 159 = .ok (.aload_n 0, 1) := by decide +kernel
theorem dX6_books_160 : decode cX6_books 160 = .ok (.getfield 38, 3) := by decide +kernel
theorem dX6_books_163 : decode cX6_books 163 = .ok (.iload 4, 2) := by decide +kernel
theorem dX6_books_165 : decode cX6_books 165 = .ok (.iaload, 1) := by decide +kernel
theorem dX6_books_166 : decode cX6_books 166 = .ok (.iastore, 1) := by decide +kernel
theorem dX6_books_167 : decode cX6_books 167 = .ok (.iinc 4 1, 3) := by decide +kernel
theorem dX6_books_170 : decode cX6_books 170 = .ok (.goto (-129), 3) := by decide +kernel
theorem dX6_books_173 : decode cX6_books 173 = .ok (.aload_n 0, 1) := by decide +kernel
theorem dX6_books_174 : decode cX6_books 174 = .ok (.getfield 26, 3) := by decide +kernel
theorem dX6_books_177 : decode cX6_books 177 = .ok (.iload_n 2, 1) := by decide +kernel
theorem dX6_books_178 : decode cX6_books 178 = .ok (.dup2, 1) := by decide +kernel
theorem dX6_books_179 : decode cX6_books 179 = .ok (.iaload, 1) := by decide +kernel
theorem dX6_books_180 : decode cX6_books 180 = .ok (.iload_n 3, 1) := by decide +kernel
theorem dX6_books_181 : decode cX6_books 181 = .ok (.iadd, 1) := by decide +kernel
theorem dX6_books_182 : decode cX6_books 182 = .ok (.iastore, 1) := by decide +kernel
theorem dX6_books_183 : decode cX6_books 183 = .ok (.iload_n 1, 1) := by decide +kernel
theorem dX6_books_184 : decode cX6_books 184 = .ok (.ireturn, 1) := by decide +kernel
theorem dX6_addStep_0 : decode cX6_addStep 0 = .ok (.aload_n 0, 1) := by decide +kernel
theorem dX6_addStep_1 : decode cX6_addStep 1 = .ok (.iload_n 1, 1) := by decide +kernel
theorem dX6_addStep_2 : decode cX6_addStep 2 = .ok (.invokestatic 149, 3) := by decide +kernel
theorem dX6_addStep_5 : decode cX6_addStep 5 = .ok (.iload_n 2, 1) := by decide +kernel
theorem dX6_addStep_6 : decode cX6_addStep 6 = .ok (.iconst 1, 1) := by decide +kernel
theorem dX6_addStep_7 : decode cX6_addStep 7 = .ok (.sipush 10000, 3) := by decide +kernel
theorem dX6_addStep_10 : decode cX6_addStep 10 = .ok (.invokestatic 56, 3) := by decide +kernel
theorem dX6_addStep_13 : decode cX6_addStep 13 = .ok (.ifCond .eq 18, 3) := by decide +kernel
theorem dX6_addStep_16 : decode cX6_addStep 16 = .ok (.iload_n 3, 1) := by decide +kernel
theorem dX6_addStep_17 : decode cX6_addStep 17 = .ok (.iconst 0, 1) := by decide +kernel
theorem dX6_addStep_18 : decode cX6_addStep 18 = .ok (.sipush 1000, 3) := by decide +kernel
theorem dX6_addStep_21 : decode cX6_addStep 21 = .ok (.invokestatic 56, 3) := by decide +kernel
theorem dX6_addStep_24 : decode cX6_addStep 24 = .ok (.ifCond .eq 7, 3) := by decide +kernel
theorem dX6_addStep_27 : decode cX6_addStep 27 = .ok (.iconst 1, 1) := by decide +kernel
theorem dX6_addStep_28 : decode cX6_addStep 28 = .ok (.goto 4, 3) := by decide +kernel
theorem dX6_addStep_31 : decode cX6_addStep 31 = .ok (.iconst 0, 1) := by decide +kernel
theorem dX6_addStep_32 : decode cX6_addStep 32 = .ok (.aload_n 0, 1) := by decide +kernel
theorem dX6_addStep_33 : decode cX6_addStep 33 = .ok (.getfield 79, 3) := by decide +kernel
theorem dX6_addStep_36 : decode cX6_addStep 36 = .ok (.ifCond .ne 16, 3) := by decide +kernel
theorem dX6_addStep_39 : decode cX6_addStep 39 = .ok (.aload_n 0, 1) := by decide +kernel
theorem dX6_addStep_40 : decode cX6_addStep 40 = .ok (.getfield 159, 3) := by decide +kernel
theorem dX6_addStep_43 : decode cX6_addStep 43 = .ok (.bipush 6, 2) := by decide +kernel
theorem dX6_addStep_45 : decode cX6_addStep 45 = .ok (.if_icmp .ge 7, 3) := by decide +kernel
theorem dX6_addStep_48 : decode cX6_addStep 48 = .ok (.iconst 1, 1) := by decide +kernel
theorem dX6_addStep_49 : decode cX6_addStep 49 = .ok (.goto 4, 3) := by decide +kernel
theorem dX6_addStep_52 : decode cX6_addStep 52 = .ok (.iconst 0, 1) := by decide +kernel
theorem dX6_addStep_53 : decode cX6_addStep 53 = .ok (.invokevirtual 141, 3) := by decide +kernel
theorem dX6_addStep_56 : decode cX6_addStep 56 = .ok (.ifCond .ne 5, 3) := by decide +kernel
theorem dX6_addStep_59 : decode cX6_addStep 59 = .ok (.iconst 0, 1) := by decide +kernel
theorem dX6_addStep_60 : decode cX6_addStep 60 = .ok (.ireturn, 1) := by decide +kernel
theorem dX6_addStep_61 : decode cX6_addStep 61 = .ok (.aload_n 0, 1) := by decide +kernel
theorem dX6_addStep_62 : decode cX6_addStep 62 = .ok (.getfield 44, 3) := by decide +kernel
theorem dX6_addStep_65 : decode cX6_addStep 65 = .ok (.aload_n 0, 1) := by decide +kernel
theorem dX6_addStep_66 : decode cX6_addStep 66 = .ok (.getfield 159, 3) := by decide +kernel
theorem dX6_addStep_69 : decode cX6_addStep 69 = .ok (.iload_n 1, 1) := by decide +kernel
theorem dX6_addStep_70 : decode cX6_addStep 70 = .ok (.iastore, 1) := by decide +kernel
theorem dX6_addStep_71 : decode cX6_addStep 71 = .ok (.aload_n 0, 1) := by decide +kernel
theorem dX6_addStep_72 : decode cX6_addStep 72 = .ok (.getfield 47, 3) := by decide +kernel
theorem dX6_addStep_75 : decode cX6_addStep 75 = .ok (.aload_n 0, 1) := by decide +kernel
theorem dX6_addStep_76 : decode cX6_addStep 76 = .ok (.getfield 159, 3) := by decide +kernel
theorem dX6_addStep_79 : decode cX6_addStep 79 = .ok (.iload_n 2, 1) := by decide +kernel
theorem dX6_addStep_80 : decode cX6_addStep 80 = .ok (.iastore, 1) := by decide +kernel
theorem dX6_addStep_81 : decode cX6_addStep 81 = .ok (.aload_n 0, 1) := by decide +kernel
theorem dX6_addStep_82 : decode cX6_addStep 82 = .ok (.getfield 50, 3) := by decide +kernel
theorem dX6_addStep_85 : decode cX6_addStep 85 = .ok (.aload_n 0, 1) := by decide +kernel
theorem dX6_addStep_86 : decode cX6_addStep 86 = .ok (.getfield 159, 3) := by decide +kernel
theorem dX6_addStep_89 : decode cX6_addStep 89 = .ok (.iload_n 3, 1) := by decide +kernel
theorem dX6_addStep_90 : decode cX6_addStep 90 = .ok (.iastore, 1) := by decide +kernel
theorem dX6_addStep_91 : decode cX6_addStep 91 = .ok (.aload_n 0, 1) := by decide +kernel
theorem dX6_addStep_92 : decode cX6_addStep 92 = .ok (.dup, 1) := by decide +kernel
theorem dX6_addStep_93 : decode cX6_addStep 93 = .ok (.getfield 159, 3) := by decide +kernel
theorem dX6_addStep_96 : decode cX6_addStep 96 = .ok (.iconst 1, 1) := by decide +kernel
theorem dX6_addStep_97 : decode cX6_addStep 97 = .ok (.iadd, 1) := by decide +kernel
theorem dX6_addStep_98 : decode cX6_addStep 98 = .ok (.putfield 159, 3) := by decide +kernel
theorem dX6_addStep_101 : decode cX6_addStep 101 = .ok (.aload_n 0, 1) := by decide +kernel
theorem dX6_addStep_102 : decode cX6_addStep 102 = .ok (.getfield 159, 3) := by decide +kernel
theorem dX6_addStep_105 : decode cX6_addStep 105 = .ok (.ireturn, 1) := by decide +kernel
theorem dX6_clearRecipe_0 : decode cX6_clearRecipe 0 = .ok (.aload_n 0, 1) := by decide +kernel
theorem dX6_clearRecipe_1 : decode cX6_clearRecipe 1 = .ok (.aload_n 0, 1) := by decide +kernel
theorem dX6_clearRecipe_2 : decode cX6_clearRecipe 2 = .ok (.getfield 79, 3) := by decide +kernel
theorem dX6_clearRecipe_5 : decode cX6_clearRecipe 5 = .ok (.ifCond .ne 7, 3) := by decide +kernel
theorem dX6_clearRecipe_8 : decode cX6_clearRecipe 8 = .ok (.iconst 1, 1) := by decide +kernel
theorem dX6_clearRecipe_9 : decode cX6_clearRecipe 9 = .ok (.goto 4, 3) := by decide +kernel
theorem dX6_clearRecipe_12 : decode cX6_clearRecipe 12 = .ok (.iconst 0, 1) := by decide +kernel
theorem dX6_clearRecipe_13 : decode cX6_clearRecipe 13 = .ok (.iconst 1, 1) := by decide +kernel
theorem dX6_clearRecipe_14 : decode cX6_clearRecipe 14 = .ok (.iconst 1, 1) := by decide +kernel
theorem dX6_clearRecipe_15 : decode cX6_clearRecipe 15 = .ok (.invokevirtual 141, 3) := by decide +kernel
theorem dX6_clearRecipe_18 : decode cX6_clearRecipe 18 = .ok (.ifCond .ne 5, 3) := by decide +kernel
theorem dX6_clearRecipe_21 : decode cX6_clearRecipe 21 = .ok (.iconst 0, 1) := by decide +kernel
theorem dX6_clearRecipe_22 : decode cX6_clearRecipe 22 = .ok (.ireturn, 1) := by decide +kernel
theorem dX6_clearRecipe_23 : decode cX6_clearRecipe 23 = .ok (.aload_n 0, 1) := by decide +kernel
theorem dX6_clearRecipe_24 : decode cX6_clearRecipe 24 = .ok (.getfield 159, 3) := by decide +kernel
theorem dX6_clearRecipe_27 : decode cX6_clearRecipe 27 = .ok (.istore_n 1, 1) := by decide +kernel
theorem dX6_clearRecipe_28 : decode cX6_clearRecipe 28 = .ok (.aload_n 0, 1) := by decide +kernel
theorem dX6_clearRecipe_29 : decode cX6_clearRecipe 29 = .ok (.iconst 0, 1) := by decide +kernel
theorem dX6_clearRecipe_30 : decode cX6_clearRecipe 30 = .ok (.putfield 159, 3) := by decide +kernel
theorem dX6_clearRecipe_33 : decode cX6_clearRecipe 33 = .ok (.iload_n 1, 1) := by decide +kernel
theorem dX6_clearRecipe_34 : decode cX6_clearRecipe 34 = .ok (.ireturn, 1) := by decide +kernel
theorem dX6_begins_0 : decode cX6_begins 0 = .ok (.aload_n 0, 1) := by decide +kernel
theorem dX6_begins_1 : decode cX6_begins 1 = .ok (.iload_n 1, 1) := by decide +kernel
theorem dX6_begins_2 : decode cX6_begins 2 = .ok (.putfield 99, 3) := by decide +kernel
theorem dX6_begins_5 : decode cX6_begins 5 = .ok (.aload_n 0, 1) := by decide +kernel
theorem dX6_begins_6 : decode cX6_begins 6 = .ok (.iconst 0, 1) := by decide +kernel
theorem dX6_begins_7 : decode cX6_begins 7 = .ok (.putfield 113, 3) := by decide +kernel
theorem dX6_begins_10 : decode cX6_begins 10 = .ok (.aload_n 0, 1) := by decide +kernel
theorem dX6_begins_11 : decode cX6_begins 11 = .ok (.iconst 0, 1) := by decide +kernel
theorem dX6_begins_12 : decode cX6_begins 12 = .ok (.putfield 131, 3) := by decide +kernel
theorem dX6_begins_15 : decode cX6_begins 15 = .ok (.aload_n 0, 1) := by decide +kernel
theorem dX6_begins_16 : decode cX6_begins 16 = .ok (.iconst 0, 1) := by decide +kernel
theorem dX6_begins_17 : decode cX6_begins 17 = .ok (.putfield 128, 3) := by decide +kernel
theorem dX6_begins_20 : decode cX6_begins 20 = .ok (.aload_n 0, 1) := by decide +kernel
theorem dX6_begins_21 : decode cX6_begins 21 = .ok (.iconst 0, 1) := by decide +kernel
theorem dX6_begins_22 : decode cX6_begins 22 = .ok (.putfield 105, 3) := by decide +kernel
theorem dX6_begins_25 : decode cX6_begins 25 = .ok (.aload_n 0, 1) := by decide +kernel
theorem dX6_begins_26 : decode cX6_begins 26 = .ok (.iconst 0, 1) := by decide +kernel
theorem dX6_begins_27 : decode cX6_begins 27 = .ok (.putfield 122, 3) := by decide +kernel
theorem dX6_begins_30 : decode cX6_begins 30 = .ok (.aload_n 0, 1) := by decide +kernel
theorem dX6_begins_31 : decode cX6_begins 31 = .ok (.iconst 0, 1) := by decide +kernel
theorem dX6_begins_32 : decode cX6_begins 32 = .ok (.putfield 88, 3) := by decide +kernel
theorem dX6_begins_35 : decode cX6_begins 35 = .ok (.aload_n 0, 1) := by decide +kernel
theorem dX6_begins_36 : decode cX6_begins 36 = .ok (.iconst 1, 1) := by decide +kernel
theorem dX6_begins_37 : decode cX6_begins 37 = .ok (.invokevirtual 91, 3) := by decide +kernel
theorem dX6_begins_40 : decode cX6_begins 40 = .ok (.return_, 1) := by decide +kernel
theorem dX6_finishes_0 : decode cX6_finishes 0 = .ok (.aload_n 0, 1) := by decide +kernel
theorem dX6_finishes_1 : decode cX6_finishes 1 = .ok (.invokevirtual 162, 3) := by decide +kernel
theorem dX6_finishes_4 : decode cX6_finishes 4 = .ok (.istore_n 1, 1) := by decide +kernel
theorem dX6_finishes_5 : decode cX6_finishes 5 = .ok (.iload_n 1, 1) := by decide +kernel
theorem dX6_finishes_6 : decode cX6_finishes 6 = .ok (.ifCond .lt 29, 3) := by decide +kernel
theorem dX6_finishes_9 : decode cX6_finishes 9 = .ok (.aload_n 0, 1) := by decide +kernel
theorem dX6_finishes_10 : decode cX6_finishes 10 = .ok (.getfield 99, 3) := by decide +kernel
theorem dX6_finishes_13 : decode cX6_finishes 13 = .ok (.iconst 1, 1) := by decide +kernel
theorem dX6_finishes_14 : decode cX6_finishes 14 = .ok (.iadd, 1) := by decide +kernel
theorem dX6_finishes_15 : decode cX6_finishes 15 = .ok (.aload_n 0, 1) := by decide +kernel
theorem dX6_finishes_16 : decode cX6_finishes 16 = .ok (.getfield 159, 3) := by decide +kernel
theorem dX6_finishes_19 : decode cX6_finishes 19 = .ok (.if_icmp .ge 16, 3) := by decide +kernel
theorem dX6_finishes_22 : decode cX6_finishes 22 = .ok (.aload_n 0, 1) := by decide +kernel
theorem dX6_finishes_23 : decode cX6_finishes 23 = .ok (.aload_n 0, 1) := by decide +kernel
theorem dX6_finishes_24 : decode cX6_finishes 24 = .ok (.getfield 99, 3) := by decide +kernel
theorem dX6_finishes_27 : decode cX6_finishes 27 = .ok (.iconst 1, 1) := by decide +kernel
theorem dX6_finishes_28 : decode cX6_finishes 28 = .ok (.iadd, 1) := by decide +kernel
theorem dX6_finishes_29 : decode cX6_finishes 29 = .ok (.invokevirtual 165, 3) := by decide +kernel
theorem dX6_finishes_32 : decode cX6_finishes 32 = .ok (.goto 23, 3) := by decide +kernel
theorem dX6_finishes_35 : decode cX6_finishes 35 = .ok (.aload_n 0, 1) := by decide +kernel
theorem dX6_finishes_36 : decode cX6_finishes 36 = .ok (.dup, 1) := by decide +kernel
theorem dX6_finishes_37 : decode cX6_finishes 37 = .ok (.getfield 168, 3) := by decide +kernel
theorem dX6_finishes_40 : decode cX6_finishes 40 = .ok (.iconst 1, 1) := by decide +kernel
theorem dX6_finishes_41 : decode cX6_finishes 41 = .ok (.iadd, 1) := by decide +kernel
theorem dX6_finishes_42 : decode cX6_finishes 42 = .ok (.putfield 168, 3) := by decide +kernel
theorem dX6_finishes_45 : decode cX6_finishes 45 = .ok (.aload_n 0, 1) := by decide +kernel
theorem dX6_finishes_46 : decode cX6_finishes 46 = .ok (.iconst 0, 1) := by decide +kernel
theorem dX6_finishes_47 : decode cX6_finishes 47 = .ok (.putfield 88, 3) := by decide +kernel
theorem dX6_finishes_50 : decode cX6_finishes 50 = .ok (.aload_n 0, 1) := by decide +kernel
theorem dX6_finishes_51 : decode cX6_finishes 51 = .ok (.iconst 0, 1) := by decide +kernel
theorem dX6_finishes_52 : decode cX6_finishes 52 = .ok (.invokevirtual 91, 3) := by decide +kernel
theorem dX6_finishes_55 : decode cX6_finishes 55 = .ok (.return_, 1) := by decide +kernel
theorem dX6_start_0 : decode cX6_start 0 = .ok (.aload_n 0, 1) := by decide +kernel
theorem dX6_start_1 : decode cX6_start 1 = .ok (.aload_n 0, 1) := by decide +kernel
theorem dX6_start_2 : decode cX6_start 2 = .ok (.getfield 79, 3) := by decide +kernel
theorem dX6_start_5 : decode cX6_start 5 = .ok (.ifCond .ne 23, 3) := by decide +kernel
theorem dX6_start_8 : decode cX6_start 8 = .ok (.aload_n 0, 1) := by decide +kernel
theorem dX6_start_9 : decode cX6_start 9 = .ok (.getfield 159, 3) := by decide +kernel
theorem dX6_start_12 : decode cX6_start 12 = .ok (.ifCond .le 16, 3) := by decide +kernel
theorem dX6_start_15 : decode cX6_start 15 = .ok (.aload_n 0, 1) := by decide +kernel
theorem dX6_start_16 : decode cX6_start 16 = .ok (.getfield 156, 3) := by decide +kernel
theorem dX6_start_19 : decode cX6_start 19 = .ok (.bipush 20, 2) := by decide +kernel
theorem dX6_start_21 : decode cX6_start 21 = .ok (.if_icmp .ge 7, 3) := by decide +kernel
theorem dX6_start_24 : decode cX6_start 24 = .ok (.iconst 1, 1) := by decide +kernel
theorem dX6_start_25 : decode cX6_start 25 = .ok (.goto 4, 3) := by decide +kernel
theorem dX6_start_28 : decode cX6_start 28 = .ok (.iconst 0, 1) := by decide +kernel
theorem dX6_start_29 : decode cX6_start 29 = .ok (.iconst 1, 1) := by decide +kernel
theorem dX6_start_30 : decode cX6_start 30 = .ok (.iconst 1, 1) := by decide +kernel
theorem dX6_start_31 : decode cX6_start 31 = .ok (.invokevirtual 141, 3) := by decide +kernel
theorem dX6_start_34 : decode cX6_start 34 = .ok (.ifCond .ne 5, 3) := by decide +kernel
theorem dX6_start_37 : decode cX6_start 37 = .ok (.iconst 0, 1) := by decide +kernel
theorem dX6_start_38 : decode cX6_start 38 = .ok (.ireturn, 1) := by decide +kernel
theorem dX6_start_39 : decode cX6_start 39 = .ok (.aload_n 0, 1) := by decide +kernel
theorem dX6_start_40 : decode cX6_start 40 = .ok (.dup, 1) := by decide +kernel
theorem dX6_start_41 : decode cX6_start 41 = .ok (.getfield 156, 3) := by decide +kernel
theorem dX6_start_44 : decode cX6_start 44 = .ok (.iconst 1, 1) := by decide +kernel
theorem dX6_start_45 : decode cX6_start 45 = .ok (.iadd, 1) := by decide +kernel
theorem dX6_start_46 : decode cX6_start 46 = .ok (.putfield 156, 3) := by decide +kernel
theorem dX6_start_49 : decode cX6_start 49 = .ok (.aload_n 0, 1) := by decide +kernel
theorem dX6_start_50 : decode cX6_start 50 = .ok (.iconst 0, 1) := by decide +kernel
theorem dX6_start_51 : decode cX6_start 51 = .ok (.invokevirtual 165, 3) := by decide +kernel
theorem dX6_start_54 : decode cX6_start 54 = .ok (.aload_n 0, 1) := by decide +kernel
theorem dX6_start_55 : decode cX6_start 55 = .ok (.getfield 156, 3) := by decide +kernel
theorem dX6_start_58 : decode cX6_start 58 = .ok (.iconst 1, 1) := by decide +kernel
theorem dX6_start_59 : decode cX6_start 59 = .ok (.isub, 1) := by decide +kernel
theorem dX6_start_60 : decode cX6_start 60 = .ok (.ireturn, 1) := by decide +kernel
theorem dX6_hold_0 : decode cX6_hold 0 = .ok (.aload_n 0, 1) := by decide +kernel
theorem dX6_hold_1 : decode cX6_hold 1 = .ok (.aload_n 0, 1) := by decide +kernel
theorem dX6_hold_2 : decode cX6_hold 2 = .ok (.getfield 79, 3) := by decide +kernel
theorem dX6_hold_5 : decode cX6_hold 5 = .ok (.ifCond .eq 16, 3) := by decide +kernel
theorem dX6_hold_8 : decode cX6_hold 8 = .ok (.aload_n 0, 1) := by decide +kernel
theorem dX6_hold_9 : decode cX6_hold 9 = .ok (.getfield 79, 3) := by decide +kernel
theorem dX6_hold_12 : decode cX6_hold 12 = .ok (.bipush 6, 2) := by decide +kernel
theorem dX6_hold_14 : decode cX6_hold 14 = .ok (.if_icmp .eq 7, 3) := by decide +kernel
theorem dX6_hold_17 : decode cX6_hold 17 = .ok (.iconst 1, 1) := by decide +kernel
theorem dX6_hold_18 : decode cX6_hold 18 = .ok (.goto 4, 3) := by decide +kernel
theorem dX6_hold_21 : decode cX6_hold 21 = .ok (.iconst 0, 1) := by decide +kernel
theorem dX6_hold_22 : decode cX6_hold 22 = .ok (.iconst 1, 1) := by decide +kernel
theorem dX6_hold_23 : decode cX6_hold 23 = .ok (.iconst 1, 1) := by decide +kernel
theorem dX6_hold_24 : decode cX6_hold 24 = .ok (.invokevirtual 141, 3) := by decide +kernel
theorem dX6_hold_27 : decode cX6_hold 27 = .ok (.ifCond .ne 5, 3) := by decide +kernel
theorem dX6_hold_30 : decode cX6_hold 30 = .ok (.iconst 0, 1) := by decide +kernel
theorem dX6_hold_31 : decode cX6_hold 31 = .ok (.ireturn, 1) := by decide +kernel
theorem dX6_hold_32 : decode cX6_hold 32 = .ok (.aload_n 0, 1) := by decide +kernel
theorem dX6_hold_33 : decode cX6_hold 33 = .ok (.getfield 79, 3) := by decide +kernel
theorem dX6_hold_36 : decode cX6_hold 36 = .ok (.istore_n 1, 1) := by decide +kernel
theorem dX6_hold_37 : decode cX6_hold 37 = .ok (.aload_n 0, 1) := by decide +kernel
theorem dX6_hold_38 : decode cX6_hold 38 = .ok (.iconst 0, 1) := by decide +kernel
theorem dX6_hold_39 : decode cX6_hold 39 = .ok (.invokevirtual 116, 3) := by decide +kernel
theorem dX6_hold_42 : decode cX6_hold 42 = .ok (.iload_n 1, 1) := by decide +kernel
theorem dX6_hold_43 : decode cX6_hold 43 = .ok (.ireturn, 1) := by decide +kernel
theorem dX6_resume_0 : decode cX6_resume 0 = .ok (.aload_n 0, 1) := by decide +kernel
theorem dX6_resume_1 : decode cX6_resume 1 = .ok (.aload_n 0, 1) := by decide +kernel
theorem dX6_resume_2 : decode cX6_resume 2 = .ok (.getfield 79, 3) := by decide +kernel
theorem dX6_resume_5 : decode cX6_resume 5 = .ok (.bipush 6, 2) := by decide +kernel
theorem dX6_resume_7 : decode cX6_resume 7 = .ok (.if_icmp .ne 7, 3) := by decide +kernel
theorem dX6_resume_10 : decode cX6_resume 10 = .ok (.iconst 1, 1) := by decide +kernel
theorem dX6_resume_11 : decode cX6_resume 11 = .ok (.goto 4, 3) := by decide +kernel
theorem dX6_resume_14 : decode cX6_resume 14 = .ok (.iconst 0, 1) := by decide +kernel
theorem dX6_resume_15 : decode cX6_resume 15 = .ok (.iconst 1, 1) := by decide +kernel
theorem dX6_resume_16 : decode cX6_resume 16 = .ok (.iconst 1, 1) := by decide +kernel
theorem dX6_resume_17 : decode cX6_resume 17 = .ok (.invokevirtual 141, 3) := by decide +kernel
theorem dX6_resume_20 : decode cX6_resume 20 = .ok (.ifCond .ne 5, 3) := by decide +kernel
theorem dX6_resume_23 : decode cX6_resume 23 = .ok (.iconst 0, 1) := by decide +kernel
theorem dX6_resume_24 : decode cX6_resume 24 = .ok (.ireturn, 1) := by decide +kernel
theorem dX6_resume_25 : decode cX6_resume 25 = .ok (.aload_n 0, 1) := by decide +kernel
theorem dX6_resume_26 : decode cX6_resume 26 = .ok (.getfield 88, 3) := by decide +kernel
theorem dX6_resume_29 : decode cX6_resume 29 = .ok (.iconst 1, 1) := by decide +kernel
theorem dX6_resume_30 : decode cX6_resume 30 = .ok (.if_icmp .eq 11, 3) := by decide +kernel
theorem dX6_resume_33 : decode cX6_resume 33 = .ok (.aload_n 0, 1) := by decide +kernel
theorem dX6_resume_34 : decode cX6_resume 34 = .ok (.getfield 88, 3) := by decide +kernel
theorem dX6_resume_37 : decode cX6_resume 37 = .ok (.iconst 2, 1) := by decide +kernel
theorem dX6_resume_38 : decode cX6_resume 38 = .ok (.if_icmp .ne 10, 3) := by decide +kernel
theorem dX6_resume_41 : decode cX6_resume 41 = .ok (.aload_n 0, 1) := by decide +kernel
theorem dX6_resume_42 : decode cX6_resume 42 = .ok (.invokevirtual 119, 3) := by decide +kernel
theorem dX6_resume_45 : decode cX6_resume 45 = .ok (.goto 21, 3) := by decide +kernel
theorem dX6_resume_48 : decode cX6_resume 48 = .ok (.aload_n 0, 1) := by decide +kernel
theorem dX6_resume_49 : decode cX6_resume 49 = .ok (.iconst 0, 1) := by decide +kernel
theorem dX6_resume_50 : decode cX6_resume 50 = .ok (.putfield 88, 3) := by decide +kernel
theorem dX6_resume_53 : decode cX6_resume 53 = .ok (.aload_n 0, 1) := by decide +kernel
theorem dX6_resume_54 : decode cX6_resume 54 = .ok (.iconst 0, 1) := by decide +kernel
theorem dX6_resume_55 : decode cX6_resume 55 = .ok (.putfield 131, 3) := by decide +kernel
theorem dX6_resume_58 : decode cX6_resume 58 = .ok (.aload_n 0, 1) := by decide +kernel
theorem dX6_resume_59 : decode cX6_resume 59 = .ok (.aload_n 0, 1) := by decide +kernel
theorem dX6_resume_60 : decode cX6_resume 60 = .ok (.getfield 85, 3) := by decide +kernel
theorem dX6_resume_63 : decode cX6_resume 63 = .ok (.invokevirtual 91, 3) := by decide +kernel
theorem dX6_resume_66 : decode cX6_resume 66 = .ok (.aload_n 0, 1) := by decide +kernel
theorem dX6_resume_67 : decode cX6_resume 67 = .ok (.getfield 79, 3) := by decide +kernel
theorem dX6_resume_70 : decode cX6_resume 70 = .ok (.ireturn, 1) := by decide +kernel
theorem dX6_abort_0 : decode cX6_abort 0 = .ok (.aload_n 0, 1) := by decide +kernel
theorem dX6_abort_1 : decode cX6_abort 1 = .ok (.aload_n 0, 1) := by decide +kernel
theorem dX6_abort_2 : decode cX6_abort 2 = .ok (.getfield 79, 3) := by decide +kernel
theorem dX6_abort_5 : decode cX6_abort 5 = .ok (.ifCond .eq 7, 3) := by decide +kernel
theorem dX6_abort_8 : decode cX6_abort 8 = .ok (.iconst 1, 1) := by decide +kernel
theorem dX6_abort_9 : decode cX6_abort 9 = .ok (.goto 4, 3) := by decide +kernel
theorem dX6_abort_12 : decode cX6_abort 12 = .ok (.iconst 0, 1) := by decide +kernel
theorem dX6_abort_13 : decode cX6_abort 13 = .ok (.iconst 1, 1) := by decide +kernel
theorem dX6_abort_14 : decode cX6_abort 14 = .ok (.iconst 1, 1) := by decide +kernel
theorem dX6_abort_15 : decode cX6_abort 15 = .ok (.invokevirtual 141, 3) := by decide +kernel
theorem dX6_abort_18 : decode cX6_abort 18 = .ok (.ifCond .ne 5, 3) := by decide +kernel
theorem dX6_abort_21 : decode cX6_abort 21 = .ok (.iconst 0, 1) := by decide +kernel
theorem dX6_abort_22 : decode cX6_abort 22 = .ok (.ireturn, 1) := by decide +kernel
theorem dX6_abort_23 : decode cX6_abort 23 = .ok (.aload_n 0, 1) := by decide +kernel
theorem dX6_abort_24 : decode cX6_abort 24 = .ok (.getfield 122, 3) := by decide +kernel
theorem dX6_abort_27 : decode cX6_abort 27 = .ok (.ifCond .eq 10, 3) := by decide +kernel
theorem dX6_abort_30 : decode cX6_abort 30 = .ok (.aload_n 0, 1) := by decide +kernel
theorem dX6_abort_31 : decode cX6_abort 31 = .ok (.invokevirtual 162, 3) := by decide +kernel
theorem dX6_abort_34 : decode cX6_abort 34 = .ok (.goto 4, 3) := by decide +kernel
theorem dX6_abort_37 : decode cX6_abort 37 = .ok (.iconst 0, 1) := by decide +kernel
theorem dX6_abort_38 : decode cX6_abort 38 = .ok (.istore_n 1, 1) := by decide +kernel
theorem dX6_abort_39 : decode cX6_abort 39 = .ok (.aload_n 0, 1) := by decide +kernel
theorem dX6_abort_40 : decode cX6_abort 40 = .ok (.iconst 0, 1) := by decide +kernel
theorem dX6_abort_41 : decode cX6_abort 41 = .ok (.putfield 88, 3) := by decide +kernel
theorem dX6_abort_44 : decode cX6_abort 44 = .ok (.aload_n 0, 1) := by decide +kernel
theorem dX6_abort_45 : decode cX6_abort 45 = .ok (.iconst 0, 1) := by decide +kernel
theorem dX6_abort_46 : decode cX6_abort 46 = .ok (.invokevirtual 91, 3) := by decide +kernel
theorem dX6_abort_49 : decode cX6_abort 49 = .ok (.iload_n 1, 1) := by decide +kernel
theorem dX6_abort_50 : decode cX6_abort 50 = .ok (.ireturn, 1) := by decide +kernel
theorem dX6_state_0 : decode cX6_state 0 = .ok (.aload_n 0, 1) := by decide +kernel
theorem dX6_state_1 : decode cX6_state 1 = .ok (.iconst 0, 1) := by decide +kernel
theorem dX6_state_2 : decode cX6_state 2 = .ok (.putfield 53, 3) := by decide +kernel
theorem dX6_state_5 : decode cX6_state 5 = .ok (.aload_n 0, 1) := by decide +kernel
theorem dX6_state_6 : decode cX6_state 6 = .ok (.getfield 79, 3) := by decide +kernel
theorem dX6_state_9 : decode cX6_state 9 = .ok (.ireturn, 1) := by decide +kernel
theorem dX6_alarm_0 : decode cX6_alarm 0 = .ok (.aload_n 0, 1) := by decide +kernel
theorem dX6_alarm_1 : decode cX6_alarm 1 = .ok (.iconst 0, 1) := by decide +kernel
theorem dX6_alarm_2 : decode cX6_alarm 2 = .ok (.putfield 53, 3) := by decide +kernel
theorem dX6_alarm_5 : decode cX6_alarm 5 = .ok (.aload_n 0, 1) := by decide +kernel
theorem dX6_alarm_6 : decode cX6_alarm 6 = .ok (.getfield 88, 3) := by decide +kernel
theorem dX6_alarm_9 : decode cX6_alarm 9 = .ok (.ireturn, 1) := by decide +kernel
theorem dX6_step_0 : decode cX6_step 0 = .ok (.aload_n 0, 1) := by decide +kernel
theorem dX6_step_1 : decode cX6_step 1 = .ok (.iconst 0, 1) := by decide +kernel
theorem dX6_step_2 : decode cX6_step 2 = .ok (.putfield 53, 3) := by decide +kernel
theorem dX6_step_5 : decode cX6_step 5 = .ok (.aload_n 0, 1) := by decide +kernel
theorem dX6_step_6 : decode cX6_step 6 = .ok (.getfield 79, 3) := by decide +kernel
theorem dX6_step_9 : decode cX6_step 9 = .ok (.ifCond .ne 7, 3) := by decide +kernel
theorem dX6_step_12 : decode cX6_step 12 = .ok (.iconst (-1), 1) := by decide +kernel
theorem dX6_step_13 : decode cX6_step 13 = .ok (.goto 7, 3) := by decide +kernel
theorem dX6_step_16 : decode cX6_step 16 = .ok (.aload_n 0, 1) := by decide +kernel
theorem dX6_step_17 : decode cX6_step 17 = .ok (.getfield 99, 3) := by decide +kernel
theorem dX6_step_20 : decode cX6_step 20 = .ok (.ireturn, 1) := by decide +kernel
theorem dX6_jogs_0 : decode cX6_jogs 0 = .ok (.aload_n 0, 1) := by decide +kernel
theorem dX6_jogs_1 : decode cX6_jogs 1 = .ok (.iconst 0, 1) := by decide +kernel
theorem dX6_jogs_2 : decode cX6_jogs 2 = .ok (.putfield 53, 3) := by decide +kernel
theorem dX6_jogs_5 : decode cX6_jogs 5 = .ok (.aload_n 0, 1) := by decide +kernel
theorem dX6_jogs_6 : decode cX6_jogs 6 = .ok (.getfield 79, 3) := by decide +kernel
theorem dX6_jogs_9 : decode cX6_jogs 9 = .ok (.ifCond .ne 7, 3) := by decide +kernel
theorem dX6_jogs_12 : decode cX6_jogs 12 = .ok (.iconst 0, 1) := by decide +kernel
theorem dX6_jogs_13 : decode cX6_jogs 13 = .ok (.goto 7, 3) := by decide +kernel
theorem dX6_jogs_16 : decode cX6_jogs 16 = .ok (.aload_n 0, 1) := by decide +kernel
theorem dX6_jogs_17 : decode cX6_jogs 17 = .ok (.getfield 113, 3) := by decide +kernel
theorem dX6_jogs_20 : decode cX6_jogs 20 = .ok (.ireturn, 1) := by decide +kernel
theorem dX6_batches_0 : decode cX6_batches 0 = .ok (.aload_n 0, 1) := by decide +kernel
theorem dX6_batches_1 : decode cX6_batches 1 = .ok (.iconst 0, 1) := by decide +kernel
theorem dX6_batches_2 : decode cX6_batches 2 = .ok (.putfield 53, 3) := by decide +kernel
theorem dX6_batches_5 : decode cX6_batches 5 = .ok (.aload_n 0, 1) := by decide +kernel
theorem dX6_batches_6 : decode cX6_batches 6 = .ok (.getfield 156, 3) := by decide +kernel
theorem dX6_batches_9 : decode cX6_batches 9 = .ok (.ireturn, 1) := by decide +kernel
theorem dX6_done_0 : decode cX6_done 0 = .ok (.aload_n 0, 1) := by decide +kernel
theorem dX6_done_1 : decode cX6_done 1 = .ok (.iconst 0, 1) := by decide +kernel
theorem dX6_done_2 : decode cX6_done 2 = .ok (.putfield 53, 3) := by decide +kernel
theorem dX6_done_5 : decode cX6_done 5 = .ok (.aload_n 0, 1) := by decide +kernel
theorem dX6_done_6 : decode cX6_done 6 = .ok (.getfield 168, 3) := by decide +kernel
theorem dX6_done_9 : decode cX6_done 9 = .ok (.ireturn, 1) := by decide +kernel
theorem dX6_belt_0 : decode cX6_belt 0 = .ok (.aload_n 0, 1) := by decide +kernel
theorem dX6_belt_1 : decode cX6_belt 1 = .ok (.iload_n 1, 1) := by decide +kernel
theorem dX6_belt_2 : decode cX6_belt 2 = .ok (.iconst 0, 1) := by decide +kernel
theorem dX6_belt_3 : decode cX6_belt 3 = .ok (.sipush 10000, 3) := by decide +kernel
theorem dX6_belt_6 : decode cX6_belt 6 = .ok (.invokestatic 56, 3) := by decide +kernel
theorem dX6_belt_9 : decode cX6_belt 9 = .ok (.ifCond .eq 28, 3) := by decide +kernel
theorem dX6_belt_12 : decode cX6_belt 12 = .ok (.iload_n 2, 1) := by decide +kernel
theorem dX6_belt_13 : decode cX6_belt 13 = .ok (.iconst 0, 1) := by decide +kernel
theorem dX6_belt_14 : decode cX6_belt 14 = .ok (.sipush 1000, 3) := by decide +kernel
theorem dX6_belt_17 : decode cX6_belt 17 = .ok (.invokestatic 56, 3) := by decide +kernel
theorem dX6_belt_20 : decode cX6_belt 20 = .ok (.ifCond .eq 17, 3) := by decide +kernel
theorem dX6_belt_23 : decode cX6_belt 23 = .ok (.iload_n 3, 1) := by decide +kernel
theorem dX6_belt_24 : decode cX6_belt 24 = .ok (.iconst 1, 1) := by decide +kernel
theorem dX6_belt_25 : decode cX6_belt 25 = .ok (.bipush 100, 2) := by decide +kernel
theorem dX6_belt_27 : decode cX6_belt 27 = .ok (.invokestatic 56, 3) := by decide +kernel
theorem dX6_belt_30 : decode cX6_belt 30 = .ok (.ifCond .eq 7, 3) := by decide +kernel
theorem dX6_belt_33 : decode cX6_belt 33 = .ok (.iconst 1, 1) := by decide +kernel
theorem dX6_belt_34 : decode cX6_belt 34 = .ok (.goto 4, 3) := by decide +kernel
theorem dX6_belt_37 : decode cX6_belt 37 = .ok (.iconst 0, 1) := by decide +kernel
theorem dX6_belt_38 : decode cX6_belt 38 = .ok (.iconst 1, 1) := by decide +kernel
theorem dX6_belt_39 : decode cX6_belt 39 = .ok (.iconst 1, 1) := by decide +kernel
theorem dX6_belt_40 : decode cX6_belt 40 = .ok (.invokevirtual 141, 3) := by decide +kernel
theorem dX6_belt_43 : decode cX6_belt 43 = .ok (.ifCond .ne 5, 3) := by decide +kernel
theorem dX6_belt_46 : decode cX6_belt 46 = .ok (.lconst 0, 1) := by decide +kernel
theorem dX6_belt_47 : decode cX6_belt 47 = .ok (.lreturn, 1) := by decide +kernel
theorem dX6_belt_48 : decode cX6_belt 48 = .ok (.aload_n 0, 1) := by decide +kernel
theorem dX6_belt_49 : decode cX6_belt 49 = .ok (.dup, 1) := by decide +kernel
theorem dX6_belt_50 : decode cX6_belt 50 = .ok (.getfield 171, 3) := by decide +kernel
theorem dX6_belt_53 : decode cX6_belt 53 = .ok (.iload_n 1, 1) := by decide +kernel
theorem dX6_belt_54 : decode cX6_belt 54 = .ok (.i2l, 1) := by decide +kernel
theorem dX6_belt_55 : decode cX6_belt 55 = .ok (.iload_n 2, 1) := by decide +kernel
theorem dX6_belt_56 : decode cX6_belt 56 = .ok (.i2l, 1) := by decide +kernel
theorem dX6_belt_57 : decode cX6_belt 57 = .ok (.lmul, 1) := by decide +kernel
theorem dX6_belt_58 : decode cX6_belt 58 = .ok (.iload_n 3, 1) := by decide +kernel
theorem dX6_belt_59 : decode cX6_belt 59 = .ok (.i2l, 1) := by decide +kernel
theorem dX6_belt_60 : decode cX6_belt 60 = .ok (.lmul, 1) := by decide +kernel
theorem dX6_belt_61 : decode cX6_belt 61 = .ok (.ladd, 1) := by decide +kernel
theorem dX6_belt_62 : decode cX6_belt 62 = .ok (.putfield 171, 3) := by decide +kernel
theorem dX6_belt_65 : decode cX6_belt 65 = .ok (.aload_n 0, 1) := by decide +kernel
theorem dX6_belt_66 : decode cX6_belt 66 = .ok (.getfield 171, 3) := by decide +kernel
theorem dX6_belt_69 : decode cX6_belt 69 = .ok (.ldc2_w 175, 3) := by decide +kernel
theorem dX6_belt_72 : decode cX6_belt 72 = .ok (.ldiv, 1) := by decide +kernel
theorem dX6_belt_73 : decode cX6_belt 73 = .ok (.lreturn, 1) := by decide +kernel

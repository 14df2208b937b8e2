theorem dX10_in_0 : decode cX10_in 0 = .ok (.iload_n 0, 1) := by decide +kernel
theorem dX10_in_1 : decode cX10_in 1 = .ok (.iload_n 1, 1) := by decide +kernel
theorem dX10_in_2 : decode cX10_in 2 = .ok (.if_icmp .lt 12, 3) := by decide +kernel
theorem dX10_in_5 : decode cX10_in 5 = .ok (.iload_n 0, 1) := by decide +kernel
theorem dX10_in_6 : decode cX10_in 6 = .ok (.iload_n 2, 1) := by decide +kernel
theorem dX10_in_7 : decode cX10_in 7 = .ok (.if_icmp .gt 7, 3) := by decide +kernel
theorem dX10_in_10 : decode cX10_in 10 = .ok (.iconst 1, 1) := by decide +kernel
theorem dX10_in_11 : decode cX10_in 11 = .ok (.goto 4, 3) := by decide +kernel
theorem dX10_in_14 : decode cX10_in 14 = .ok (.iconst 0, 1) := by decide +kernel
theorem dX10_in_15 : decode cX10_in 15 = .ok (.ireturn, 1) := by decide +kernel
theorem dX10_init_0 : decode cX10_init 0 = .ok (.aload_n 0, 1) := by decide +kernel
theorem dX10_init_1 : decode cX10_init 1 = .ok (.invokespecial 3, 3) := by decide +kernel
theorem dX10_init_4 : decode cX10_init 4 = .ok (.aload_n 0, 1) := by decide +kernel
theorem dX10_init_5 : decode cX10_init 5 = .ok (.sipush 240, 3) := by decide +kernel
theorem dX10_init_8 : decode cX10_init 8 = .ok (.newarray .int, 2) := by decide +kernel
theorem dX10_init_10 : decode cX10_init 10 = .ok (.putfield 9, 3) := by decide +kernel
theorem dX10_init_13 : decode cX10_init 13 = .ok (.aload_n 0, 1) := by decide +kernel
theorem dX10_init_14 : decode cX10_init 14 = .ok (.bipush 8, 2) := by decide +kernel
theorem dX10_init_16 : decode cX10_init 16 = .ok (.newarray .int, 2) := by decide +kernel
theorem dX10_init_18 : decode cX10_init 18 = .ok (.putfield 13, 3) := by decide +kernel
theorem dX10_init_21 : decode cX10_init 21 = .ok (.aload_n 0, 1) := by decide +kernel
theorem dX10_init_22 : decode cX10_init 22 = .ok (.sipush 160, 3) := by decide +kernel
theorem dX10_init_25 : decode cX10_init 25 = .ok (.newarray .int, 2) := by decide +kernel
theorem dX10_init_27 : decode cX10_init 27 = .ok (.putfield 16, 3) := by decide +kernel
theorem dX10_init_30 : decode cX10_init 30 = .ok (.aload_n 0, 1) := by decide +kernel
theorem dX10_init_31 : decode cX10_init 31 = .ok (.sipush 1440, 3) := by decide +kernel
theorem dX10_init_34 : decode cX10_init 34 = .ok (.newarray .int, 2) := by decide +kernel
theorem dX10_init_36 : decode cX10_init 36 = .ok (.putfield 19, 3) := by decide +kernel
theorem dX10_init_39 : decode cX10_init 39 = .ok (.aload_n 0, 1) := by decide +kernel
theorem dX10_init_40 : decode cX10_init 40 = .ok (.iconst 5, 1) := by decide +kernel
theorem dX10_init_41 : decode cX10_init 41 = .ok (.newarray .int, 2) := by decide +kernel
theorem dX10_init_43 : decode cX10_init 43 = .ok (.putfield 22, 3) := by decide +kernel
theorem dX10_init_46 : decode cX10_init 46 = .ok (.aload_n 0, 1) := by decide +kernel
theorem dX10_init_47 : decode cX10_init 47 = .ok (.bipush 20, 2) := by decide +kernel
theorem dX10_init_49 : decode cX10_init 49 = .ok (.newarray .int, 2) := by decide +kernel
theorem dX10_init_51 : decode cX10_init 51 = .ok (.putfield 25, 3) := by decide +kernel
theorem dX10_init_54 : decode cX10_init 54 = .ok (.aload_n 0, 1) := by decide +kernel
theorem dX10_init_55 : decode cX10_init 55 = .ok (.sipush 622, 3) := by decide +kernel
theorem dX10_init_58 : decode cX10_init 58 = .ok (.newarray .int, 2) := by decide +kernel
theorem dX10_init_60 : decode cX10_init 60 = .ok (.putfield 28, 3) := by decide +kernel
theorem dX10_init_63 : decode cX10_init 63 = .ok (.aload_n 0, 1) := by decide +kernel
theorem dX10_init_64 : decode cX10_init 64 = .ok (.iconst 4, 1) := by decide +kernel
theorem dX10_init_65 : decode cX10_init 65 = .ok (.newarray .int, 2) := by decide +kernel
theorem dX10_init_67 : decode cX10_init 67 = .ok (.putfield 31, 3) := by decide +kernel
theorem dX10_init_70 : decode cX10_init 70 = .ok (.aload_n 0, 1) := by decide +kernel
theorem dX10_init_71 : decode cX10_init 71 = .ok (.bipush 6, 2) := by decide +kernel
theorem dX10_init_73 : decode cX10_init 73 = .ok (.newarray .int, 2) := by decide +kernel
theorem dX10_init_75 : decode cX10_init 75 = .ok (.putfield 34, 3) := by decide +kernel
theorem dX10_init_78 : decode cX10_init 78 = .ok (.aload_n 0, 1) := by decide +kernel
theorem dX10_init_79 : decode cX10_init 79 = .ok (.sipush 200, 3) := by decide +kernel
theorem dX10_init_82 : decode cX10_init 82 = .ok (.newarray .int, 2) := by decide +kernel
theorem dX10_init_84 : decode cX10_init 84 = .ok (.putfield 37, 3) := by decide +kernel
theorem dX10_init_87 : decode cX10_init 87 = .ok (.aload_n 0, 1) := by decide +kernel
theorem dX10_init_88 : decode cX10_init 88 = .ok (.sipush 200, 3) := by decide +kernel
theorem dX10_init_91 : decode cX10_init 91 = .ok (.newarray .int, 2) := by decide +kernel
theorem dX10_init_93 : decode cX10_init 93 = .ok (.putfield 40, 3) := by decide +kernel
theorem dX10_init_96 : decode cX10_init 96 = .ok (.aload_n 0, 1) := by decide +kernel
theorem dX10_init_97 : decode cX10_init 97 = .ok (.sipush 24880, 3) := by decide +kernel
theorem dX10_init_100 : decode cX10_init 100 = .ok (.newarray .int, 2) := by decide +kernel
theorem dX10_init_102 : decode cX10_init 102 = .ok (.putfield 43, 3) := by decide +kernel
theorem dX10_init_105 : decode cX10_init 105 = .ok (.aload_n 0, 1) := by decide +kernel
theorem dX10_init_106 : decode cX10_init 106 = .ok (.bipush 20, 2) := by decide +kernel
theorem dX10_init_108 : decode cX10_init 108 = .ok (.newarray .int, 2) := by decide +kernel
theorem dX10_init_110 : decode cX10_init 110 = .ok (.putfield 46, 3) := by decide +kernel
theorem dX10_init_113 : decode cX10_init 113 = .ok (.aload_n 0, 1) := by decide +kernel
theorem dX10_init_114 : decode cX10_init 114 = .ok (.bipush 18, 2) := by decide +kernel
theorem dX10_init_116 : decode cX10_init 116 = .ok (.newarray .int, 2) := by decide +kernel
theorem dX10_init_118 : decode cX10_init 118 = .ok (.putfield 49, 3) := by decide +kernel
theorem dX10_init_121 : decode cX10_init 121 = .ok (.aload_n 0, 1) := by decide +kernel
theorem dX10_init_122 : decode cX10_init 122 = .ok (.sipush 441, 3) := by decide +kernel
theorem dX10_init_125 : decode cX10_init 125 = .ok (.newarray .int, 2) := by decide +kernel
theorem dX10_init_127 : decode cX10_init 127 = .ok (.putfield 52, 3) := by decide +kernel
theorem dX10_init_130 : decode cX10_init 130 = .ok (.aload_n 0, 1) := by decide +kernel
theorem dX10_init_131 : decode cX10_init 131 = .ok (.sipush 622, 3) := by decide +kernel
theorem dX10_init_134 : decode cX10_init 134 = .ok (.newarray .int, 2) := by decide +kernel
theorem dX10_init_136 : decode cX10_init 136 = .ok (.putfield 55, 3) := by decide +kernel
theorem dX10_init_139 : decode cX10_init 139 = .ok (.return_, 1) := by decide +kernel
theorem dX10_thrown_0 : decode cX10_thrown 0 = .ok (.aload_n 0, 1) := by decide +kernel
theorem dX10_thrown_1 : decode cX10_thrown 1 = .ok (.getfield 58, 3) := by decide +kernel
theorem dX10_thrown_4 : decode cX10_thrown 4 = .ok (.ireturn, 1) := by decide +kernel
theorem dX10_byteOf_0 : decode cX10_byteOf 0 = .ok (.iload 5, 2) := by decide +kernel
theorem dX10_byteOf_2 : decode cX10_byteOf 2 = .ok (.iconst 4, 1) := by decide +kernel
theorem dX10_byteOf_3 : decode cX10_byteOf 3 = .ok (.if_icmp .ge 7, 3) := by decide +kernel
theorem dX10_byteOf_6 : decode cX10_byteOf 6 = .ok (.iload_n 0, 1) := by decide +kernel
theorem dX10_byteOf_7 : decode cX10_byteOf 7 = .ok (.goto 38, 3) := by decide +kernel
theorem dX10_byteOf_10 : decode cX10_byteOf 10 = .ok (.iload 5, 2) := by decide +kernel
theorem dX10_byteOf_12 : decode cX10_byteOf 12 = .ok (.bipush 8, 2) := by decide +kernel
theorem dX10_byteOf_14 : decode cX10_byteOf 14 = .ok (.if_icmp .ge 7, 3) := by decide +kernel
theorem dX10_byteOf_17 : decode cX10_byteOf 17 = .ok (.iload_n 1, 1) := by decide +kernel
theorem dX10_byteOf_18 : decode cX10_byteOf 18 = .ok (.goto 27, 3) := by decide +kernel
theorem dX10_byteOf_21 : decode cX10_byteOf 21 = .ok (.iload 5, 2) := by decide +kernel
theorem dX10_byteOf_23 : decode cX10_byteOf 23 = .ok (.bipush 12, 2) := by decide +kernel
theorem dX10_byteOf_25 : decode cX10_byteOf 25 = .ok (.if_icmp .ge 7, 3) := by decide +kernel
theorem dX10_byteOf_28 : decode cX10_byteOf 28 = .ok (.iload_n 2, 1) := by decide +kernel
theorem dX10_byteOf_29 : decode cX10_byteOf 29 = .ok (.goto 16, 3) := by decide +kernel
theorem dX10_byteOf_32 : decode cX10_byteOf 32 = .ok (.iload 5, 2) := by decide +kernel
theorem dX10_byteOf_34 : decode cX10_byteOf 34 = .ok (.bipush 16, 2) := by decide +kernel
theorem dX10_byteOf_36 : decode cX10_byteOf 36 = .ok (.if_icmp .ge 7, 3) := by decide +kernel
theorem dX10_byteOf_39 : decode cX10_byteOf 39 = .ok (.iload_n 3, 1) := by decide +kernel
theorem dX10_byteOf_40 : decode cX10_byteOf 40 = .ok (.goto 5, 3) := by decide +kernel
theorem dX10_byteOf_43 : decode cX10_byteOf 43 = .ok (.iload 4, 2) := by decide +kernel
theorem dX10_byteOf_45 : decode cX10_byteOf 45 = .ok (.istore 6, 2) := by decide +kernel
theorem dX10_byteOf_47 : decode cX10_byteOf 47 = .ok (.iload 6, 2) := by decide +kernel
theorem dX10_byteOf_49 : decode cX10_byteOf 49 = .ok (.bipush 24, 2) := by decide +kernel
theorem dX10_byteOf_51 : decode cX10_byteOf 51 = .ok (.bipush 8, 2) := by decide +kernel
theorem dX10_byteOf_53 : decode cX10_byteOf 53 = .ok (.iload 5, 2) := by decide +kernel
theorem dX10_byteOf_55 : decode cX10_byteOf 55 = .ok (.iconst 4, 1) := by decide +kernel
theorem dX10_byteOf_56 : decode cX10_byteOf 56 = .ok (.irem, 1) := by decide +kernel
theorem dX10_byteOf_57 : decode cX10_byteOf 57 = .ok (.imul, 1) := by decide +kernel
theorem dX10_byteOf_58 : decode cX10_byteOf 58 = .ok (.isub, 1) := by decide +kernel
theorem dX10_byteOf_59 : decode cX10_byteOf 59 = .ok (.ishr, 1) := by decide +kernel
theorem dX10_byteOf_60 : decode cX10_byteOf 60 = .ok (.sipush 255, 3) := by decide +kernel
theorem dX10_byteOf_63 : decode cX10_byteOf 63 = .ok (.iand, 1) := by decide +kernel
theorem dX10_byteOf_64 : decode cX10_byteOf 64 = .ok (.ireturn, 1) := by decide +kernel
theorem dX10_feed_0 : decode cX10_feed 0 = .ok (.iconst 0, 1) := by decide +kernel
theorem dX10_feed_1 : decode cX10_feed 1 = .ok (.istore 6, 2) := by decide +kernel
theorem dX10_feed_3 : decode cX10_feed 3 = .ok (.iconst 0, 1) := by decide +kernel
theorem dX10_feed_4 : decode cX10_feed 4 = .ok (.istore 7, 2) := by decide +kernel
theorem dX10_feed_6 : decode cX10_feed 6 = .ok (.iload 7, 2) := by decide +kernel
theorem dX10_feed_8 : decode cX10_feed 8 = .ok (.bipush 20, 2) := by decide +kernel
theorem dX10_feed_10 : decode cX10_feed 10 = .ok (.if_icmp .ge 34, 3) := by decide +kernel
theorem dX10_feed_13 : decode cX10_feed 13 = .ok (.iload 6, 2) := by decide +kernel
theorem dX10_feed_15 : decode cX10_feed 15 = .ok (.iload_n 1, 1) := by decide +kernel
theorem dX10_feed_16 : decode cX10_feed 16 = .ok (.iload_n 2, 1) := by decide +kernel
theorem dX10_feed_17 : decode cX10_feed 17 = .ok (.iload_n 3, 1) := by decide +kernel
theorem dX10_feed_18 : decode cX10_feed 18 = .ok (.iload 4, 2) := by decide +kernel
theorem dX10_feed_20 : decode cX10_feed 20 = .ok (.iload 5, 2) := by decide +kernel
theorem dX10_feed_22 : decode cX10_feed 22 = .ok (.iload 7, 2) := by decide +kernel
theorem dX10_feed_24 : decode cX10_feed 24 = .ok (.invokestatic 62, 3) := by decide +kernel
theorem dX10_feed_27 : decode cX10_feed 27 = .ok (.ifCond .eq 7, 3) := by decide +kernel
theorem dX10_feed_30 : decode cX10_feed 30 = .ok (.iconst 1, 1) := by decide +kernel
theorem dX10_feed_31 : decode cX10_feed 31 = .ok (.goto 4, 3) := by decide +kernel
theorem dX10_feed_34 : decode cX10_feed 34 = .ok (.iconst 0, 1) := by decide +kernel
theorem dX10_feed_35 : decode cX10_feed 35 = .ok (.iadd, 1) := by decide +kernel
theorem dX10_feed_36 : decode cX10_feed 36 = .ok (.istore 6, 2) := by decide +kernel
theorem dX10_feed_38 : decode cX10_feed 38 = .ok (.iinc 7 1, 3) := by decide +kernel
theorem dX10_feed_41 : decode cX10_feed 41 = .ok (.goto (-35), 3) := by decide +kernel
theorem dX10_feed_44 : decode cX10_feed 44 = .ok (.aload_n 0, 1) := by decide +kernel
theorem dX10_feed_45 : decode cX10_feed 45 = .ok (.getfield 66, 3) := by decide +kernel
theorem dX10_feed_48 : decode cX10_feed 48 = .ok (.iload 6, 2) := by decide +kernel
theorem dX10_feed_50 : decode cX10_feed 50 = .ok (.iadd, 1) := by decide +kernel
theorem dX10_feed_51 : decode cX10_feed 51 = .ok (.sipush 240, 3) := by decide +kernel
theorem dX10_feed_54 : decode cX10_feed 54 = .ok (.if_icmp .le 5, 3) := by decide +kernel
theorem dX10_feed_57 : decode cX10_feed 57 = .ok (.iconst (-1), 1) := by decide +kernel
theorem dX10_feed_58 : decode cX10_feed 58 = .ok (.ireturn, 1) := by decide +kernel
theorem dX10_feed_59 : decode cX10_feed 59 = .ok (.iconst 0, 1) := by decide +kernel
theorem dX10_feed_60 : decode cX10_feed 60 = .ok (.istore 7, 2) := by decide +kernel
theorem dX10_feed_62 : decode cX10_feed 62 = .ok (.iload 7, 2) := by decide +kernel
theorem dX10_feed_64 : decode cX10_feed 64 = .ok (.bipush 20, 2) := by decide +kernel
theorem dX10_feed_66 : decode cX10_feed 66 = .ok (.if_icmp .ge 49, 3) := by decide +kernel
theorem dX10_feed_69 : decode cX10_feed 69 = .ok (.iload_n 1, 1) := by decide +kernel
theorem dX10_feed_70 : decode cX10_feed 70 = .ok (.iload_n 2, 1) := by decide +kernel
theorem dX10_feed_71 : decode cX10_feed 71 = .ok (.iload_n 3, 1) := by decide +kernel
theorem dX10_feed_72 : decode cX10_feed 72 = .ok (.iload 4, 2) := by decide +kernel
theorem dX10_feed_74 : decode cX10_feed 74 = .ok (.iload 5, 2) := by decide +kernel
theorem dX10_feed_76 : decode cX10_feed 76 = .ok (.iload 7, 2) := by decide +kernel
theorem dX10_feed_78 : decode cX10_feed 78 = .ok (.invokestatic 62, 3) := by decide +kernel
theorem dX10_feed_81 : decode cX10_feed 81 = .ok (.istore 8, 2) := by decide +kernel
theorem dX10_feed_83 : decode cX10_feed 83 = .ok (.iload 8, 2) := by decide +kernel
theorem dX10_feed_85 : decode cX10_feed 85 = .ok (.ifCond .eq 24, 3) := by decide +kernel
theorem dX10_feed_88 : decode cX10_feed 88 = .ok (.aload_n 0, 1) := by decide +kernel
theorem dX10_feed_89 : decode cX10_feed 89 = .ok (.getfield 9, 3) := by decide +kernel
theorem dX10_feed_92 : decode cX10_feed 92 = .ok (.aload_n 0, 1) := by decide +kernel
theorem dX10_feed_93 : decode cX10_feed 93 = .ok (.getfield 66, 3) := by decide +kernel
theorem dX10_feed_96 : decode cX10_feed 96 = .ok (.iload 8, 2) := by decide +kernel
theorem dX10_feed_98 : decode cX10_feed 98 = .ok (.iastore, 1) := by decide +kernel
theorem dX10_feed_99 : decode cX10_feed 99 = .ok (.aload_n 0, 1) := by decide +kernel
theorem dX10_feed_100 : decode cX10_feed 100 = .ok (.dup, 1) := by decide +kernel
theorem dX10_feed_101 : decode cX10_feed 101 = .ok (.getfield 66, 3) := by decide +kernel
theorem dX10_feed_104 : decode cX10_feed 104 = .ok (.iconst 1, 1) := by decide +kernel
theorem dX10_feed_105 : decode cX10_feed 105 = .ok (.iadd, 1) := by decide +kernel
theorem dX10_feed_106 : decode cX10_feed 106 = .ok (.putfield 66, 3) := by decide +kernel
theorem dX10_feed_109 : decode cX10_feed 109 = .ok (.iinc 7 1, 3) := by decide +kernel
theorem dX10_feed_112 : decode cX10_feed 112 = .ok (.goto (-50), 3) := by decide +kernel
theorem dX10_feed_115 : decode cX10_feed 115 = .ok (.aload_n 0, 1) := by decide +kernel
theorem dX10_feed_116 : decode cX10_feed 116 = .ok (.getfield 66, 3) := by decide +kernel
theorem dX10_feed_119 : decode cX10_feed 119 = .ok (.ireturn, 1) := by decide +kernel
theorem dX10_end_0 : decode cX10_end 0 = .ok (.iload_n 1, 1) := by decide +kernel
theorem dX10_end_1 : decode cX10_end 1 = .ok (.iconst 0, 1) := by decide +kernel
theorem dX10_end_2 : decode cX10_end 2 = .ok (.aload_n 0, 1) := by decide +kernel
theorem dX10_end_3 : decode cX10_end 3 = .ok (.getfield 66, 3) := by decide +kernel
theorem dX10_end_6 : decode cX10_end 6 = .ok (.invokestatic 69, 3) := by decide +kernel
theorem dX10_end_9 : decode cX10_end 9 = .ok (.ifCond .ne 5, 3) := by decide +kernel
theorem dX10_end_12 : decode cX10_end 12 = .ok (.iconst 0, 1) := by decide +kernel
theorem dX10_end_13 : decode cX10_end 13 = .ok (.ireturn, 1) := by decide +kernel
theorem dX10_end_14 : decode cX10_end 14 = .ok (.aload_n 0, 1) := by decide +kernel
theorem dX10_end_15 : decode cX10_end 15 = .ok (.iload_n 1, 1) := by decide +kernel
theorem dX10_end_16 : decode cX10_end 16 = .ok (.putfield 66, 3) := by decide +kernel
theorem dX10_end_19 : decode cX10_end 19 = .ok (.iconst 1, 1) := by decide +kernel
theorem dX10_end_20 : decode cX10_end 20 = .ok (.ireturn, 1) := by decide +kernel
theorem dX10_ahead_0 : decode cX10_ahead 0 = .ok (.aload_n 0, 1) := by decide +kernel
theorem dX10_ahead_1 : decode cX10_ahead 1 = .ok (.getfield 73, 3) := by decide +kernel
theorem dX10_ahead_4 : decode cX10_ahead 4 = .ok (.aload_n 0, 1) := by decide +kernel
theorem dX10_ahead_5 : decode cX10_ahead 5 = .ok (.getfield 66, 3) := by decide +kernel
theorem dX10_ahead_8 : decode cX10_ahead 8 = .ok (.if_icmp .ge 30, 3) := by decide +kernel
theorem dX10_ahead_11 : decode cX10_ahead 11 = .ok (.aload_n 0, 1) := by decide +kernel
theorem dX10_ahead_12 : decode cX10_ahead 12 = .ok (.getfield 9, 3) := by decide +kernel
theorem dX10_ahead_15 : decode cX10_ahead 15 = .ok (.aload_n 0, 1) := by decide +kernel
theorem dX10_ahead_16 : decode cX10_ahead 16 = .ok (.getfield 73, 3) := by decide +kernel
theorem dX10_ahead_19 : decode cX10_ahead 19 = .ok (.iaload, 1) := by decide +kernel
theorem dX10_ahead_20 : decode cX10_ahead 20 = .ok (.bipush 32, 2) := by decide +kernel
theorem dX10_ahead_22 : decode cX10_ahead 22 = .ok (.if_icmp .ne 16, 3) := by decide +kernel
theorem dX10_ahead_25 : decode cX10_ahead 25 = .ok (.aload_n 0, 1) := by decide +kernel
theorem dX10_ahead_26 : decode cX10_ahead 26 = .ok (.dup, 1) := by decide +kernel
theorem dX10_ahead_27 : decode cX10_ahead 27 = .ok (.getfield 73, 3) := by decide +kernel
theorem dX10_ahead_30 : decode cX10_ahead 30 = .ok (.iconst 1, 1) := by decide +kernel
theorem dX10_ahead_31 : decode cX10_ahead 31 = .ok (.iadd, 1) := by decide +kernel
theorem dX10_ahead_32 : decode cX10_ahead 32 = .ok (.putfield 73, 3) := by decide +kernel
theorem dX10_ahead_35 : decode cX10_ahead 35 = .ok (.goto (-35), 3) := by decide +kernel
theorem dX10_ahead_38 : decode cX10_ahead 38 = .ok (.aload_n 0, 1) := by decide +kernel
theorem dX10_ahead_39 : decode cX10_ahead 39 = .ok (.getfield 73, 3) := by decide +kernel
theorem dX10_ahead_42 : decode cX10_ahead 42 = .ok (.aload_n 0, 1) := by decide +kernel
theorem dX10_ahead_43 : decode cX10_ahead 43 = .ok (.getfield 66, 3) := by decide +kernel
theorem dX10_ahead_46 : decode cX10_ahead 46 = .ok (.if_icmp .ge 15, 3) := by decide +kernel
theorem dX10_ahead_49 : decode cX10_ahead 49 = .ok (.aload_n 0, 1) := by decide +kernel
theorem dX10_ahead_50 : decode cX10_ahead 50 = .ok (.getfield 9, 3) := by decide +kernel
theorem dX10_ahead_53 : decode cX10_ahead 53 = .ok (.aload_n 0, 1) := by decide +kernel
theorem dX10_ahead_54 : decode cX10_ahead 54 = .ok (.getfield 73, 3) := by decide +kernel
theorem dX10_ahead_57 : decode cX10_ahead 57 = .ok (.iaload, 1) := by decide +kernel
theorem dX10_ahead_58 : decode cX10_ahead 58 = .ok (.goto 4, 3) := by decide +kernel
theorem dX10_ahead_61 : decode cX10_ahead 61 = .ok (.iconst (-1), 1) := by decide +kernel
theorem dX10_ahead_62 : decode cX10_ahead 62 = .ok (.ireturn, 1) := by decide +kernel
theorem dX10_bad_0 : decode cX10_bad 0 = .ok (.aload_n 0, 1) := by decide +kernel
theorem dX10_bad_1 : decode cX10_bad 1 = .ok (.aload_n 0, 1) := by decide +kernel
theorem dX10_bad_2 : decode cX10_bad 2 = .ok (.getfield 76, 3) := by decide +kernel
theorem dX10_bad_5 : decode cX10_bad 5 = .ok (.iconst (-1), 1) := by decide +kernel
theorem dX10_bad_6 : decode cX10_bad 6 = .ok (.if_icmp .ne 10, 3) := by decide +kernel
theorem dX10_bad_9 : decode cX10_bad 9 = .ok (.aload_n 0, 1) := by decide +kernel
theorem dX10_bad_10 : decode cX10_bad 10 = .ok (.getfield 73, 3) := by decide +kernel
theorem dX10_bad_13 : decode cX10_bad 13 = .ok (.goto 7, 3) := by decide +kernel
theorem dX10_bad_16 : decode cX10_bad 16 = .ok (.aload_n 0, 1) := by decide +kernel
theorem dX10_bad_17 : decode cX10_bad 17 = .ok (.getfield 76, 3) := by decide +kernel
theorem dX10_bad_20 : decode cX10_bad 20 = .ok (.putfield 76, 3) := by decide +kernel
theorem dX10_bad_23 : decode cX10_bad 23 = .ok (.return_, 1) := by decide +kernel
theorem dX10_signOf_0 : decode cX10_signOf 0 = .ok (.iload_n 0, 1) := by decide +kernel
theorem dX10_signOf_1 : decode cX10_signOf 1 = .ok (.bipush 95, 2) := by decide +kernel
theorem dX10_signOf_3 : decode cX10_signOf 3 = .ok (.if_icmp .ne 7, 3) := by decide +kernel
theorem dX10_signOf_6 : decode cX10_signOf 6 = .ok (.iconst 0, 1) := by decide +kernel
theorem dX10_signOf_7 : decode cX10_signOf 7 = .ok (.goto 25, 3) := by decide +kernel
theorem dX10_signOf_10 : decode cX10_signOf 10 = .ok (.iload_n 0, 1) := by decide +kernel
theorem dX10_signOf_11 : decode cX10_signOf 11 = .ok (.bipush 97, 2) := by decide +kernel
theorem dX10_signOf_13 : decode cX10_signOf 13 = .ok (.if_icmp .lt 18, 3) := by decide +kernel
theorem dX10_signOf_16 : decode cX10_signOf 16 = .ok (.iload_n 0, 1) := by decide +kernel
theorem dX10_signOf_17 : decode cX10_signOf 17 = .ok (.bipush 122, 2) := by decide +kernel
theorem dX10_signOf_19 : decode cX10_signOf 19 = .ok (.if_icmp .gt 12, 3) := by decide +kernel
theorem dX10_signOf_22 : decode cX10_signOf 22 = .ok (.iload_n 0, 1) := by decide +kernel
theorem dX10_signOf_23 : decode cX10_signOf 23 = .ok (.bipush 97, 2) := by decide +kernel
theorem dX10_signOf_25 : decode cX10_signOf 25 = .ok (.isub, 1) := by decide +kernel
theorem dX10_signOf_26 : decode cX10_signOf 26 = .ok (.iconst 1, 1) := by decide +kernel
theorem dX10_signOf_27 : decode cX10_signOf 27 = .ok (.iadd, 1) := by decide +kernel
theorem dX10_signOf_28 : decode cX10_signOf 28 = .ok (.goto 4, 3) := by decide +kernel
theorem dX10_signOf_31 : decode cX10_signOf 31 = .ok (.iconst (-1), 1) := by decide +kernel
theorem dX10_signOf_32 : decode cX10_signOf 32 = .ok (.ireturn, 1) := by decide +kernel
theorem dX10_byteBy_0 : decode cX10_byteBy 0 = .ok (.iload_n 0, 1) := by decide +kernel
theorem dX10_byteBy_1 : decode cX10_byteBy 1 = .ok (.ifCond .ne 8, 3) := by decide +kernel
theorem dX10_byteBy_4 : decode cX10_byteBy 4 = .ok (.bipush 95, 2) := by decide +kernel
theorem dX10_byteBy_6 : decode cX10_byteBy 6 = .ok (.goto 9, 3) := by decide +kernel
theorem dX10_byteBy_9 : decode cX10_byteBy 9 = .ok (.bipush 97, 2) := by decide +kernel
theorem dX10_byteBy_11 : decode cX10_byteBy 11 = .ok (.iload_n 0, 1) := by decide +kernel
theorem dX10_byteBy_12 : decode cX10_byteBy 12 = .ok (.iadd, 1) := by decide +kernel
theorem dX10_byteBy_13 : decode cX10_byteBy 13 = .ok (.iconst 1, 1) := by decide +kernel
theorem dX10_byteBy_14 : decode cX10_byteBy 14 = .ok (.isub, 1) := by decide +kernel
theorem dX10_byteBy_15 : decode cX10_byteBy 15 = .ok (.ireturn, 1) := by decide +kernel
theorem dX10_readSigns_0 : decode cX10_readSigns 0 = .ok (.iconst 0, 1) := by decide +kernel
theorem dX10_readSigns_1 : decode cX10_readSigns 1 = .ok (.istore 4, 2) := by decide +kernel
theorem dX10_readSigns_3 : decode cX10_readSigns 3 = .ok (.aload_n 0, 1) := by decide +kernel
theorem dX10_readSigns_4 : decode cX10_readSigns 4 = .ok (.invokevirtual 79, 3) := by decide +kernel
theorem dX10_readSigns_7 : decode cX10_readSigns 7 = .ok (.invokestatic 83, 3) := by decide +kernel
theorem dX10_readSigns_10 : decode cX10_readSigns 10 = .ok (.istore 5, 2) := by decide +kernel
theorem dX10_readSigns_12 : decode cX10_readSigns 12 = .ok (.iload 5, 2) := by decide +kernel
theorem dX10_readSigns_14 : decode cX10_readSigns 14 = .ok (.iconst (-1), 1) := by decide +kernel
theorem dX10_readSigns_15 : decode cX10_readSigns 15 = .ok (.if_icmp .ne 7, 3) := by decide +kernel
theorem dX10_readSigns_18 : decode cX10_readSigns 18 = .ok (.aload_n 0, 1) := by decide +kernel
theorem dX10_readSigns_19 : decode cX10_readSigns 19 = .ok (.invokevirtual 87, 3) := by decide +kernel
theorem dX10_readSigns_22 : decode cX10_readSigns 22 = .ok (.aload_n 0, 1) := by decide +kernel
theorem dX10_readSigns_23 : decode cX10_readSigns 23 = .ok (.getfield 76, 3) := by decide +kernel
theorem dX10_readSigns_26 : decode cX10_readSigns 26 = .ok (.iconst (-1), 1) := by decide +kernel
theorem dX10_readSigns_27 : decode cX10_readSigns 27 = .ok (.if_icmp .ne 55, 3) := by decide +kernel
theorem dX10_readSigns_30 : decode cX10_readSigns 30 = .ok (.iload 5, 2) := by decide +kernel
theorem dX10_readSigns_32 : decode cX10_readSigns 32 = .ok (.iconst (-1), 1) := by decide +kernel
theorem dX10_readSigns_33 : decode cX10_readSigns 33 = .ok (.if_icmp .eq 49, 3) := by decide +kernel
theorem dX10_readSigns_36 : decode cX10_readSigns 36 = .ok (.iload 4, 2) := by decide +kernel
theorem dX10_readSigns_38 : decode cX10_readSigns 38 = .ok (.iload_n 3, 1) := by decide +kernel
theorem dX10_readSigns_39 : decode cX10_readSigns 39 = .ok (.if_icmp .ne 10, 3) := by decide +kernel
theorem dX10_readSigns_42 : decode cX10_readSigns 42 = .ok (.aload_n 0, 1) := by decide +kernel
theorem dX10_readSigns_43 : decode cX10_readSigns 43 = .ok (.invokevirtual 87, 3) := by decide +kernel
theorem dX10_readSigns_46 : decode cX10_readSigns 46 = .ok (.goto (-24), 3) := by decide +kernel
theorem dX10_readSigns_49 : decode cX10_readSigns 49 = .ok (.aload_n 1, 1) := by decide +kernel
theorem dX10_readSigns_50 : decode cX10_readSigns 50 = .ok (.iload_n 2, 1) := by decide +kernel
theorem dX10_readSigns_51 : decode cX10_readSigns 51 = .ok (.iload 4, 2) := by decide +kernel
theorem dX10_readSigns_53 : decode cX10_readSigns 53 = .ok (.iadd, 1) := by decide +kernel
theorem dX10_readSigns_54 : decode cX10_readSigns 54 = .ok (.iload 5, 2) := by decide +kernel
theorem dX10_readSigns_56 : decode cX10_readSigns 56 = .ok (.iastore, 1) := by decide +kernel
theorem dX10_readSigns_57 : decode cX10_readSigns 57 = .ok (.iinc 4 1, 3) := by decide +kernel
theorem dX10_readSigns_60 : decode cX10_readSigns 60 = .ok (.aload_n 0, 1) := by decide +kernel
theorem dX10_readSigns_61 : decode cX10_readSigns 61 = .ok (.dup, 1) := by decide +kernel
theorem dX10_readSigns_62 : decode cX10_readSigns 62 = .ok (.getfield 73, 3) := by decide +kernel
theorem dX10_readSigns_65 : decode cX10_readSigns 65 = .ok (.iconst 1, 1) := by decide +kernel
theorem dX10_readSigns_66 : decode cX10_readSigns 66 = .ok (.iadd, 1) := by decide +kernel
theorem dX10_readSigns_67 : decode cX10_readSigns 67 = .ok (.putfield 73, 3) := by decide +kernel
theorem dX10_readSigns_70 : decode cX10_readSigns 70 = .ok (.aload_n 0, 1) := by decide +kernel
theorem dX10_readSigns_71 : decode cX10_readSigns 71 = .ok (.invokevirtual 79, 3) := by decide +kernel
theorem dX10_readSigns_74 : decode cX10_readSigns 74 = .ok (.invokestatic 83, 3) := by decide +kernel
theorem dX10_readSigns_77 : decode cX10_readSigns 77 = .ok (.istore 5, 2) := by decide +kernel
theorem dX10_readSigns_79 : decode cX10_readSigns 79 = .ok (.goto (-57), 3) := by decide +kernel
theorem dX10_readSigns_82 : decode cX10_readSigns 82 = .ok (.iload 4, 2) := by decide +kernel
theorem dX10_readSigns_84 : decode cX10_readSigns 84 = .ok (.ireturn, 1) := by decide +kernel
theorem dX10_digit_0 : decode cX10_digit 0 = .ok (.aload_n 0, 1) := by decide +kernel
theorem dX10_digit_1 : decode cX10_digit 1 = .ok (.invokevirtual 79, 3) := by decide +kernel
theorem dX10_digit_4 : decode cX10_digit 4 = .ok (.istore_n 1, 1) := by decide +kernel
theorem dX10_digit_5 : decode cX10_digit 5 = .ok (.aload_n 0, 1) := by decide +kernel
theorem dX10_digit_6 : decode cX10_digit 6 = .ok (.getfield 76, 3) := by decide +kernel
theorem dX10_digit_9 : decode cX10_digit 9 = .ok (.iconst (-1), 1) := by decide +kernel
theorem dX10_digit_10 : decode cX10_digit 10 = .ok (.if_icmp .ne 14, 3) := by decide +kernel
theorem dX10_digit_13 : decode cX10_digit 13 = .ok (.iload_n 1, 1) := by decide +kernel
theorem dX10_digit_14 : decode cX10_digit 14 = .ok (.bipush 48, 2) := by decide +kernel
theorem dX10_digit_16 : decode cX10_digit 16 = .ok (.bipush 57, 2) := by decide +kernel
theorem dX10_digit_18 : decode cX10_digit 18 = .ok (.invokestatic 69, 3) := by decide +kernel
theorem dX10_digit_21 : decode cX10_digit 21 = .ok (.ifCond .ne 9, 3) := by decide +kernel
theorem dX10_digit_24 : decode cX10_digit 24 = .ok (.aload_n 0, 1) := by decide +kernel
theorem dX10_digit_25 : decode cX10_digit 25 = .ok (.invokevirtual 87, 3) := by decide +kernel
theorem dX10_digit_28 : decode cX10_digit 28 = .ok (.iconst 0, 1) := by decide +kernel
theorem dX10_digit_29 : decode cX10_digit 29 = .ok (.ireturn, 1) := by decide +kernel
theorem dX10_digit_30 : decode cX10_digit 30 = .ok (.aload_n 0, 1) := by decide +kernel
theorem dX10_digit_31 : decode cX10_digit 31 = .ok (.dup, 1) := by decide +kernel
theorem dX10_digit_32 : decode cX10_digit 32 = .ok (.getfield 73, 3) := by decide +kernel
theorem dX10_digit_35 : decode cX10_digit 35 = .ok (.iconst 1, 1) := by decide +kernel
theorem dX10_digit_36 : decode cX10_digit 36 = .ok (.iadd, 1) := by decide +kernel
theorem dX10_digit_37 : decode cX10_digit 37 = .ok (.putfield 73, 3) := by decide +kernel
theorem dX10_digit_40 : decode cX10_digit 40 = .ok (.iload_n 1, 1) := by decide +kernel
theorem dX10_digit_41 : decode cX10_digit 41 = .ok (.bipush 48, 2) := by decide +kernel
theorem dX10_digit_43 : decode cX10_digit 43 = .ok (.isub, 1) := by decide +kernel
theorem dX10_digit_44 : decode cX10_digit 44 = .ok (.ireturn, 1) := by decide +kernel
theorem dX10_must_0 : decode cX10_must 0 = .ok (.aload_n 0, 1) := by decide +kernel
theorem dX10_must_1 : decode cX10_must 1 = .ok (.getfield 76, 3) := by decide +kernel
theorem dX10_must_4 : decode cX10_must 4 = .ok (.iconst (-1), 1) := by decide +kernel
theorem dX10_must_5 : decode cX10_must 5 = .ok (.if_icmp .ne 24, 3) := by decide +kernel
theorem dX10_must_8 : decode cX10_must 8 = .ok (.aload_n 0, 1) := by decide +kernel
theorem dX10_must_9 : decode cX10_must 9 = .ok (.invokevirtual 79, 3) := by decide +kernel
theorem dX10_must_12 : decode cX10_must 12 = .ok (.iload_n 1, 1) := by decide +kernel
theorem dX10_must_13 : decode cX10_must 13 = .ok (.if_icmp .ne 16, 3) := by decide +kernel
theorem dX10_must_16 : decode cX10_must 16 = .ok (.aload_n 0, 1) := by decide +kernel
theorem dX10_must_17 : decode cX10_must 17 = .ok (.dup, 1) := by decide +kernel
theorem dX10_must_18 : decode cX10_must 18 = .ok (.getfield 73, 3) := by decide +kernel
theorem dX10_must_21 : decode cX10_must 21 = .ok (.iconst 1, 1) := by decide +kernel
theorem dX10_must_22 : decode cX10_must 22 = .ok (.iadd, 1) := by decide +kernel
theorem dX10_must_23 : decode cX10_must 23 = .ok (.putfield 73, 3) := by decide +kernel
theorem dX10_must_26 : decode cX10_must 26 = .ok (.goto 7, 3) := by decide +kernel
theorem dX10_must_29 : decode cX10_must 29 = .ok (.aload_n 0, 1) := by decide +kernel
theorem dX10_must_30 : decode cX10_must 30 = .ok (.invokevirtual 87, 3) := by decide +kernel
theorem dX10_must_33 : decode cX10_must 33 = .ok (.return_, 1) := by decide +kernel
theorem dX10_ends_0 : decode cX10_ends 0 = .ok (.aload_n 0, 1) := by decide +kernel
theorem dX10_ends_1 : decode cX10_ends 1 = .ok (.getfield 76, 3) := by decide +kernel
theorem dX10_ends_4 : decode cX10_ends 4 = .ok (.iconst (-1), 1) := by decide +kernel
theorem dX10_ends_5 : decode cX10_ends 5 = .ok (.if_icmp .ne 15, 3) := by decide +kernel
theorem dX10_ends_8 : decode cX10_ends 8 = .ok (.aload_n 0, 1) := by decide +kernel
theorem dX10_ends_9 : decode cX10_ends 9 = .ok (.invokevirtual 79, 3) := by decide +kernel
theorem dX10_ends_12 : decode cX10_ends 12 = .ok (.iconst (-1), 1) := by decide +kernel
theorem dX10_ends_13 : decode cX10_ends 13 = .ok (.if_icmp .eq 7, 3) := by decide +kernel
theorem dX10_ends_16 : decode cX10_ends 16 = .ok (.aload_n 0, 1) := by decide +kernel
theorem dX10_ends_17 : decode cX10_ends 17 = .ok (.invokevirtual 87, 3) := by decide +kernel
theorem dX10_ends_20 : decode cX10_ends 20 = .ok (.aload_n 0, 1) := by decide +kernel
theorem dX10_ends_21 : decode cX10_ends 21 = .ok (.getfield 76, 3) := by decide +kernel
theorem dX10_ends_24 : decode cX10_ends 24 = .ok (.ireturn, 1) := by decide +kernel
theorem dX10_begins_0 : decode cX10_begins 0 = .ok (.aload_n 0, 1) := by decide +kernel
theorem dX10_begins_1 : decode cX10_begins 1 = .ok (.iconst 0, 1) := by decide +kernel
theorem dX10_begins_2 : decode cX10_begins 2 = .ok (.putfield 73, 3) := by decide +kernel
theorem dX10_begins_5 : decode cX10_begins 5 = .ok (.aload_n 0, 1) := by decide +kernel
theorem dX10_begins_6 : decode cX10_begins 6 = .ok (.iconst (-1), 1) := by decide +kernel
theorem dX10_begins_7 : decode cX10_begins 7 = .ok (.putfield 76, 3) := by decide +kernel
theorem dX10_begins_10 : decode cX10_begins 10 = .ok (.return_, 1) := by decide +kernel
theorem dX10_readStore_0 : decode cX10_readStore 0 = .ok (.aload_n 0, 1) := by decide +kernel
theorem dX10_readStore_1 : decode cX10_readStore 1 = .ok (.invokevirtual 90, 3) := by decide +kernel
theorem dX10_readStore_4 : decode cX10_readStore 4 = .ok (.aload_n 0, 1) := by decide +kernel
theorem dX10_readStore_5 : decode cX10_readStore 5 = .ok (.iconst 0, 1) := by decide +kernel
theorem dX10_readStore_6 : decode cX10_readStore 6 = .ok (.putfield 93, 3) := by decide +kernel
theorem dX10_readStore_9 : decode cX10_readStore 9 = .ok (.iconst 1, 1) := by decide +kernel
theorem dX10_readStore_10 : decode cX10_readStore 10 = .ok (.istore_n 1, 1) := by decide +kernel
theorem dX10_readStore_11 : decode cX10_readStore 11 = .ok (.iload_n 1, 1) := by decide +kernel
theorem dX10_readStore_12 : decode cX10_readStore 12 = .ok (.ifCond .eq 92, 3) := by decide +kernel
theorem dX10_readStore_15 : decode cX10_readStore 15 = .ok (.aload_n 0, 1) := by decide +kernel
theorem dX10_readStore_16 : decode cX10_readStore 16 = .ok (.getfield 13, 3) := by decide +kernel
theorem dX10_readStore_19 : decode cX10_readStore 19 = .ok (.aload_n 0, 1) := by decide +kernel
theorem dX10_readStore_20 : decode cX10_readStore 20 = .ok (.getfield 93, 3) := by decide +kernel
theorem dX10_readStore_23 : decode cX10_readStore 23 = .ok (.aload_n 0, 1) := by decide +kernel
theorem dX10_readStore_24 : decode cX10_readStore 24 = .ok (.aload_n 0, 1) := by decide +kernel
theorem dX10_readStore_25 : decode cX10_readStore 25 = .ok (.getfield 16, 3) := by decide +kernel
theorem dX10_readStore_28 : decode cX10_readStore 28 = .ok (.bipush 20, 2) := by decide +kernel
theorem dX10_readStore_30 : decode cX10_readStore 30 = .ok (.aload_n 0, 1) := by decide +kernel
theorem dX10_readStore_31 : decode cX10_readStore 31 = .ok (.getfield 93, 3) := by decide +kernel
theorem dX10_readStore_34 : decode cX10_readStore 34 = .ok (.imul, 1) := by decide +kernel
theorem dX10_readStore_35 : decode cX10_readStore 35 = .ok (.bipush 20, 2) := by decide +kernel
theorem dX10_readStore_37 : decode cX10_readStore 37 = .ok (.invokevirtual 96, 3) := by decide +kernel
theorem dX10_readStore_40 : decode cX10_readStore 40 = .ok (.iastore, 1) := by decide +kernel
theorem dX10_readStore_41 : decode cX10_readStore 41 = .ok (.aload_n 0, 1) := by decide +kernel
theorem dX10_readStore_42 : decode cX10_readStore 42 = .ok (.dup, 1) := by decide +kernel
theorem dX10_readStore_43 : decode cX10_readStore 43 = .ok (.getfield 93, 3) := by decide +kernel
theorem dX10_readStore_46 : decode cX10_readStore 46 = .ok (.iconst 1, 1) := by decide +kernel
theorem dX10_readStore_47 : decode cX10_readStore 47 = .ok (.iadd, 1) := by decide +kernel
theorem dX10_readStore_48 : decode cX10_readStore 48 = .ok (.putfield 93, 3) := by decide +kernel
theorem dX10_readStore_51 : decode cX10_readStore 51 = .ok (.aload_n 0, 1) := by decide +kernel
theorem dX10_readStore_52 : decode cX10_readStore 52 = .ok (.getfield 76, 3) := by decide +kernel
theorem dX10_readStore_55 : decode cX10_readStore 55 = .ok (.iconst (-1), 1) := by decide +kernel
theorem dX10_readStore_56 : decode cX10_readStore 56 = .ok (.if_icmp .ne 25, 3) := by decide +kernel
theorem dX10_readStore_59 : decode cX10_readStore 59 = .ok (.aload_n 0, 1) := by decide +kernel
theorem dX10_readStore_60 : decode cX10_readStore 60 = .ok (.invokevirtual 79, 3) := by decide +kernel
theorem dX10_readStore_63 : decode cX10_readStore 63 = .ok (.bipush 59, 2) := by decide +kernel
theorem dX10_readStore_65 : decode cX10_readStore 65 = .ok (.if_icmp .ne 16, 3) := by decide +kernel
theorem dX10_readStore_68 : decode cX10_readStore 68 = .ok (.aload_n 0, 1) := by decide +kernel
theorem dX10_readStore_69 : decode cX10_readStore 69 = .ok (.getfield 93, 3) := by decide +kernel
theorem dX10_readStore_72 : decode cX10_readStore 72 = .ok (.bipush 8, 2) := by decide +kernel
theorem dX10_readStore_74 : decode cX10_readStore 74 = .ok (.if_icmp .ge 7, 3) := by decide +kernel
theorem dX10_readStore_77 : decode cX10_readStore 77 = .ok (.iconst 1, 1) := by decide +kernel
theorem dX10_readStore_78 : decode cX10_readStore 78 = .ok (.goto 4, 3) := by decide +kernel
theorem dX10_readStore_81 : decode cX10_readStore 81 = .ok (.iconst 0, 1) := by decide +kernel
theorem dX10_readStore_82 : decode cX10_readStore 82 = .ok (.istore_n 1, 1) := by decide +kernel
theorem dX10_readStore_83 : decode cX10_readStore 83 = .ok (.aload_n 0, 1) := by decide +kernel
theorem dX10_readStore_84 : decode cX10_readStore 84 = .ok (.dup, 1) := by decide +kernel
theorem dX10_readStore_85 : decode cX10_readStore 85 = .ok (.getfield 73, 3) := by decide +kernel
theorem dX10_readStore_88 : decode cX10_readStore 88 = .ok (.iload_n 1, 1) := by decide +kernel
theorem dX10_readStore_89 : decode cX10_readStore 89 = .ok (.ifCond .eq 7, 3) := by decide +kernel
theorem dX10_readStore_92 : decode cX10_readStore 92 = .ok (.iconst 1, 1) := by decide +kernel
theorem dX10_readStore_93 : decode cX10_readStore 93 = .ok (.goto 4, 3) := by decide +kernel
theorem dX10_readStore_96 : decode cX10_readStore 96 = .ok (.iconst 0, 1) := by decide +kernel
theorem dX10_readStore_97 : decode cX10_readStore 97 = .ok (.iadd, 1) := by decide +kernel
theorem dX10_readStore_98 : decode cX10_readStore 98 = .ok (.putfield 73, 3) := by decide +kernel
theorem dX10_readStore_101 : decode cX10_readStore 101 = .ok (.goto (-90), 3) := by decide +kernel
theorem dX10_readStore_104 : decode cX10_readStore 104 = .ok (.aload_n 0, 1) := by decide +kernel
theorem dX10_readStore_105 : decode cX10_readStore 105 = .ok (.invokevirtual 100, 3) := by decide +kernel
theorem dX10_readStore_108 : decode cX10_readStore 108 = .ok (.ireturn, 1) := by decide +kernel
theorem dX10_sortOf_0 : decode cX10_sortOf 0 = .ok (.iload_n 0, 1) := by decide +kernel
theorem dX10_sortOf_1 : decode cX10_sortOf 1 = .ok (.tableswitch 124 98 119 #[118, 111, 107, 124, 124, 124, 124, 105, 121, 124, 124, 124, 124, 124, 113, 124, 103, 109, 124, 124, 124, 115], 103) := by decide +kernel
theorem dX10_sortOf_104 : decode cX10_sortOf 104 = .ok (.iconst 0, 1) := by decide +kernel
theorem dX10_sortOf_105 : decode cX10_sortOf 105 = .ok (.ireturn, 1) := by decide +kernel
theorem dX10_sortOf_106 : decode cX10_sortOf 106 = .ok (.iconst 1, 1) := by decide +kernel
theorem dX10_sortOf_107 : decode cX10_sortOf 107 = .ok (.ireturn, 1) := by decide +kernel
theorem dX10_sortOf_108 : decode cX10_sortOf 108 = .ok (.iconst 2, 1) := by decide +kernel
theorem dX10_sortOf_109 : decode cX10_sortOf 109 = .ok (.ireturn, 1) := by decide +kernel
theorem dX10_sortOf_110 : decode cX10_sortOf 110 = .ok (.iconst 3, 1) := by decide +kernel
theorem dX10_sortOf_111 : decode cX10_sortOf 111 = .ok (.ireturn, 1) := by decide +kernel
theorem dX10_sortOf_112 : decode cX10_sortOf 112 = .ok (.iconst 4, 1) := by decide +kernel
theorem dX10_sortOf_113 : decode cX10_sortOf 113 = .ok (.ireturn, 1) := by decide +kernel
theorem dX10_sortOf_114 : decode cX10_sortOf 114 = .ok (.iconst 5, 1) := by decide +kernel
theorem dX10_sortOf_115 : decode cX10_sortOf 115 = .ok (.ireturn, 1) := by decide +kernel
theorem dX10_sortOf_116 : decode cX10_sortOf 116 = .ok (.bipush 6, 2) := by decide +kernel
theorem dX10_sortOf_118 : decode cX10_sortOf 118 = .ok (.ireturn, 1) := by decide +kernel
theorem dX10_sortOf_119 : decode cX10_sortOf 119 = .ok (.bipush 7, 2) := by decide +kernel
theorem dX10_sortOf_121 : decode cX10_sortOf 121 = .ok (.ireturn, 1) := by decide +kernel
theorem dX10_sortOf_122 : decode cX10_sortOf 122 = .ok (.bipush 8, 2) := by decide +kernel
theorem dX10_sortOf_124 : decode cX10_sortOf 124 = .ok (.ireturn, 1) := by decide +kernel
theorem dX10_sortOf_125 : decode cX10_sortOf 125 = .ok (.iconst (-1), 1) := by decide +kernel
theorem dX10_sortOf_126 : decode cX10_sortOf 126 = .ok (.ireturn, 1) := by decide +kernel
theorem dX10_readStep_0 : decode cX10_readStep 0 = .ok (.aload_n 0, 1) := by decide +kernel
theorem dX10_readStep_1 : decode cX10_readStep 1 = .ok (.invokevirtual 79, 3) := by decide +kernel
theorem dX10_readStep_4 : decode cX10_readStep 4 = .ok (.invokestatic 103, 3) := by decide +kernel
theorem dX10_readStep_7 : decode cX10_readStep 7 = .ok (.istore_n 2, 1) := by decide +kernel
theorem dX10_readStep_8 : decode cX10_readStep 8 = .ok (.iload_n 2, 1) := by decide +kernel
theorem dX10_readStep_9 : decode cX10_readStep 9 = .ok (.iconst (-1), 1) := by decide +kernel
theorem dX10_readStep_10 : decode cX10_readStep 10 = .ok (.if_icmp .ne 8, 3) := by decide +kernel
theorem dX10_readStep_13 : decode cX10_readStep 13 = .ok (.aload_n 0, 1) := by decide +kernel
theorem dX10_readStep_14 : decode cX10_readStep 14 = .ok (.invokevirtual 87, 3) := by decide +kernel
theorem dX10_readStep_17 : decode cX10_readStep 17 = .ok (.return_, 1) := by decide +kernel
theorem dX10_readStep_18 : decode cX10_readStep 18 = .ok (.aload_n 0, 1) := by decide +kernel
theorem dX10_readStep_19 : decode cX10_readStep 19 = .ok (.dup, 1) := by decide +kernel
theorem dX10_readStep_20 : decode cX10_readStep 20 = .ok (.getfield 73, 3) := by decide +kernel
theorem dX10_readStep_23 : decode cX10_readStep 23 = .ok (.iconst 1, 1) := by decide +kernel
theorem dX10_readStep_24 : decode cX10_readStep 24 = .ok (.iadd, 1) := by decide +kernel
theorem dX10_readStep_25 : decode cX10_readStep 25 = .ok (.putfield 73, 3) := by decide +kernel
theorem dX10_readStep_28 : decode cX10_readStep 28 = .ok (.aload_n 0, 1) := by decide +kernel
theorem dX10_readStep_29 : decode cX10_readStep 29 = .ok (.getfield 19, 3) := by decide +kernel
theorem dX10_readStep_32 : decode cX10_readStep 32 = .ok (.iload_n 1, 1) := by decide +kernel
theorem dX10_readStep_33 : decode cX10_readStep 33 = .ok (.iload_n 2, 1) := by decide +kernel
theorem dX10_readStep_34 : decode cX10_readStep 34 = .ok (.iastore, 1) := by decide +kernel
theorem dX10_readStep_35 : decode cX10_readStep 35 = .ok (.aload_n 0, 1) := by decide +kernel
theorem dX10_readStep_36 : decode cX10_readStep 36 = .ok (.getfield 19, 3) := by decide +kernel
theorem dX10_readStep_39 : decode cX10_readStep 39 = .ok (.iload_n 1, 1) := by decide +kernel
theorem dX10_readStep_40 : decode cX10_readStep 40 = .ok (.iconst 1, 1) := by decide +kernel
theorem dX10_readStep_41 : decode cX10_readStep 41 = .ok (.iadd, 1) := by decide +kernel
theorem dX10_readStep_42 : decode cX10_readStep 42 = .ok (.aload_n 0, 1) := by decide +kernel
theorem dX10_readStep_43 : decode cX10_readStep 43 = .ok (.invokevirtual 106, 3) := by decide +kernel
theorem dX10_readStep_46 : decode cX10_readStep 46 = .ok (.iastore, 1) := by decide +kernel
theorem dX10_readStep_47 : decode cX10_readStep 47 = .ok (.aload_n 0, 1) := by decide +kernel
theorem dX10_readStep_48 : decode cX10_readStep 48 = .ok (.getfield 19, 3) := by decide +kernel
theorem dX10_readStep_51 : decode cX10_readStep 51 = .ok (.iload_n 1, 1) := by decide +kernel
theorem dX10_readStep_52 : decode cX10_readStep 52 = .ok (.iconst 1, 1) := by decide +kernel
theorem dX10_readStep_53 : decode cX10_readStep 53 = .ok (.iadd, 1) := by decide +kernel
theorem dX10_readStep_54 : decode cX10_readStep 54 = .ok (.iconst 1, 1) := by decide +kernel
theorem dX10_readStep_55 : decode cX10_readStep 55 = .ok (.iadd, 1) := by decide +kernel
theorem dX10_readStep_56 : decode cX10_readStep 56 = .ok (.ldc 109, 2) := by decide +kernel
theorem dX10_readStep_58 : decode cX10_readStep 58 = .ok (.iastore, 1) := by decide +kernel
theorem dX10_readStep_59 : decode cX10_readStep 59 = .ok (.aload_n 0, 1) := by decide +kernel
theorem dX10_readStep_60 : decode cX10_readStep 60 = .ok (.getfield 19, 3) := by decide +kernel
theorem dX10_readStep_63 : decode cX10_readStep 63 = .ok (.iload_n 1, 1) := by decide +kernel
theorem dX10_readStep_64 : decode cX10_readStep 64 = .ok (.iconst 3, 1) := by decide +kernel
theorem dX10_readStep_65 : decode cX10_readStep 65 = .ok (.iadd, 1) := by decide +kernel
theorem dX10_readStep_66 : decode cX10_readStep 66 = .ok (.iconst 0, 1) := by decide +kernel
theorem dX10_readStep_67 : decode cX10_readStep 67 = .ok (.iastore, 1) := by decide +kernel
theorem dX10_readStep_68 : decode cX10_readStep 68 = .ok (.iload_n 2, 1) := by decide +kernel
theorem dX10_readStep_69 : decode cX10_readStep 69 = .ok (.iconst 3, 1) := by decide +kernel
theorem dX10_readStep_70 : decode cX10_readStep 70 = .ok (.if_icmp .eq 14, 3) := by decide +kernel
theorem dX10_readStep_73 : decode cX10_readStep 73 = .ok (.iload_n 2, 1) := by decide +kernel
theorem dX10_readStep_74 : decode cX10_readStep 74 = .ok (.iconst 4, 1) := by decide +kernel
theorem dX10_readStep_75 : decode cX10_readStep 75 = .ok (.if_icmp .eq 9, 3) := by decide +kernel
theorem dX10_readStep_78 : decode cX10_readStep 78 = .ok (.iload_n 2, 1) := by decide +kernel
theorem dX10_readStep_79 : decode cX10_readStep 79 = .ok (.bipush 7, 2) := by decide +kernel
theorem dX10_readStep_81 : decode cX10_readStep 81 = .ok (.if_icmp .ne 23, 3) := by decide +kernel
theorem dX10_readStep_84 : decode cX10_readStep 84 = .ok (.aload_n 0, 1) := by decide +kernel
theorem dX10_readStep_85 : decode cX10_readStep 85 = .ok (.bipush 44, 2) := by decide +kernel
theorem dX10_readStep_87 : decode cX10_readStep 87 = .ok (.invokevirtual 110, 3) := by decide +kernel
theorem dX10_readStep_90 : decode cX10_readStep 90 = .ok (.aload_n 0, 1) := by decide +kernel
theorem dX10_readStep_91 : decode cX10_readStep 91 = .ok (.getfield 19, 3) := by decide +kernel
theorem dX10_readStep_94 : decode cX10_readStep 94 = .ok (.iload_n 1, 1) := by decide +kernel
theorem dX10_readStep_95 : decode cX10_readStep 95 = .ok (.iconst 1, 1) := by decide +kernel
theorem dX10_readStep_96 : decode cX10_readStep 96 = .ok (.iadd, 1) := by decide +kernel
theorem dX10_readStep_97 : decode cX10_readStep 97 = .ok (.iconst 1, 1) := by decide +kernel
theorem dX10_readStep_98 : decode cX10_readStep 98 = .ok (.iadd, 1) := by decide +kernel
theorem dX10_readStep_99 : decode cX10_readStep 99 = .ok (.aload_n 0, 1) := by decide +kernel
theorem dX10_readStep_100 : decode cX10_readStep 100 = .ok (.invokevirtual 106, 3) := by decide +kernel
theorem dX10_readStep_103 : decode cX10_readStep 103 = .ok (.iastore, 1) := by decide +kernel
theorem dX10_readStep_104 : decode cX10_readStep 104 = .ok (.iload_n 2, 1) := by decide +kernel
theorem dX10_readStep_105 : decode cX10_readStep 105 = .ok (.ifCond .eq 13, 3) := by decide +kernel
theorem dX10_readStep_108 : decode cX10_readStep 108 = .ok (.iload_n 2, 1) := by decide +kernel
theorem dX10_readStep_109 : decode cX10_readStep 109 = .ok (.iconst 1, 1) := by decide +kernel
theorem dX10_readStep_110 : decode cX10_readStep 110 = .ok (.if_icmp .eq 8, 3) := by decide +kernel
theorem dX10_readStep_113 : decode cX10_readStep 113 = .ok (.iload_n 2, 1) := by decide +kernel
theorem dX10_readStep_114 : decode cX10_readStep 114 = .ok (.iconst 4, 1) := by decide +kernel
theorem dX10_readStep_115 : decode cX10_readStep 115 = .ok (.if_icmp .ne 52, 3) := by decide +kernel
theorem dX10_readStep_118 : decode cX10_readStep 118 = .ok (.aload_n 0, 1) := by decide +kernel
theorem dX10_readStep_119 : decode cX10_readStep 119 = .ok (.bipush 58, 2) := by decide +kernel
theorem dX10_readStep_121 : decode cX10_readStep 121 = .ok (.invokevirtual 110, 3) := by decide +kernel
theorem dX10_readStep_124 : decode cX10_readStep 124 = .ok (.aload_n 0, 1) := by decide +kernel
theorem dX10_readStep_125 : decode cX10_readStep 125 = .ok (.getfield 19, 3) := by decide +kernel
theorem dX10_readStep_128 : decode cX10_readStep 128 = .ok (.iload_n 1, 1) := by decide +kernel
theorem dX10_readStep_129 : decode cX10_readStep 129 = .ok (.iconst 3, 1) := by decide +kernel
theorem dX10_readStep_130 : decode cX10_readStep 130 = .ok (.iadd, 1) := by decide +kernel
theorem dX10_readStep_131 : decode cX10_readStep 131 = .ok (.aload_n 0, 1) := by decide +kernel
theorem dX10_readStep_132 : decode cX10_readStep 132 = .ok (.getfield 76, 3) := by decide +kernel
theorem dX10_readStep_135 : decode cX10_readStep 135 = .ok (.iconst (-1), 1) := by decide +kernel
theorem dX10_readStep_136 : decode cX10_readStep 136 = .ok (.if_icmp .ne 29, 3) := by decide +kernel
theorem dX10_readStep_139 : decode cX10_readStep 139 = .ok (.aload_n 0, 1) := by decide +kernel
theorem dX10_readStep_140 : decode cX10_readStep 140 = .ok (.aload_n 0, 1) := by decide +kernel
theorem dX10_readStep_141 : decode cX10_readStep 141 = .ok (.getfield 19, 3) := by decide +kernel
theorem dX10_readStep_144 : decode cX10_readStep 144 = .ok (.iload_n 1, 1) := by decide +kernel
theorem dX10_readStep_145 : decode cX10_readStep 145 = .ok (.iconst 4, 1) := by decide +kernel
theorem dX10_readStep_146 : decode cX10_readStep 146 = .ok (.iadd, 1) := by decide +kernel
theorem dX10_readStep_147 : decode cX10_readStep 147 = .ok (.iload_n 2, 1) := by decide +kernel
theorem dX10_readStep_148 : decode cX10_readStep 148 = .ok (.iconst 4, 1) := by decide +kernel
theorem dX10_readStep_149 : decode cX10_readStep 149 = .ok (.if_icmp .ne 8, 3) := by decide +kernel
theorem dX10_readStep_152 : decode cX10_readStep 152 = .ok (.bipush 6, 2) := by decide +kernel
theorem dX10_readStep_154 : decode cX10_readStep 154 = .ok (.goto 5, 3) := by decide +kernel
theorem dX10_readStep_157 : decode cX10_readStep 157 = .ok (.bipush 20, 2) := by decide +kernel
theorem dX10_readStep_159 : decode cX10_readStep 159 = .ok (.invokevirtual 96, 3) := by decide +kernel
theorem dX10_readStep_162 : decode cX10_readStep 162 = .ok (.goto 4, 3) := by decide +kernel
theorem dX10_readStep_165 : decode cX10_readStep 165 = .ok (.iconst 0, 1) := by decide +kernel
theorem dX10_readStep_166 : decode cX10_readStep 166 = .ok (.iastore, 1) := by decide +kernel
theorem dX10_readStep_167 : decode cX10_readStep 167 = .ok (.return_, 1) := by decide +kernel
theorem dX10_readScript_0 : decode cX10_readScript 0 = .ok (.aload_n 0, 1) := by decide +kernel
theorem dX10_readScript_1 : decode cX10_readScript 1 = .ok (.invokevirtual 90, 3) := by decide +kernel
theorem dX10_readScript_4 : decode cX10_readScript 4 = .ok (.aload_n 0, 1) := by decide +kernel
theorem dX10_readScript_5 : decode cX10_readScript 5 = .ok (.getfield 22, 3) := by decide +kernel
theorem dX10_readScript_8 : decode cX10_readScript 8 = .ok (.iload_n 1, 1) := by decide +kernel
theorem dX10_readScript_9 : decode cX10_readScript 9 = .ok (.iconst 0, 1) := by decide +kernel
theorem dX10_readScript_10 : decode cX10_readScript 10 = .ok (.iastore, 1) := by decide +kernel
theorem dX10_readScript_11 : decode cX10_readScript 11 = .ok (.iconst 1, 1) := by decide +kernel
theorem dX10_readScript_12 : decode cX10_readScript 12 = .ok (.istore_n 2, 1) := by decide +kernel
theorem dX10_readScript_13 : decode cX10_readScript 13 = .ok (.iload_n 2, 1) := by decide +kernel
theorem dX10_readScript_14 : decode cX10_readScript 14 = .ok (.ifCond .eq 86, 3) := by decide +kernel
theorem dX10_readScript_17 : decode cX10_readScript 17 = .ok (.aload_n 0, 1) := by decide +kernel
theorem dX10_readScript_18 : decode cX10_readScript 18 = .ok (.bipush 24, 2) := by decide +kernel
theorem dX10_readScript_20 : decode cX10_readScript 20 = .ok (.bipush 12, 2) := by decide +kernel
theorem dX10_readScript_22 : decode cX10_readScript 22 = .ok (.iload_n 1, 1) := by decide +kernel
theorem dX10_readScript_23 : decode cX10_readScript 23 = .ok (.imul, 1) := by decide +kernel
theorem dX10_readScript_24 : decode cX10_readScript 24 = .ok (.aload_n 0, 1) := by decide +kernel
theorem dX10_readScript_25 : decode cX10_readScript 25 = .ok (.getfield 22, 3) := by decide +kernel
theorem dX10_readScript_28 : decode cX10_readScript 28 = .ok (.iload_n 1, 1) := by decide +kernel
theorem dX10_readScript_29 : decode cX10_readScript 29 = .ok (.iaload, 1) := by decide +kernel
theorem dX10_readScript_30 : decode cX10_readScript 30 = .ok (.iadd, 1) := by decide +kernel
theorem dX10_readScript_31 : decode cX10_readScript 31 = .ok (.imul, 1) := by decide +kernel
theorem dX10_readScript_32 : decode cX10_readScript 32 = .ok (.invokevirtual 114, 3) := by decide +kernel
theorem dX10_readScript_35 : decode cX10_readScript 35 = .ok (.aload_n 0, 1) := by decide +kernel
theorem dX10_readScript_36 : decode cX10_readScript 36 = .ok (.getfield 22, 3) := by decide +kernel
theorem dX10_readScript_39 : decode cX10_readScript 39 = .ok (.iload_n 1, 1) := by decide +kernel
theorem dX10_readScript_40 : decode cX10_readScript 40 = .ok (.dup2, 1) := by decide +kernel
theorem dX10_readScript_41 : decode cX10_readScript 41 = .ok (.iaload, 1) := by decide +kernel
theorem dX10_readScript_42 : decode cX10_readScript 42 = .ok (.iconst 1, 1) := by decide +kernel
theorem dX10_readScript_43 : decode cX10_readScript 43 = .ok (.iadd, 1) := by decide +kernel
theorem dX10_readScript_44 : decode cX10_readScript 44 = .ok (.iastore, 1) := by decide +kernel
theorem dX10_readScript_45 : decode cX10_readScript 45 = .ok (.aload_n 0, 1) := by decide +kernel
theorem dX10_readScript_46 : decode cX10_readScript 46 = .ok (.getfield 76, 3) := by decide +kernel
theorem dX10_readScript_49 : decode cX10_readScript 49 = .ok (.iconst (-1), 1) := by decide +kernel
theorem dX10_readScript_50 : decode cX10_readScript 50 = .ok (.if_icmp .ne 27, 3) := by decide +kernel
theorem dX10_readScript_53 : decode cX10_readScript 53 = .ok (.aload_n 0, 1) := by decide +kernel
theorem dX10_readScript_54 : decode cX10_readScript 54 = .ok (.invokevirtual 79, 3) := by decide +kernel
theorem dX10_readScript_57 : decode cX10_readScript 57 = .ok (.bipush 59, 2) := by decide +kernel
theorem dX10_readScript_59 : decode cX10_readScript 59 = .ok (.if_icmp .ne 18, 3) := by decide +kernel
theorem dX10_readScript_62 : decode cX10_readScript 62 = .ok (.aload_n 0, 1) := by decide +kernel
theorem dX10_readScript_63 : decode cX10_readScript 63 = .ok (.getfield 22, 3) := by decide +kernel
theorem dX10_readScript_66 : decode cX10_readScript 66 = .ok (.iload_n 1, 1) := by decide +kernel
theorem dX10_readScript_67 : decode cX10_readScript 67 = .ok (.iaload, 1) := by decide +kernel
theorem dX10_readScript_68 : decode cX10_readScript 68 = .ok (.bipush 12, 2) := by decide +kernel
theorem dX10_readScript_70 : decode cX10_readScript 70 = .ok (.if_icmp .ge 7, 3) := by decide +kernel
theorem dX10_readScript_73 : decode cX10_readScript 73 = .ok (.iconst 1, 1) := by decide +kernel
theorem dX10_readScript_74 : decode cX10_readScript 74 = .ok (.goto 4, 3) := by decide +kernel
theorem dX10_readScript_77 : decode cX10_readScript 77 = .ok (.iconst 0, 1) := by decide +kernel
theorem dX10_readScript_78 : decode cX10_readScript 78 = .ok (.istore_n 2, 1) := by decide +kernel
theorem dX10_readScript_79 : decode cX10_readScript 79 = .ok (.aload_n 0, 1) := by decide +kernel
theorem dX10_readScript_80 : decode cX10_readScript 80 = .ok (.dup, 1) := by decide +kernel
theorem dX10_readScript_81 : decode cX10_readScript 81 = .ok (.getfield 73, 3) := by decide +kernel
theorem dX10_readScript_84 : decode cX10_readScript 84 = .ok (.iload_n 2, 1) := by decide +kernel
theorem dX10_readScript_85 : decode cX10_readScript 85 = .ok (.ifCond .eq 7, 3) := by decide +kernel
theorem dX10_readScript_88 : decode cX10_readScript 88 = .ok (.iconst 1, 1) := by decide +kernel
theorem dX10_readScript_89 : decode cX10_readScript 89 = .ok (.goto 4, 3) := by decide +kernel
theorem dX10_readScript_92 : decode cX10_readScript 92 = .ok (.iconst 0, 1) := by decide +kernel
theorem dX10_readScript_93 : decode cX10_readScript 93 = .ok (.iadd, 1) := by decide +kernel
theorem dX10_readScript_94 : decode cX10_readScript 94 = .ok (.putfield 73, 3) := by decide +kernel
theorem dX10_readScript_97 : decode cX10_readScript 97 = .ok (.goto (-84), 3) := by decide +kernel
theorem dX10_readScript_100 : decode cX10_readScript 100 = .ok (.aload_n 0, 1) := by decide +kernel
theorem dX10_readScript_101 : decode cX10_readScript 101 = .ok (.invokevirtual 100, 3) := by decide +kernel
theorem dX10_readScript_104 : decode cX10_readScript 104 = .ok (.ireturn, 1) := by decide +kernel
theorem dX10_readAlone_0 : decode cX10_readAlone 0 = .ok (.aload_n 0, 1) := by decide +kernel
theorem dX10_readAlone_1 : decode cX10_readAlone 1 = .ok (.invokevirtual 90, 3) := by decide +kernel
theorem dX10_readAlone_4 : decode cX10_readAlone 4 = .ok (.aload_n 0, 1) := by decide +kernel
theorem dX10_readAlone_5 : decode cX10_readAlone 5 = .ok (.aload_n 0, 1) := by decide +kernel
theorem dX10_readAlone_6 : decode cX10_readAlone 6 = .ok (.aload_n 0, 1) := by decide +kernel
theorem dX10_readAlone_7 : decode cX10_readAlone 7 = .ok (.getfield 25, 3) := by decide +kernel
theorem dX10_readAlone_10 : decode cX10_readAlone 10 = .ok (.iconst 0, 1) := by decide +kernel
theorem dX10_readAlone_11 : decode cX10_readAlone 11 = .ok (.iload_n 1, 1) := by decide +kernel
theorem dX10_readAlone_12 : decode cX10_readAlone 12 = .ok (.invokevirtual 96, 3) := by decide +kernel
theorem dX10_readAlone_15 : decode cX10_readAlone 15 = .ok (.putfield 117, 3) := by decide +kernel
theorem dX10_readAlone_18 : decode cX10_readAlone 18 = .ok (.aload_n 0, 1) := by decide +kernel
theorem dX10_readAlone_19 : decode cX10_readAlone 19 = .ok (.invokevirtual 100, 3) := by decide +kernel
theorem dX10_readAlone_22 : decode cX10_readAlone 22 = .ok (.ireturn, 1) := by decide +kernel
theorem dX10_fault_0 : decode cX10_fault 0 = .ok (.iload_n 1, 1) := by decide +kernel
theorem dX10_fault_1 : decode cX10_fault 1 = .ok (.tableswitch 56 0 3 #[31, 36, 42, 49], 31) := by decide +kernel
theorem dX10_fault_32 : decode cX10_fault 32 = .ok (.aload_n 0, 1) := by decide +kernel
theorem dX10_fault_33 : decode cX10_fault 33 = .ok (.invokevirtual 120, 3) := by decide +kernel
theorem dX10_fault_36 : decode cX10_fault 36 = .ok (.ireturn, 1) := by decide +kernel
theorem dX10_fault_37 : decode cX10_fault 37 = .ok (.aload_n 0, 1) := by decide +kernel
theorem dX10_fault_38 : decode cX10_fault 38 = .ok (.iconst 4, 1) := by decide +kernel
theorem dX10_fault_39 : decode cX10_fault 39 = .ok (.invokevirtual 123, 3) := by decide +kernel
theorem dX10_fault_42 : decode cX10_fault 42 = .ok (.ireturn, 1) := by decide +kernel
theorem dX10_fault_43 : decode cX10_fault 43 = .ok (.aload_n 0, 1) := by decide +kernel
theorem dX10_fault_44 : decode cX10_fault 44 = .ok (.bipush 20, 2) := by decide +kernel
theorem dX10_fault_46 : decode cX10_fault 46 = .ok (.invokevirtual 126, 3) := by decide +kernel
theorem dX10_fault_49 : decode cX10_fault 49 = .ok (.ireturn, 1) := by decide +kernel
theorem dX10_fault_50 : decode cX10_fault 50 = .ok (.aload_n 0, 1) := by decide +kernel
theorem dX10_fault_51 : decode cX10_fault 51 = .ok (.bipush 6, 2) := by decide +kernel
theorem dX10_fault_53 : decode cX10_fault 53 = .ok (.invokevirtual 126, 3) := by decide +kernel
theorem dX10_fault_56 : decode cX10_fault 56 = .ok (.ireturn, 1) := by decide +kernel
theorem dX10_fault_57 : decode cX10_fault 57 = .ok (.bipush (-2), 2) := by decide +kernel
theorem dX10_fault_59 : decode cX10_fault 59 = .ok (.ireturn, 1) := by decide +kernel
theorem dX10_isStore_0 : decode cX10_isStore 0 = .ok (.aload_n 0, 1) := by decide +kernel
theorem dX10_isStore_1 : decode cX10_isStore 1 = .ok (.getfield 28, 3) := by decide +kernel
theorem dX10_isStore_4 : decode cX10_isStore 4 = .ok (.iconst 0, 1) := by decide +kernel
theorem dX10_isStore_5 : decode cX10_isStore 5 = .ok (.iaload, 1) := by decide +kernel
theorem dX10_isStore_6 : decode cX10_isStore 6 = .ok (.ifCond .le 7, 3) := by decide +kernel
theorem dX10_isStore_9 : decode cX10_isStore 9 = .ok (.iconst 1, 1) := by decide +kernel
theorem dX10_isStore_10 : decode cX10_isStore 10 = .ok (.goto 4, 3) := by decide +kernel
theorem dX10_isStore_13 : decode cX10_isStore 13 = .ok (.iconst 0, 1) := by decide +kernel
theorem dX10_isStore_14 : decode cX10_isStore 14 = .ok (.ireturn, 1) := by decide +kernel
theorem dX10_lineAt_0 : decode cX10_lineAt 0 = .ok (.iconst 2, 1) := by decide +kernel
theorem dX10_lineAt_1 : decode cX10_lineAt 1 = .ok (.bipush 22, 2) := by decide +kernel
theorem dX10_lineAt_3 : decode cX10_lineAt 3 = .ok (.iload_n 0, 1) := by decide +kernel
theorem dX10_lineAt_4 : decode cX10_lineAt 4 = .ok (.imul, 1) := by decide +kernel
theorem dX10_lineAt_5 : decode cX10_lineAt 5 = .ok (.iadd, 1) := by decide +kernel
theorem dX10_lineAt_6 : decode cX10_lineAt 6 = .ok (.ireturn, 1) := by decide +kernel
theorem dX10_longOf_0 : decode cX10_longOf 0 = .ok (.aload_n 0, 1) := by decide +kernel
theorem dX10_longOf_1 : decode cX10_longOf 1 = .ok (.getfield 28, 3) := by decide +kernel
theorem dX10_longOf_4 : decode cX10_longOf 4 = .ok (.iload_n 1, 1) := by decide +kernel
theorem dX10_longOf_5 : decode cX10_longOf 5 = .ok (.invokestatic 129, 3) := by decide +kernel
theorem dX10_longOf_8 : decode cX10_longOf 8 = .ok (.iconst 1, 1) := by decide +kernel
theorem dX10_longOf_9 : decode cX10_longOf 9 = .ok (.iadd, 1) := by decide +kernel
theorem dX10_longOf_10 : decode cX10_longOf 10 = .ok (.iaload, 1) := by decide +kernel
theorem dX10_longOf_11 : decode cX10_longOf 11 = .ok (.ireturn, 1) := by decide +kernel
theorem dX10_numberOf_0 : decode cX10_numberOf 0 = .ok (.aload_n 0, 1) := by decide +kernel
theorem dX10_numberOf_1 : decode cX10_numberOf 1 = .ok (.getfield 28, 3) := by decide +kernel
theorem dX10_numberOf_4 : decode cX10_numberOf 4 = .ok (.iload_n 1, 1) := by decide +kernel
theorem dX10_numberOf_5 : decode cX10_numberOf 5 = .ok (.invokestatic 129, 3) := by decide +kernel
theorem dX10_numberOf_8 : decode cX10_numberOf 8 = .ok (.iconst 0, 1) := by decide +kernel
theorem dX10_numberOf_9 : decode cX10_numberOf 9 = .ok (.iadd, 1) := by decide +kernel
theorem dX10_numberOf_10 : decode cX10_numberOf 10 = .ok (.iaload, 1) := by decide +kernel
theorem dX10_numberOf_11 : decode cX10_numberOf 11 = .ok (.ireturn, 1) := by decide +kernel
theorem dX10_signAt_0 : decode cX10_signAt 0 = .ok (.aload_n 0, 1) := by decide +kernel
theorem dX10_signAt_1 : decode cX10_signAt 1 = .ok (.getfield 28, 3) := by decide +kernel
theorem dX10_signAt_4 : decode cX10_signAt 4 = .ok (.iload_n 1, 1) := by decide +kernel
theorem dX10_signAt_5 : decode cX10_signAt 5 = .ok (.invokestatic 129, 3) := by decide +kernel
theorem dX10_signAt_8 : decode cX10_signAt 8 = .ok (.iconst 2, 1) := by decide +kernel
theorem dX10_signAt_9 : decode cX10_signAt 9 = .ok (.iadd, 1) := by decide +kernel
theorem dX10_signAt_10 : decode cX10_signAt 10 = .ok (.iload_n 2, 1) := by decide +kernel
theorem dX10_signAt_11 : decode cX10_signAt 11 = .ok (.iadd, 1) := by decide +kernel
theorem dX10_signAt_12 : decode cX10_signAt 12 = .ok (.iaload, 1) := by decide +kernel
theorem dX10_signAt_13 : decode cX10_signAt 13 = .ok (.ireturn, 1) := by decide +kernel
theorem dX10_isLine_0 : decode cX10_isLine 0 = .ok (.iload_n 1, 1) := by decide +kernel
theorem dX10_isLine_1 : decode cX10_isLine 1 = .ok (.iconst 0, 1) := by decide +kernel
theorem dX10_isLine_2 : decode cX10_isLine 2 = .ok (.aload_n 0, 1) := by decide +kernel
theorem dX10_isLine_3 : decode cX10_isLine 3 = .ok (.getfield 28, 3) := by decide +kernel
theorem dX10_isLine_6 : decode cX10_isLine 6 = .ok (.iconst 0, 1) := by decide +kernel
theorem dX10_isLine_7 : decode cX10_isLine 7 = .ok (.iaload, 1) := by decide +kernel
theorem dX10_isLine_8 : decode cX10_isLine 8 = .ok (.iconst 1, 1) := by decide +kernel
theorem dX10_isLine_9 : decode cX10_isLine 9 = .ok (.isub, 1) := by decide +kernel
theorem dX10_isLine_10 : decode cX10_isLine 10 = .ok (.invokestatic 69, 3) := by decide +kernel
theorem dX10_isLine_13 : decode cX10_isLine 13 = .ok (.ireturn, 1) := by decide +kernel
theorem dX10_isPlace_0 : decode cX10_isPlace 0 = .ok (.aload_n 0, 1) := by decide +kernel
theorem dX10_isPlace_1 : decode cX10_isPlace 1 = .ok (.iload_n 1, 1) := by decide +kernel
theorem dX10_isPlace_2 : decode cX10_isPlace 2 = .ok (.invokevirtual 132, 3) := by decide +kernel
theorem dX10_isPlace_5 : decode cX10_isPlace 5 = .ok (.ifCond .eq 22, 3) := by decide +kernel
theorem dX10_isPlace_8 : decode cX10_isPlace 8 = .ok (.iload_n 2, 1) := by decide +kernel
theorem dX10_isPlace_9 : decode cX10_isPlace 9 = .ok (.iconst 0, 1) := by decide +kernel
theorem dX10_isPlace_10 : decode cX10_isPlace 10 = .ok (.aload_n 0, 1) := by decide +kernel
theorem dX10_isPlace_11 : decode cX10_isPlace 11 = .ok (.iload_n 1, 1) := by decide +kernel
theorem dX10_isPlace_12 : decode cX10_isPlace 12 = .ok (.invokevirtual 136, 3) := by decide +kernel
theorem dX10_isPlace_15 : decode cX10_isPlace 15 = .ok (.iconst 1, 1) := by decide +kernel
theorem dX10_isPlace_16 : decode cX10_isPlace 16 = .ok (.isub, 1) := by decide +kernel
theorem dX10_isPlace_17 : decode cX10_isPlace 17 = .ok (.invokestatic 69, 3) := by decide +kernel
theorem dX10_isPlace_20 : decode cX10_isPlace 20 = .ok (.ifCond .eq 7, 3) := by decide +kernel
theorem dX10_isPlace_23 : decode cX10_isPlace 23 = .ok (.iconst 1, 1) := by decide +kernel
theorem dX10_isPlace_24 : decode cX10_isPlace 24 = .ok (.goto 4, 3) := by decide +kernel
theorem dX10_isPlace_27 : decode cX10_isPlace 27 = .ok (.iconst 0, 1) := by decide +kernel
theorem dX10_isPlace_28 : decode cX10_isPlace 28 = .ok (.ireturn, 1) := by decide +kernel
theorem dX10_cursorAt_0 : decode cX10_cursorAt 0 = .ok (.sipush 222, 3) := by decide +kernel
theorem dX10_cursorAt_3 : decode cX10_cursorAt 3 = .ok (.bipush 73, 2) := by decide +kernel
theorem dX10_cursorAt_5 : decode cX10_cursorAt 5 = .ok (.iload_n 0, 1) := by decide +kernel
theorem dX10_cursorAt_6 : decode cX10_cursorAt 6 = .ok (.imul, 1) := by decide +kernel
theorem dX10_cursorAt_7 : decode cX10_cursorAt 7 = .ok (.iadd, 1) := by decide +kernel
theorem dX10_cursorAt_8 : decode cX10_cursorAt 8 = .ok (.ireturn, 1) := by decide +kernel
theorem dX10_isCursor_0 : decode cX10_isCursor 0 = .ok (.aload_n 0, 1) := by decide +kernel
theorem dX10_isCursor_1 : decode cX10_isCursor 1 = .ok (.invokevirtual 139, 3) := by decide +kernel
theorem dX10_isCursor_4 : decode cX10_isCursor 4 = .ok (.ifCond .eq 30, 3) := by decide +kernel
theorem dX10_isCursor_7 : decode cX10_isCursor 7 = .ok (.iload_n 1, 1) := by decide +kernel
theorem dX10_isCursor_8 : decode cX10_isCursor 8 = .ok (.iconst 0, 1) := by decide +kernel
theorem dX10_isCursor_9 : decode cX10_isCursor 9 = .ok (.iconst 2, 1) := by decide +kernel
theorem dX10_isCursor_10 : decode cX10_isCursor 10 = .ok (.invokestatic 69, 3) := by decide +kernel
theorem dX10_isCursor_13 : decode cX10_isCursor 13 = .ok (.ifCond .eq 21, 3) := by decide +kernel
theorem dX10_isCursor_16 : decode cX10_isCursor 16 = .ok (.aload_n 0, 1) := by decide +kernel
theorem dX10_isCursor_17 : decode cX10_isCursor 17 = .ok (.getfield 28, 3) := by decide +kernel
theorem dX10_isCursor_20 : decode cX10_isCursor 20 = .ok (.iload_n 1, 1) := by decide +kernel
theorem dX10_isCursor_21 : decode cX10_isCursor 21 = .ok (.invokestatic 143, 3) := by decide +kernel
theorem dX10_isCursor_24 : decode cX10_isCursor 24 = .ok (.iconst 0, 1) := by decide +kernel
theorem dX10_isCursor_25 : decode cX10_isCursor 25 = .ok (.iadd, 1) := by decide +kernel
theorem dX10_isCursor_26 : decode cX10_isCursor 26 = .ok (.iaload, 1) := by decide +kernel
theorem dX10_isCursor_27 : decode cX10_isCursor 27 = .ok (.ifCond .le 7, 3) := by decide +kernel
theorem dX10_isCursor_30 : decode cX10_isCursor 30 = .ok (.iconst 1, 1) := by decide +kernel
theorem dX10_isCursor_31 : decode cX10_isCursor 31 = .ok (.goto 4, 3) := by decide +kernel
theorem dX10_isCursor_34 : decode cX10_isCursor 34 = .ok (.iconst 0, 1) := by decide +kernel
theorem dX10_isCursor_35 : decode cX10_isCursor 35 = .ok (.ireturn, 1) := by decide +kernel
theorem dX10_allSigns_0 : decode cX10_allSigns 0 = .ok (.iconst 0, 1) := by decide +kernel
theorem dX10_allSigns_1 : decode cX10_allSigns 1 = .ok (.istore_n 1, 1) := by decide +kernel
theorem dX10_allSigns_2 : decode cX10_allSigns 2 = .ok (.iconst 0, 1) := by decide +kernel
theorem dX10_allSigns_3 : decode cX10_allSigns 3 = .ok (.istore_n 2, 1) := by decide +kernel
theorem dX10_allSigns_4 : decode cX10_allSigns 4 = .ok (.iload_n 2, 1) := by decide +kernel
theorem dX10_allSigns_5 : decode cX10_allSigns 5 = .ok (.aload_n 0, 1) := by decide +kernel
theorem dX10_allSigns_6 : decode cX10_allSigns 6 = .ok (.getfield 28, 3) := by decide +kernel
theorem dX10_allSigns_9 : decode cX10_allSigns 9 = .ok (.iconst 0, 1) := by decide +kernel
theorem dX10_allSigns_10 : decode cX10_allSigns 10 = .ok (.iaload, 1) := by decide +kernel
theorem dX10_allSigns_11 : decode cX10_allSigns 11 = .ok (.if_icmp .ge 17, 3) := by decide +kernel
theorem dX10_allSigns_14 : decode cX10_allSigns 14 = .ok (.iload_n 1, 1) := by decide +kernel
theorem dX10_allSigns_15 : decode cX10_allSigns 15 = .ok (.aload_n 0, 1) := by decide +kernel
theorem dX10_allSigns_16 : decode cX10_allSigns 16 = .ok (.iload_n 2, 1) := by decide +kernel
theorem dX10_allSigns_17 : decode cX10_allSigns 17 = .ok (.invokevirtual 136, 3) := by decide +kernel
theorem dX10_allSigns_20 : decode cX10_allSigns 20 = .ok (.iadd, 1) := by decide +kernel
theorem dX10_allSigns_21 : decode cX10_allSigns 21 = .ok (.istore_n 1, 1) := by decide +kernel
theorem dX10_allSigns_22 : decode cX10_allSigns 22 = .ok (.iinc 2 1, 3) := by decide +kernel
theorem dX10_allSigns_25 : decode cX10_allSigns 25 = .ok (.goto (-21), 3) := by decide +kernel
theorem dX10_allSigns_28 : decode cX10_allSigns 28 = .ok (.iload_n 1, 1) := by decide +kernel
theorem dX10_allSigns_29 : decode cX10_allSigns 29 = .ok (.ireturn, 1) := by decide +kernel
theorem dX10_takeStore_0 : decode cX10_takeStore 0 = .ok (.iconst 0, 1) := by decide +kernel
theorem dX10_takeStore_1 : decode cX10_takeStore 1 = .ok (.istore_n 1, 1) := by decide +kernel
theorem dX10_takeStore_2 : decode cX10_takeStore 2 = .ok (.iload_n 1, 1) := by decide +kernel
theorem dX10_takeStore_3 : decode cX10_takeStore 3 = .ok (.sipush 622, 3) := by decide +kernel
theorem dX10_takeStore_6 : decode cX10_takeStore 6 = .ok (.if_icmp .ge 16, 3) := by decide +kernel
theorem dX10_takeStore_9 : decode cX10_takeStore 9 = .ok (.aload_n 0, 1) := by decide +kernel
theorem dX10_takeStore_10 : decode cX10_takeStore 10 = .ok (.getfield 28, 3) := by decide +kernel
theorem dX10_takeStore_13 : decode cX10_takeStore 13 = .ok (.iload_n 1, 1) := by decide +kernel
theorem dX10_takeStore_14 : decode cX10_takeStore 14 = .ok (.iconst 0, 1) := by decide +kernel
theorem dX10_takeStore_15 : decode cX10_takeStore 15 = .ok (.iastore, 1) := by decide +kernel
theorem dX10_takeStore_16 : decode cX10_takeStore 16 = .ok (.iinc 1 1, 3) := by decide +kernel
theorem dX10_takeStore_19 : decode cX10_takeStore 19 = .ok (.goto (-17), 3) := by decide +kernel
theorem dX10_takeStore_22 : decode cX10_takeStore 22 = .ok (.aload_n 0, 1) := by decide +kernel
theorem dX10_takeStore_23 : decode cX10_takeStore 23 = .ok (.getfield 28, 3) := by decide +kernel
theorem dX10_takeStore_26 : decode cX10_takeStore 26 = .ok (.iconst 0, 1) := by decide +kernel
theorem dX10_takeStore_27 : decode cX10_takeStore 27 = .ok (.aload_n 0, 1) := by decide +kernel
theorem dX10_takeStore_28 : decode cX10_takeStore 28 = .ok (.getfield 93, 3) := by decide +kernel
theorem dX10_takeStore_31 : decode cX10_takeStore 31 = .ok (.iastore, 1) := by decide +kernel
theorem dX10_takeStore_32 : decode cX10_takeStore 32 = .ok (.aload_n 0, 1) := by decide +kernel
theorem dX10_takeStore_33 : decode cX10_takeStore 33 = .ok (.getfield 28, 3) := by decide +kernel
theorem dX10_takeStore_36 : decode cX10_takeStore 36 = .ok (.iconst 1, 1) := by decide +kernel
theorem dX10_takeStore_37 : decode cX10_takeStore 37 = .ok (.aload_n 0, 1) := by decide +kernel
theorem dX10_takeStore_38 : decode cX10_takeStore 38 = .ok (.getfield 93, 3) := by decide +kernel
theorem dX10_takeStore_41 : decode cX10_takeStore 41 = .ok (.iastore, 1) := by decide +kernel
theorem dX10_takeStore_42 : decode cX10_takeStore 42 = .ok (.iconst 0, 1) := by decide +kernel
theorem dX10_takeStore_43 : decode cX10_takeStore 43 = .ok (.istore_n 1, 1) := by decide +kernel
theorem dX10_takeStore_44 : decode cX10_takeStore 44 = .ok (.iload_n 1, 1) := by decide +kernel
theorem dX10_takeStore_45 : decode cX10_takeStore 45 = .ok (.aload_n 0, 1) := by decide +kernel
theorem dX10_takeStore_46 : decode cX10_takeStore 46 = .ok (.getfield 93, 3) := by decide +kernel
theorem dX10_takeStore_49 : decode cX10_takeStore 49 = .ok (.if_icmp .ge 40, 3) := by decide +kernel
theorem dX10_takeStore_52 : decode cX10_takeStore 52 = .ok (.aload_n 0, 1) := by decide +kernel
theorem dX10_takeStore_53 : decode cX10_takeStore 53 = .ok (.getfield 28, 3) := by decide +kernel
theorem dX10_takeStore_56 : decode cX10_takeStore 56 = .ok (.iload_n 1, 1) := by decide +kernel
theorem dX10_takeStore_57 : decode cX10_takeStore 57 = .ok (.invokestatic 129, 3) := by decide +kernel
theorem dX10_takeStore_60 : decode cX10_takeStore 60 = .ok (.iconst 0, 1) := by decide +kernel
theorem dX10_takeStore_61 : decode cX10_takeStore 61 = .ok (.iadd, 1) := by decide +kernel
theorem dX10_takeStore_62 : decode cX10_takeStore 62 = .ok (.iload_n 1, 1) := by decide +kernel
theorem dX10_takeStore_63 : decode cX10_takeStore 63 = .ok (.iastore, 1) := by decide +kernel
theorem dX10_takeStore_64 : decode cX10_takeStore 64 = .ok (.aload_n 0, 1) := by decide +kernel
theorem dX10_takeStore_65 : decode cX10_takeStore 65 = .ok (.iload_n 1, 1) := by decide +kernel
theorem dX10_takeStore_66 : decode cX10_takeStore 66 = .ok (.aload_n 0, 1) := by decide +kernel
theorem dX10_takeStore_67 : decode cX10_takeStore 67 = .ok (.getfield 16, 3) := by decide +kernel
theorem dX10_takeStore_70 : decode cX10_takeStore 70 = .ok (.bipush 20, 2) := by decide +kernel
theorem dX10_takeStore_72 : decode cX10_takeStore 72 = .ok (.iload_n 1, 1) := by decide +kernel
theorem dX10_takeStore_73 : decode cX10_takeStore 73 = .ok (.imul, 1) := by decide +kernel
theorem dX10_takeStore_74 : decode cX10_takeStore 74 = .ok (.aload_n 0, 1) := by decide +kernel
theorem dX10_takeStore_75 : decode cX10_takeStore 75 = .ok (.getfield 13, 3) := by decide +kernel
theorem dX10_takeStore_78 : decode cX10_takeStore 78 = .ok (.iload_n 1, 1) := by decide +kernel
theorem dX10_takeStore_79 : decode cX10_takeStore 79 = .ok (.iaload, 1) := by decide +kernel
theorem dX10_takeStore_80 : decode cX10_takeStore 80 = .ok (.invokevirtual 146, 3) := by decide +kernel
theorem dX10_takeStore_83 : decode cX10_takeStore 83 = .ok (.iinc 1 1, 3) := by decide +kernel
theorem dX10_takeStore_86 : decode cX10_takeStore 86 = .ok (.goto (-42), 3) := by decide +kernel
theorem dX10_takeStore_89 : decode cX10_takeStore 89 = .ok (.aload_n 0, 1) := by decide +kernel
theorem dX10_takeStore_90 : decode cX10_takeStore 90 = .ok (.iconst 0, 1) := by decide +kernel
theorem dX10_takeStore_91 : decode cX10_takeStore 91 = .ok (.putfield 150, 3) := by decide +kernel
theorem dX10_takeStore_94 : decode cX10_takeStore 94 = .ok (.aload_n 0, 1) := by decide +kernel
theorem dX10_takeStore_95 : decode cX10_takeStore 95 = .ok (.iconst 0, 1) := by decide +kernel
theorem dX10_takeStore_96 : decode cX10_takeStore 96 = .ok (.putfield 153, 3) := by decide +kernel
theorem dX10_takeStore_99 : decode cX10_takeStore 99 = .ok (.aload_n 0, 1) := by decide +kernel
theorem dX10_takeStore_100 : decode cX10_takeStore 100 = .ok (.iconst 0, 1) := by decide +kernel
theorem dX10_takeStore_101 : decode cX10_takeStore 101 = .ok (.putfield 156, 3) := by decide +kernel
theorem dX10_takeStore_104 : decode cX10_takeStore 104 = .ok (.aload_n 0, 1) := by decide +kernel
theorem dX10_takeStore_105 : decode cX10_takeStore 105 = .ok (.getfield 93, 3) := by decide +kernel
theorem dX10_takeStore_108 : decode cX10_takeStore 108 = .ok (.ireturn, 1) := by decide +kernel
theorem dX10_laysSigns_0 : decode cX10_laysSigns 0 = .ok (.aload_n 0, 1) := by decide +kernel
theorem dX10_laysSigns_1 : decode cX10_laysSigns 1 = .ok (.getfield 28, 3) := by decide +kernel
theorem dX10_laysSigns_4 : decode cX10_laysSigns 4 = .ok (.iload_n 1, 1) := by decide +kernel
theorem dX10_laysSigns_5 : decode cX10_laysSigns 5 = .ok (.invokestatic 129, 3) := by decide +kernel
theorem dX10_laysSigns_8 : decode cX10_laysSigns 8 = .ok (.iconst 1, 1) := by decide +kernel
theorem dX10_laysSigns_9 : decode cX10_laysSigns 9 = .ok (.iadd, 1) := by decide +kernel
theorem dX10_laysSigns_10 : decode cX10_laysSigns 10 = .ok (.iload 4, 2) := by decide +kernel
theorem dX10_laysSigns_12 : decode cX10_laysSigns 12 = .ok (.iastore, 1) := by decide +kernel
theorem dX10_laysSigns_13 : decode cX10_laysSigns 13 = .ok (.iconst 0, 1) := by decide +kernel
theorem dX10_laysSigns_14 : decode cX10_laysSigns 14 = .ok (.istore 5, 2) := by decide +kernel
theorem dX10_laysSigns_16 : decode cX10_laysSigns 16 = .ok (.iload 5, 2) := by decide +kernel
theorem dX10_laysSigns_18 : decode cX10_laysSigns 18 = .ok (.bipush 20, 2) := by decide +kernel
theorem dX10_laysSigns_20 : decode cX10_laysSigns 20 = .ok (.if_icmp .ge 40, 3) := by decide +kernel
theorem dX10_laysSigns_23 : decode cX10_laysSigns 23 = .ok (.aload_n 0, 1) := by decide +kernel
theorem dX10_laysSigns_24 : decode cX10_laysSigns 24 = .ok (.getfield 28, 3) := by decide +kernel
theorem dX10_laysSigns_27 : decode cX10_laysSigns 27 = .ok (.iload_n 1, 1) := by decide +kernel
theorem dX10_laysSigns_28 : decode cX10_laysSigns 28 = .ok (.invokestatic 129, 3) := by decide +kernel
theorem dX10_laysSigns_31 : decode cX10_laysSigns 31 = .ok (.iconst 2, 1) := by decide +kernel
theorem dX10_laysSigns_32 : decode cX10_laysSigns 32 = .ok (.iadd, 1) := by decide +kernel
theorem dX10_laysSigns_33 : decode cX10_laysSigns 33 = .ok (.iload 5, 2) := by decide +kernel
theorem dX10_laysSigns_35 : decode cX10_laysSigns 35 = .ok (.iadd, 1) := by decide +kernel
theorem dX10_laysSigns_36 : decode cX10_laysSigns 36 = .ok (.iload 5, 2) := by decide +kernel
theorem dX10_laysSigns_38 : decode cX10_laysSigns 38 = .ok (.iload 4, 2) := by decide +kernel
theorem dX10_laysSigns_40 : decode cX10_laysSigns 40 = .ok (.if_icmp .ge 12, 3) := by decide +kernel
theorem dX10_laysSigns_43 : decode cX10_laysSigns 43 = .ok (.aload_n 2, 1) := by decide +kernel
theorem dX10_laysSigns_44 : decode cX10_laysSigns 44 = .ok (.iload_n 3, 1) := by decide +kernel
theorem dX10_laysSigns_45 : decode cX10_laysSigns 45 = .ok (.iload 5, 2) := by decide +kernel
theorem dX10_laysSigns_47 : decode cX10_laysSigns 47 = .ok (.iadd, 1) := by decide +kernel
theorem dX10_laysSigns_48 : decode cX10_laysSigns 48 = .ok (.iaload, 1) := by decide +kernel
theorem dX10_laysSigns_49 : decode cX10_laysSigns 49 = .ok (.goto 4, 3) := by decide +kernel
theorem dX10_laysSigns_52 : decode cX10_laysSigns 52 = .ok (.iconst 0, 1) := by decide +kernel
theorem dX10_laysSigns_53 : decode cX10_laysSigns 53 = .ok (.iastore, 1) := by decide +kernel
theorem dX10_laysSigns_54 : decode cX10_laysSigns 54 = .ok (.iinc 5 1, 3) := by decide +kernel
theorem dX10_laysSigns_57 : decode cX10_laysSigns 57 = .ok (.goto (-41), 3) := by decide +kernel
theorem dX10_laysSigns_60 : decode cX10_laysSigns 60 = .ok (.return_, 1) := by decide +kernel
theorem dX10_text_0 : decode cX10_text 0 = .ok (.iload_n 1, 1) := by decide +kernel
theorem dX10_text_1 : decode cX10_text 1 = .ok (.ifCond .ne 21, 3) := by decide +kernel
theorem dX10_text_4 : decode cX10_text 4 = .ok (.aload_n 0, 1) := by decide +kernel
theorem dX10_text_5 : decode cX10_text 5 = .ok (.invokevirtual 120, 3) := by decide +kernel
theorem dX10_text_8 : decode cX10_text 8 = .ok (.iconst (-1), 1) := by decide +kernel
theorem dX10_text_9 : decode cX10_text 9 = .ok (.if_icmp .ne 13, 3) := by decide +kernel
theorem dX10_text_12 : decode cX10_text 12 = .ok (.aload_n 0, 1) := by decide +kernel
theorem dX10_text_13 : decode cX10_text 13 = .ok (.iconst 0, 1) := by decide +kernel
theorem dX10_text_14 : decode cX10_text 14 = .ok (.putfield 66, 3) := by decide +kernel
theorem dX10_text_17 : decode cX10_text 17 = .ok (.aload_n 0, 1) := by decide +kernel
theorem dX10_text_18 : decode cX10_text 18 = .ok (.invokevirtual 160, 3) := by decide +kernel
theorem dX10_text_21 : decode cX10_text 21 = .ok (.ireturn, 1) := by decide +kernel
theorem dX10_text_22 : decode cX10_text 22 = .ok (.iload_n 1, 1) := by decide +kernel
theorem dX10_text_23 : decode cX10_text 23 = .ok (.iconst 1, 1) := by decide +kernel
theorem dX10_text_24 : decode cX10_text 24 = .ok (.if_icmp .ne 45, 3) := by decide +kernel
theorem dX10_text_27 : decode cX10_text 27 = .ok (.aload_n 0, 1) := by decide +kernel
theorem dX10_text_28 : decode cX10_text 28 = .ok (.getfield 163, 3) := by decide +kernel
theorem dX10_text_31 : decode cX10_text 31 = .ok (.iconst 4, 1) := by decide +kernel
theorem dX10_text_32 : decode cX10_text 32 = .ok (.if_icmp .ge 37, 3) := by decide +kernel
theorem dX10_text_35 : decode cX10_text 35 = .ok (.aload_n 0, 1) := by decide +kernel
theorem dX10_text_36 : decode cX10_text 36 = .ok (.aload_n 0, 1) := by decide +kernel
theorem dX10_text_37 : decode cX10_text 37 = .ok (.getfield 163, 3) := by decide +kernel
theorem dX10_text_40 : decode cX10_text 40 = .ok (.invokevirtual 123, 3) := by decide +kernel
theorem dX10_text_43 : decode cX10_text 43 = .ok (.iconst (-1), 1) := by decide +kernel
theorem dX10_text_44 : decode cX10_text 44 = .ok (.if_icmp .ne 25, 3) := by decide +kernel
theorem dX10_text_47 : decode cX10_text 47 = .ok (.aload_n 0, 1) := by decide +kernel
theorem dX10_text_48 : decode cX10_text 48 = .ok (.iconst 0, 1) := by decide +kernel
theorem dX10_text_49 : decode cX10_text 49 = .ok (.putfield 66, 3) := by decide +kernel
theorem dX10_text_52 : decode cX10_text 52 = .ok (.aload_n 0, 1) := by decide +kernel
theorem dX10_text_53 : decode cX10_text 53 = .ok (.dup, 1) := by decide +kernel
theorem dX10_text_54 : decode cX10_text 54 = .ok (.getfield 163, 3) := by decide +kernel
theorem dX10_text_57 : decode cX10_text 57 = .ok (.iconst 1, 1) := by decide +kernel
theorem dX10_text_58 : decode cX10_text 58 = .ok (.iadd, 1) := by decide +kernel
theorem dX10_text_59 : decode cX10_text 59 = .ok (.putfield 163, 3) := by decide +kernel
theorem dX10_text_62 : decode cX10_text 62 = .ok (.aload_n 0, 1) := by decide +kernel
theorem dX10_text_63 : decode cX10_text 63 = .ok (.getfield 163, 3) := by decide +kernel
theorem dX10_text_66 : decode cX10_text 66 = .ok (.iconst 1, 1) := by decide +kernel
theorem dX10_text_67 : decode cX10_text 67 = .ok (.isub, 1) := by decide +kernel
theorem dX10_text_68 : decode cX10_text 68 = .ok (.ireturn, 1) := by decide +kernel
theorem dX10_text_69 : decode cX10_text 69 = .ok (.iconst (-1), 1) := by decide +kernel
theorem dX10_text_70 : decode cX10_text 70 = .ok (.ireturn, 1) := by decide +kernel
theorem dX10_word_0 : decode cX10_word 0 = .ok (.aload_n 0, 1) := by decide +kernel
theorem dX10_word_1 : decode cX10_word 1 = .ok (.invokevirtual 139, 3) := by decide +kernel
theorem dX10_word_4 : decode cX10_word 4 = .ok (.ifCond .eq 13, 3) := by decide +kernel
theorem dX10_word_7 : decode cX10_word 7 = .ok (.aload_n 0, 1) := by decide +kernel
theorem dX10_word_8 : decode cX10_word 8 = .ok (.bipush 6, 2) := by decide +kernel
theorem dX10_word_10 : decode cX10_word 10 = .ok (.invokevirtual 126, 3) := by decide +kernel
theorem dX10_word_13 : decode cX10_word 13 = .ok (.iconst (-1), 1) := by decide +kernel
theorem dX10_word_14 : decode cX10_word 14 = .ok (.if_icmp .eq 5, 3) := by decide +kernel
theorem dX10_word_17 : decode cX10_word 17 = .ok (.iconst (-1), 1) := by decide +kernel
theorem dX10_word_18 : decode cX10_word 18 = .ok (.ireturn, 1) := by decide +kernel
theorem dX10_word_19 : decode cX10_word 19 = .ok (.aload_n 0, 1) := by decide +kernel
theorem dX10_word_20 : decode cX10_word 20 = .ok (.iconst 0, 1) := by decide +kernel
theorem dX10_word_21 : decode cX10_word 21 = .ok (.putfield 66, 3) := by decide +kernel
theorem dX10_word_24 : decode cX10_word 24 = .ok (.aload_n 0, 1) := by decide +kernel
theorem dX10_word_25 : decode cX10_word 25 = .ok (.aload_n 0, 1) := by decide +kernel
theorem dX10_word_26 : decode cX10_word 26 = .ok (.getfield 117, 3) := by decide +kernel
theorem dX10_word_29 : decode cX10_word 29 = .ok (.putfield 150, 3) := by decide +kernel
theorem dX10_word_32 : decode cX10_word 32 = .ok (.iconst 0, 1) := by decide +kernel
theorem dX10_word_33 : decode cX10_word 33 = .ok (.istore_n 1, 1) := by decide +kernel
theorem dX10_word_34 : decode cX10_word 34 = .ok (.iload_n 1, 1) := by decide +kernel
theorem dX10_word_35 : decode cX10_word 35 = .ok (.bipush 6, 2) := by decide +kernel
theorem dX10_word_37 : decode cX10_word 37 = .ok (.if_icmp .ge 33, 3) := by decide +kernel
theorem dX10_word_40 : decode cX10_word 40 = .ok (.aload_n 0, 1) := by decide +kernel
theorem dX10_word_41 : decode cX10_word 41 = .ok (.getfield 34, 3) := by decide +kernel
theorem dX10_word_44 : decode cX10_word 44 = .ok (.iload_n 1, 1) := by decide +kernel
theorem dX10_word_45 : decode cX10_word 45 = .ok (.iload_n 1, 1) := by decide +kernel
theorem dX10_word_46 : decode cX10_word 46 = .ok (.aload_n 0, 1) := by decide +kernel
theorem dX10_word_47 : decode cX10_word 47 = .ok (.getfield 117, 3) := by decide +kernel
theorem dX10_word_50 : decode cX10_word 50 = .ok (.if_icmp .ge 12, 3) := by decide +kernel
theorem dX10_word_53 : decode cX10_word 53 = .ok (.aload_n 0, 1) := by decide +kernel
theorem dX10_word_54 : decode cX10_word 54 = .ok (.getfield 25, 3) := by decide +kernel
theorem dX10_word_57 : decode cX10_word 57 = .ok (.iload_n 1, 1) := by decide +kernel
theorem dX10_word_58 : decode cX10_word 58 = .ok (.iaload, 1) := by decide +kernel
theorem dX10_word_59 : decode cX10_word 59 = .ok (.goto 4, 3) := by decide +kernel
theorem dX10_word_62 : decode cX10_word 62 = .ok (.iconst 0, 1) := by decide +kernel
theorem dX10_word_63 : decode cX10_word 63 = .ok (.iastore, 1) := by decide +kernel
theorem dX10_word_64 : decode cX10_word 64 = .ok (.iinc 1 1, 3) := by decide +kernel
theorem dX10_word_67 : decode cX10_word 67 = .ok (.goto (-33), 3) := by decide +kernel
theorem dX10_word_70 : decode cX10_word 70 = .ok (.aload_n 0, 1) := by decide +kernel
theorem dX10_word_71 : decode cX10_word 71 = .ok (.aload_n 0, 1) := by decide +kernel
theorem dX10_word_72 : decode cX10_word 72 = .ok (.getfield 34, 3) := by decide +kernel
theorem dX10_word_75 : decode cX10_word 75 = .ok (.iconst 0, 1) := by decide +kernel
theorem dX10_word_76 : decode cX10_word 76 = .ok (.aload_n 0, 1) := by decide +kernel
theorem dX10_word_77 : decode cX10_word 77 = .ok (.getfield 150, 3) := by decide +kernel
theorem dX10_word_80 : decode cX10_word 80 = .ok (.invokevirtual 166, 3) := by decide +kernel
theorem dX10_word_83 : decode cX10_word 83 = .ok (.aload_n 0, 1) := by decide +kernel
theorem dX10_word_84 : decode cX10_word 84 = .ok (.getfield 170, 3) := by decide +kernel
theorem dX10_word_87 : decode cX10_word 87 = .ok (.ireturn, 1) := by decide +kernel
theorem dX10_following_0 : decode cX10_following 0 = .ok (.iload_n 2, 1) := by decide +kernel
theorem dX10_following_1 : decode cX10_following 1 = .ok (.aload_n 0, 1) := by decide +kernel
theorem dX10_following_2 : decode cX10_following 2 = .ok (.getfield 173, 3) := by decide +kernel
theorem dX10_following_5 : decode cX10_following 5 = .ok (.iadd, 1) := by decide +kernel
theorem dX10_following_6 : decode cX10_following 6 = .ok (.iload_n 3, 1) := by decide +kernel
theorem dX10_following_7 : decode cX10_following 7 = .ok (.iadd, 1) := by decide +kernel
theorem dX10_following_8 : decode cX10_following 8 = .ok (.aload_n 0, 1) := by decide +kernel
theorem dX10_following_9 : decode cX10_following 9 = .ok (.iload_n 1, 1) := by decide +kernel
theorem dX10_following_10 : decode cX10_following 10 = .ok (.invokevirtual 136, 3) := by decide +kernel
theorem dX10_following_13 : decode cX10_following 13 = .ok (.if_icmp .ge 19, 3) := by decide +kernel
theorem dX10_following_16 : decode cX10_following 16 = .ok (.aload_n 0, 1) := by decide +kernel
theorem dX10_following_17 : decode cX10_following 17 = .ok (.iload_n 1, 1) := by decide +kernel
theorem dX10_following_18 : decode cX10_following 18 = .ok (.iload_n 2, 1) := by decide +kernel
theorem dX10_following_19 : decode cX10_following 19 = .ok (.aload_n 0, 1) := by decide +kernel
theorem dX10_following_20 : decode cX10_following 20 = .ok (.getfield 173, 3) := by decide +kernel
theorem dX10_following_23 : decode cX10_following 23 = .ok (.iadd, 1) := by decide +kernel
theorem dX10_following_24 : decode cX10_following 24 = .ok (.iload_n 3, 1) := by decide +kernel
theorem dX10_following_25 : decode cX10_following 25 = .ok (.iadd, 1) := by decide +kernel
theorem dX10_following_26 : decode cX10_following 26 = .ok (.invokevirtual 176, 3) := by decide +kernel
theorem dX10_following_29 : decode cX10_following 29 = .ok (.goto 4, 3) := by decide +kernel
theorem dX10_following_32 : decode cX10_following 32 = .ok (.iconst (-1), 1) := by decide +kernel
theorem dX10_following_33 : decode cX10_following 33 = .ok (.ireturn, 1) := by decide +kernel
theorem dX10_before_0 : decode cX10_before 0 = .ok (.iload_n 2, 1) := by decide +kernel
theorem dX10_before_1 : decode cX10_before 1 = .ok (.iconst 1, 1) := by decide +kernel
theorem dX10_before_2 : decode cX10_before 2 = .ok (.isub, 1) := by decide +kernel
theorem dX10_before_3 : decode cX10_before 3 = .ok (.iload_n 3, 1) := by decide +kernel
theorem dX10_before_4 : decode cX10_before 4 = .ok (.isub, 1) := by decide +kernel
theorem dX10_before_5 : decode cX10_before 5 = .ok (.ifCond .lt 16, 3) := by decide +kernel
theorem dX10_before_8 : decode cX10_before 8 = .ok (.aload_n 0, 1) := by decide +kernel
theorem dX10_before_9 : decode cX10_before 9 = .ok (.iload_n 1, 1) := by decide +kernel
theorem dX10_before_10 : decode cX10_before 10 = .ok (.iload_n 2, 1) := by decide +kernel
theorem dX10_before_11 : decode cX10_before 11 = .ok (.iconst 1, 1) := by decide +kernel
theorem dX10_before_12 : decode cX10_before 12 = .ok (.isub, 1) := by decide +kernel
theorem dX10_before_13 : decode cX10_before 13 = .ok (.iload_n 3, 1) := by decide +kernel
theorem dX10_before_14 : decode cX10_before 14 = .ok (.isub, 1) := by decide +kernel
theorem dX10_before_15 : decode cX10_before 15 = .ok (.invokevirtual 176, 3) := by decide +kernel
theorem dX10_before_18 : decode cX10_before 18 = .ok (.goto 4, 3) := by decide +kernel
theorem dX10_before_21 : decode cX10_before 21 = .ok (.iconst (-1), 1) := by decide +kernel
theorem dX10_before_22 : decode cX10_before 22 = .ok (.ireturn, 1) := by decide +kernel
theorem dX10_order_0 : decode cX10_order 0 = .ok (.iload_n 0, 1) := by decide +kernel
theorem dX10_order_1 : decode cX10_order 1 = .ok (.iload_n 1, 1) := by decide +kernel
theorem dX10_order_2 : decode cX10_order 2 = .ok (.if_icmp .ge 7, 3) := by decide +kernel
theorem dX10_order_5 : decode cX10_order 5 = .ok (.iconst (-1), 1) := by decide +kernel
theorem dX10_order_6 : decode cX10_order 6 = .ok (.goto 13, 3) := by decide +kernel
theorem dX10_order_9 : decode cX10_order 9 = .ok (.iload_n 0, 1) := by decide +kernel
theorem dX10_order_10 : decode cX10_order 10 = .ok (.iload_n 1, 1) := by decide +kernel
theorem dX10_order_11 : decode cX10_order 11 = .ok (.if_icmp .le 7, 3) := by decide +kernel
theorem dX10_order_14 : decode cX10_order 14 = .ok (.iconst 1, 1) := by decide +kernel
theorem dX10_order_15 : decode cX10_order 15 = .ok (.goto 4, 3) := by decide +kernel
theorem dX10_order_18 : decode cX10_order 18 = .ok (.iconst 0, 1) := by decide +kernel
theorem dX10_order_19 : decode cX10_order 19 = .ok (.ireturn, 1) := by decide +kernel
theorem dX10_compares_0 : decode cX10_compares 0 = .ok (.iconst 0, 1) := by decide +kernel
theorem dX10_compares_1 : decode cX10_compares 1 = .ok (.istore 5, 2) := by decide +kernel
theorem dX10_compares_3 : decode cX10_compares 3 = .ok (.iconst 0, 1) := by decide +kernel
theorem dX10_compares_4 : decode cX10_compares 4 = .ok (.istore 6, 2) := by decide +kernel
theorem dX10_compares_6 : decode cX10_compares 6 = .ok (.iload 6, 2) := by decide +kernel
theorem dX10_compares_8 : decode cX10_compares 8 = .ok (.bipush 20, 2) := by decide +kernel
theorem dX10_compares_10 : decode cX10_compares 10 = .ok (.if_icmp .gt 36, 3) := by decide +kernel
theorem dX10_compares_13 : decode cX10_compares 13 = .ok (.iload 5, 2) := by decide +kernel
theorem dX10_compares_15 : decode cX10_compares 15 = .ok (.ifCond .ne 31, 3) := by decide +kernel
theorem dX10_compares_18 : decode cX10_compares 18 = .ok (.aload_n 0, 1) := by decide +kernel
theorem dX10_compares_19 : decode cX10_compares 19 = .ok (.iload_n 1, 1) := by decide +kernel
theorem dX10_compares_20 : decode cX10_compares 20 = .ok (.iload_n 2, 1) := by decide +kernel
theorem dX10_compares_21 : decode cX10_compares 21 = .ok (.iload 6, 2) := by decide +kernel
theorem dX10_compares_23 : decode cX10_compares 23 = .ok (.invokevirtual 180, 3) := by decide +kernel
theorem dX10_compares_26 : decode cX10_compares 26 = .ok (.aload_n 0, 1) := by decide +kernel
theorem dX10_compares_27 : decode cX10_compares 27 = .ok (.iload_n 3, 1) := by decide +kernel
theorem dX10_compares_28 : decode cX10_compares 28 = .ok (.iload 4, 2) := by decide +kernel
theorem dX10_compares_30 : decode cX10_compares 30 = .ok (.iload 6, 2) := by decide +kernel
theorem dX10_compares_32 : decode cX10_compares 32 = .ok (.invokevirtual 180, 3) := by decide +kernel
theorem dX10_compares_35 : decode cX10_compares 35 = .ok (.invokestatic 184, 3) := by decide +kernel
theorem dX10_compares_38 : decode cX10_compares 38 = .ok (.istore 5, 2) := by decide +kernel
theorem dX10_compares_40 : decode cX10_compares 40 = .ok (.iinc 6 1, 3) := by decide +kernel
theorem dX10_compares_43 : decode cX10_compares 43 = .ok (.goto (-37), 3) := by decide +kernel
theorem dX10_compares_46 : decode cX10_compares 46 = .ok (.iconst 0, 1) := by decide +kernel
theorem dX10_compares_47 : decode cX10_compares 47 = .ok (.istore 6, 2) := by decide +kernel
theorem dX10_compares_49 : decode cX10_compares 49 = .ok (.iload 6, 2) := by decide +kernel
theorem dX10_compares_51 : decode cX10_compares 51 = .ok (.bipush 20, 2) := by decide +kernel
theorem dX10_compares_53 : decode cX10_compares 53 = .ok (.if_icmp .gt 36, 3) := by decide +kernel
theorem dX10_compares_56 : decode cX10_compares 56 = .ok (.iload 5, 2) := by decide +kernel
theorem dX10_compares_58 : decode cX10_compares 58 = .ok (.ifCond .ne 31, 3) := by decide +kernel
theorem dX10_compares_61 : decode cX10_compares 61 = .ok (.aload_n 0, 1) := by decide +kernel
theorem dX10_compares_62 : decode cX10_compares 62 = .ok (.iload_n 1, 1) := by decide +kernel
theorem dX10_compares_63 : decode cX10_compares 63 = .ok (.iload_n 2, 1) := by decide +kernel
theorem dX10_compares_64 : decode cX10_compares 64 = .ok (.iload 6, 2) := by decide +kernel
theorem dX10_compares_66 : decode cX10_compares 66 = .ok (.invokevirtual 187, 3) := by decide +kernel
theorem dX10_compares_69 : decode cX10_compares 69 = .ok (.aload_n 0, 1) := by decide +kernel
theorem dX10_compares_70 : decode cX10_compares 70 = .ok (.iload_n 3, 1) := by decide +kernel
theorem dX10_compares_71 : decode cX10_compares 71 = .ok (.iload 4, 2) := by decide +kernel
theorem dX10_compares_73 : decode cX10_compares 73 = .ok (.iload 6, 2) := by decide +kernel
theorem dX10_compares_75 : decode cX10_compares 75 = .ok (.invokevirtual 187, 3) := by decide +kernel
theorem dX10_compares_78 : decode cX10_compares 78 = .ok (.invokestatic 184, 3) := by decide +kernel
theorem dX10_compares_81 : decode cX10_compares 81 = .ok (.istore 5, 2) := by decide +kernel
theorem dX10_compares_83 : decode cX10_compares 83 = .ok (.iinc 6 1, 3) := by decide +kernel
theorem dX10_compares_86 : decode cX10_compares 86 = .ok (.goto (-37), 3) := by decide +kernel
theorem dX10_compares_89 : decode cX10_compares 89 = .ok (.iload 5, 2) := by decide +kernel
theorem dX10_compares_91 : decode cX10_compares 91 = .ok (.ifCond .ne 19, 3) := by decide +kernel
theorem dX10_compares_94 : decode cX10_compares 94 = .ok (.aload_n 0, 1) := by decide +kernel
theorem dX10_compares_95 : decode cX10_compares 95 = .ok (.iload_n 1, 1) := by decide +kernel
theorem dX10_compares_96 : decode cX10_compares 96 = .ok (.invokevirtual 190, 3) := by decide +kernel
theorem dX10_compares_99 : decode cX10_compares 99 = .ok (.aload_n 0, 1) := by decide +kernel
theorem dX10_compares_100 : decode cX10_compares 100 = .ok (.iload_n 3, 1) := by decide +kernel
theorem dX10_compares_101 : decode cX10_compares 101 = .ok (.invokevirtual 190, 3) := by decide +kernel
theorem dX10_compares_104 : decode cX10_compares 104 = .ok (.invokestatic 184, 3) := by decide +kernel
theorem dX10_compares_107 : decode cX10_compares 107 = .ok (.goto 5, 3) := by decide +kernel
theorem dX10_compares_110 : decode cX10_compares 110 = .ok (.iload 5, 2) := by decide +kernel
theorem dX10_compares_112 : decode cX10_compares 112 = .ok (.istore 5, 2) := by decide +kernel
theorem dX10_compares_114 : decode cX10_compares 114 = .ok (.iload 5, 2) := by decide +kernel
theorem dX10_compares_116 : decode cX10_compares 116 = .ok (.ifCond .ne 12, 3) := by decide +kernel
theorem dX10_compares_119 : decode cX10_compares 119 = .ok (.iload_n 2, 1) := by decide +kernel
theorem dX10_compares_120 : decode cX10_compares 120 = .ok (.iload 4, 2) := by decide +kernel
theorem dX10_compares_122 : decode cX10_compares 122 = .ok (.invokestatic 184, 3) := by decide +kernel
theorem dX10_compares_125 : decode cX10_compares 125 = .ok (.goto 5, 3) := by decide +kernel
theorem dX10_compares_128 : decode cX10_compares 128 = .ok (.iload 5, 2) := by decide +kernel
theorem dX10_compares_130 : decode cX10_compares 130 = .ok (.ireturn, 1) := by decide +kernel
theorem dX10_takesHit_0 : decode cX10_takesHit 0 = .ok (.aload_n 0, 1) := by decide +kernel
theorem dX10_takesHit_1 : decode cX10_takesHit 1 = .ok (.getfield 170, 3) := by decide +kernel
theorem dX10_takesHit_4 : decode cX10_takesHit 4 = .ok (.istore_n 3, 1) := by decide +kernel
theorem dX10_takesHit_5 : decode cX10_takesHit 5 = .ok (.iload_n 3, 1) := by decide +kernel
theorem dX10_takesHit_6 : decode cX10_takesHit 6 = .ok (.ifCond .le 62, 3) := by decide +kernel
theorem dX10_takesHit_9 : decode cX10_takesHit 9 = .ok (.aload_n 0, 1) := by decide +kernel
theorem dX10_takesHit_10 : decode cX10_takesHit 10 = .ok (.iload_n 1, 1) := by decide +kernel
theorem dX10_takesHit_11 : decode cX10_takesHit 11 = .ok (.iload_n 2, 1) := by decide +kernel
theorem dX10_takesHit_12 : decode cX10_takesHit 12 = .ok (.aload_n 0, 1) := by decide +kernel
theorem dX10_takesHit_13 : decode cX10_takesHit 13 = .ok (.getfield 37, 3) := by decide +kernel
theorem dX10_takesHit_16 : decode cX10_takesHit 16 = .ok (.iload_n 3, 1) := by decide +kernel
theorem dX10_takesHit_17 : decode cX10_takesHit 17 = .ok (.iconst 1, 1) := by decide +kernel
theorem dX10_takesHit_18 : decode cX10_takesHit 18 = .ok (.isub, 1) := by decide +kernel
theorem dX10_takesHit_19 : decode cX10_takesHit 19 = .ok (.iaload, 1) := by decide +kernel
theorem dX10_takesHit_20 : decode cX10_takesHit 20 = .ok (.aload_n 0, 1) := by decide +kernel
theorem dX10_takesHit_21 : decode cX10_takesHit 21 = .ok (.getfield 40, 3) := by decide +kernel
theorem dX10_takesHit_24 : decode cX10_takesHit 24 = .ok (.iload_n 3, 1) := by decide +kernel
theorem dX10_takesHit_25 : decode cX10_takesHit 25 = .ok (.iconst 1, 1) := by decide +kernel
theorem dX10_takesHit_26 : decode cX10_takesHit 26 = .ok (.isub, 1) := by decide +kernel
theorem dX10_takesHit_27 : decode cX10_takesHit 27 = .ok (.iaload, 1) := by decide +kernel
theorem dX10_takesHit_28 : decode cX10_takesHit 28 = .ok (.invokevirtual 193, 3) := by decide +kernel
theorem dX10_takesHit_31 : decode cX10_takesHit 31 = .ok (.ifCond .ge 37, 3) := by decide +kernel
theorem dX10_takesHit_34 : decode cX10_takesHit 34 = .ok (.aload_n 0, 1) := by decide +kernel
theorem dX10_takesHit_35 : decode cX10_takesHit 35 = .ok (.getfield 37, 3) := by decide +kernel
theorem dX10_takesHit_38 : decode cX10_takesHit 38 = .ok (.iload_n 3, 1) := by decide +kernel
theorem dX10_takesHit_39 : decode cX10_takesHit 39 = .ok (.aload_n 0, 1) := by decide +kernel
theorem dX10_takesHit_40 : decode cX10_takesHit 40 = .ok (.getfield 37, 3) := by decide +kernel
theorem dX10_takesHit_43 : decode cX10_takesHit 43 = .ok (.iload_n 3, 1) := by decide +kernel
theorem dX10_takesHit_44 : decode cX10_takesHit 44 = .ok (.iconst 1, 1) := by decide +kernel
theorem dX10_takesHit_45 : decode cX10_takesHit 45 = .ok (.isub, 1) := by decide +kernel
theorem dX10_takesHit_46 : decode cX10_takesHit 46 = .ok (.iaload, 1) := by decide +kernel
theorem dX10_takesHit_47 : decode cX10_takesHit 47 = .ok (.iastore, 1) := by decide +kernel
theorem dX10_takesHit_48 : decode cX10_takesHit 48 = .ok (.aload_n 0, 1) := by decide +kernel
theorem dX10_takesHit_49 : decode cX10_takesHit 49 = .ok (.getfield 40, 3) := by decide +kernel
theorem dX10_takesHit_52 : decode cX10_takesHit 52 = .ok (.iload_n 3, 1) := by decide +kernel
theorem dX10_takesHit_53 : decode cX10_takesHit 53 = .ok (.aload_n 0, 1) := by decide +kernel
theorem dX10_takesHit_54 : decode cX10_takesHit 54 = .ok (.getfield 40, 3) := by decide +kernel
theorem dX10_takesHit_57 : decode cX10_takesHit 57 = .ok (.iload_n 3, 1) := by decide +kernel
theorem dX10_takesHit_58 : decode cX10_takesHit 58 = .ok (.iconst 1, 1) := by decide +kernel
theorem dX10_takesHit_59 : decode cX10_takesHit 59 = .ok (.isub, 1) := by decide +kernel
theorem dX10_takesHit_60 : decode cX10_takesHit 60 = .ok (.iaload, 1) := by decide +kernel
theorem dX10_takesHit_61 : decode cX10_takesHit 61 = .ok (.iastore, 1) := by decide +kernel
theorem dX10_takesHit_62 : decode cX10_takesHit 62 = .ok (.iinc 3 (-1), 3) := by decide +kernel
theorem dX10_takesHit_65 : decode cX10_takesHit 65 = .ok (.goto (-60), 3) := by decide +kernel
theorem dX10_takesHit_68 : decode cX10_takesHit 68 = .ok (.aload_n 0, 1) := by decide +kernel
theorem dX10_takesHit_69 : decode cX10_takesHit 69 = .ok (.getfield 37, 3) := by decide +kernel
theorem dX10_takesHit_72 : decode cX10_takesHit 72 = .ok (.iload_n 3, 1) := by decide +kernel
theorem dX10_takesHit_73 : decode cX10_takesHit 73 = .ok (.iload_n 1, 1) := by decide +kernel
theorem dX10_takesHit_74 : decode cX10_takesHit 74 = .ok (.iastore, 1) := by decide +kernel
theorem dX10_takesHit_75 : decode cX10_takesHit 75 = .ok (.aload_n 0, 1) := by decide +kernel
theorem dX10_takesHit_76 : decode cX10_takesHit 76 = .ok (.getfield 40, 3) := by decide +kernel
theorem dX10_takesHit_79 : decode cX10_takesHit 79 = .ok (.iload_n 3, 1) := by decide +kernel
theorem dX10_takesHit_80 : decode cX10_takesHit 80 = .ok (.iload_n 2, 1) := by decide +kernel
theorem dX10_takesHit_81 : decode cX10_takesHit 81 = .ok (.iastore, 1) := by decide +kernel
theorem dX10_takesHit_82 : decode cX10_takesHit 82 = .ok (.aload_n 0, 1) := by decide +kernel
theorem dX10_takesHit_83 : decode cX10_takesHit 83 = .ok (.dup, 1) := by decide +kernel
theorem dX10_takesHit_84 : decode cX10_takesHit 84 = .ok (.getfield 170, 3) := by decide +kernel
theorem dX10_takesHit_87 : decode cX10_takesHit 87 = .ok (.iconst 1, 1) := by decide +kernel
theorem dX10_takesHit_88 : decode cX10_takesHit 88 = .ok (.iadd, 1) := by decide +kernel
theorem dX10_takesHit_89 : decode cX10_takesHit 89 = .ok (.putfield 170, 3) := by decide +kernel
theorem dX10_takesHit_92 : decode cX10_takesHit 92 = .ok (.return_, 1) := by decide +kernel
theorem dX10_stands_0 : decode cX10_stands 0 = .ok (.iload 5, 2) := by decide +kernel
theorem dX10_stands_2 : decode cX10_stands 2 = .ok (.iload_n 3, 1) := by decide +kernel
theorem dX10_stands_3 : decode cX10_stands 3 = .ok (.iadd, 1) := by decide +kernel
theorem dX10_stands_4 : decode cX10_stands 4 = .ok (.aload_n 0, 1) := by decide +kernel
theorem dX10_stands_5 : decode cX10_stands 5 = .ok (.iload 4, 2) := by decide +kernel
theorem dX10_stands_7 : decode cX10_stands 7 = .ok (.invokevirtual 136, 3) := by decide +kernel
theorem dX10_stands_10 : decode cX10_stands 10 = .ok (.if_icmp .gt 7, 3) := by decide +kernel
theorem dX10_stands_13 : decode cX10_stands 13 = .ok (.iconst 1, 1) := by decide +kernel
theorem dX10_stands_14 : decode cX10_stands 14 = .ok (.goto 4, 3) := by decide +kernel
theorem dX10_stands_17 : decode cX10_stands 17 = .ok (.iconst 0, 1) := by decide +kernel
theorem dX10_stands_18 : decode cX10_stands 18 = .ok (.istore 6, 2) := by decide +kernel
theorem dX10_stands_20 : decode cX10_stands 20 = .ok (.iconst 0, 1) := by decide +kernel
theorem dX10_stands_21 : decode cX10_stands 21 = .ok (.istore 7, 2) := by decide +kernel
theorem dX10_stands_23 : decode cX10_stands 23 = .ok (.iload 7, 2) := by decide +kernel
theorem dX10_stands_25 : decode cX10_stands 25 = .ok (.iload_n 3, 1) := by decide +kernel
theorem dX10_stands_26 : decode cX10_stands 26 = .ok (.if_icmp .ge 41, 3) := by decide +kernel
theorem dX10_stands_29 : decode cX10_stands 29 = .ok (.iload 6, 2) := by decide +kernel
theorem dX10_stands_31 : decode cX10_stands 31 = .ok (.ifCond .eq 36, 3) := by decide +kernel
theorem dX10_stands_34 : decode cX10_stands 34 = .ok (.aload_n 0, 1) := by decide +kernel
theorem dX10_stands_35 : decode cX10_stands 35 = .ok (.iload 4, 2) := by decide +kernel
theorem dX10_stands_37 : decode cX10_stands 37 = .ok (.iload 5, 2) := by decide +kernel
theorem dX10_stands_39 : decode cX10_stands 39 = .ok (.iload 7, 2) := by decide +kernel
theorem dX10_stands_41 : decode cX10_stands 41 = .ok (.iadd, 1) := by decide +kernel
theorem dX10_stands_42 : decode cX10_stands 42 = .ok (.invokevirtual 176, 3) := by decide +kernel
theorem dX10_stands_45 : decode cX10_stands 45 = .ok (.aload_n 1, 1) := by decide +kernel
theorem dX10_stands_46 : decode cX10_stands 46 = .ok (.iload_n 2, 1) := by decide +kernel
theorem dX10_stands_47 : decode cX10_stands 47 = .ok (.iload 7, 2) := by decide +kernel
theorem dX10_stands_49 : decode cX10_stands 49 = .ok (.iadd, 1) := by decide +kernel
theorem dX10_stands_50 : decode cX10_stands 50 = .ok (.iaload, 1) := by decide +kernel
theorem dX10_stands_51 : decode cX10_stands 51 = .ok (.if_icmp .ne 7, 3) := by decide +kernel
theorem dX10_stands_54 : decode cX10_stands 54 = .ok (.iconst 1, 1) := by decide +kernel
theorem dX10_stands_55 : decode cX10_stands 55 = .ok (.goto 4, 3) := by decide +kernel
theorem dX10_stands_58 : decode cX10_stands 58 = .ok (.iconst 0, 1) := by decide +kernel
theorem dX10_stands_59 : decode cX10_stands 59 = .ok (.istore 6, 2) := by decide +kernel
theorem dX10_stands_61 : decode cX10_stands 61 = .ok (.iinc 7 1, 3) := by decide +kernel
theorem dX10_stands_64 : decode cX10_stands 64 = .ok (.goto (-41), 3) := by decide +kernel
theorem dX10_stands_67 : decode cX10_stands 67 = .ok (.iload 6, 2) := by decide +kernel
theorem dX10_stands_69 : decode cX10_stands 69 = .ok (.ireturn, 1) := by decide +kernel
theorem dX10_laysHits_0 : decode cX10_laysHits 0 = .ok (.aload_n 0, 1) := by decide +kernel
theorem dX10_laysHits_1 : decode cX10_laysHits 1 = .ok (.iconst 0, 1) := by decide +kernel
theorem dX10_laysHits_2 : decode cX10_laysHits 2 = .ok (.putfield 170, 3) := by decide +kernel
theorem dX10_laysHits_5 : decode cX10_laysHits 5 = .ok (.aload_n 0, 1) := by decide +kernel
theorem dX10_laysHits_6 : decode cX10_laysHits 6 = .ok (.iload_n 3, 1) := by decide +kernel
theorem dX10_laysHits_7 : decode cX10_laysHits 7 = .ok (.putfield 173, 3) := by decide +kernel
theorem dX10_laysHits_10 : decode cX10_laysHits 10 = .ok (.iconst 0, 1) := by decide +kernel
theorem dX10_laysHits_11 : decode cX10_laysHits 11 = .ok (.istore 4, 2) := by decide +kernel
theorem dX10_laysHits_13 : decode cX10_laysHits 13 = .ok (.iload 4, 2) := by decide +kernel
theorem dX10_laysHits_15 : decode cX10_laysHits 15 = .ok (.aload_n 0, 1) := by decide +kernel
theorem dX10_laysHits_16 : decode cX10_laysHits 16 = .ok (.getfield 28, 3) := by decide +kernel
theorem dX10_laysHits_19 : decode cX10_laysHits 19 = .ok (.iconst 0, 1) := by decide +kernel
theorem dX10_laysHits_20 : decode cX10_laysHits 20 = .ok (.iaload, 1) := by decide +kernel
theorem dX10_laysHits_21 : decode cX10_laysHits 21 = .ok (.if_icmp .ge 51, 3) := by decide +kernel
theorem dX10_laysHits_24 : decode cX10_laysHits 24 = .ok (.iconst 0, 1) := by decide +kernel
theorem dX10_laysHits_25 : decode cX10_laysHits 25 = .ok (.istore 5, 2) := by decide +kernel
theorem dX10_laysHits_27 : decode cX10_laysHits 27 = .ok (.iload 5, 2) := by decide +kernel
theorem dX10_laysHits_29 : decode cX10_laysHits 29 = .ok (.aload_n 0, 1) := by decide +kernel
theorem dX10_laysHits_30 : decode cX10_laysHits 30 = .ok (.iload 4, 2) := by decide +kernel
theorem dX10_laysHits_32 : decode cX10_laysHits 32 = .ok (.invokevirtual 136, 3) := by decide +kernel
theorem dX10_laysHits_35 : decode cX10_laysHits 35 = .ok (.if_icmp .ge 31, 3) := by decide +kernel
theorem dX10_laysHits_38 : decode cX10_laysHits 38 = .ok (.aload_n 0, 1) := by decide +kernel
theorem dX10_laysHits_39 : decode cX10_laysHits 39 = .ok (.aload_n 1, 1) := by decide +kernel
theorem dX10_laysHits_40 : decode cX10_laysHits 40 = .ok (.iload_n 2, 1) := by decide +kernel
theorem dX10_laysHits_41 : decode cX10_laysHits 41 = .ok (.iload_n 3, 1) := by decide +kernel
theorem dX10_laysHits_42 : decode cX10_laysHits 42 = .ok (.iload 4, 2) := by decide +kernel
theorem dX10_laysHits_44 : decode cX10_laysHits 44 = .ok (.iload 5, 2) := by decide +kernel
theorem dX10_laysHits_46 : decode cX10_laysHits 46 = .ok (.invokevirtual 197, 3) := by decide +kernel
theorem dX10_laysHits_49 : decode cX10_laysHits 49 = .ok (.ifCond .eq 11, 3) := by decide +kernel
theorem dX10_laysHits_52 : decode cX10_laysHits 52 = .ok (.aload_n 0, 1) := by decide +kernel
theorem dX10_laysHits_53 : decode cX10_laysHits 53 = .ok (.iload 4, 2) := by decide +kernel
theorem dX10_laysHits_55 : decode cX10_laysHits 55 = .ok (.iload 5, 2) := by decide +kernel
theorem dX10_laysHits_57 : decode cX10_laysHits 57 = .ok (.invokevirtual 201, 3) := by decide +kernel
theorem dX10_laysHits_60 : decode cX10_laysHits 60 = .ok (.iinc 5 1, 3) := by decide +kernel
theorem dX10_laysHits_63 : decode cX10_laysHits 63 = .ok (.goto (-36), 3) := by decide +kernel
theorem dX10_laysHits_66 : decode cX10_laysHits 66 = .ok (.iinc 4 1, 3) := by decide +kernel
theorem dX10_laysHits_69 : decode cX10_laysHits 69 = .ok (.goto (-56), 3) := by decide +kernel
theorem dX10_laysHits_72 : decode cX10_laysHits 72 = .ok (.return_, 1) := by decide +kernel
theorem dX10_countOf_0 : decode cX10_countOf 0 = .ok (.iconst 0, 1) := by decide +kernel
theorem dX10_countOf_1 : decode cX10_countOf 1 = .ok (.istore 4, 2) := by decide +kernel
theorem dX10_countOf_3 : decode cX10_countOf 3 = .ok (.iconst 0, 1) := by decide +kernel
theorem dX10_countOf_4 : decode cX10_countOf 4 = .ok (.istore 5, 2) := by decide +kernel
theorem dX10_countOf_6 : decode cX10_countOf 6 = .ok (.iload 5, 2) := by decide +kernel
theorem dX10_countOf_8 : decode cX10_countOf 8 = .ok (.aload_n 0, 1) := by decide +kernel
theorem dX10_countOf_9 : decode cX10_countOf 9 = .ok (.getfield 28, 3) := by decide +kernel
theorem dX10_countOf_12 : decode cX10_countOf 12 = .ok (.iconst 0, 1) := by decide +kernel
theorem dX10_countOf_13 : decode cX10_countOf 13 = .ok (.iaload, 1) := by decide +kernel
theorem dX10_countOf_14 : decode cX10_countOf 14 = .ok (.if_icmp .ge 53, 3) := by decide +kernel
theorem dX10_countOf_17 : decode cX10_countOf 17 = .ok (.iconst 0, 1) := by decide +kernel
theorem dX10_countOf_18 : decode cX10_countOf 18 = .ok (.istore 6, 2) := by decide +kernel
theorem dX10_countOf_20 : decode cX10_countOf 20 = .ok (.iload 6, 2) := by decide +kernel
theorem dX10_countOf_22 : decode cX10_countOf 22 = .ok (.aload_n 0, 1) := by decide +kernel
theorem dX10_countOf_23 : decode cX10_countOf 23 = .ok (.iload 5, 2) := by decide +kernel
theorem dX10_countOf_25 : decode cX10_countOf 25 = .ok (.invokevirtual 136, 3) := by decide +kernel
theorem dX10_countOf_28 : decode cX10_countOf 28 = .ok (.if_icmp .ge 33, 3) := by decide +kernel
theorem dX10_countOf_31 : decode cX10_countOf 31 = .ok (.iload 4, 2) := by decide +kernel
theorem dX10_countOf_33 : decode cX10_countOf 33 = .ok (.aload_n 0, 1) := by decide +kernel
theorem dX10_countOf_34 : decode cX10_countOf 34 = .ok (.aload_n 1, 1) := by decide +kernel
theorem dX10_countOf_35 : decode cX10_countOf 35 = .ok (.iload_n 2, 1) := by decide +kernel
theorem dX10_countOf_36 : decode cX10_countOf 36 = .ok (.iload_n 3, 1) := by decide +kernel
theorem dX10_countOf_37 : decode cX10_countOf 37 = .ok (.iload 5, 2) := by decide +kernel
theorem dX10_countOf_39 : decode cX10_countOf 39 = .ok (.iload 6, 2) := by decide +kernel
theorem dX10_countOf_41 : decode cX10_countOf 41 = .ok (.invokevirtual 197, 3) := by decide +kernel
theorem dX10_countOf_44 : decode cX10_countOf 44 = .ok (.ifCond .eq 7, 3) := by decide +kernel
theorem dX10_countOf_47 : decode cX10_countOf 47 = .ok (.iconst 1, 1) := by decide +kernel
theorem dX10_countOf_48 : decode cX10_countOf 48 = .ok (.goto 4, 3) := by decide +kernel
theorem dX10_countOf_51 : decode cX10_countOf 51 = .ok (.iconst 0, 1) := by decide +kernel
theorem dX10_countOf_52 : decode cX10_countOf 52 = .ok (.iadd, 1) := by decide +kernel
theorem dX10_countOf_53 : decode cX10_countOf 53 = .ok (.istore 4, 2) := by decide +kernel
theorem dX10_countOf_55 : decode cX10_countOf 55 = .ok (.iinc 6 1, 3) := by decide +kernel
theorem dX10_countOf_58 : decode cX10_countOf 58 = .ok (.goto (-38), 3) := by decide +kernel
theorem dX10_countOf_61 : decode cX10_countOf 61 = .ok (.iinc 5 1, 3) := by decide +kernel
theorem dX10_countOf_64 : decode cX10_countOf 64 = .ok (.goto (-58), 3) := by decide +kernel
theorem dX10_countOf_67 : decode cX10_countOf 67 = .ok (.iload 4, 2) := by decide +kernel
theorem dX10_countOf_69 : decode cX10_countOf 69 = .ok (.ireturn, 1) := by decide +kernel
theorem dX10_laysWord_0 : decode cX10_laysWord 0 = .ok (.aload_n 0, 1) := by decide +kernel
theorem dX10_laysWord_1 : decode cX10_laysWord 1 = .ok (.invokevirtual 139, 3) := by decide +kernel
theorem dX10_laysWord_4 : decode cX10_laysWord 4 = .ok (.ifCond .eq 10, 3) := by decide +kernel
theorem dX10_laysWord_7 : decode cX10_laysWord 7 = .ok (.aload_n 0, 1) := by decide +kernel
theorem dX10_laysWord_8 : decode cX10_laysWord 8 = .ok (.getfield 150, 3) := by decide +kernel
theorem dX10_laysWord_11 : decode cX10_laysWord 11 = .ok (.ifCond .ne 5, 3) := by decide +kernel
theorem dX10_laysWord_14 : decode cX10_laysWord 14 = .ok (.iconst 0, 1) := by decide +kernel
theorem dX10_laysWord_15 : decode cX10_laysWord 15 = .ok (.ireturn, 1) := by decide +kernel
theorem dX10_laysWord_16 : decode cX10_laysWord 16 = .ok (.aload_n 0, 1) := by decide +kernel
theorem dX10_laysWord_17 : decode cX10_laysWord 17 = .ok (.aload_n 0, 1) := by decide +kernel
theorem dX10_laysWord_18 : decode cX10_laysWord 18 = .ok (.getfield 34, 3) := by decide +kernel
theorem dX10_laysWord_21 : decode cX10_laysWord 21 = .ok (.iconst 0, 1) := by decide +kernel
theorem dX10_laysWord_22 : decode cX10_laysWord 22 = .ok (.aload_n 0, 1) := by decide +kernel
theorem dX10_laysWord_23 : decode cX10_laysWord 23 = .ok (.getfield 150, 3) := by decide +kernel
theorem dX10_laysWord_26 : decode cX10_laysWord 26 = .ok (.invokevirtual 166, 3) := by decide +kernel
theorem dX10_laysWord_29 : decode cX10_laysWord 29 = .ok (.iconst 1, 1) := by decide +kernel
theorem dX10_laysWord_30 : decode cX10_laysWord 30 = .ok (.ireturn, 1) := by decide +kernel
theorem dX10_comparesMark_0 : decode cX10_comparesMark 0 = .ok (.iload_n 3, 1) := by decide +kernel
theorem dX10_comparesMark_1 : decode cX10_comparesMark 1 = .ok (.invokestatic 143, 3) := by decide +kernel
theorem dX10_comparesMark_4 : decode cX10_comparesMark 4 = .ok (.istore 4, 2) := by decide +kernel
theorem dX10_comparesMark_6 : decode cX10_comparesMark 6 = .ok (.iconst 0, 1) := by decide +kernel
theorem dX10_comparesMark_7 : decode cX10_comparesMark 7 = .ok (.istore 5, 2) := by decide +kernel
theorem dX10_comparesMark_9 : decode cX10_comparesMark 9 = .ok (.iconst 0, 1) := by decide +kernel
theorem dX10_comparesMark_10 : decode cX10_comparesMark 10 = .ok (.istore 6, 2) := by decide +kernel
theorem dX10_comparesMark_12 : decode cX10_comparesMark 12 = .ok (.iload 6, 2) := by decide +kernel
theorem dX10_comparesMark_14 : decode cX10_comparesMark 14 = .ok (.bipush 20, 2) := by decide +kernel
theorem dX10_comparesMark_16 : decode cX10_comparesMark 16 = .ok (.if_icmp .gt 59, 3) := by decide +kernel
theorem dX10_comparesMark_19 : decode cX10_comparesMark 19 = .ok (.iload 5, 2) := by decide +kernel
theorem dX10_comparesMark_21 : decode cX10_comparesMark 21 = .ok (.ifCond .ne 54, 3) := by decide +kernel
theorem dX10_comparesMark_24 : decode cX10_comparesMark 24 = .ok (.aload_n 0, 1) := by decide +kernel
theorem dX10_comparesMark_25 : decode cX10_comparesMark 25 = .ok (.iload_n 1, 1) := by decide +kernel
theorem dX10_comparesMark_26 : decode cX10_comparesMark 26 = .ok (.iload_n 2, 1) := by decide +kernel
theorem dX10_comparesMark_27 : decode cX10_comparesMark 27 = .ok (.iload 6, 2) := by decide +kernel
theorem dX10_comparesMark_29 : decode cX10_comparesMark 29 = .ok (.invokevirtual 180, 3) := by decide +kernel
theorem dX10_comparesMark_32 : decode cX10_comparesMark 32 = .ok (.iload 6, 2) := by decide +kernel
theorem dX10_comparesMark_34 : decode cX10_comparesMark 34 = .ok (.aload_n 0, 1) := by decide +kernel
theorem dX10_comparesMark_35 : decode cX10_comparesMark 35 = .ok (.getfield 28, 3) := by decide +kernel
theorem dX10_comparesMark_38 : decode cX10_comparesMark 38 = .ok (.iload 4, 2) := by decide +kernel
theorem dX10_comparesMark_40 : decode cX10_comparesMark 40 = .ok (.bipush 11, 2) := by decide +kernel
theorem dX10_comparesMark_42 : decode cX10_comparesMark 42 = .ok (.iadd, 1) := by decide +kernel
theorem dX10_comparesMark_43 : decode cX10_comparesMark 43 = .ok (.iaload, 1) := by decide +kernel
theorem dX10_comparesMark_44 : decode cX10_comparesMark 44 = .ok (.if_icmp .ge 19, 3) := by decide +kernel
theorem dX10_comparesMark_47 : decode cX10_comparesMark 47 = .ok (.aload_n 0, 1) := by decide +kernel
theorem dX10_comparesMark_48 : decode cX10_comparesMark 48 = .ok (.getfield 28, 3) := by decide +kernel
theorem dX10_comparesMark_51 : decode cX10_comparesMark 51 = .ok (.iload 4, 2) := by decide +kernel
theorem dX10_comparesMark_53 : decode cX10_comparesMark 53 = .ok (.bipush 12, 2) := by decide +kernel
theorem dX10_comparesMark_55 : decode cX10_comparesMark 55 = .ok (.iadd, 1) := by decide +kernel
theorem dX10_comparesMark_56 : decode cX10_comparesMark 56 = .ok (.iload 6, 2) := by decide +kernel
theorem dX10_comparesMark_58 : decode cX10_comparesMark 58 = .ok (.iadd, 1) := by decide +kernel
theorem dX10_comparesMark_59 : decode cX10_comparesMark 59 = .ok (.iaload, 1) := by decide +kernel
theorem dX10_comparesMark_60 : decode cX10_comparesMark 60 = .ok (.goto 4, 3) := by decide +kernel
theorem dX10_comparesMark_63 : decode cX10_comparesMark 63 = .ok (.iconst (-1), 1) := by decide +kernel
theorem dX10_comparesMark_64 : decode cX10_comparesMark 64 = .ok (.invokestatic 184, 3) := by decide +kernel
theorem dX10_comparesMark_67 : decode cX10_comparesMark 67 = .ok (.istore 5, 2) := by decide +kernel
theorem dX10_comparesMark_69 : decode cX10_comparesMark 69 = .ok (.iinc 6 1, 3) := by decide +kernel
theorem dX10_comparesMark_72 : decode cX10_comparesMark 72 = .ok (.goto (-60), 3) := by decide +kernel
theorem dX10_comparesMark_75 : decode cX10_comparesMark 75 = .ok (.iconst 0, 1) := by decide +kernel
theorem dX10_comparesMark_76 : decode cX10_comparesMark 76 = .ok (.istore 6, 2) := by decide +kernel
theorem dX10_comparesMark_78 : decode cX10_comparesMark 78 = .ok (.iload 6, 2) := by decide +kernel
theorem dX10_comparesMark_80 : decode cX10_comparesMark 80 = .ok (.bipush 20, 2) := by decide +kernel
theorem dX10_comparesMark_82 : decode cX10_comparesMark 82 = .ok (.if_icmp .gt 59, 3) := by decide +kernel
theorem dX10_comparesMark_85 : decode cX10_comparesMark 85 = .ok (.iload 5, 2) := by decide +kernel
theorem dX10_comparesMark_87 : decode cX10_comparesMark 87 = .ok (.ifCond .ne 54, 3) := by decide +kernel
theorem dX10_comparesMark_90 : decode cX10_comparesMark 90 = .ok (.aload_n 0, 1) := by decide +kernel
theorem dX10_comparesMark_91 : decode cX10_comparesMark 91 = .ok (.iload_n 1, 1) := by decide +kernel
theorem dX10_comparesMark_92 : decode cX10_comparesMark 92 = .ok (.iload_n 2, 1) := by decide +kernel
theorem dX10_comparesMark_93 : decode cX10_comparesMark 93 = .ok (.iload 6, 2) := by decide +kernel
theorem dX10_comparesMark_95 : decode cX10_comparesMark 95 = .ok (.invokevirtual 187, 3) := by decide +kernel
theorem dX10_comparesMark_98 : decode cX10_comparesMark 98 = .ok (.iload 6, 2) := by decide +kernel
theorem dX10_comparesMark_100 : decode cX10_comparesMark 100 = .ok (.aload_n 0, 1) := by decide +kernel
theorem dX10_comparesMark_101 : decode cX10_comparesMark 101 = .ok (.getfield 28, 3) := by decide +kernel
theorem dX10_comparesMark_104 : decode cX10_comparesMark 104 = .ok (.iload 4, 2) := by decide +kernel
theorem dX10_comparesMark_106 : decode cX10_comparesMark 106 = .ok (.bipush 32, 2) := by decide +kernel
theorem dX10_comparesMark_108 : decode cX10_comparesMark 108 = .ok (.iadd, 1) := by decide +kernel
theorem dX10_comparesMark_109 : decode cX10_comparesMark 109 = .ok (.iaload, 1) := by decide +kernel
theorem dX10_comparesMark_110 : decode cX10_comparesMark 110 = .ok (.if_icmp .ge 19, 3) := by decide +kernel
theorem dX10_comparesMark_113 : decode cX10_comparesMark 113 = .ok (.aload_n 0, 1) := by decide +kernel
theorem dX10_comparesMark_114 : decode cX10_comparesMark 114 = .ok (.getfield 28, 3) := by decide +kernel
theorem dX10_comparesMark_117 : decode cX10_comparesMark 117 = .ok (.iload 4, 2) := by decide +kernel
theorem dX10_comparesMark_119 : decode cX10_comparesMark 119 = .ok (.bipush 33, 2) := by decide +kernel
theorem dX10_comparesMark_121 : decode cX10_comparesMark 121 = .ok (.iadd, 1) := by decide +kernel
theorem dX10_comparesMark_122 : decode cX10_comparesMark 122 = .ok (.iload 6, 2) := by decide +kernel
theorem dX10_comparesMark_124 : decode cX10_comparesMark 124 = .ok (.iadd, 1) := by decide +kernel
theorem dX10_comparesMark_125 : decode cX10_comparesMark 125 = .ok (.iaload, 1) := by decide +kernel
theorem dX10_comparesMark_126 : decode cX10_comparesMark 126 = .ok (.goto 4, 3) := by decide +kernel
theorem dX10_comparesMark_129 : decode cX10_comparesMark 129 = .ok (.iconst (-1), 1) := by decide +kernel
theorem dX10_comparesMark_130 : decode cX10_comparesMark 130 = .ok (.invokestatic 184, 3) := by decide +kernel
theorem dX10_comparesMark_133 : decode cX10_comparesMark 133 = .ok (.istore 5, 2) := by decide +kernel
theorem dX10_comparesMark_135 : decode cX10_comparesMark 135 = .ok (.iinc 6 1, 3) := by decide +kernel
theorem dX10_comparesMark_138 : decode cX10_comparesMark 138 = .ok (.goto (-60), 3) := by decide +kernel
theorem dX10_comparesMark_141 : decode cX10_comparesMark 141 = .ok (.iload 5, 2) := by decide +kernel
theorem dX10_comparesMark_143 : decode cX10_comparesMark 143 = .ok (.ifCond .ne 24, 3) := by decide +kernel
theorem dX10_comparesMark_146 : decode cX10_comparesMark 146 = .ok (.aload_n 0, 1) := by decide +kernel
theorem dX10_comparesMark_147 : decode cX10_comparesMark 147 = .ok (.iload_n 1, 1) := by decide +kernel
theorem dX10_comparesMark_148 : decode cX10_comparesMark 148 = .ok (.invokevirtual 190, 3) := by decide +kernel
theorem dX10_comparesMark_151 : decode cX10_comparesMark 151 = .ok (.aload_n 0, 1) := by decide +kernel
theorem dX10_comparesMark_152 : decode cX10_comparesMark 152 = .ok (.getfield 28, 3) := by decide +kernel
theorem dX10_comparesMark_155 : decode cX10_comparesMark 155 = .ok (.iload 4, 2) := by decide +kernel
theorem dX10_comparesMark_157 : decode cX10_comparesMark 157 = .ok (.bipush 9, 2) := by decide +kernel
theorem dX10_comparesMark_159 : decode cX10_comparesMark 159 = .ok (.iadd, 1) := by decide +kernel
theorem dX10_comparesMark_160 : decode cX10_comparesMark 160 = .ok (.iaload, 1) := by decide +kernel
theorem dX10_comparesMark_161 : decode cX10_comparesMark 161 = .ok (.invokestatic 184, 3) := by decide +kernel
theorem dX10_comparesMark_164 : decode cX10_comparesMark 164 = .ok (.goto 5, 3) := by decide +kernel
theorem dX10_comparesMark_167 : decode cX10_comparesMark 167 = .ok (.iload 5, 2) := by decide +kernel
theorem dX10_comparesMark_169 : decode cX10_comparesMark 169 = .ok (.istore 5, 2) := by decide +kernel
theorem dX10_comparesMark_171 : decode cX10_comparesMark 171 = .ok (.iload 5, 2) := by decide +kernel
theorem dX10_comparesMark_173 : decode cX10_comparesMark 173 = .ok (.ifCond .ne 20, 3) := by decide +kernel
theorem dX10_comparesMark_176 : decode cX10_comparesMark 176 = .ok (.iload_n 2, 1) := by decide +kernel
theorem dX10_comparesMark_177 : decode cX10_comparesMark 177 = .ok (.aload_n 0, 1) := by decide +kernel
theorem dX10_comparesMark_178 : decode cX10_comparesMark 178 = .ok (.getfield 28, 3) := by decide +kernel
theorem dX10_comparesMark_181 : decode cX10_comparesMark 181 = .ok (.iload 4, 2) := by decide +kernel
theorem dX10_comparesMark_183 : decode cX10_comparesMark 183 = .ok (.bipush 10, 2) := by decide +kernel
theorem dX10_comparesMark_185 : decode cX10_comparesMark 185 = .ok (.iadd, 1) := by decide +kernel
theorem dX10_comparesMark_186 : decode cX10_comparesMark 186 = .ok (.iaload, 1) := by decide +kernel
theorem dX10_comparesMark_187 : decode cX10_comparesMark 187 = .ok (.invokestatic 184, 3) := by decide +kernel
theorem dX10_comparesMark_190 : decode cX10_comparesMark 190 = .ok (.goto 5, 3) := by decide +kernel
theorem dX10_comparesMark_193 : decode cX10_comparesMark 193 = .ok (.iload 5, 2) := by decide +kernel
theorem dX10_comparesMark_195 : decode cX10_comparesMark 195 = .ok (.ireturn, 1) := by decide +kernel
theorem dX10_firstLeft_0 : decode cX10_firstLeft 0 = .ok (.iload_n 1, 1) := by decide +kernel
theorem dX10_firstLeft_1 : decode cX10_firstLeft 1 = .ok (.invokestatic 143, 3) := by decide +kernel
theorem dX10_firstLeft_4 : decode cX10_firstLeft 4 = .ok (.istore_n 2, 1) := by decide +kernel
theorem dX10_firstLeft_5 : decode cX10_firstLeft 5 = .ok (.aload_n 0, 1) := by decide +kernel
theorem dX10_firstLeft_6 : decode cX10_firstLeft 6 = .ok (.aload_n 0, 1) := by decide +kernel
theorem dX10_firstLeft_7 : decode cX10_firstLeft 7 = .ok (.getfield 28, 3) := by decide +kernel
theorem dX10_firstLeft_10 : decode cX10_firstLeft 10 = .ok (.iload_n 2, 1) := by decide +kernel
theorem dX10_firstLeft_11 : decode cX10_firstLeft 11 = .ok (.iconst 1, 1) := by decide +kernel
theorem dX10_firstLeft_12 : decode cX10_firstLeft 12 = .ok (.iadd, 1) := by decide +kernel
theorem dX10_firstLeft_13 : decode cX10_firstLeft 13 = .ok (.aload_n 0, 1) := by decide +kernel
theorem dX10_firstLeft_14 : decode cX10_firstLeft 14 = .ok (.getfield 28, 3) := by decide +kernel
theorem dX10_firstLeft_17 : decode cX10_firstLeft 17 = .ok (.iload_n 2, 1) := by decide +kernel
theorem dX10_firstLeft_18 : decode cX10_firstLeft 18 = .ok (.iconst 0, 1) := by decide +kernel
theorem dX10_firstLeft_19 : decode cX10_firstLeft 19 = .ok (.iadd, 1) := by decide +kernel
theorem dX10_firstLeft_20 : decode cX10_firstLeft 20 = .ok (.iaload, 1) := by decide +kernel
theorem dX10_firstLeft_21 : decode cX10_firstLeft 21 = .ok (.invokevirtual 166, 3) := by decide +kernel
theorem dX10_firstLeft_24 : decode cX10_firstLeft 24 = .ok (.iconst 0, 1) := by decide +kernel
theorem dX10_firstLeft_25 : decode cX10_firstLeft 25 = .ok (.istore_n 3, 1) := by decide +kernel
theorem dX10_firstLeft_26 : decode cX10_firstLeft 26 = .ok (.aload_n 0, 1) := by decide +kernel
theorem dX10_firstLeft_27 : decode cX10_firstLeft 27 = .ok (.getfield 28, 3) := by decide +kernel
theorem dX10_firstLeft_30 : decode cX10_firstLeft 30 = .ok (.iload_n 2, 1) := by decide +kernel
theorem dX10_firstLeft_31 : decode cX10_firstLeft 31 = .ok (.bipush 8, 2) := by decide +kernel
theorem dX10_firstLeft_33 : decode cX10_firstLeft 33 = .ok (.iadd, 1) := by decide +kernel
theorem dX10_firstLeft_34 : decode cX10_firstLeft 34 = .ok (.iaload, 1) := by decide +kernel
theorem dX10_firstLeft_35 : decode cX10_firstLeft 35 = .ok (.iconst 1, 1) := by decide +kernel
theorem dX10_firstLeft_36 : decode cX10_firstLeft 36 = .ok (.if_icmp .ne 37, 3) := by decide +kernel
theorem dX10_firstLeft_39 : decode cX10_firstLeft 39 = .ok (.iload_n 3, 1) := by decide +kernel
theorem dX10_firstLeft_40 : decode cX10_firstLeft 40 = .ok (.aload_n 0, 1) := by decide +kernel
theorem dX10_firstLeft_41 : decode cX10_firstLeft 41 = .ok (.getfield 170, 3) := by decide +kernel
theorem dX10_firstLeft_44 : decode cX10_firstLeft 44 = .ok (.if_icmp .ge 29, 3) := by decide +kernel
theorem dX10_firstLeft_47 : decode cX10_firstLeft 47 = .ok (.aload_n 0, 1) := by decide +kernel
theorem dX10_firstLeft_48 : decode cX10_firstLeft 48 = .ok (.aload_n 0, 1) := by decide +kernel
theorem dX10_firstLeft_49 : decode cX10_firstLeft 49 = .ok (.getfield 37, 3) := by decide +kernel
theorem dX10_firstLeft_52 : decode cX10_firstLeft 52 = .ok (.iload_n 3, 1) := by decide +kernel
theorem dX10_firstLeft_53 : decode cX10_firstLeft 53 = .ok (.iaload, 1) := by decide +kernel
theorem dX10_firstLeft_54 : decode cX10_firstLeft 54 = .ok (.aload_n 0, 1) := by decide +kernel
theorem dX10_firstLeft_55 : decode cX10_firstLeft 55 = .ok (.getfield 40, 3) := by decide +kernel
theorem dX10_firstLeft_58 : decode cX10_firstLeft 58 = .ok (.iload_n 3, 1) := by decide +kernel
theorem dX10_firstLeft_59 : decode cX10_firstLeft 59 = .ok (.iaload, 1) := by decide +kernel
theorem dX10_firstLeft_60 : decode cX10_firstLeft 60 = .ok (.iload_n 1, 1) := by decide +kernel
theorem dX10_firstLeft_61 : decode cX10_firstLeft 61 = .ok (.invokevirtual 205, 3) := by decide +kernel
theorem dX10_firstLeft_64 : decode cX10_firstLeft 64 = .ok (.ifCond .gt 9, 3) := by decide +kernel
theorem dX10_firstLeft_67 : decode cX10_firstLeft 67 = .ok (.iinc 3 1, 3) := by decide +kernel
theorem dX10_firstLeft_70 : decode cX10_firstLeft 70 = .ok (.goto (-44), 3) := by decide +kernel
theorem dX10_firstLeft_73 : decode cX10_firstLeft 73 = .ok (.iload_n 3, 1) := by decide +kernel
theorem dX10_firstLeft_74 : decode cX10_firstLeft 74 = .ok (.ireturn, 1) := by decide +kernel
theorem dX10_leftOf_0 : decode cX10_leftOf 0 = .ok (.aload_n 0, 1) := by decide +kernel
theorem dX10_leftOf_1 : decode cX10_leftOf 1 = .ok (.iload_n 1, 1) := by decide +kernel
theorem dX10_leftOf_2 : decode cX10_leftOf 2 = .ok (.invokevirtual 208, 3) := by decide +kernel
theorem dX10_leftOf_5 : decode cX10_leftOf 5 = .ok (.istore_n 2, 1) := by decide +kernel
theorem dX10_leftOf_6 : decode cX10_leftOf 6 = .ok (.aload_n 0, 1) := by decide +kernel
theorem dX10_leftOf_7 : decode cX10_leftOf 7 = .ok (.getfield 170, 3) := by decide +kernel
theorem dX10_leftOf_10 : decode cX10_leftOf 10 = .ok (.iload_n 2, 1) := by decide +kernel
theorem dX10_leftOf_11 : decode cX10_leftOf 11 = .ok (.isub, 1) := by decide +kernel
theorem dX10_leftOf_12 : decode cX10_leftOf 12 = .ok (.ireturn, 1) := by decide +kernel
theorem dX10_marks_0 : decode cX10_marks 0 = .ok (.iload_n 1, 1) := by decide +kernel
theorem dX10_marks_1 : decode cX10_marks 1 = .ok (.invokestatic 143, 3) := by decide +kernel
theorem dX10_marks_4 : decode cX10_marks 4 = .ok (.istore 4, 2) := by decide +kernel
theorem dX10_marks_6 : decode cX10_marks 6 = .ok (.aload_n 0, 1) := by decide +kernel
theorem dX10_marks_7 : decode cX10_marks 7 = .ok (.getfield 28, 3) := by decide +kernel
theorem dX10_marks_10 : decode cX10_marks 10 = .ok (.iload 4, 2) := by decide +kernel
theorem dX10_marks_12 : decode cX10_marks 12 = .ok (.bipush 8, 2) := by decide +kernel
theorem dX10_marks_14 : decode cX10_marks 14 = .ok (.iadd, 1) := by decide +kernel
theorem dX10_marks_15 : decode cX10_marks 15 = .ok (.iconst 1, 1) := by decide +kernel
theorem dX10_marks_16 : decode cX10_marks 16 = .ok (.iastore, 1) := by decide +kernel
theorem dX10_marks_17 : decode cX10_marks 17 = .ok (.aload_n 0, 1) := by decide +kernel
theorem dX10_marks_18 : decode cX10_marks 18 = .ok (.getfield 28, 3) := by decide +kernel
theorem dX10_marks_21 : decode cX10_marks 21 = .ok (.iload 4, 2) := by decide +kernel
theorem dX10_marks_23 : decode cX10_marks 23 = .ok (.bipush 9, 2) := by decide +kernel
theorem dX10_marks_25 : decode cX10_marks 25 = .ok (.iadd, 1) := by decide +kernel
theorem dX10_marks_26 : decode cX10_marks 26 = .ok (.aload_n 0, 1) := by decide +kernel
theorem dX10_marks_27 : decode cX10_marks 27 = .ok (.iload_n 2, 1) := by decide +kernel
theorem dX10_marks_28 : decode cX10_marks 28 = .ok (.invokevirtual 190, 3) := by decide +kernel
theorem dX10_marks_31 : decode cX10_marks 31 = .ok (.iastore, 1) := by decide +kernel
theorem dX10_marks_32 : decode cX10_marks 32 = .ok (.aload_n 0, 1) := by decide +kernel
theorem dX10_marks_33 : decode cX10_marks 33 = .ok (.getfield 28, 3) := by decide +kernel
theorem dX10_marks_36 : decode cX10_marks 36 = .ok (.iload 4, 2) := by decide +kernel
theorem dX10_marks_38 : decode cX10_marks 38 = .ok (.bipush 10, 2) := by decide +kernel
theorem dX10_marks_40 : decode cX10_marks 40 = .ok (.iadd, 1) := by decide +kernel
theorem dX10_marks_41 : decode cX10_marks 41 = .ok (.iload_n 3, 1) := by decide +kernel
theorem dX10_marks_42 : decode cX10_marks 42 = .ok (.iastore, 1) := by decide +kernel
theorem dX10_marks_43 : decode cX10_marks 43 = .ok (.aload_n 0, 1) := by decide +kernel
theorem dX10_marks_44 : decode cX10_marks 44 = .ok (.getfield 28, 3) := by decide +kernel
theorem dX10_marks_47 : decode cX10_marks 47 = .ok (.iload 4, 2) := by decide +kernel
theorem dX10_marks_49 : decode cX10_marks 49 = .ok (.bipush 11, 2) := by decide +kernel
theorem dX10_marks_51 : decode cX10_marks 51 = .ok (.iadd, 1) := by decide +kernel
theorem dX10_marks_52 : decode cX10_marks 52 = .ok (.aload_n 0, 1) := by decide +kernel
theorem dX10_marks_53 : decode cX10_marks 53 = .ok (.iload_n 2, 1) := by decide +kernel
theorem dX10_marks_54 : decode cX10_marks 54 = .ok (.invokevirtual 136, 3) := by decide +kernel
theorem dX10_marks_57 : decode cX10_marks 57 = .ok (.iload_n 3, 1) := by decide +kernel
theorem dX10_marks_58 : decode cX10_marks 58 = .ok (.isub, 1) := by decide +kernel
theorem dX10_marks_59 : decode cX10_marks 59 = .ok (.aload_n 0, 1) := by decide +kernel
theorem dX10_marks_60 : decode cX10_marks 60 = .ok (.getfield 173, 3) := by decide +kernel
theorem dX10_marks_63 : decode cX10_marks 63 = .ok (.isub, 1) := by decide +kernel
theorem dX10_marks_64 : decode cX10_marks 64 = .ok (.iastore, 1) := by decide +kernel
theorem dX10_marks_65 : decode cX10_marks 65 = .ok (.aload_n 0, 1) := by decide +kernel
theorem dX10_marks_66 : decode cX10_marks 66 = .ok (.getfield 28, 3) := by decide +kernel
theorem dX10_marks_69 : decode cX10_marks 69 = .ok (.iload 4, 2) := by decide +kernel
theorem dX10_marks_71 : decode cX10_marks 71 = .ok (.bipush 32, 2) := by decide +kernel
theorem dX10_marks_73 : decode cX10_marks 73 = .ok (.iadd, 1) := by decide +kernel
theorem dX10_marks_74 : decode cX10_marks 74 = .ok (.iload_n 3, 1) := by decide +kernel
theorem dX10_marks_75 : decode cX10_marks 75 = .ok (.iastore, 1) := by decide +kernel
theorem dX10_marks_76 : decode cX10_marks 76 = .ok (.iconst 0, 1) := by decide +kernel
theorem dX10_marks_77 : decode cX10_marks 77 = .ok (.istore 5, 2) := by decide +kernel
theorem dX10_marks_79 : decode cX10_marks 79 = .ok (.iload 5, 2) := by decide +kernel
theorem dX10_marks_81 : decode cX10_marks 81 = .ok (.bipush 20, 2) := by decide +kernel
theorem dX10_marks_83 : decode cX10_marks 83 = .ok (.if_icmp .ge 59, 3) := by decide +kernel
theorem dX10_marks_86 : decode cX10_marks 86 = .ok (.aload_n 0, 1) := by decide +kernel
theorem dX10_marks_87 : decode cX10_marks 87 = .ok (.getfield 28, 3) := by decide +kernel
theorem dX10_marks_90 : decode cX10_marks 90 = .ok (.iload 4, 2) := by decide +kernel
theorem dX10_marks_92 : decode cX10_marks 92 = .ok (.bipush 12, 2) := by decide +kernel
theorem dX10_marks_94 : decode cX10_marks 94 = .ok (.iadd, 1) := by decide +kernel
theorem dX10_marks_95 : decode cX10_marks 95 = .ok (.iload 5, 2) := by decide +kernel
theorem dX10_marks_97 : decode cX10_marks 97 = .ok (.iadd, 1) := by decide +kernel
theorem dX10_marks_98 : decode cX10_marks 98 = .ok (.iconst 0, 1) := by decide +kernel
theorem dX10_marks_99 : decode cX10_marks 99 = .ok (.aload_n 0, 1) := by decide +kernel
theorem dX10_marks_100 : decode cX10_marks 100 = .ok (.iload_n 2, 1) := by decide +kernel
theorem dX10_marks_101 : decode cX10_marks 101 = .ok (.iload_n 3, 1) := by decide +kernel
theorem dX10_marks_102 : decode cX10_marks 102 = .ok (.iload 5, 2) := by decide +kernel
theorem dX10_marks_104 : decode cX10_marks 104 = .ok (.invokevirtual 180, 3) := by decide +kernel
theorem dX10_marks_107 : decode cX10_marks 107 = .ok (.invokestatic 211, 3) := by decide +kernel
theorem dX10_marks_110 : decode cX10_marks 110 = .ok (.iastore, 1) := by decide +kernel
theorem dX10_marks_111 : decode cX10_marks 111 = .ok (.aload_n 0, 1) := by decide +kernel
theorem dX10_marks_112 : decode cX10_marks 112 = .ok (.getfield 28, 3) := by decide +kernel
theorem dX10_marks_115 : decode cX10_marks 115 = .ok (.iload 4, 2) := by decide +kernel
theorem dX10_marks_117 : decode cX10_marks 117 = .ok (.bipush 33, 2) := by decide +kernel
theorem dX10_marks_119 : decode cX10_marks 119 = .ok (.iadd, 1) := by decide +kernel
theorem dX10_marks_120 : decode cX10_marks 120 = .ok (.iload 5, 2) := by decide +kernel
theorem dX10_marks_122 : decode cX10_marks 122 = .ok (.iadd, 1) := by decide +kernel
theorem dX10_marks_123 : decode cX10_marks 123 = .ok (.iconst 0, 1) := by decide +kernel
theorem dX10_marks_124 : decode cX10_marks 124 = .ok (.aload_n 0, 1) := by decide +kernel
theorem dX10_marks_125 : decode cX10_marks 125 = .ok (.iload_n 2, 1) := by decide +kernel
theorem dX10_marks_126 : decode cX10_marks 126 = .ok (.iload_n 3, 1) := by decide +kernel
theorem dX10_marks_127 : decode cX10_marks 127 = .ok (.iload 5, 2) := by decide +kernel
theorem dX10_marks_129 : decode cX10_marks 129 = .ok (.invokevirtual 187, 3) := by decide +kernel
theorem dX10_marks_132 : decode cX10_marks 132 = .ok (.invokestatic 211, 3) := by decide +kernel
theorem dX10_marks_135 : decode cX10_marks 135 = .ok (.iastore, 1) := by decide +kernel
theorem dX10_marks_136 : decode cX10_marks 136 = .ok (.iinc 5 1, 3) := by decide +kernel
theorem dX10_marks_139 : decode cX10_marks 139 = .ok (.goto (-60), 3) := by decide +kernel
theorem dX10_marks_142 : decode cX10_marks 142 = .ok (.return_, 1) := by decide +kernel
theorem dX10_pagesNow_0 : decode cX10_pagesNow 0 = .ok (.iload_n 1, 1) := by decide +kernel
theorem dX10_pagesNow_1 : decode cX10_pagesNow 1 = .ok (.invokestatic 143, 3) := by decide +kernel
theorem dX10_pagesNow_4 : decode cX10_pagesNow 4 = .ok (.istore_n 2, 1) := by decide +kernel
theorem dX10_pagesNow_5 : decode cX10_pagesNow 5 = .ok (.aload_n 0, 1) := by decide +kernel
theorem dX10_pagesNow_6 : decode cX10_pagesNow 6 = .ok (.iload_n 1, 1) := by decide +kernel
theorem dX10_pagesNow_7 : decode cX10_pagesNow 7 = .ok (.invokevirtual 208, 3) := by decide +kernel
theorem dX10_pagesNow_10 : decode cX10_pagesNow 10 = .ok (.istore_n 3, 1) := by decide +kernel
theorem dX10_pagesNow_11 : decode cX10_pagesNow 11 = .ok (.aload_n 0, 1) := by decide +kernel
theorem dX10_pagesNow_12 : decode cX10_pagesNow 12 = .ok (.getfield 28, 3) := by decide +kernel
theorem dX10_pagesNow_15 : decode cX10_pagesNow 15 = .ok (.iload_n 2, 1) := by decide +kernel
theorem dX10_pagesNow_16 : decode cX10_pagesNow 16 = .ok (.bipush 7, 2) := by decide +kernel
theorem dX10_pagesNow_18 : decode cX10_pagesNow 18 = .ok (.iadd, 1) := by decide +kernel
theorem dX10_pagesNow_19 : decode cX10_pagesNow 19 = .ok (.iaload, 1) := by decide +kernel
theorem dX10_pagesNow_20 : decode cX10_pagesNow 20 = .ok (.aload_n 0, 1) := by decide +kernel
theorem dX10_pagesNow_21 : decode cX10_pagesNow 21 = .ok (.getfield 170, 3) := by decide +kernel
theorem dX10_pagesNow_24 : decode cX10_pagesNow 24 = .ok (.iload_n 3, 1) := by decide +kernel
theorem dX10_pagesNow_25 : decode cX10_pagesNow 25 = .ok (.isub, 1) := by decide +kernel
theorem dX10_pagesNow_26 : decode cX10_pagesNow 26 = .ok (.invokestatic 216, 3) := by decide +kernel
theorem dX10_pagesNow_29 : decode cX10_pagesNow 29 = .ok (.istore 4, 2) := by decide +kernel
theorem dX10_pagesNow_31 : decode cX10_pagesNow 31 = .ok (.aload_n 0, 1) := by decide +kernel
theorem dX10_pagesNow_32 : decode cX10_pagesNow 32 = .ok (.getfield 28, 3) := by decide +kernel
theorem dX10_pagesNow_35 : decode cX10_pagesNow 35 = .ok (.iload_n 2, 1) := by decide +kernel
theorem dX10_pagesNow_36 : decode cX10_pagesNow 36 = .ok (.bipush 53, 2) := by decide +kernel
theorem dX10_pagesNow_38 : decode cX10_pagesNow 38 = .ok (.iadd, 1) := by decide +kernel
theorem dX10_pagesNow_39 : decode cX10_pagesNow 39 = .ok (.iload 4, 2) := by decide +kernel
theorem dX10_pagesNow_41 : decode cX10_pagesNow 41 = .ok (.iastore, 1) := by decide +kernel
theorem dX10_pagesNow_42 : decode cX10_pagesNow 42 = .ok (.aload_n 0, 1) := by decide +kernel
theorem dX10_pagesNow_43 : decode cX10_pagesNow 43 = .ok (.getfield 28, 3) := by decide +kernel
theorem dX10_pagesNow_46 : decode cX10_pagesNow 46 = .ok (.iload_n 2, 1) := by decide +kernel
theorem dX10_pagesNow_47 : decode cX10_pagesNow 47 = .ok (.bipush 54, 2) := by decide +kernel
theorem dX10_pagesNow_49 : decode cX10_pagesNow 49 = .ok (.iadd, 1) := by decide +kernel
theorem dX10_pagesNow_50 : decode cX10_pagesNow 50 = .ok (.dup2, 1) := by decide +kernel
theorem dX10_pagesNow_51 : decode cX10_pagesNow 51 = .ok (.iaload, 1) := by decide +kernel
theorem dX10_pagesNow_52 : decode cX10_pagesNow 52 = .ok (.iload 4, 2) := by decide +kernel
theorem dX10_pagesNow_54 : decode cX10_pagesNow 54 = .ok (.iadd, 1) := by decide +kernel
theorem dX10_pagesNow_55 : decode cX10_pagesNow 55 = .ok (.iastore, 1) := by decide +kernel
theorem dX10_pagesNow_56 : decode cX10_pagesNow 56 = .ok (.iconst 0, 1) := by decide +kernel
theorem dX10_pagesNow_57 : decode cX10_pagesNow 57 = .ok (.istore 5, 2) := by decide +kernel
theorem dX10_pagesNow_59 : decode cX10_pagesNow 59 = .ok (.iload 5, 2) := by decide +kernel
theorem dX10_pagesNow_61 : decode cX10_pagesNow 61 = .ok (.iload 4, 2) := by decide +kernel
theorem dX10_pagesNow_63 : decode cX10_pagesNow 63 = .ok (.if_icmp .ge 61, 3) := by decide +kernel
theorem dX10_pagesNow_66 : decode cX10_pagesNow 66 = .ok (.aload_n 0, 1) := by decide +kernel
theorem dX10_pagesNow_67 : decode cX10_pagesNow 67 = .ok (.getfield 28, 3) := by decide +kernel
theorem dX10_pagesNow_70 : decode cX10_pagesNow 70 = .ok (.iload_n 2, 1) := by decide +kernel
theorem dX10_pagesNow_71 : decode cX10_pagesNow 71 = .ok (.bipush 55, 2) := by decide +kernel
theorem dX10_pagesNow_73 : decode cX10_pagesNow 73 = .ok (.iadd, 1) := by decide +kernel
theorem dX10_pagesNow_74 : decode cX10_pagesNow 74 = .ok (.iconst 2, 1) := by decide +kernel
theorem dX10_pagesNow_75 : decode cX10_pagesNow 75 = .ok (.iload 5, 2) := by decide +kernel
theorem dX10_pagesNow_77 : decode cX10_pagesNow 77 = .ok (.imul, 1) := by decide +kernel
theorem dX10_pagesNow_78 : decode cX10_pagesNow 78 = .ok (.iadd, 1) := by decide +kernel
theorem dX10_pagesNow_79 : decode cX10_pagesNow 79 = .ok (.aload_n 0, 1) := by decide +kernel
theorem dX10_pagesNow_80 : decode cX10_pagesNow 80 = .ok (.aload_n 0, 1) := by decide +kernel
theorem dX10_pagesNow_81 : decode cX10_pagesNow 81 = .ok (.getfield 37, 3) := by decide +kernel
theorem dX10_pagesNow_84 : decode cX10_pagesNow 84 = .ok (.iload_n 3, 1) := by decide +kernel
theorem dX10_pagesNow_85 : decode cX10_pagesNow 85 = .ok (.iload 5, 2) := by decide +kernel
theorem dX10_pagesNow_87 : decode cX10_pagesNow 87 = .ok (.iadd, 1) := by decide +kernel
theorem dX10_pagesNow_88 : decode cX10_pagesNow 88 = .ok (.iaload, 1) := by decide +kernel
theorem dX10_pagesNow_89 : decode cX10_pagesNow 89 = .ok (.invokevirtual 190, 3) := by decide +kernel
theorem dX10_pagesNow_92 : decode cX10_pagesNow 92 = .ok (.iastore, 1) := by decide +kernel
theorem dX10_pagesNow_93 : decode cX10_pagesNow 93 = .ok (.aload_n 0, 1) := by decide +kernel
theorem dX10_pagesNow_94 : decode cX10_pagesNow 94 = .ok (.getfield 28, 3) := by decide +kernel
theorem dX10_pagesNow_97 : decode cX10_pagesNow 97 = .ok (.iload_n 2, 1) := by decide +kernel
theorem dX10_pagesNow_98 : decode cX10_pagesNow 98 = .ok (.bipush 55, 2) := by decide +kernel
theorem dX10_pagesNow_100 : decode cX10_pagesNow 100 = .ok (.iadd, 1) := by decide +kernel
theorem dX10_pagesNow_101 : decode cX10_pagesNow 101 = .ok (.iconst 2, 1) := by decide +kernel
theorem dX10_pagesNow_102 : decode cX10_pagesNow 102 = .ok (.iload 5, 2) := by decide +kernel
theorem dX10_pagesNow_104 : decode cX10_pagesNow 104 = .ok (.imul, 1) := by decide +kernel
theorem dX10_pagesNow_105 : decode cX10_pagesNow 105 = .ok (.iadd, 1) := by decide +kernel
theorem dX10_pagesNow_106 : decode cX10_pagesNow 106 = .ok (.iconst 1, 1) := by decide +kernel
theorem dX10_pagesNow_107 : decode cX10_pagesNow 107 = .ok (.iadd, 1) := by decide +kernel
theorem dX10_pagesNow_108 : decode cX10_pagesNow 108 = .ok (.aload_n 0, 1) := by decide +kernel
theorem dX10_pagesNow_109 : decode cX10_pagesNow 109 = .ok (.getfield 40, 3) := by decide +kernel
theorem dX10_pagesNow_112 : decode cX10_pagesNow 112 = .ok (.iload_n 3, 1) := by decide +kernel
theorem dX10_pagesNow_113 : decode cX10_pagesNow 113 = .ok (.iload 5, 2) := by decide +kernel
theorem dX10_pagesNow_115 : decode cX10_pagesNow 115 = .ok (.iadd, 1) := by decide +kernel
theorem dX10_pagesNow_116 : decode cX10_pagesNow 116 = .ok (.iaload, 1) := by decide +kernel
theorem dX10_pagesNow_117 : decode cX10_pagesNow 117 = .ok (.iastore, 1) := by decide +kernel
theorem dX10_pagesNow_118 : decode cX10_pagesNow 118 = .ok (.iinc 5 1, 3) := by decide +kernel
theorem dX10_pagesNow_121 : decode cX10_pagesNow 121 = .ok (.goto (-62), 3) := by decide +kernel
theorem dX10_pagesNow_124 : decode cX10_pagesNow 124 = .ok (.iload 4, 2) := by decide +kernel
theorem dX10_pagesNow_126 : decode cX10_pagesNow 126 = .ok (.ifCond .le 30, 3) := by decide +kernel
theorem dX10_pagesNow_129 : decode cX10_pagesNow 129 = .ok (.aload_n 0, 1) := by decide +kernel
theorem dX10_pagesNow_130 : decode cX10_pagesNow 130 = .ok (.iload_n 1, 1) := by decide +kernel
theorem dX10_pagesNow_131 : decode cX10_pagesNow 131 = .ok (.aload_n 0, 1) := by decide +kernel
theorem dX10_pagesNow_132 : decode cX10_pagesNow 132 = .ok (.getfield 37, 3) := by decide +kernel
theorem dX10_pagesNow_135 : decode cX10_pagesNow 135 = .ok (.iload_n 3, 1) := by decide +kernel
theorem dX10_pagesNow_136 : decode cX10_pagesNow 136 = .ok (.iload 4, 2) := by decide +kernel
theorem dX10_pagesNow_138 : decode cX10_pagesNow 138 = .ok (.iadd, 1) := by decide +kernel
theorem dX10_pagesNow_139 : decode cX10_pagesNow 139 = .ok (.iconst 1, 1) := by decide +kernel
theorem dX10_pagesNow_140 : decode cX10_pagesNow 140 = .ok (.isub, 1) := by decide +kernel
theorem dX10_pagesNow_141 : decode cX10_pagesNow 141 = .ok (.iaload, 1) := by decide +kernel
theorem dX10_pagesNow_142 : decode cX10_pagesNow 142 = .ok (.aload_n 0, 1) := by decide +kernel
theorem dX10_pagesNow_143 : decode cX10_pagesNow 143 = .ok (.getfield 40, 3) := by decide +kernel
theorem dX10_pagesNow_146 : decode cX10_pagesNow 146 = .ok (.iload_n 3, 1) := by decide +kernel
theorem dX10_pagesNow_147 : decode cX10_pagesNow 147 = .ok (.iload 4, 2) := by decide +kernel
theorem dX10_pagesNow_149 : decode cX10_pagesNow 149 = .ok (.iadd, 1) := by decide +kernel
theorem dX10_pagesNow_150 : decode cX10_pagesNow 150 = .ok (.iconst 1, 1) := by decide +kernel
theorem dX10_pagesNow_151 : decode cX10_pagesNow 151 = .ok (.isub, 1) := by decide +kernel
theorem dX10_pagesNow_152 : decode cX10_pagesNow 152 = .ok (.iaload, 1) := by decide +kernel
theorem dX10_pagesNow_153 : decode cX10_pagesNow 153 = .ok (.invokevirtual 219, 3) := by decide +kernel
theorem dX10_pagesNow_156 : decode cX10_pagesNow 156 = .ok (.iload 4, 2) := by decide +kernel
theorem dX10_pagesNow_158 : decode cX10_pagesNow 158 = .ok (.ireturn, 1) := by decide +kernel
theorem dX10_rewindsNow_0 : decode cX10_rewindsNow 0 = .ok (.iload_n 1, 1) := by decide +kernel
theorem dX10_rewindsNow_1 : decode cX10_rewindsNow 1 = .ok (.invokestatic 143, 3) := by decide +kernel
theorem dX10_rewindsNow_4 : decode cX10_rewindsNow 4 = .ok (.istore_n 2, 1) := by decide +kernel
theorem dX10_rewindsNow_5 : decode cX10_rewindsNow 5 = .ok (.bipush 8, 2) := by decide +kernel
theorem dX10_rewindsNow_7 : decode cX10_rewindsNow 7 = .ok (.istore_n 3, 1) := by decide +kernel
theorem dX10_rewindsNow_8 : decode cX10_rewindsNow 8 = .ok (.iload_n 3, 1) := by decide +kernel
theorem dX10_rewindsNow_9 : decode cX10_rewindsNow 9 = .ok (.bipush 73, 2) := by decide +kernel
theorem dX10_rewindsNow_11 : decode cX10_rewindsNow 11 = .ok (.if_icmp .ge 18, 3) := by decide +kernel
theorem dX10_rewindsNow_14 : decode cX10_rewindsNow 14 = .ok (.aload_n 0, 1) := by decide +kernel
theorem dX10_rewindsNow_15 : decode cX10_rewindsNow 15 = .ok (.getfield 28, 3) := by decide +kernel
theorem dX10_rewindsNow_18 : decode cX10_rewindsNow 18 = .ok (.iload_n 2, 1) := by decide +kernel
theorem dX10_rewindsNow_19 : decode cX10_rewindsNow 19 = .ok (.iload_n 3, 1) := by decide +kernel
theorem dX10_rewindsNow_20 : decode cX10_rewindsNow 20 = .ok (.iadd, 1) := by decide +kernel
theorem dX10_rewindsNow_21 : decode cX10_rewindsNow 21 = .ok (.iconst 0, 1) := by decide +kernel
theorem dX10_rewindsNow_22 : decode cX10_rewindsNow 22 = .ok (.iastore, 1) := by decide +kernel
theorem dX10_rewindsNow_23 : decode cX10_rewindsNow 23 = .ok (.iinc 3 1, 3) := by decide +kernel
theorem dX10_rewindsNow_26 : decode cX10_rewindsNow 26 = .ok (.goto (-18), 3) := by decide +kernel
theorem dX10_rewindsNow_29 : decode cX10_rewindsNow 29 = .ok (.aload_n 0, 1) := by decide +kernel
theorem dX10_rewindsNow_30 : decode cX10_rewindsNow 30 = .ok (.iload_n 1, 1) := by decide +kernel
theorem dX10_rewindsNow_31 : decode cX10_rewindsNow 31 = .ok (.invokevirtual 223, 3) := by decide +kernel
theorem dX10_rewindsNow_34 : decode cX10_rewindsNow 34 = .ok (.ireturn, 1) := by decide +kernel
theorem dX10_laysNow_0 : decode cX10_laysNow 0 = .ok (.iload_n 1, 1) := by decide +kernel
theorem dX10_laysNow_1 : decode cX10_laysNow 1 = .ok (.invokestatic 143, 3) := by decide +kernel
theorem dX10_laysNow_4 : decode cX10_laysNow 4 = .ok (.istore 6, 2) := by decide +kernel
theorem dX10_laysNow_6 : decode cX10_laysNow 6 = .ok (.iconst 0, 1) := by decide +kernel
theorem dX10_laysNow_7 : decode cX10_laysNow 7 = .ok (.istore 7, 2) := by decide +kernel
theorem dX10_laysNow_9 : decode cX10_laysNow 9 = .ok (.iload 7, 2) := by decide +kernel
theorem dX10_laysNow_11 : decode cX10_laysNow 11 = .ok (.bipush 73, 2) := by decide +kernel
theorem dX10_laysNow_13 : decode cX10_laysNow 13 = .ok (.if_icmp .ge 20, 3) := by decide +kernel
theorem dX10_laysNow_16 : decode cX10_laysNow 16 = .ok (.aload_n 0, 1) := by decide +kernel
theorem dX10_laysNow_17 : decode cX10_laysNow 17 = .ok (.getfield 28, 3) := by decide +kernel
theorem dX10_laysNow_20 : decode cX10_laysNow 20 = .ok (.iload 6, 2) := by decide +kernel
theorem dX10_laysNow_22 : decode cX10_laysNow 22 = .ok (.iload 7, 2) := by decide +kernel
theorem dX10_laysNow_24 : decode cX10_laysNow 24 = .ok (.iadd, 1) := by decide +kernel
theorem dX10_laysNow_25 : decode cX10_laysNow 25 = .ok (.iconst 0, 1) := by decide +kernel
theorem dX10_laysNow_26 : decode cX10_laysNow 26 = .ok (.iastore, 1) := by decide +kernel
theorem dX10_laysNow_27 : decode cX10_laysNow 27 = .ok (.iinc 7 1, 3) := by decide +kernel
theorem dX10_laysNow_30 : decode cX10_laysNow 30 = .ok (.goto (-21), 3) := by decide +kernel
theorem dX10_laysNow_33 : decode cX10_laysNow 33 = .ok (.aload_n 0, 1) := by decide +kernel
theorem dX10_laysNow_34 : decode cX10_laysNow 34 = .ok (.getfield 28, 3) := by decide +kernel
theorem dX10_laysNow_37 : decode cX10_laysNow 37 = .ok (.iload 6, 2) := by decide +kernel
theorem dX10_laysNow_39 : decode cX10_laysNow 39 = .ok (.iconst 0, 1) := by decide +kernel
theorem dX10_laysNow_40 : decode cX10_laysNow 40 = .ok (.iadd, 1) := by decide +kernel
theorem dX10_laysNow_41 : decode cX10_laysNow 41 = .ok (.iload 5, 2) := by decide +kernel
theorem dX10_laysNow_43 : decode cX10_laysNow 43 = .ok (.iastore, 1) := by decide +kernel
theorem dX10_laysNow_44 : decode cX10_laysNow 44 = .ok (.aload_n 0, 1) := by decide +kernel
theorem dX10_laysNow_45 : decode cX10_laysNow 45 = .ok (.getfield 28, 3) := by decide +kernel
theorem dX10_laysNow_48 : decode cX10_laysNow 48 = .ok (.iload 6, 2) := by decide +kernel
theorem dX10_laysNow_50 : decode cX10_laysNow 50 = .ok (.bipush 7, 2) := by decide +kernel
theorem dX10_laysNow_52 : decode cX10_laysNow 52 = .ok (.iadd, 1) := by decide +kernel
theorem dX10_laysNow_53 : decode cX10_laysNow 53 = .ok (.iload_n 2, 1) := by decide +kernel
theorem dX10_laysNow_54 : decode cX10_laysNow 54 = .ok (.iastore, 1) := by decide +kernel
theorem dX10_laysNow_55 : decode cX10_laysNow 55 = .ok (.iconst 0, 1) := by decide +kernel
theorem dX10_laysNow_56 : decode cX10_laysNow 56 = .ok (.istore 7, 2) := by decide +kernel
theorem dX10_laysNow_58 : decode cX10_laysNow 58 = .ok (.iload 7, 2) := by decide +kernel
theorem dX10_laysNow_60 : decode cX10_laysNow 60 = .ok (.iload 5, 2) := by decide +kernel
theorem dX10_laysNow_62 : decode cX10_laysNow 62 = .ok (.if_icmp .ge 28, 3) := by decide +kernel
theorem dX10_laysNow_65 : decode cX10_laysNow 65 = .ok (.aload_n 0, 1) := by decide +kernel
theorem dX10_laysNow_66 : decode cX10_laysNow 66 = .ok (.getfield 28, 3) := by decide +kernel
theorem dX10_laysNow_69 : decode cX10_laysNow 69 = .ok (.iload 6, 2) := by decide +kernel
theorem dX10_laysNow_71 : decode cX10_laysNow 71 = .ok (.iconst 1, 1) := by decide +kernel
theorem dX10_laysNow_72 : decode cX10_laysNow 72 = .ok (.iadd, 1) := by decide +kernel
theorem dX10_laysNow_73 : decode cX10_laysNow 73 = .ok (.iload 7, 2) := by decide +kernel
theorem dX10_laysNow_75 : decode cX10_laysNow 75 = .ok (.iadd, 1) := by decide +kernel
theorem dX10_laysNow_76 : decode cX10_laysNow 76 = .ok (.aload_n 3, 1) := by decide +kernel
theorem dX10_laysNow_77 : decode cX10_laysNow 77 = .ok (.iload 4, 2) := by decide +kernel
theorem dX10_laysNow_79 : decode cX10_laysNow 79 = .ok (.iload 7, 2) := by decide +kernel
theorem dX10_laysNow_81 : decode cX10_laysNow 81 = .ok (.iadd, 1) := by decide +kernel
theorem dX10_laysNow_82 : decode cX10_laysNow 82 = .ok (.iaload, 1) := by decide +kernel
theorem dX10_laysNow_83 : decode cX10_laysNow 83 = .ok (.iastore, 1) := by decide +kernel
theorem dX10_laysNow_84 : decode cX10_laysNow 84 = .ok (.iinc 7 1, 3) := by decide +kernel
theorem dX10_laysNow_87 : decode cX10_laysNow 87 = .ok (.goto (-29), 3) := by decide +kernel
theorem dX10_laysNow_90 : decode cX10_laysNow 90 = .ok (.aload_n 0, 1) := by decide +kernel
theorem dX10_laysNow_91 : decode cX10_laysNow 91 = .ok (.iload_n 1, 1) := by decide +kernel
theorem dX10_laysNow_92 : decode cX10_laysNow 92 = .ok (.invokevirtual 223, 3) := by decide +kernel
theorem dX10_laysNow_95 : decode cX10_laysNow 95 = .ok (.ireturn, 1) := by decide +kernel
theorem dX10_isLike_0 : decode cX10_isLike 0 = .ok (.aload_n 0, 1) := by decide +kernel
theorem dX10_isLike_1 : decode cX10_isLike 1 = .ok (.iload_n 1, 1) := by decide +kernel
theorem dX10_isLike_2 : decode cX10_isLike 2 = .ok (.invokevirtual 136, 3) := by decide +kernel
theorem dX10_isLike_5 : decode cX10_isLike 5 = .ok (.iload 4, 2) := by decide +kernel
theorem dX10_isLike_7 : decode cX10_isLike 7 = .ok (.if_icmp .ne 20, 3) := by decide +kernel
theorem dX10_isLike_10 : decode cX10_isLike 10 = .ok (.aload_n 0, 1) := by decide +kernel
theorem dX10_isLike_11 : decode cX10_isLike 11 = .ok (.aload_n 2, 1) := by decide +kernel
theorem dX10_isLike_12 : decode cX10_isLike 12 = .ok (.iload_n 3, 1) := by decide +kernel
theorem dX10_isLike_13 : decode cX10_isLike 13 = .ok (.iload 4, 2) := by decide +kernel
theorem dX10_isLike_15 : decode cX10_isLike 15 = .ok (.iload_n 1, 1) := by decide +kernel
theorem dX10_isLike_16 : decode cX10_isLike 16 = .ok (.iconst 0, 1) := by decide +kernel
theorem dX10_isLike_17 : decode cX10_isLike 17 = .ok (.invokevirtual 197, 3) := by decide +kernel
theorem dX10_isLike_20 : decode cX10_isLike 20 = .ok (.ifCond .eq 7, 3) := by decide +kernel
theorem dX10_isLike_23 : decode cX10_isLike 23 = .ok (.iconst 1, 1) := by decide +kernel
theorem dX10_isLike_24 : decode cX10_isLike 24 = .ok (.goto 4, 3) := by decide +kernel
theorem dX10_isLike_27 : decode cX10_isLike 27 = .ok (.iconst 0, 1) := by decide +kernel
theorem dX10_isLike_28 : decode cX10_isLike 28 = .ok (.ireturn, 1) := by decide +kernel
theorem dX10_whySet_0 : decode cX10_whySet 0 = .ok (.aload_n 0, 1) := by decide +kernel
theorem dX10_whySet_1 : decode cX10_whySet 1 = .ok (.iload_n 1, 1) := by decide +kernel
theorem dX10_whySet_2 : decode cX10_whySet 2 = .ok (.invokevirtual 132, 3) := by decide +kernel
theorem dX10_whySet_5 : decode cX10_whySet 5 = .ok (.ifCond .ne 7, 3) := by decide +kernel
theorem dX10_whySet_8 : decode cX10_whySet 8 = .ok (.iconst 0, 1) := by decide +kernel
theorem dX10_whySet_9 : decode cX10_whySet 9 = .ok (.goto 29, 3) := by decide +kernel
theorem dX10_whySet_12 : decode cX10_whySet 12 = .ok (.iload 4, 2) := by decide +kernel
theorem dX10_whySet_14 : decode cX10_whySet 14 = .ok (.ifCond .ne 7, 3) := by decide +kernel
theorem dX10_whySet_17 : decode cX10_whySet 17 = .ok (.iconst 1, 1) := by decide +kernel
theorem dX10_whySet_18 : decode cX10_whySet 18 = .ok (.goto 20, 3) := by decide +kernel
theorem dX10_whySet_21 : decode cX10_whySet 21 = .ok (.aload_n 0, 1) := by decide +kernel
theorem dX10_whySet_22 : decode cX10_whySet 22 = .ok (.iload_n 1, 1) := by decide +kernel
theorem dX10_whySet_23 : decode cX10_whySet 23 = .ok (.aload_n 2, 1) := by decide +kernel
theorem dX10_whySet_24 : decode cX10_whySet 24 = .ok (.iload_n 3, 1) := by decide +kernel
theorem dX10_whySet_25 : decode cX10_whySet 25 = .ok (.iload 4, 2) := by decide +kernel
theorem dX10_whySet_27 : decode cX10_whySet 27 = .ok (.invokevirtual 226, 3) := by decide +kernel
theorem dX10_whySet_30 : decode cX10_whySet 30 = .ok (.ifCond .eq 7, 3) := by decide +kernel
theorem dX10_whySet_33 : decode cX10_whySet 33 = .ok (.iconst 2, 1) := by decide +kernel
theorem dX10_whySet_34 : decode cX10_whySet 34 = .ok (.goto 4, 3) := by decide +kernel
theorem dX10_whySet_37 : decode cX10_whySet 37 = .ok (.iconst (-1), 1) := by decide +kernel
theorem dX10_whySet_38 : decode cX10_whySet 38 = .ok (.ireturn, 1) := by decide +kernel
theorem dX10_whyPut_0 : decode cX10_whyPut 0 = .ok (.aload_n 0, 1) := by decide +kernel
theorem dX10_whyPut_1 : decode cX10_whyPut 1 = .ok (.invokevirtual 139, 3) := by decide +kernel
theorem dX10_whyPut_4 : decode cX10_whyPut 4 = .ok (.ifCond .eq 17, 3) := by decide +kernel
theorem dX10_whyPut_7 : decode cX10_whyPut 7 = .ok (.iload_n 1, 1) := by decide +kernel
theorem dX10_whyPut_8 : decode cX10_whyPut 8 = .ok (.iconst 0, 1) := by decide +kernel
theorem dX10_whyPut_9 : decode cX10_whyPut 9 = .ok (.aload_n 0, 1) := by decide +kernel
theorem dX10_whyPut_10 : decode cX10_whyPut 10 = .ok (.getfield 28, 3) := by decide +kernel
theorem dX10_whyPut_13 : decode cX10_whyPut 13 = .ok (.iconst 0, 1) := by decide +kernel
theorem dX10_whyPut_14 : decode cX10_whyPut 14 = .ok (.iaload, 1) := by decide +kernel
theorem dX10_whyPut_15 : decode cX10_whyPut 15 = .ok (.invokestatic 69, 3) := by decide +kernel
theorem dX10_whyPut_18 : decode cX10_whyPut 18 = .ok (.ifCond .ne 7, 3) := by decide +kernel
theorem dX10_whyPut_21 : decode cX10_whyPut 21 = .ok (.iconst 0, 1) := by decide +kernel
theorem dX10_whyPut_22 : decode cX10_whyPut 22 = .ok (.goto 27, 3) := by decide +kernel
theorem dX10_whyPut_25 : decode cX10_whyPut 25 = .ok (.iload_n 2, 1) := by decide +kernel
theorem dX10_whyPut_26 : decode cX10_whyPut 26 = .ok (.ifCond .ne 7, 3) := by decide +kernel
theorem dX10_whyPut_29 : decode cX10_whyPut 29 = .ok (.iconst 1, 1) := by decide +kernel
theorem dX10_whyPut_30 : decode cX10_whyPut 30 = .ok (.goto 19, 3) := by decide +kernel
theorem dX10_whyPut_33 : decode cX10_whyPut 33 = .ok (.aload_n 0, 1) := by decide +kernel
theorem dX10_whyPut_34 : decode cX10_whyPut 34 = .ok (.getfield 28, 3) := by decide +kernel
theorem dX10_whyPut_37 : decode cX10_whyPut 37 = .ok (.iconst 0, 1) := by decide +kernel
theorem dX10_whyPut_38 : decode cX10_whyPut 38 = .ok (.iaload, 1) := by decide +kernel
theorem dX10_whyPut_39 : decode cX10_whyPut 39 = .ok (.bipush 10, 2) := by decide +kernel
theorem dX10_whyPut_41 : decode cX10_whyPut 41 = .ok (.if_icmp .ne 7, 3) := by decide +kernel
theorem dX10_whyPut_44 : decode cX10_whyPut 44 = .ok (.iconst 3, 1) := by decide +kernel
theorem dX10_whyPut_45 : decode cX10_whyPut 45 = .ok (.goto 4, 3) := by decide +kernel
theorem dX10_whyPut_48 : decode cX10_whyPut 48 = .ok (.iconst (-1), 1) := by decide +kernel
theorem dX10_whyPut_49 : decode cX10_whyPut 49 = .ok (.ireturn, 1) := by decide +kernel
theorem dX10_whyLay_0 : decode cX10_whyLay 0 = .ok (.aload_n 0, 1) := by decide +kernel
theorem dX10_whyLay_1 : decode cX10_whyLay 1 = .ok (.invokevirtual 139, 3) := by decide +kernel
theorem dX10_whyLay_4 : decode cX10_whyLay 4 = .ok (.ifCond .eq 12, 3) := by decide +kernel
theorem dX10_whyLay_7 : decode cX10_whyLay 7 = .ok (.iload_n 1, 1) := by decide +kernel
theorem dX10_whyLay_8 : decode cX10_whyLay 8 = .ok (.iconst 0, 1) := by decide +kernel
theorem dX10_whyLay_9 : decode cX10_whyLay 9 = .ok (.iconst 2, 1) := by decide +kernel
theorem dX10_whyLay_10 : decode cX10_whyLay 10 = .ok (.invokestatic 69, 3) := by decide +kernel
theorem dX10_whyLay_13 : decode cX10_whyLay 13 = .ok (.ifCond .ne 7, 3) := by decide +kernel
theorem dX10_whyLay_16 : decode cX10_whyLay 16 = .ok (.iconst 0, 1) := by decide +kernel
theorem dX10_whyLay_17 : decode cX10_whyLay 17 = .ok (.goto 22, 3) := by decide +kernel
theorem dX10_whyLay_20 : decode cX10_whyLay 20 = .ok (.iload_n 2, 1) := by decide +kernel
theorem dX10_whyLay_21 : decode cX10_whyLay 21 = .ok (.iconst 1, 1) := by decide +kernel
theorem dX10_whyLay_22 : decode cX10_whyLay 22 = .ok (.bipush 9, 2) := by decide +kernel
theorem dX10_whyLay_24 : decode cX10_whyLay 24 = .ok (.invokestatic 69, 3) := by decide +kernel
theorem dX10_whyLay_27 : decode cX10_whyLay 27 = .ok (.ifCond .eq 7, 3) := by decide +kernel
theorem dX10_whyLay_30 : decode cX10_whyLay 30 = .ok (.iload_n 3, 1) := by decide +kernel
theorem dX10_whyLay_31 : decode cX10_whyLay 31 = .ok (.ifCond .ne 7, 3) := by decide +kernel
theorem dX10_whyLay_34 : decode cX10_whyLay 34 = .ok (.iconst 1, 1) := by decide +kernel
theorem dX10_whyLay_35 : decode cX10_whyLay 35 = .ok (.goto 4, 3) := by decide +kernel
theorem dX10_whyLay_38 : decode cX10_whyLay 38 = .ok (.iconst (-1), 1) := by decide +kernel
theorem dX10_whyLay_39 : decode cX10_whyLay 39 = .ok (.ireturn, 1) := by decide +kernel
theorem dX10_whySplit_0 : decode cX10_whySplit 0 = .ok (.aload_n 0, 1) := by decide +kernel
theorem dX10_whySplit_1 : decode cX10_whySplit 1 = .ok (.iload_n 1, 1) := by decide +kernel
theorem dX10_whySplit_2 : decode cX10_whySplit 2 = .ok (.invokevirtual 132, 3) := by decide +kernel
theorem dX10_whySplit_5 : decode cX10_whySplit 5 = .ok (.ifCond .ne 7, 3) := by decide +kernel
theorem dX10_whySplit_8 : decode cX10_whySplit 8 = .ok (.iconst 0, 1) := by decide +kernel
theorem dX10_whySplit_9 : decode cX10_whySplit 9 = .ok (.goto 38, 3) := by decide +kernel
theorem dX10_whySplit_12 : decode cX10_whySplit 12 = .ok (.iload_n 2, 1) := by decide +kernel
theorem dX10_whySplit_13 : decode cX10_whySplit 13 = .ok (.iconst 1, 1) := by decide +kernel
theorem dX10_whySplit_14 : decode cX10_whySplit 14 = .ok (.aload_n 0, 1) := by decide +kernel
theorem dX10_whySplit_15 : decode cX10_whySplit 15 = .ok (.iload_n 1, 1) := by decide +kernel
theorem dX10_whySplit_16 : decode cX10_whySplit 16 = .ok (.invokevirtual 136, 3) := by decide +kernel
theorem dX10_whySplit_19 : decode cX10_whySplit 19 = .ok (.iconst 1, 1) := by decide +kernel
theorem dX10_whySplit_20 : decode cX10_whySplit 20 = .ok (.isub, 1) := by decide +kernel
theorem dX10_whySplit_21 : decode cX10_whySplit 21 = .ok (.invokestatic 69, 3) := by decide +kernel
theorem dX10_whySplit_24 : decode cX10_whySplit 24 = .ok (.ifCond .ne 7, 3) := by decide +kernel
theorem dX10_whySplit_27 : decode cX10_whySplit 27 = .ok (.iconst 1, 1) := by decide +kernel
theorem dX10_whySplit_28 : decode cX10_whySplit 28 = .ok (.goto 19, 3) := by decide +kernel
theorem dX10_whySplit_31 : decode cX10_whySplit 31 = .ok (.aload_n 0, 1) := by decide +kernel
theorem dX10_whySplit_32 : decode cX10_whySplit 32 = .ok (.getfield 28, 3) := by decide +kernel
theorem dX10_whySplit_35 : decode cX10_whySplit 35 = .ok (.iconst 0, 1) := by decide +kernel
theorem dX10_whySplit_36 : decode cX10_whySplit 36 = .ok (.iaload, 1) := by decide +kernel
theorem dX10_whySplit_37 : decode cX10_whySplit 37 = .ok (.bipush 10, 2) := by decide +kernel
theorem dX10_whySplit_39 : decode cX10_whySplit 39 = .ok (.if_icmp .ne 7, 3) := by decide +kernel
theorem dX10_whySplit_42 : decode cX10_whySplit 42 = .ok (.iconst 3, 1) := by decide +kernel
theorem dX10_whySplit_43 : decode cX10_whySplit 43 = .ok (.goto 4, 3) := by decide +kernel
theorem dX10_whySplit_46 : decode cX10_whySplit 46 = .ok (.iconst (-1), 1) := by decide +kernel
theorem dX10_whySplit_47 : decode cX10_whySplit 47 = .ok (.ireturn, 1) := by decide +kernel
theorem dX10_whyJoin_0 : decode cX10_whyJoin 0 = .ok (.aload_n 0, 1) := by decide +kernel
theorem dX10_whyJoin_1 : decode cX10_whyJoin 1 = .ok (.iload_n 1, 1) := by decide +kernel
theorem dX10_whyJoin_2 : decode cX10_whyJoin 2 = .ok (.invokevirtual 132, 3) := by decide +kernel
theorem dX10_whyJoin_5 : decode cX10_whyJoin 5 = .ok (.ifCond .eq 13, 3) := by decide +kernel
theorem dX10_whyJoin_8 : decode cX10_whyJoin 8 = .ok (.aload_n 0, 1) := by decide +kernel
theorem dX10_whyJoin_9 : decode cX10_whyJoin 9 = .ok (.iload_n 1, 1) := by decide +kernel
theorem dX10_whyJoin_10 : decode cX10_whyJoin 10 = .ok (.iconst 1, 1) := by decide +kernel
theorem dX10_whyJoin_11 : decode cX10_whyJoin 11 = .ok (.iadd, 1) := by decide +kernel
theorem dX10_whyJoin_12 : decode cX10_whyJoin 12 = .ok (.invokevirtual 132, 3) := by decide +kernel
theorem dX10_whyJoin_15 : decode cX10_whyJoin 15 = .ok (.ifCond .ne 7, 3) := by decide +kernel
theorem dX10_whyJoin_18 : decode cX10_whyJoin 18 = .ok (.iconst 0, 1) := by decide +kernel
theorem dX10_whyJoin_19 : decode cX10_whyJoin 19 = .ok (.goto 26, 3) := by decide +kernel
theorem dX10_whyJoin_22 : decode cX10_whyJoin 22 = .ok (.aload_n 0, 1) := by decide +kernel
theorem dX10_whyJoin_23 : decode cX10_whyJoin 23 = .ok (.iload_n 1, 1) := by decide +kernel
theorem dX10_whyJoin_24 : decode cX10_whyJoin 24 = .ok (.invokevirtual 136, 3) := by decide +kernel
theorem dX10_whyJoin_27 : decode cX10_whyJoin 27 = .ok (.aload_n 0, 1) := by decide +kernel
theorem dX10_whyJoin_28 : decode cX10_whyJoin 28 = .ok (.iload_n 1, 1) := by decide +kernel
theorem dX10_whyJoin_29 : decode cX10_whyJoin 29 = .ok (.iconst 1, 1) := by decide +kernel
theorem dX10_whyJoin_30 : decode cX10_whyJoin 30 = .ok (.iadd, 1) := by decide +kernel
theorem dX10_whyJoin_31 : decode cX10_whyJoin 31 = .ok (.invokevirtual 136, 3) := by decide +kernel
theorem dX10_whyJoin_34 : decode cX10_whyJoin 34 = .ok (.iadd, 1) := by decide +kernel
theorem dX10_whyJoin_35 : decode cX10_whyJoin 35 = .ok (.bipush 20, 2) := by decide +kernel
theorem dX10_whyJoin_37 : decode cX10_whyJoin 37 = .ok (.if_icmp .le 7, 3) := by decide +kernel
theorem dX10_whyJoin_40 : decode cX10_whyJoin 40 = .ok (.iconst 3, 1) := by decide +kernel
theorem dX10_whyJoin_41 : decode cX10_whyJoin 41 = .ok (.goto 4, 3) := by decide +kernel
theorem dX10_whyJoin_44 : decode cX10_whyJoin 44 = .ok (.iconst (-1), 1) := by decide +kernel
theorem dX10_whyJoin_45 : decode cX10_whyJoin 45 = .ok (.ireturn, 1) := by decide +kernel
theorem dX10_whyNot_0 : decode cX10_whyNot 0 = .ok (.iload_n 1, 1) := by decide +kernel
theorem dX10_whyNot_1 : decode cX10_whyNot 1 = .ok (.tableswitch 166 0 8 #[51, 63, 71, 99, 130, 139, 166, 153, 160], 51) := by decide +kernel
theorem dX10_whyNot_52 : decode cX10_whyNot 52 = .ok (.aload_n 0, 1) := by decide +kernel
theorem dX10_whyNot_53 : decode cX10_whyNot 53 = .ok (.iload_n 2, 1) := by decide +kernel
theorem dX10_whyNot_54 : decode cX10_whyNot 54 = .ok (.aload 4, 2) := by decide +kernel
theorem dX10_whyNot_56 : decode cX10_whyNot 56 = .ok (.iload 5, 2) := by decide +kernel
theorem dX10_whyNot_58 : decode cX10_whyNot 58 = .ok (.iload 6, 2) := by decide +kernel
theorem dX10_whyNot_60 : decode cX10_whyNot 60 = .ok (.invokevirtual 230, 3) := by decide +kernel
theorem dX10_whyNot_63 : decode cX10_whyNot 63 = .ok (.ireturn, 1) := by decide +kernel
theorem dX10_whyNot_64 : decode cX10_whyNot 64 = .ok (.aload_n 0, 1) := by decide +kernel
theorem dX10_whyNot_65 : decode cX10_whyNot 65 = .ok (.iload_n 2, 1) := by decide +kernel
theorem dX10_whyNot_66 : decode cX10_whyNot 66 = .ok (.iload 6, 2) := by decide +kernel
theorem dX10_whyNot_68 : decode cX10_whyNot 68 = .ok (.invokevirtual 234, 3) := by decide +kernel
theorem dX10_whyNot_71 : decode cX10_whyNot 71 = .ok (.ireturn, 1) := by decide +kernel
theorem dX10_whyNot_72 : decode cX10_whyNot 72 = .ok (.aload_n 0, 1) := by decide +kernel
theorem dX10_whyNot_73 : decode cX10_whyNot 73 = .ok (.iload_n 2, 1) := by decide +kernel
theorem dX10_whyNot_74 : decode cX10_whyNot 74 = .ok (.invokevirtual 132, 3) := by decide +kernel
theorem dX10_whyNot_77 : decode cX10_whyNot 77 = .ok (.ifCond .ne 7, 3) := by decide +kernel
theorem dX10_whyNot_80 : decode cX10_whyNot 80 = .ok (.iconst 0, 1) := by decide +kernel
theorem dX10_whyNot_81 : decode cX10_whyNot 81 = .ok (.goto 18, 3) := by decide +kernel
theorem dX10_whyNot_84 : decode cX10_whyNot 84 = .ok (.aload_n 0, 1) := by decide +kernel
theorem dX10_whyNot_85 : decode cX10_whyNot 85 = .ok (.getfield 28, 3) := by decide +kernel
theorem dX10_whyNot_88 : decode cX10_whyNot 88 = .ok (.iconst 0, 1) := by decide +kernel
theorem dX10_whyNot_89 : decode cX10_whyNot 89 = .ok (.iaload, 1) := by decide +kernel
theorem dX10_whyNot_90 : decode cX10_whyNot 90 = .ok (.iconst 1, 1) := by decide +kernel
theorem dX10_whyNot_91 : decode cX10_whyNot 91 = .ok (.if_icmp .ne 7, 3) := by decide +kernel
theorem dX10_whyNot_94 : decode cX10_whyNot 94 = .ok (.iconst 2, 1) := by decide +kernel
theorem dX10_whyNot_95 : decode cX10_whyNot 95 = .ok (.goto 4, 3) := by decide +kernel
theorem dX10_whyNot_98 : decode cX10_whyNot 98 = .ok (.iconst (-1), 1) := by decide +kernel
theorem dX10_whyNot_99 : decode cX10_whyNot 99 = .ok (.ireturn, 1) := by decide +kernel
theorem dX10_whyNot_100 : decode cX10_whyNot 100 = .ok (.aload_n 0, 1) := by decide +kernel
theorem dX10_whyNot_101 : decode cX10_whyNot 101 = .ok (.iload_n 2, 1) := by decide +kernel
theorem dX10_whyNot_102 : decode cX10_whyNot 102 = .ok (.invokevirtual 132, 3) := by decide +kernel
theorem dX10_whyNot_105 : decode cX10_whyNot 105 = .ok (.ifCond .eq 11, 3) := by decide +kernel
theorem dX10_whyNot_108 : decode cX10_whyNot 108 = .ok (.aload_n 0, 1) := by decide +kernel
theorem dX10_whyNot_109 : decode cX10_whyNot 109 = .ok (.iload_n 3, 1) := by decide +kernel
theorem dX10_whyNot_110 : decode cX10_whyNot 110 = .ok (.invokevirtual 132, 3) := by decide +kernel
theorem dX10_whyNot_113 : decode cX10_whyNot 113 = .ok (.ifCond .ne 7, 3) := by decide +kernel
theorem dX10_whyNot_116 : decode cX10_whyNot 116 = .ok (.iconst 0, 1) := by decide +kernel
theorem dX10_whyNot_117 : decode cX10_whyNot 117 = .ok (.goto 13, 3) := by decide +kernel
theorem dX10_whyNot_120 : decode cX10_whyNot 120 = .ok (.iload_n 2, 1) := by decide +kernel
theorem dX10_whyNot_121 : decode cX10_whyNot 121 = .ok (.iload_n 3, 1) := by decide +kernel
theorem dX10_whyNot_122 : decode cX10_whyNot 122 = .ok (.if_icmp .ne 7, 3) := by decide +kernel
theorem dX10_whyNot_125 : decode cX10_whyNot 125 = .ok (.iconst 2, 1) := by decide +kernel
theorem dX10_whyNot_126 : decode cX10_whyNot 126 = .ok (.goto 4, 3) := by decide +kernel
theorem dX10_whyNot_129 : decode cX10_whyNot 129 = .ok (.iconst (-1), 1) := by decide +kernel
theorem dX10_whyNot_130 : decode cX10_whyNot 130 = .ok (.ireturn, 1) := by decide +kernel
theorem dX10_whyNot_131 : decode cX10_whyNot 131 = .ok (.aload_n 0, 1) := by decide +kernel
theorem dX10_whyNot_132 : decode cX10_whyNot 132 = .ok (.iload_n 2, 1) := by decide +kernel
theorem dX10_whyNot_133 : decode cX10_whyNot 133 = .ok (.iload_n 3, 1) := by decide +kernel
theorem dX10_whyNot_134 : decode cX10_whyNot 134 = .ok (.iload 6, 2) := by decide +kernel
theorem dX10_whyNot_136 : decode cX10_whyNot 136 = .ok (.invokevirtual 237, 3) := by decide +kernel
theorem dX10_whyNot_139 : decode cX10_whyNot 139 = .ok (.ireturn, 1) := by decide +kernel
theorem dX10_whyNot_140 : decode cX10_whyNot 140 = .ok (.aload_n 0, 1) := by decide +kernel
theorem dX10_whyNot_141 : decode cX10_whyNot 141 = .ok (.iload_n 2, 1) := by decide +kernel
theorem dX10_whyNot_142 : decode cX10_whyNot 142 = .ok (.invokevirtual 240, 3) := by decide +kernel
theorem dX10_whyNot_145 : decode cX10_whyNot 145 = .ok (.ifCond .eq 7, 3) := by decide +kernel
theorem dX10_whyNot_148 : decode cX10_whyNot 148 = .ok (.iconst (-1), 1) := by decide +kernel
theorem dX10_whyNot_149 : decode cX10_whyNot 149 = .ok (.goto 4, 3) := by decide +kernel
theorem dX10_whyNot_152 : decode cX10_whyNot 152 = .ok (.iconst 0, 1) := by decide +kernel
theorem dX10_whyNot_153 : decode cX10_whyNot 153 = .ok (.ireturn, 1) := by decide +kernel
theorem dX10_whyNot_154 : decode cX10_whyNot 154 = .ok (.aload_n 0, 1) := by decide +kernel
theorem dX10_whyNot_155 : decode cX10_whyNot 155 = .ok (.iload_n 2, 1) := by decide +kernel
theorem dX10_whyNot_156 : decode cX10_whyNot 156 = .ok (.iload_n 3, 1) := by decide +kernel
theorem dX10_whyNot_157 : decode cX10_whyNot 157 = .ok (.invokevirtual 243, 3) := by decide +kernel
theorem dX10_whyNot_160 : decode cX10_whyNot 160 = .ok (.ireturn, 1) := by decide +kernel
theorem dX10_whyNot_161 : decode cX10_whyNot 161 = .ok (.aload_n 0, 1) := by decide +kernel
theorem dX10_whyNot_162 : decode cX10_whyNot 162 = .ok (.iload_n 2, 1) := by decide +kernel
theorem dX10_whyNot_163 : decode cX10_whyNot 163 = .ok (.invokevirtual 246, 3) := by decide +kernel
theorem dX10_whyNot_166 : decode cX10_whyNot 166 = .ok (.ireturn, 1) := by decide +kernel
theorem dX10_whyNot_167 : decode cX10_whyNot 167 = .ok (.aload_n 0, 1) := by decide +kernel
theorem dX10_whyNot_168 : decode cX10_whyNot 168 = .ok (.iload_n 2, 1) := by decide +kernel
theorem dX10_whyNot_169 : decode cX10_whyNot 169 = .ok (.invokevirtual 240, 3) := by decide +kernel
theorem dX10_whyNot_172 : decode cX10_whyNot 172 = .ok (.ifCond .ne 7, 3) := by decide +kernel
theorem dX10_whyNot_175 : decode cX10_whyNot 175 = .ok (.iconst 0, 1) := by decide +kernel
theorem dX10_whyNot_176 : decode cX10_whyNot 176 = .ok (.goto 23, 3) := by decide +kernel
theorem dX10_whyNot_179 : decode cX10_whyNot 179 = .ok (.aload_n 0, 1) := by decide +kernel
theorem dX10_whyNot_180 : decode cX10_whyNot 180 = .ok (.getfield 28, 3) := by decide +kernel
theorem dX10_whyNot_183 : decode cX10_whyNot 183 = .ok (.iload_n 2, 1) := by decide +kernel
theorem dX10_whyNot_184 : decode cX10_whyNot 184 = .ok (.invokestatic 143, 3) := by decide +kernel
theorem dX10_whyNot_187 : decode cX10_whyNot 187 = .ok (.bipush 8, 2) := by decide +kernel
theorem dX10_whyNot_189 : decode cX10_whyNot 189 = .ok (.iadd, 1) := by decide +kernel
theorem dX10_whyNot_190 : decode cX10_whyNot 190 = .ok (.iaload, 1) := by decide +kernel
theorem dX10_whyNot_191 : decode cX10_whyNot 191 = .ok (.ifCond .ne 7, 3) := by decide +kernel
theorem dX10_whyNot_194 : decode cX10_whyNot 194 = .ok (.iconst 2, 1) := by decide +kernel
theorem dX10_whyNot_195 : decode cX10_whyNot 195 = .ok (.goto 4, 3) := by decide +kernel
theorem dX10_whyNot_198 : decode cX10_whyNot 198 = .ok (.iconst (-1), 1) := by decide +kernel
theorem dX10_whyNot_199 : decode cX10_whyNot 199 = .ok (.ireturn, 1) := by decide +kernel
theorem dX10_copiesLine_0 : decode cX10_copiesLine 0 = .ok (.iconst 0, 1) := by decide +kernel
theorem dX10_copiesLine_1 : decode cX10_copiesLine 1 = .ok (.istore_n 3, 1) := by decide +kernel
theorem dX10_copiesLine_2 : decode cX10_copiesLine 2 = .ok (.iload_n 3, 1) := by decide +kernel
theorem dX10_copiesLine_3 : decode cX10_copiesLine 3 = .ok (.bipush 22, 2) := by decide +kernel
theorem dX10_copiesLine_5 : decode cX10_copiesLine 5 = .ok (.if_icmp .ge 31, 3) := by decide +kernel
theorem dX10_copiesLine_8 : decode cX10_copiesLine 8 = .ok (.aload_n 0, 1) := by decide +kernel
theorem dX10_copiesLine_9 : decode cX10_copiesLine 9 = .ok (.getfield 28, 3) := by decide +kernel
theorem dX10_copiesLine_12 : decode cX10_copiesLine 12 = .ok (.iload_n 2, 1) := by decide +kernel
theorem dX10_copiesLine_13 : decode cX10_copiesLine 13 = .ok (.invokestatic 129, 3) := by decide +kernel
theorem dX10_copiesLine_16 : decode cX10_copiesLine 16 = .ok (.iload_n 3, 1) := by decide +kernel
theorem dX10_copiesLine_17 : decode cX10_copiesLine 17 = .ok (.iadd, 1) := by decide +kernel
theorem dX10_copiesLine_18 : decode cX10_copiesLine 18 = .ok (.aload_n 0, 1) := by decide +kernel
theorem dX10_copiesLine_19 : decode cX10_copiesLine 19 = .ok (.getfield 28, 3) := by decide +kernel
theorem dX10_copiesLine_22 : decode cX10_copiesLine 22 = .ok (.iload_n 1, 1) := by decide +kernel
theorem dX10_copiesLine_23 : decode cX10_copiesLine 23 = .ok (.invokestatic 129, 3) := by decide +kernel
theorem dX10_copiesLine_26 : decode cX10_copiesLine 26 = .ok (.iload_n 3, 1) := by decide +kernel
theorem dX10_copiesLine_27 : decode cX10_copiesLine 27 = .ok (.iadd, 1) := by decide +kernel
theorem dX10_copiesLine_28 : decode cX10_copiesLine 28 = .ok (.iaload, 1) := by decide +kernel
theorem dX10_copiesLine_29 : decode cX10_copiesLine 29 = .ok (.iastore, 1) := by decide +kernel
theorem dX10_copiesLine_30 : decode cX10_copiesLine 30 = .ok (.iinc 3 1, 3) := by decide +kernel
theorem dX10_copiesLine_33 : decode cX10_copiesLine 33 = .ok (.goto (-31), 3) := by decide +kernel
theorem dX10_copiesLine_36 : decode cX10_copiesLine 36 = .ok (.return_, 1) := by decide +kernel
theorem dX10_putsNow_0 : decode cX10_putsNow 0 = .ok (.aload_n 0, 1) := by decide +kernel
theorem dX10_putsNow_1 : decode cX10_putsNow 1 = .ok (.getfield 28, 3) := by decide +kernel
theorem dX10_putsNow_4 : decode cX10_putsNow 4 = .ok (.iconst 0, 1) := by decide +kernel
theorem dX10_putsNow_5 : decode cX10_putsNow 5 = .ok (.iaload, 1) := by decide +kernel
theorem dX10_putsNow_6 : decode cX10_putsNow 6 = .ok (.istore 5, 2) := by decide +kernel
theorem dX10_putsNow_8 : decode cX10_putsNow 8 = .ok (.iload 5, 2) := by decide +kernel
theorem dX10_putsNow_10 : decode cX10_putsNow 10 = .ok (.iload_n 1, 1) := by decide +kernel
theorem dX10_putsNow_11 : decode cX10_putsNow 11 = .ok (.if_icmp .le 19, 3) := by decide +kernel
theorem dX10_putsNow_14 : decode cX10_putsNow 14 = .ok (.aload_n 0, 1) := by decide +kernel
theorem dX10_putsNow_15 : decode cX10_putsNow 15 = .ok (.iload 5, 2) := by decide +kernel
theorem dX10_putsNow_17 : decode cX10_putsNow 17 = .ok (.iconst 1, 1) := by decide +kernel
theorem dX10_putsNow_18 : decode cX10_putsNow 18 = .ok (.isub, 1) := by decide +kernel
theorem dX10_putsNow_19 : decode cX10_putsNow 19 = .ok (.iload 5, 2) := by decide +kernel
theorem dX10_putsNow_21 : decode cX10_putsNow 21 = .ok (.invokevirtual 249, 3) := by decide +kernel
theorem dX10_putsNow_24 : decode cX10_putsNow 24 = .ok (.iinc 5 (-1), 3) := by decide +kernel
theorem dX10_putsNow_27 : decode cX10_putsNow 27 = .ok (.goto (-19), 3) := by decide +kernel
theorem dX10_putsNow_30 : decode cX10_putsNow 30 = .ok (.aload_n 0, 1) := by decide +kernel
theorem dX10_putsNow_31 : decode cX10_putsNow 31 = .ok (.getfield 28, 3) := by decide +kernel
theorem dX10_putsNow_34 : decode cX10_putsNow 34 = .ok (.iconst 0, 1) := by decide +kernel
theorem dX10_putsNow_35 : decode cX10_putsNow 35 = .ok (.dup2, 1) := by decide +kernel
theorem dX10_putsNow_36 : decode cX10_putsNow 36 = .ok (.iaload, 1) := by decide +kernel
theorem dX10_putsNow_37 : decode cX10_putsNow 37 = .ok (.iconst 1, 1) := by decide +kernel
theorem dX10_putsNow_38 : decode cX10_putsNow 38 = .ok (.iadd, 1) := by decide +kernel
theorem dX10_putsNow_39 : decode cX10_putsNow 39 = .ok (.iastore, 1) := by decide +kernel
theorem dX10_putsNow_40 : decode cX10_putsNow 40 = .ok (.aload_n 0, 1) := by decide +kernel
theorem dX10_putsNow_41 : decode cX10_putsNow 41 = .ok (.getfield 28, 3) := by decide +kernel
theorem dX10_putsNow_44 : decode cX10_putsNow 44 = .ok (.iload_n 1, 1) := by decide +kernel
theorem dX10_putsNow_45 : decode cX10_putsNow 45 = .ok (.invokestatic 129, 3) := by decide +kernel
theorem dX10_putsNow_48 : decode cX10_putsNow 48 = .ok (.iconst 0, 1) := by decide +kernel
theorem dX10_putsNow_49 : decode cX10_putsNow 49 = .ok (.iadd, 1) := by decide +kernel
theorem dX10_putsNow_50 : decode cX10_putsNow 50 = .ok (.aload_n 0, 1) := by decide +kernel
theorem dX10_putsNow_51 : decode cX10_putsNow 51 = .ok (.getfield 28, 3) := by decide +kernel
theorem dX10_putsNow_54 : decode cX10_putsNow 54 = .ok (.iconst 1, 1) := by decide +kernel
theorem dX10_putsNow_55 : decode cX10_putsNow 55 = .ok (.iaload, 1) := by decide +kernel
theorem dX10_putsNow_56 : decode cX10_putsNow 56 = .ok (.iastore, 1) := by decide +kernel
theorem dX10_putsNow_57 : decode cX10_putsNow 57 = .ok (.aload_n 0, 1) := by decide +kernel
theorem dX10_putsNow_58 : decode cX10_putsNow 58 = .ok (.getfield 28, 3) := by decide +kernel
theorem dX10_putsNow_61 : decode cX10_putsNow 61 = .ok (.iconst 1, 1) := by decide +kernel
theorem dX10_putsNow_62 : decode cX10_putsNow 62 = .ok (.dup2, 1) := by decide +kernel
theorem dX10_putsNow_63 : decode cX10_putsNow 63 = .ok (.iaload, 1) := by decide +kernel
theorem dX10_putsNow_64 : decode cX10_putsNow 64 = .ok (.iconst 1, 1) := by decide +kernel
theorem dX10_putsNow_65 : decode cX10_putsNow 65 = .ok (.iadd, 1) := by decide +kernel
theorem dX10_putsNow_66 : decode cX10_putsNow 66 = .ok (.iastore, 1) := by decide +kernel
theorem dX10_putsNow_67 : decode cX10_putsNow 67 = .ok (.aload_n 0, 1) := by decide +kernel
theorem dX10_putsNow_68 : decode cX10_putsNow 68 = .ok (.iload_n 1, 1) := by decide +kernel
theorem dX10_putsNow_69 : decode cX10_putsNow 69 = .ok (.aload_n 2, 1) := by decide +kernel
theorem dX10_putsNow_70 : decode cX10_putsNow 70 = .ok (.iload_n 3, 1) := by decide +kernel
theorem dX10_putsNow_71 : decode cX10_putsNow 71 = .ok (.iload 4, 2) := by decide +kernel
theorem dX10_putsNow_73 : decode cX10_putsNow 73 = .ok (.invokevirtual 146, 3) := by decide +kernel
theorem dX10_putsNow_76 : decode cX10_putsNow 76 = .ok (.aload_n 0, 1) := by decide +kernel
theorem dX10_putsNow_77 : decode cX10_putsNow 77 = .ok (.iload_n 1, 1) := by decide +kernel
theorem dX10_putsNow_78 : decode cX10_putsNow 78 = .ok (.invokevirtual 190, 3) := by decide +kernel
theorem dX10_putsNow_81 : decode cX10_putsNow 81 = .ok (.ireturn, 1) := by decide +kernel
theorem dX10_takesNow_0 : decode cX10_takesNow 0 = .ok (.aload_n 0, 1) := by decide +kernel
theorem dX10_takesNow_1 : decode cX10_takesNow 1 = .ok (.iload_n 1, 1) := by decide +kernel
theorem dX10_takesNow_2 : decode cX10_takesNow 2 = .ok (.invokevirtual 136, 3) := by decide +kernel
theorem dX10_takesNow_5 : decode cX10_takesNow 5 = .ok (.istore_n 2, 1) := by decide +kernel
theorem dX10_takesNow_6 : decode cX10_takesNow 6 = .ok (.iload_n 1, 1) := by decide +kernel
theorem dX10_takesNow_7 : decode cX10_takesNow 7 = .ok (.iconst 1, 1) := by decide +kernel
theorem dX10_takesNow_8 : decode cX10_takesNow 8 = .ok (.iadd, 1) := by decide +kernel
theorem dX10_takesNow_9 : decode cX10_takesNow 9 = .ok (.istore_n 3, 1) := by decide +kernel
theorem dX10_takesNow_10 : decode cX10_takesNow 10 = .ok (.iload_n 3, 1) := by decide +kernel
theorem dX10_takesNow_11 : decode cX10_takesNow 11 = .ok (.aload_n 0, 1) := by decide +kernel
theorem dX10_takesNow_12 : decode cX10_takesNow 12 = .ok (.getfield 28, 3) := by decide +kernel
theorem dX10_takesNow_15 : decode cX10_takesNow 15 = .ok (.iconst 0, 1) := by decide +kernel
theorem dX10_takesNow_16 : decode cX10_takesNow 16 = .ok (.iaload, 1) := by decide +kernel
theorem dX10_takesNow_17 : decode cX10_takesNow 17 = .ok (.if_icmp .ge 17, 3) := by decide +kernel
theorem dX10_takesNow_20 : decode cX10_takesNow 20 = .ok (.aload_n 0, 1) := by decide +kernel
theorem dX10_takesNow_21 : decode cX10_takesNow 21 = .ok (.iload_n 3, 1) := by decide +kernel
theorem dX10_takesNow_22 : decode cX10_takesNow 22 = .ok (.iload_n 3, 1) := by decide +kernel
theorem dX10_takesNow_23 : decode cX10_takesNow 23 = .ok (.iconst 1, 1) := by decide +kernel
theorem dX10_takesNow_24 : decode cX10_takesNow 24 = .ok (.isub, 1) := by decide +kernel
theorem dX10_takesNow_25 : decode cX10_takesNow 25 = .ok (.invokevirtual 249, 3) := by decide +kernel
theorem dX10_takesNow_28 : decode cX10_takesNow 28 = .ok (.iinc 3 1, 3) := by decide +kernel
theorem dX10_takesNow_31 : decode cX10_takesNow 31 = .ok (.goto (-21), 3) := by decide +kernel
theorem dX10_takesNow_34 : decode cX10_takesNow 34 = .ok (.aload_n 0, 1) := by decide +kernel
theorem dX10_takesNow_35 : decode cX10_takesNow 35 = .ok (.getfield 28, 3) := by decide +kernel
theorem dX10_takesNow_38 : decode cX10_takesNow 38 = .ok (.iconst 0, 1) := by decide +kernel
theorem dX10_takesNow_39 : decode cX10_takesNow 39 = .ok (.dup2, 1) := by decide +kernel
theorem dX10_takesNow_40 : decode cX10_takesNow 40 = .ok (.iaload, 1) := by decide +kernel
theorem dX10_takesNow_41 : decode cX10_takesNow 41 = .ok (.iconst 1, 1) := by decide +kernel
theorem dX10_takesNow_42 : decode cX10_takesNow 42 = .ok (.isub, 1) := by decide +kernel
theorem dX10_takesNow_43 : decode cX10_takesNow 43 = .ok (.iastore, 1) := by decide +kernel
theorem dX10_takesNow_44 : decode cX10_takesNow 44 = .ok (.iload_n 2, 1) := by decide +kernel
theorem dX10_takesNow_45 : decode cX10_takesNow 45 = .ok (.ireturn, 1) := by decide +kernel
theorem dX10_swapsNow_0 : decode cX10_swapsNow 0 = .ok (.iconst 0, 1) := by decide +kernel
theorem dX10_swapsNow_1 : decode cX10_swapsNow 1 = .ok (.istore_n 3, 1) := by decide +kernel
theorem dX10_swapsNow_2 : decode cX10_swapsNow 2 = .ok (.iload_n 3, 1) := by decide +kernel
theorem dX10_swapsNow_3 : decode cX10_swapsNow 3 = .ok (.bipush 22, 2) := by decide +kernel
theorem dX10_swapsNow_5 : decode cX10_swapsNow 5 = .ok (.if_icmp .ge 57, 3) := by decide +kernel
theorem dX10_swapsNow_8 : decode cX10_swapsNow 8 = .ok (.aload_n 0, 1) := by decide +kernel
theorem dX10_swapsNow_9 : decode cX10_swapsNow 9 = .ok (.getfield 28, 3) := by decide +kernel
theorem dX10_swapsNow_12 : decode cX10_swapsNow 12 = .ok (.iload_n 1, 1) := by decide +kernel
theorem dX10_swapsNow_13 : decode cX10_swapsNow 13 = .ok (.invokestatic 129, 3) := by decide +kernel
theorem dX10_swapsNow_16 : decode cX10_swapsNow 16 = .ok (.iload_n 3, 1) := by decide +kernel
theorem dX10_swapsNow_17 : decode cX10_swapsNow 17 = .ok (.iadd, 1) := by decide +kernel
theorem dX10_swapsNow_18 : decode cX10_swapsNow 18 = .ok (.iaload, 1) := by decide +kernel
theorem dX10_swapsNow_19 : decode cX10_swapsNow 19 = .ok (.istore 4, 2) := by decide +kernel
theorem dX10_swapsNow_21 : decode cX10_swapsNow 21 = .ok (.aload_n 0, 1) := by decide +kernel
theorem dX10_swapsNow_22 : decode cX10_swapsNow 22 = .ok (.getfield 28, 3) := by decide +kernel
theorem dX10_swapsNow_25 : decode cX10_swapsNow 25 = .ok (.iload_n 1, 1) := by decide +kernel
theorem dX10_swapsNow_26 : decode cX10_swapsNow 26 = .ok (.invokestatic 129, 3) := by decide +kernel
theorem dX10_swapsNow_29 : decode cX10_swapsNow 29 = .ok (.iload_n 3, 1) := by decide +kernel
theorem dX10_swapsNow_30 : decode cX10_swapsNow 30 = .ok (.iadd, 1) := by decide +kernel
theorem dX10_swapsNow_31 : decode cX10_swapsNow 31 = .ok (.aload_n 0, 1) := by decide +kernel
theorem dX10_swapsNow_32 : decode cX10_swapsNow 32 = .ok (.getfield 28, 3) := by decide +kernel
theorem dX10_swapsNow_35 : decode cX10_swapsNow 35 = .ok (.iload_n 2, 1) := by decide +kernel
theorem dX10_swapsNow_36 : decode cX10_swapsNow 36 = .ok (.invokestatic 129, 3) := by decide +kernel
theorem dX10_swapsNow_39 : decode cX10_swapsNow 39 = .ok (.iload_n 3, 1) := by decide +kernel
theorem dX10_swapsNow_40 : decode cX10_swapsNow 40 = .ok (.iadd, 1) := by decide +kernel
theorem dX10_swapsNow_41 : decode cX10_swapsNow 41 = .ok (.iaload, 1) := by decide +kernel
theorem dX10_swapsNow_42 : decode cX10_swapsNow 42 = .ok (.iastore, 1) := by decide +kernel
theorem dX10_swapsNow_43 : decode cX10_swapsNow 43 = .ok (.aload_n 0, 1) := by decide +kernel
theorem dX10_swapsNow_44 : decode cX10_swapsNow 44 = .ok (.getfield 28, 3) := by decide +kernel
theorem dX10_swapsNow_47 : decode cX10_swapsNow 47 = .ok (.iload_n 2, 1) := by decide +kernel
theorem dX10_swapsNow_48 : decode cX10_swapsNow 48 = .ok (.invokestatic 129, 3) := by decide +kernel
theorem dX10_swapsNow_51 : decode cX10_swapsNow 51 = .ok (.iload_n 3, 1) := by decide +kernel
theorem dX10_swapsNow_52 : decode cX10_swapsNow 52 = .ok (.iadd, 1) := by decide +kernel
theorem dX10_swapsNow_53 : decode cX10_swapsNow 53 = .ok (.iload 4, 2) := by decide +kernel
theorem dX10_swapsNow_55 : decode cX10_swapsNow 55 = .ok (.iastore, 1) := by decide +kernel
theorem dX10_swapsNow_56 : decode cX10_swapsNow 56 = .ok (.iinc 3 1, 3) := by decide +kernel
theorem dX10_swapsNow_59 : decode cX10_swapsNow 59 = .ok (.goto (-57), 3) := by decide +kernel
theorem dX10_swapsNow_62 : decode cX10_swapsNow 62 = .ok (.aload_n 0, 1) := by decide +kernel
theorem dX10_swapsNow_63 : decode cX10_swapsNow 63 = .ok (.iload_n 1, 1) := by decide +kernel
theorem dX10_swapsNow_64 : decode cX10_swapsNow 64 = .ok (.invokevirtual 190, 3) := by decide +kernel
theorem dX10_swapsNow_67 : decode cX10_swapsNow 67 = .ok (.ireturn, 1) := by decide +kernel
theorem dX10_splitsNow_0 : decode cX10_splitsNow 0 = .ok (.aload_n 0, 1) := by decide +kernel
theorem dX10_splitsNow_1 : decode cX10_splitsNow 1 = .ok (.iload_n 1, 1) := by decide +kernel
theorem dX10_splitsNow_2 : decode cX10_splitsNow 2 = .ok (.invokevirtual 136, 3) := by decide +kernel
theorem dX10_splitsNow_5 : decode cX10_splitsNow 5 = .ok (.istore_n 3, 1) := by decide +kernel
theorem dX10_splitsNow_6 : decode cX10_splitsNow 6 = .ok (.aload_n 0, 1) := by decide +kernel
theorem dX10_splitsNow_7 : decode cX10_splitsNow 7 = .ok (.getfield 28, 3) := by decide +kernel
theorem dX10_splitsNow_10 : decode cX10_splitsNow 10 = .ok (.iconst 0, 1) := by decide +kernel
theorem dX10_splitsNow_11 : decode cX10_splitsNow 11 = .ok (.iaload, 1) := by decide +kernel
theorem dX10_splitsNow_12 : decode cX10_splitsNow 12 = .ok (.istore 4, 2) := by decide +kernel
theorem dX10_splitsNow_14 : decode cX10_splitsNow 14 = .ok (.iload 4, 2) := by decide +kernel
theorem dX10_splitsNow_16 : decode cX10_splitsNow 16 = .ok (.iload_n 1, 1) := by decide +kernel
theorem dX10_splitsNow_17 : decode cX10_splitsNow 17 = .ok (.iconst 1, 1) := by decide +kernel
theorem dX10_splitsNow_18 : decode cX10_splitsNow 18 = .ok (.iadd, 1) := by decide +kernel
theorem dX10_splitsNow_19 : decode cX10_splitsNow 19 = .ok (.if_icmp .le 19, 3) := by decide +kernel
theorem dX10_splitsNow_22 : decode cX10_splitsNow 22 = .ok (.aload_n 0, 1) := by decide +kernel
theorem dX10_splitsNow_23 : decode cX10_splitsNow 23 = .ok (.iload 4, 2) := by decide +kernel
theorem dX10_splitsNow_25 : decode cX10_splitsNow 25 = .ok (.iconst 1, 1) := by decide +kernel
theorem dX10_splitsNow_26 : decode cX10_splitsNow 26 = .ok (.isub, 1) := by decide +kernel
theorem dX10_splitsNow_27 : decode cX10_splitsNow 27 = .ok (.iload 4, 2) := by decide +kernel
theorem dX10_splitsNow_29 : decode cX10_splitsNow 29 = .ok (.invokevirtual 249, 3) := by decide +kernel
theorem dX10_splitsNow_32 : decode cX10_splitsNow 32 = .ok (.iinc 4 (-1), 3) := by decide +kernel
theorem dX10_splitsNow_35 : decode cX10_splitsNow 35 = .ok (.goto (-21), 3) := by decide +kernel
theorem dX10_splitsNow_38 : decode cX10_splitsNow 38 = .ok (.aload_n 0, 1) := by decide +kernel
theorem dX10_splitsNow_39 : decode cX10_splitsNow 39 = .ok (.getfield 28, 3) := by decide +kernel
theorem dX10_splitsNow_42 : decode cX10_splitsNow 42 = .ok (.iconst 0, 1) := by decide +kernel
theorem dX10_splitsNow_43 : decode cX10_splitsNow 43 = .ok (.dup2, 1) := by decide +kernel
theorem dX10_splitsNow_44 : decode cX10_splitsNow 44 = .ok (.iaload, 1) := by decide +kernel
theorem dX10_splitsNow_45 : decode cX10_splitsNow 45 = .ok (.iconst 1, 1) := by decide +kernel
theorem dX10_splitsNow_46 : decode cX10_splitsNow 46 = .ok (.iadd, 1) := by decide +kernel
theorem dX10_splitsNow_47 : decode cX10_splitsNow 47 = .ok (.iastore, 1) := by decide +kernel
theorem dX10_splitsNow_48 : decode cX10_splitsNow 48 = .ok (.aload_n 0, 1) := by decide +kernel
theorem dX10_splitsNow_49 : decode cX10_splitsNow 49 = .ok (.getfield 28, 3) := by decide +kernel
theorem dX10_splitsNow_52 : decode cX10_splitsNow 52 = .ok (.iload_n 1, 1) := by decide +kernel
theorem dX10_splitsNow_53 : decode cX10_splitsNow 53 = .ok (.iconst 1, 1) := by decide +kernel
theorem dX10_splitsNow_54 : decode cX10_splitsNow 54 = .ok (.iadd, 1) := by decide +kernel
theorem dX10_splitsNow_55 : decode cX10_splitsNow 55 = .ok (.invokestatic 129, 3) := by decide +kernel
theorem dX10_splitsNow_58 : decode cX10_splitsNow 58 = .ok (.iconst 0, 1) := by decide +kernel
theorem dX10_splitsNow_59 : decode cX10_splitsNow 59 = .ok (.iadd, 1) := by decide +kernel
theorem dX10_splitsNow_60 : decode cX10_splitsNow 60 = .ok (.aload_n 0, 1) := by decide +kernel
theorem dX10_splitsNow_61 : decode cX10_splitsNow 61 = .ok (.getfield 28, 3) := by decide +kernel
theorem dX10_splitsNow_64 : decode cX10_splitsNow 64 = .ok (.iconst 1, 1) := by decide +kernel
theorem dX10_splitsNow_65 : decode cX10_splitsNow 65 = .ok (.iaload, 1) := by decide +kernel
theorem dX10_splitsNow_66 : decode cX10_splitsNow 66 = .ok (.iastore, 1) := by decide +kernel
theorem dX10_splitsNow_67 : decode cX10_splitsNow 67 = .ok (.aload_n 0, 1) := by decide +kernel
theorem dX10_splitsNow_68 : decode cX10_splitsNow 68 = .ok (.getfield 28, 3) := by decide +kernel
theorem dX10_splitsNow_71 : decode cX10_splitsNow 71 = .ok (.iconst 1, 1) := by decide +kernel
theorem dX10_splitsNow_72 : decode cX10_splitsNow 72 = .ok (.dup2, 1) := by decide +kernel
theorem dX10_splitsNow_73 : decode cX10_splitsNow 73 = .ok (.iaload, 1) := by decide +kernel
theorem dX10_splitsNow_74 : decode cX10_splitsNow 74 = .ok (.iconst 1, 1) := by decide +kernel
theorem dX10_splitsNow_75 : decode cX10_splitsNow 75 = .ok (.iadd, 1) := by decide +kernel
theorem dX10_splitsNow_76 : decode cX10_splitsNow 76 = .ok (.iastore, 1) := by decide +kernel
theorem dX10_splitsNow_77 : decode cX10_splitsNow 77 = .ok (.aload_n 0, 1) := by decide +kernel
theorem dX10_splitsNow_78 : decode cX10_splitsNow 78 = .ok (.iload_n 1, 1) := by decide +kernel
theorem dX10_splitsNow_79 : decode cX10_splitsNow 79 = .ok (.iconst 1, 1) := by decide +kernel
theorem dX10_splitsNow_80 : decode cX10_splitsNow 80 = .ok (.iadd, 1) := by decide +kernel
theorem dX10_splitsNow_81 : decode cX10_splitsNow 81 = .ok (.aload_n 0, 1) := by decide +kernel
theorem dX10_splitsNow_82 : decode cX10_splitsNow 82 = .ok (.getfield 28, 3) := by decide +kernel
theorem dX10_splitsNow_85 : decode cX10_splitsNow 85 = .ok (.iload_n 1, 1) := by decide +kernel
theorem dX10_splitsNow_86 : decode cX10_splitsNow 86 = .ok (.invokestatic 129, 3) := by decide +kernel
theorem dX10_splitsNow_89 : decode cX10_splitsNow 89 = .ok (.iconst 2, 1) := by decide +kernel
theorem dX10_splitsNow_90 : decode cX10_splitsNow 90 = .ok (.iadd, 1) := by decide +kernel
theorem dX10_splitsNow_91 : decode cX10_splitsNow 91 = .ok (.iload_n 2, 1) := by decide +kernel
theorem dX10_splitsNow_92 : decode cX10_splitsNow 92 = .ok (.iadd, 1) := by decide +kernel
theorem dX10_splitsNow_93 : decode cX10_splitsNow 93 = .ok (.iload_n 3, 1) := by decide +kernel
theorem dX10_splitsNow_94 : decode cX10_splitsNow 94 = .ok (.iload_n 2, 1) := by decide +kernel
theorem dX10_splitsNow_95 : decode cX10_splitsNow 95 = .ok (.isub, 1) := by decide +kernel
theorem dX10_splitsNow_96 : decode cX10_splitsNow 96 = .ok (.invokevirtual 146, 3) := by decide +kernel
theorem dX10_splitsNow_99 : decode cX10_splitsNow 99 = .ok (.iload_n 2, 1) := by decide +kernel
theorem dX10_splitsNow_100 : decode cX10_splitsNow 100 = .ok (.istore 4, 2) := by decide +kernel
theorem dX10_splitsNow_102 : decode cX10_splitsNow 102 = .ok (.iload 4, 2) := by decide +kernel
theorem dX10_splitsNow_104 : decode cX10_splitsNow 104 = .ok (.bipush 20, 2) := by decide +kernel
theorem dX10_splitsNow_106 : decode cX10_splitsNow 106 = .ok (.if_icmp .ge 24, 3) := by decide +kernel
theorem dX10_splitsNow_109 : decode cX10_splitsNow 109 = .ok (.aload_n 0, 1) := by decide +kernel
theorem dX10_splitsNow_110 : decode cX10_splitsNow 110 = .ok (.getfield 28, 3) := by decide +kernel
theorem dX10_splitsNow_113 : decode cX10_splitsNow 113 = .ok (.iload_n 1, 1) := by decide +kernel
theorem dX10_splitsNow_114 : decode cX10_splitsNow 114 = .ok (.invokestatic 129, 3) := by decide +kernel
theorem dX10_splitsNow_117 : decode cX10_splitsNow 117 = .ok (.iconst 2, 1) := by decide +kernel
theorem dX10_splitsNow_118 : decode cX10_splitsNow 118 = .ok (.iadd, 1) := by decide +kernel
theorem dX10_splitsNow_119 : decode cX10_splitsNow 119 = .ok (.iload 4, 2) := by decide +kernel
theorem dX10_splitsNow_121 : decode cX10_splitsNow 121 = .ok (.iadd, 1) := by decide +kernel
theorem dX10_splitsNow_122 : decode cX10_splitsNow 122 = .ok (.iconst 0, 1) := by decide +kernel
theorem dX10_splitsNow_123 : decode cX10_splitsNow 123 = .ok (.iastore, 1) := by decide +kernel
theorem dX10_splitsNow_124 : decode cX10_splitsNow 124 = .ok (.iinc 4 1, 3) := by decide +kernel
theorem dX10_splitsNow_127 : decode cX10_splitsNow 127 = .ok (.goto (-25), 3) := by decide +kernel
theorem dX10_splitsNow_130 : decode cX10_splitsNow 130 = .ok (.aload_n 0, 1) := by decide +kernel
theorem dX10_splitsNow_131 : decode cX10_splitsNow 131 = .ok (.getfield 28, 3) := by decide +kernel
theorem dX10_splitsNow_134 : decode cX10_splitsNow 134 = .ok (.iload_n 1, 1) := by decide +kernel
theorem dX10_splitsNow_135 : decode cX10_splitsNow 135 = .ok (.invokestatic 129, 3) := by decide +kernel
theorem dX10_splitsNow_138 : decode cX10_splitsNow 138 = .ok (.iconst 1, 1) := by decide +kernel
theorem dX10_splitsNow_139 : decode cX10_splitsNow 139 = .ok (.iadd, 1) := by decide +kernel
theorem dX10_splitsNow_140 : decode cX10_splitsNow 140 = .ok (.iload_n 2, 1) := by decide +kernel
theorem dX10_splitsNow_141 : decode cX10_splitsNow 141 = .ok (.iastore, 1) := by decide +kernel
theorem dX10_splitsNow_142 : decode cX10_splitsNow 142 = .ok (.aload_n 0, 1) := by decide +kernel
theorem dX10_splitsNow_143 : decode cX10_splitsNow 143 = .ok (.iload_n 1, 1) := by decide +kernel
theorem dX10_splitsNow_144 : decode cX10_splitsNow 144 = .ok (.iconst 1, 1) := by decide +kernel
theorem dX10_splitsNow_145 : decode cX10_splitsNow 145 = .ok (.iadd, 1) := by decide +kernel
theorem dX10_splitsNow_146 : decode cX10_splitsNow 146 = .ok (.invokevirtual 190, 3) := by decide +kernel
theorem dX10_splitsNow_149 : decode cX10_splitsNow 149 = .ok (.ireturn, 1) := by decide +kernel
theorem dX10_joinsNow_0 : decode cX10_joinsNow 0 = .ok (.aload_n 0, 1) := by decide +kernel
theorem dX10_joinsNow_1 : decode cX10_joinsNow 1 = .ok (.iload_n 1, 1) := by decide +kernel
theorem dX10_joinsNow_2 : decode cX10_joinsNow 2 = .ok (.invokevirtual 136, 3) := by decide +kernel
theorem dX10_joinsNow_5 : decode cX10_joinsNow 5 = .ok (.istore_n 2, 1) := by decide +kernel
theorem dX10_joinsNow_6 : decode cX10_joinsNow 6 = .ok (.iconst 0, 1) := by decide +kernel
theorem dX10_joinsNow_7 : decode cX10_joinsNow 7 = .ok (.istore_n 3, 1) := by decide +kernel
theorem dX10_joinsNow_8 : decode cX10_joinsNow 8 = .ok (.iload_n 3, 1) := by decide +kernel
theorem dX10_joinsNow_9 : decode cX10_joinsNow 9 = .ok (.aload_n 0, 1) := by decide +kernel
theorem dX10_joinsNow_10 : decode cX10_joinsNow 10 = .ok (.iload_n 1, 1) := by decide +kernel
theorem dX10_joinsNow_11 : decode cX10_joinsNow 11 = .ok (.iconst 1, 1) := by decide +kernel
theorem dX10_joinsNow_12 : decode cX10_joinsNow 12 = .ok (.iadd, 1) := by decide +kernel
theorem dX10_joinsNow_13 : decode cX10_joinsNow 13 = .ok (.invokevirtual 136, 3) := by decide +kernel
theorem dX10_joinsNow_16 : decode cX10_joinsNow 16 = .ok (.if_icmp .ge 32, 3) := by decide +kernel
theorem dX10_joinsNow_19 : decode cX10_joinsNow 19 = .ok (.aload_n 0, 1) := by decide +kernel
theorem dX10_joinsNow_20 : decode cX10_joinsNow 20 = .ok (.getfield 28, 3) := by decide +kernel
theorem dX10_joinsNow_23 : decode cX10_joinsNow 23 = .ok (.iload_n 1, 1) := by decide +kernel
theorem dX10_joinsNow_24 : decode cX10_joinsNow 24 = .ok (.invokestatic 129, 3) := by decide +kernel
theorem dX10_joinsNow_27 : decode cX10_joinsNow 27 = .ok (.iconst 2, 1) := by decide +kernel
theorem dX10_joinsNow_28 : decode cX10_joinsNow 28 = .ok (.iadd, 1) := by decide +kernel
theorem dX10_joinsNow_29 : decode cX10_joinsNow 29 = .ok (.iload_n 2, 1) := by decide +kernel
theorem dX10_joinsNow_30 : decode cX10_joinsNow 30 = .ok (.iadd, 1) := by decide +kernel
theorem dX10_joinsNow_31 : decode cX10_joinsNow 31 = .ok (.iload_n 3, 1) := by decide +kernel
theorem dX10_joinsNow_32 : decode cX10_joinsNow 32 = .ok (.iadd, 1) := by decide +kernel
theorem dX10_joinsNow_33 : decode cX10_joinsNow 33 = .ok (.aload_n 0, 1) := by decide +kernel
theorem dX10_joinsNow_34 : decode cX10_joinsNow 34 = .ok (.iload_n 1, 1) := by decide +kernel
theorem dX10_joinsNow_35 : decode cX10_joinsNow 35 = .ok (.iconst 1, 1) := by decide +kernel
theorem dX10_joinsNow_36 : decode cX10_joinsNow 36 = .ok (.iadd, 1) := by decide +kernel
theorem dX10_joinsNow_37 : decode cX10_joinsNow 37 = .ok (.iload_n 3, 1) := by decide +kernel
theorem dX10_joinsNow_38 : decode cX10_joinsNow 38 = .ok (.invokevirtual 176, 3) := by decide +kernel
theorem dX10_joinsNow_41 : decode cX10_joinsNow 41 = .ok (.iastore, 1) := by decide +kernel
theorem dX10_joinsNow_42 : decode cX10_joinsNow 42 = .ok (.iinc 3 1, 3) := by decide +kernel
theorem dX10_joinsNow_45 : decode cX10_joinsNow 45 = .ok (.goto (-37), 3) := by decide +kernel
theorem dX10_joinsNow_48 : decode cX10_joinsNow 48 = .ok (.aload_n 0, 1) := by decide +kernel
theorem dX10_joinsNow_49 : decode cX10_joinsNow 49 = .ok (.getfield 28, 3) := by decide +kernel
theorem dX10_joinsNow_52 : decode cX10_joinsNow 52 = .ok (.iload_n 1, 1) := by decide +kernel
theorem dX10_joinsNow_53 : decode cX10_joinsNow 53 = .ok (.invokestatic 129, 3) := by decide +kernel
theorem dX10_joinsNow_56 : decode cX10_joinsNow 56 = .ok (.iconst 1, 1) := by decide +kernel
theorem dX10_joinsNow_57 : decode cX10_joinsNow 57 = .ok (.iadd, 1) := by decide +kernel
theorem dX10_joinsNow_58 : decode cX10_joinsNow 58 = .ok (.dup2, 1) := by decide +kernel
theorem dX10_joinsNow_59 : decode cX10_joinsNow 59 = .ok (.iaload, 1) := by decide +kernel
theorem dX10_joinsNow_60 : decode cX10_joinsNow 60 = .ok (.aload_n 0, 1) := by decide +kernel
theorem dX10_joinsNow_61 : decode cX10_joinsNow 61 = .ok (.iload_n 1, 1) := by decide +kernel
theorem dX10_joinsNow_62 : decode cX10_joinsNow 62 = .ok (.iconst 1, 1) := by decide +kernel
theorem dX10_joinsNow_63 : decode cX10_joinsNow 63 = .ok (.iadd, 1) := by decide +kernel
theorem dX10_joinsNow_64 : decode cX10_joinsNow 64 = .ok (.invokevirtual 136, 3) := by decide +kernel
theorem dX10_joinsNow_67 : decode cX10_joinsNow 67 = .ok (.iadd, 1) := by decide +kernel
theorem dX10_joinsNow_68 : decode cX10_joinsNow 68 = .ok (.iastore, 1) := by decide +kernel
theorem dX10_joinsNow_69 : decode cX10_joinsNow 69 = .ok (.aload_n 0, 1) := by decide +kernel
theorem dX10_joinsNow_70 : decode cX10_joinsNow 70 = .ok (.iload_n 1, 1) := by decide +kernel
theorem dX10_joinsNow_71 : decode cX10_joinsNow 71 = .ok (.iconst 1, 1) := by decide +kernel
theorem dX10_joinsNow_72 : decode cX10_joinsNow 72 = .ok (.iadd, 1) := by decide +kernel
theorem dX10_joinsNow_73 : decode cX10_joinsNow 73 = .ok (.invokevirtual 252, 3) := by decide +kernel
theorem dX10_joinsNow_76 : decode cX10_joinsNow 76 = .ok (.pop, 1) := by decide +kernel
theorem dX10_joinsNow_77 : decode cX10_joinsNow 77 = .ok (.aload_n 0, 1) := by decide +kernel
theorem dX10_joinsNow_78 : decode cX10_joinsNow 78 = .ok (.iload_n 1, 1) := by decide +kernel
theorem dX10_joinsNow_79 : decode cX10_joinsNow 79 = .ok (.invokevirtual 136, 3) := by decide +kernel
theorem dX10_joinsNow_82 : decode cX10_joinsNow 82 = .ok (.ireturn, 1) := by decide +kernel
theorem dX10_doNow_0 : decode cX10_doNow 0 = .ok (.iload_n 1, 1) := by decide +kernel
theorem dX10_doNow_1 : decode cX10_doNow 1 = .ok (.tableswitch 125 0 8 #[51, 68, 80, 86, 93, 106, 125, 112, 119], 51) := by decide +kernel
theorem dX10_doNow_52 : decode cX10_doNow 52 = .ok (.aload_n 0, 1) := by decide +kernel
theorem dX10_doNow_53 : decode cX10_doNow 53 = .ok (.iload_n 2, 1) := by decide +kernel
theorem dX10_doNow_54 : decode cX10_doNow 54 = .ok (.aload 4, 2) := by decide +kernel
theorem dX10_doNow_56 : decode cX10_doNow 56 = .ok (.iload 5, 2) := by decide +kernel
theorem dX10_doNow_58 : decode cX10_doNow 58 = .ok (.iload 6, 2) := by decide +kernel
theorem dX10_doNow_60 : decode cX10_doNow 60 = .ok (.invokevirtual 146, 3) := by decide +kernel
theorem dX10_doNow_63 : decode cX10_doNow 63 = .ok (.aload_n 0, 1) := by decide +kernel
theorem dX10_doNow_64 : decode cX10_doNow 64 = .ok (.iload_n 2, 1) := by decide +kernel
theorem dX10_doNow_65 : decode cX10_doNow 65 = .ok (.invokevirtual 190, 3) := by decide +kernel
theorem dX10_doNow_68 : decode cX10_doNow 68 = .ok (.ireturn, 1) := by decide +kernel
theorem dX10_doNow_69 : decode cX10_doNow 69 = .ok (.aload_n 0, 1) := by decide +kernel
theorem dX10_doNow_70 : decode cX10_doNow 70 = .ok (.iload_n 2, 1) := by decide +kernel
theorem dX10_doNow_71 : decode cX10_doNow 71 = .ok (.aload 4, 2) := by decide +kernel
theorem dX10_doNow_73 : decode cX10_doNow 73 = .ok (.iload 5, 2) := by decide +kernel
theorem dX10_doNow_75 : decode cX10_doNow 75 = .ok (.iload 6, 2) := by decide +kernel
theorem dX10_doNow_77 : decode cX10_doNow 77 = .ok (.invokevirtual 255, 3) := by decide +kernel
theorem dX10_doNow_80 : decode cX10_doNow 80 = .ok (.ireturn, 1) := by decide +kernel
theorem dX10_doNow_81 : decode cX10_doNow 81 = .ok (.aload_n 0, 1) := by decide +kernel
theorem dX10_doNow_82 : decode cX10_doNow 82 = .ok (.iload_n 2, 1) := by decide +kernel
theorem dX10_doNow_83 : decode cX10_doNow 83 = .ok (.invokevirtual 252, 3) := by decide +kernel
theorem dX10_doNow_86 : decode cX10_doNow 86 = .ok (.ireturn, 1) := by decide +kernel
theorem dX10_doNow_87 : decode cX10_doNow 87 = .ok (.aload_n 0, 1) := by decide +kernel
theorem dX10_doNow_88 : decode cX10_doNow 88 = .ok (.iload_n 2, 1) := by decide +kernel
theorem dX10_doNow_89 : decode cX10_doNow 89 = .ok (.iload_n 3, 1) := by decide +kernel
theorem dX10_doNow_90 : decode cX10_doNow 90 = .ok (.invokevirtual 258, 3) := by decide +kernel
theorem dX10_doNow_93 : decode cX10_doNow 93 = .ok (.ireturn, 1) := by decide +kernel
theorem dX10_doNow_94 : decode cX10_doNow 94 = .ok (.aload_n 0, 1) := by decide +kernel
theorem dX10_doNow_95 : decode cX10_doNow 95 = .ok (.iload_n 2, 1) := by decide +kernel
theorem dX10_doNow_96 : decode cX10_doNow 96 = .ok (.iload_n 3, 1) := by decide +kernel
theorem dX10_doNow_97 : decode cX10_doNow 97 = .ok (.aload 4, 2) := by decide +kernel
theorem dX10_doNow_99 : decode cX10_doNow 99 = .ok (.iload 5, 2) := by decide +kernel
theorem dX10_doNow_101 : decode cX10_doNow 101 = .ok (.iload 6, 2) := by decide +kernel
theorem dX10_doNow_103 : decode cX10_doNow 103 = .ok (.invokevirtual 261, 3) := by decide +kernel
theorem dX10_doNow_106 : decode cX10_doNow 106 = .ok (.ireturn, 1) := by decide +kernel
theorem dX10_doNow_107 : decode cX10_doNow 107 = .ok (.aload_n 0, 1) := by decide +kernel
theorem dX10_doNow_108 : decode cX10_doNow 108 = .ok (.iload_n 2, 1) := by decide +kernel
theorem dX10_doNow_109 : decode cX10_doNow 109 = .ok (.invokevirtual 265, 3) := by decide +kernel
theorem dX10_doNow_112 : decode cX10_doNow 112 = .ok (.ireturn, 1) := by decide +kernel
theorem dX10_doNow_113 : decode cX10_doNow 113 = .ok (.aload_n 0, 1) := by decide +kernel
theorem dX10_doNow_114 : decode cX10_doNow 114 = .ok (.iload_n 2, 1) := by decide +kernel
theorem dX10_doNow_115 : decode cX10_doNow 115 = .ok (.iload_n 3, 1) := by decide +kernel
theorem dX10_doNow_116 : decode cX10_doNow 116 = .ok (.invokevirtual 268, 3) := by decide +kernel
theorem dX10_doNow_119 : decode cX10_doNow 119 = .ok (.ireturn, 1) := by decide +kernel
theorem dX10_doNow_120 : decode cX10_doNow 120 = .ok (.aload_n 0, 1) := by decide +kernel
theorem dX10_doNow_121 : decode cX10_doNow 121 = .ok (.iload_n 2, 1) := by decide +kernel
theorem dX10_doNow_122 : decode cX10_doNow 122 = .ok (.invokevirtual 271, 3) := by decide +kernel
theorem dX10_doNow_125 : decode cX10_doNow 125 = .ok (.ireturn, 1) := by decide +kernel
theorem dX10_doNow_126 : decode cX10_doNow 126 = .ok (.aload_n 0, 1) := by decide +kernel
theorem dX10_doNow_127 : decode cX10_doNow 127 = .ok (.iload_n 2, 1) := by decide +kernel
theorem dX10_doNow_128 : decode cX10_doNow 128 = .ok (.invokevirtual 274, 3) := by decide +kernel
theorem dX10_doNow_131 : decode cX10_doNow 131 = .ok (.ireturn, 1) := by decide +kernel
theorem dX10_keep_0 : decode cX10_keep 0 = .ok (.aload_n 0, 1) := by decide +kernel
theorem dX10_keep_1 : decode cX10_keep 1 = .ok (.getfield 153, 3) := by decide +kernel
theorem dX10_keep_4 : decode cX10_keep 4 = .ok (.bipush 40, 2) := by decide +kernel
theorem dX10_keep_6 : decode cX10_keep 6 = .ok (.if_icmp .ne 46, 3) := by decide +kernel
theorem dX10_keep_9 : decode cX10_keep 9 = .ok (.sipush 622, 3) := by decide +kernel
theorem dX10_keep_12 : decode cX10_keep 12 = .ok (.istore_n 1, 1) := by decide +kernel
theorem dX10_keep_13 : decode cX10_keep 13 = .ok (.iload_n 1, 1) := by decide +kernel
theorem dX10_keep_14 : decode cX10_keep 14 = .ok (.sipush 24880, 3) := by decide +kernel
theorem dX10_keep_17 : decode cX10_keep 17 = .ok (.if_icmp .ge 25, 3) := by decide +kernel
theorem dX10_keep_20 : decode cX10_keep 20 = .ok (.aload_n 0, 1) := by decide +kernel
theorem dX10_keep_21 : decode cX10_keep 21 = .ok (.getfield 43, 3) := by decide +kernel
theorem dX10_keep_24 : decode cX10_keep 24 = .ok (.iload_n 1, 1) := by decide +kernel
theorem dX10_keep_25 : decode cX10_keep 25 = .ok (.sipush 622, 3) := by decide +kernel
theorem dX10_keep_28 : decode cX10_keep 28 = .ok (.isub, 1) := by decide +kernel
theorem dX10_keep_29 : decode cX10_keep 29 = .ok (.aload_n 0, 1) := by decide +kernel
theorem dX10_keep_30 : decode cX10_keep 30 = .ok (.getfield 43, 3) := by decide +kernel
theorem dX10_keep_33 : decode cX10_keep 33 = .ok (.iload_n 1, 1) := by decide +kernel
theorem dX10_keep_34 : decode cX10_keep 34 = .ok (.iaload, 1) := by decide +kernel
theorem dX10_keep_35 : decode cX10_keep 35 = .ok (.iastore, 1) := by decide +kernel
theorem dX10_keep_36 : decode cX10_keep 36 = .ok (.iinc 1 1, 3) := by decide +kernel
theorem dX10_keep_39 : decode cX10_keep 39 = .ok (.goto (-26), 3) := by decide +kernel
theorem dX10_keep_42 : decode cX10_keep 42 = .ok (.aload_n 0, 1) := by decide +kernel
theorem dX10_keep_43 : decode cX10_keep 43 = .ok (.dup, 1) := by decide +kernel
theorem dX10_keep_44 : decode cX10_keep 44 = .ok (.getfield 153, 3) := by decide +kernel
theorem dX10_keep_47 : decode cX10_keep 47 = .ok (.iconst 1, 1) := by decide +kernel
theorem dX10_keep_48 : decode cX10_keep 48 = .ok (.isub, 1) := by decide +kernel
theorem dX10_keep_49 : decode cX10_keep 49 = .ok (.putfield 153, 3) := by decide +kernel
theorem dX10_keep_52 : decode cX10_keep 52 = .ok (.iconst 0, 1) := by decide +kernel
theorem dX10_keep_53 : decode cX10_keep 53 = .ok (.istore_n 1, 1) := by decide +kernel
theorem dX10_keep_54 : decode cX10_keep 54 = .ok (.iload_n 1, 1) := by decide +kernel
theorem dX10_keep_55 : decode cX10_keep 55 = .ok (.sipush 622, 3) := by decide +kernel
theorem dX10_keep_58 : decode cX10_keep 58 = .ok (.if_icmp .ge 30, 3) := by decide +kernel
theorem dX10_keep_61 : decode cX10_keep 61 = .ok (.aload_n 0, 1) := by decide +kernel
theorem dX10_keep_62 : decode cX10_keep 62 = .ok (.getfield 43, 3) := by decide +kernel
theorem dX10_keep_65 : decode cX10_keep 65 = .ok (.sipush 622, 3) := by decide +kernel
theorem dX10_keep_68 : decode cX10_keep 68 = .ok (.aload_n 0, 1) := by decide +kernel
theorem dX10_keep_69 : decode cX10_keep 69 = .ok (.getfield 153, 3) := by decide +kernel
theorem dX10_keep_72 : decode cX10_keep 72 = .ok (.imul, 1) := by decide +kernel
theorem dX10_keep_73 : decode cX10_keep 73 = .ok (.iload_n 1, 1) := by decide +kernel
theorem dX10_keep_74 : decode cX10_keep 74 = .ok (.iadd, 1) := by decide +kernel
theorem dX10_keep_75 : decode cX10_keep 75 = .ok (.aload_n 0, 1) := by decide +kernel
theorem dX10_keep_76 : decode cX10_keep 76 = .ok (.getfield 28, 3) := by decide +kernel
theorem dX10_keep_79 : decode cX10_keep 79 = .ok (.iload_n 1, 1) := by decide +kernel
theorem dX10_keep_80 : decode cX10_keep 80 = .ok (.iaload, 1) := by decide +kernel
theorem dX10_keep_81 : decode cX10_keep 81 = .ok (.iastore, 1) := by decide +kernel
theorem dX10_keep_82 : decode cX10_keep 82 = .ok (.iinc 1 1, 3) := by decide +kernel
theorem dX10_keep_85 : decode cX10_keep 85 = .ok (.goto (-31), 3) := by decide +kernel
theorem dX10_keep_88 : decode cX10_keep 88 = .ok (.aload_n 0, 1) := by decide +kernel
theorem dX10_keep_89 : decode cX10_keep 89 = .ok (.dup, 1) := by decide +kernel
theorem dX10_keep_90 : decode cX10_keep 90 = .ok (.getfield 153, 3) := by decide +kernel
theorem dX10_keep_93 : decode cX10_keep 93 = .ok (.iconst 1, 1) := by decide +kernel
theorem dX10_keep_94 : decode cX10_keep 94 = .ok (.iadd, 1) := by decide +kernel
theorem dX10_keep_95 : decode cX10_keep 95 = .ok (.putfield 153, 3) := by decide +kernel
theorem dX10_keep_98 : decode cX10_keep 98 = .ok (.return_, 1) := by decide +kernel
theorem dX10_note_0 : decode cX10_note 0 = .ok (.aload_n 0, 1) := by decide +kernel
theorem dX10_note_1 : decode cX10_note 1 = .ok (.getfield 28, 3) := by decide +kernel
theorem dX10_note_4 : decode cX10_note 4 = .ok (.sipush 441, 3) := by decide +kernel
theorem dX10_note_7 : decode cX10_note 7 = .ok (.iaload, 1) := by decide +kernel
theorem dX10_note_8 : decode cX10_note 8 = .ok (.bipush 60, 2) := by decide +kernel
theorem dX10_note_10 : decode cX10_note 10 = .ok (.if_icmp .ne 52, 3) := by decide +kernel
theorem dX10_note_13 : decode cX10_note 13 = .ok (.iconst 3, 1) := by decide +kernel
theorem dX10_note_14 : decode cX10_note 14 = .ok (.istore_n 3, 1) := by decide +kernel
theorem dX10_note_15 : decode cX10_note 15 = .ok (.iload_n 3, 1) := by decide +kernel
theorem dX10_note_16 : decode cX10_note 16 = .ok (.sipush 180, 3) := by decide +kernel
theorem dX10_note_19 : decode cX10_note 19 = .ok (.if_icmp .ge 31, 3) := by decide +kernel
theorem dX10_note_22 : decode cX10_note 22 = .ok (.aload_n 0, 1) := by decide +kernel
theorem dX10_note_23 : decode cX10_note 23 = .ok (.getfield 28, 3) := by decide +kernel
theorem dX10_note_26 : decode cX10_note 26 = .ok (.sipush 442, 3) := by decide +kernel
theorem dX10_note_29 : decode cX10_note 29 = .ok (.iload_n 3, 1) := by decide +kernel
theorem dX10_note_30 : decode cX10_note 30 = .ok (.iadd, 1) := by decide +kernel
theorem dX10_note_31 : decode cX10_note 31 = .ok (.iconst 3, 1) := by decide +kernel
theorem dX10_note_32 : decode cX10_note 32 = .ok (.isub, 1) := by decide +kernel
theorem dX10_note_33 : decode cX10_note 33 = .ok (.aload_n 0, 1) := by decide +kernel
theorem dX10_note_34 : decode cX10_note 34 = .ok (.getfield 28, 3) := by decide +kernel
theorem dX10_note_37 : decode cX10_note 37 = .ok (.sipush 442, 3) := by decide +kernel
theorem dX10_note_40 : decode cX10_note 40 = .ok (.iload_n 3, 1) := by decide +kernel
theorem dX10_note_41 : decode cX10_note 41 = .ok (.iadd, 1) := by decide +kernel
theorem dX10_note_42 : decode cX10_note 42 = .ok (.iaload, 1) := by decide +kernel
theorem dX10_note_43 : decode cX10_note 43 = .ok (.iastore, 1) := by decide +kernel
theorem dX10_note_44 : decode cX10_note 44 = .ok (.iinc 3 1, 3) := by decide +kernel
theorem dX10_note_47 : decode cX10_note 47 = .ok (.goto (-32), 3) := by decide +kernel
theorem dX10_note_50 : decode cX10_note 50 = .ok (.aload_n 0, 1) := by decide +kernel
theorem dX10_note_51 : decode cX10_note 51 = .ok (.getfield 28, 3) := by decide +kernel
theorem dX10_note_54 : decode cX10_note 54 = .ok (.sipush 441, 3) := by decide +kernel
theorem dX10_note_57 : decode cX10_note 57 = .ok (.dup2, 1) := by decide +kernel
theorem dX10_note_58 : decode cX10_note 58 = .ok (.iaload, 1) := by decide +kernel
theorem dX10_note_59 : decode cX10_note 59 = .ok (.iconst 1, 1) := by decide +kernel
theorem dX10_note_60 : decode cX10_note 60 = .ok (.isub, 1) := by decide +kernel
theorem dX10_note_61 : decode cX10_note 61 = .ok (.iastore, 1) := by decide +kernel
theorem dX10_note_62 : decode cX10_note 62 = .ok (.sipush 442, 3) := by decide +kernel
theorem dX10_note_65 : decode cX10_note 65 = .ok (.iconst 3, 1) := by decide +kernel
theorem dX10_note_66 : decode cX10_note 66 = .ok (.aload_n 0, 1) := by decide +kernel
theorem dX10_note_67 : decode cX10_note 67 = .ok (.getfield 28, 3) := by decide +kernel
theorem dX10_note_70 : decode cX10_note 70 = .ok (.sipush 441, 3) := by decide +kernel
theorem dX10_note_73 : decode cX10_note 73 = .ok (.iaload, 1) := by decide +kernel
theorem dX10_note_74 : decode cX10_note 74 = .ok (.imul, 1) := by decide +kernel
theorem dX10_note_75 : decode cX10_note 75 = .ok (.iadd, 1) := by decide +kernel
theorem dX10_note_76 : decode cX10_note 76 = .ok (.istore_n 3, 1) := by decide +kernel
theorem dX10_note_77 : decode cX10_note 77 = .ok (.aload_n 0, 1) := by decide +kernel
theorem dX10_note_78 : decode cX10_note 78 = .ok (.getfield 28, 3) := by decide +kernel
theorem dX10_note_81 : decode cX10_note 81 = .ok (.iload_n 3, 1) := by decide +kernel
theorem dX10_note_82 : decode cX10_note 82 = .ok (.iload_n 1, 1) := by decide +kernel
theorem dX10_note_83 : decode cX10_note 83 = .ok (.iastore, 1) := by decide +kernel
theorem dX10_note_84 : decode cX10_note 84 = .ok (.aload_n 0, 1) := by decide +kernel
theorem dX10_note_85 : decode cX10_note 85 = .ok (.getfield 28, 3) := by decide +kernel
theorem dX10_note_88 : decode cX10_note 88 = .ok (.iload_n 3, 1) := by decide +kernel
theorem dX10_note_89 : decode cX10_note 89 = .ok (.iconst 1, 1) := by decide +kernel
theorem dX10_note_90 : decode cX10_note 90 = .ok (.iadd, 1) := by decide +kernel
theorem dX10_note_91 : decode cX10_note 91 = .ok (.iload_n 2, 1) := by decide +kernel
theorem dX10_note_92 : decode cX10_note 92 = .ok (.iastore, 1) := by decide +kernel
theorem dX10_note_93 : decode cX10_note 93 = .ok (.aload_n 0, 1) := by decide +kernel
theorem dX10_note_94 : decode cX10_note 94 = .ok (.getfield 28, 3) := by decide +kernel
theorem dX10_note_97 : decode cX10_note 97 = .ok (.iload_n 3, 1) := by decide +kernel
theorem dX10_note_98 : decode cX10_note 98 = .ok (.iconst 2, 1) := by decide +kernel
theorem dX10_note_99 : decode cX10_note 99 = .ok (.iadd, 1) := by decide +kernel
theorem dX10_note_100 : decode cX10_note 100 = .ok (.aload_n 0, 1) := by decide +kernel
theorem dX10_note_101 : decode cX10_note 101 = .ok (.invokevirtual 277, 3) := by decide +kernel
theorem dX10_note_104 : decode cX10_note 104 = .ok (.iastore, 1) := by decide +kernel
theorem dX10_note_105 : decode cX10_note 105 = .ok (.aload_n 0, 1) := by decide +kernel
theorem dX10_note_106 : decode cX10_note 106 = .ok (.getfield 28, 3) := by decide +kernel
theorem dX10_note_109 : decode cX10_note 109 = .ok (.sipush 441, 3) := by decide +kernel
theorem dX10_note_112 : decode cX10_note 112 = .ok (.dup2, 1) := by decide +kernel
theorem dX10_note_113 : decode cX10_note 113 = .ok (.iaload, 1) := by decide +kernel
theorem dX10_note_114 : decode cX10_note 114 = .ok (.iconst 1, 1) := by decide +kernel
theorem dX10_note_115 : decode cX10_note 115 = .ok (.iadd, 1) := by decide +kernel
theorem dX10_note_116 : decode cX10_note 116 = .ok (.iastore, 1) := by decide +kernel
theorem dX10_note_117 : decode cX10_note 117 = .ok (.return_, 1) := by decide +kernel
theorem dX10_act_0 : decode cX10_act 0 = .ok (.aload_n 0, 1) := by decide +kernel
theorem dX10_act_1 : decode cX10_act 1 = .ok (.invokevirtual 280, 3) := by decide +kernel
theorem dX10_act_4 : decode cX10_act 4 = .ok (.iload_n 1, 1) := by decide +kernel
theorem dX10_act_5 : decode cX10_act 5 = .ok (.iconst 1, 1) := by decide +kernel
theorem dX10_act_6 : decode cX10_act 6 = .ok (.if_icmp .ne 12, 3) := by decide +kernel
theorem dX10_act_9 : decode cX10_act 9 = .ok (.aload_n 0, 1) := by decide +kernel
theorem dX10_act_10 : decode cX10_act 10 = .ok (.getfield 28, 3) := by decide +kernel
theorem dX10_act_13 : decode cX10_act 13 = .ok (.iconst 1, 1) := by decide +kernel
theorem dX10_act_14 : decode cX10_act 14 = .ok (.iaload, 1) := by decide +kernel
theorem dX10_act_15 : decode cX10_act 15 = .ok (.goto 23, 3) := by decide +kernel
theorem dX10_act_18 : decode cX10_act 18 = .ok (.iload_n 1, 1) := by decide +kernel
theorem dX10_act_19 : decode cX10_act 19 = .ok (.iconst 4, 1) := by decide +kernel
theorem dX10_act_20 : decode cX10_act 20 = .ok (.if_icmp .lt 9, 3) := by decide +kernel
theorem dX10_act_23 : decode cX10_act 23 = .ok (.iload_n 1, 1) := by decide +kernel
theorem dX10_act_24 : decode cX10_act 24 = .ok (.bipush 6, 2) := by decide +kernel
theorem dX10_act_26 : decode cX10_act 26 = .ok (.if_icmp .le 11, 3) := by decide +kernel
theorem dX10_act_29 : decode cX10_act 29 = .ok (.aload_n 0, 1) := by decide +kernel
theorem dX10_act_30 : decode cX10_act 30 = .ok (.iload_n 2, 1) := by decide +kernel
theorem dX10_act_31 : decode cX10_act 31 = .ok (.invokevirtual 190, 3) := by decide +kernel
theorem dX10_act_34 : decode cX10_act 34 = .ok (.goto 4, 3) := by decide +kernel
theorem dX10_act_37 : decode cX10_act 37 = .ok (.iload_n 2, 1) := by decide +kernel
theorem dX10_act_38 : decode cX10_act 38 = .ok (.istore 7, 2) := by decide +kernel
theorem dX10_act_40 : decode cX10_act 40 = .ok (.aload_n 0, 1) := by decide +kernel
theorem dX10_act_41 : decode cX10_act 41 = .ok (.iload_n 1, 1) := by decide +kernel
theorem dX10_act_42 : decode cX10_act 42 = .ok (.iload_n 2, 1) := by decide +kernel
theorem dX10_act_43 : decode cX10_act 43 = .ok (.iload_n 3, 1) := by decide +kernel
theorem dX10_act_44 : decode cX10_act 44 = .ok (.aload 4, 2) := by decide +kernel
theorem dX10_act_46 : decode cX10_act 46 = .ok (.iload 5, 2) := by decide +kernel
theorem dX10_act_48 : decode cX10_act 48 = .ok (.iload 6, 2) := by decide +kernel
theorem dX10_act_50 : decode cX10_act 50 = .ok (.invokevirtual 283, 3) := by decide +kernel
theorem dX10_act_53 : decode cX10_act 53 = .ok (.istore 8, 2) := by decide +kernel
theorem dX10_act_55 : decode cX10_act 55 = .ok (.aload_n 0, 1) := by decide +kernel
theorem dX10_act_56 : decode cX10_act 56 = .ok (.iload_n 1, 1) := by decide +kernel
theorem dX10_act_57 : decode cX10_act 57 = .ok (.iload 7, 2) := by decide +kernel
theorem dX10_act_59 : decode cX10_act 59 = .ok (.invokevirtual 287, 3) := by decide +kernel
theorem dX10_act_62 : decode cX10_act 62 = .ok (.iload 8, 2) := by decide +kernel
theorem dX10_act_64 : decode cX10_act 64 = .ok (.ireturn, 1) := by decide +kernel
theorem dX10_hand_0 : decode cX10_hand 0 = .ok (.aload_n 0, 1) := by decide +kernel
theorem dX10_hand_1 : decode cX10_hand 1 = .ok (.iload_n 1, 1) := by decide +kernel
theorem dX10_hand_2 : decode cX10_hand 2 = .ok (.iload_n 2, 1) := by decide +kernel
theorem dX10_hand_3 : decode cX10_hand 3 = .ok (.iload_n 3, 1) := by decide +kernel
theorem dX10_hand_4 : decode cX10_hand 4 = .ok (.aload 4, 2) := by decide +kernel
theorem dX10_hand_6 : decode cX10_hand 6 = .ok (.iconst 0, 1) := by decide +kernel
theorem dX10_hand_7 : decode cX10_hand 7 = .ok (.iload 5, 2) := by decide +kernel
theorem dX10_hand_9 : decode cX10_hand 9 = .ok (.invokevirtual 290, 3) := by decide +kernel
theorem dX10_hand_12 : decode cX10_hand 12 = .ok (.istore 6, 2) := by decide +kernel
theorem dX10_hand_14 : decode cX10_hand 14 = .ok (.iload 6, 2) := by decide +kernel
theorem dX10_hand_16 : decode cX10_hand 16 = .ok (.iconst (-1), 1) := by decide +kernel
theorem dX10_hand_17 : decode cX10_hand 17 = .ok (.if_icmp .eq 16, 3) := by decide +kernel
theorem dX10_hand_20 : decode cX10_hand 20 = .ok (.aload_n 0, 1) := by decide +kernel
theorem dX10_hand_21 : decode cX10_hand 21 = .ok (.getfield 31, 3) := by decide +kernel
theorem dX10_hand_24 : decode cX10_hand 24 = .ok (.iload 6, 2) := by decide +kernel
theorem dX10_hand_26 : decode cX10_hand 26 = .ok (.dup2, 1) := by decide +kernel
theorem dX10_hand_27 : decode cX10_hand 27 = .ok (.iaload, 1) := by decide +kernel
theorem dX10_hand_28 : decode cX10_hand 28 = .ok (.iconst 1, 1) := by decide +kernel
theorem dX10_hand_29 : decode cX10_hand 29 = .ok (.iadd, 1) := by decide +kernel
theorem dX10_hand_30 : decode cX10_hand 30 = .ok (.iastore, 1) := by decide +kernel
theorem dX10_hand_31 : decode cX10_hand 31 = .ok (.iconst (-1), 1) := by decide +kernel
theorem dX10_hand_32 : decode cX10_hand 32 = .ok (.ireturn, 1) := by decide +kernel
theorem dX10_hand_33 : decode cX10_hand 33 = .ok (.aload_n 0, 1) := by decide +kernel
theorem dX10_hand_34 : decode cX10_hand 34 = .ok (.iload_n 1, 1) := by decide +kernel
theorem dX10_hand_35 : decode cX10_hand 35 = .ok (.iload_n 2, 1) := by decide +kernel
theorem dX10_hand_36 : decode cX10_hand 36 = .ok (.iload_n 3, 1) := by decide +kernel
theorem dX10_hand_37 : decode cX10_hand 37 = .ok (.aload 4, 2) := by decide +kernel
theorem dX10_hand_39 : decode cX10_hand 39 = .ok (.iconst 0, 1) := by decide +kernel
theorem dX10_hand_40 : decode cX10_hand 40 = .ok (.iload 5, 2) := by decide +kernel
theorem dX10_hand_42 : decode cX10_hand 42 = .ok (.invokevirtual 293, 3) := by decide +kernel
theorem dX10_hand_45 : decode cX10_hand 45 = .ok (.ireturn, 1) := by decide +kernel
theorem dX10_lineInHand_0 : decode cX10_lineInHand 0 = .ok (.aload_n 0, 1) := by decide +kernel
theorem dX10_lineInHand_1 : decode cX10_lineInHand 1 = .ok (.bipush 20, 2) := by decide +kernel
theorem dX10_lineInHand_3 : decode cX10_lineInHand 3 = .ok (.invokevirtual 126, 3) := by decide +kernel
theorem dX10_lineInHand_6 : decode cX10_lineInHand 6 = .ok (.iconst (-1), 1) := by decide +kernel
theorem dX10_lineInHand_7 : decode cX10_lineInHand 7 = .ok (.if_icmp .ne 10, 3) := by decide +kernel
theorem dX10_lineInHand_10 : decode cX10_lineInHand 10 = .ok (.aload_n 0, 1) := by decide +kernel
theorem dX10_lineInHand_11 : decode cX10_lineInHand 11 = .ok (.getfield 117, 3) := by decide +kernel
theorem dX10_lineInHand_14 : decode cX10_lineInHand 14 = .ok (.goto 4, 3) := by decide +kernel
theorem dX10_lineInHand_17 : decode cX10_lineInHand 17 = .ok (.iconst 0, 1) := by decide +kernel
theorem dX10_lineInHand_18 : decode cX10_lineInHand 18 = .ok (.ireturn, 1) := by decide +kernel
theorem dX10_handTape_0 : decode cX10_handTape 0 = .ok (.aload_n 0, 1) := by decide +kernel
theorem dX10_handTape_1 : decode cX10_handTape 1 = .ok (.iload_n 1, 1) := by decide +kernel
theorem dX10_handTape_2 : decode cX10_handTape 2 = .ok (.iload_n 2, 1) := by decide +kernel
theorem dX10_handTape_3 : decode cX10_handTape 3 = .ok (.iconst 0, 1) := by decide +kernel
theorem dX10_handTape_4 : decode cX10_handTape 4 = .ok (.aload_n 0, 1) := by decide +kernel
theorem dX10_handTape_5 : decode cX10_handTape 5 = .ok (.getfield 25, 3) := by decide +kernel
theorem dX10_handTape_8 : decode cX10_handTape 8 = .ok (.aload_n 0, 1) := by decide +kernel
theorem dX10_handTape_9 : decode cX10_handTape 9 = .ok (.invokevirtual 296, 3) := by decide +kernel
theorem dX10_handTape_12 : decode cX10_handTape 12 = .ok (.invokevirtual 299, 3) := by decide +kernel
theorem dX10_handTape_15 : decode cX10_handTape 15 = .ok (.istore_n 3, 1) := by decide +kernel
theorem dX10_handTape_16 : decode cX10_handTape 16 = .ok (.aload_n 0, 1) := by decide +kernel
theorem dX10_handTape_17 : decode cX10_handTape 17 = .ok (.iload_n 3, 1) := by decide +kernel
theorem dX10_handTape_18 : decode cX10_handTape 18 = .ok (.iconst (-1), 1) := by decide +kernel
theorem dX10_handTape_19 : decode cX10_handTape 19 = .ok (.if_icmp .ne 10, 3) := by decide +kernel
theorem dX10_handTape_22 : decode cX10_handTape 22 = .ok (.aload_n 0, 1) := by decide +kernel
theorem dX10_handTape_23 : decode cX10_handTape 23 = .ok (.getfield 66, 3) := by decide +kernel
theorem dX10_handTape_26 : decode cX10_handTape 26 = .ok (.goto 4, 3) := by decide +kernel
theorem dX10_handTape_29 : decode cX10_handTape 29 = .ok (.iconst 0, 1) := by decide +kernel
theorem dX10_handTape_30 : decode cX10_handTape 30 = .ok (.putfield 66, 3) := by decide +kernel
theorem dX10_handTape_33 : decode cX10_handTape 33 = .ok (.iload_n 3, 1) := by decide +kernel
theorem dX10_handTape_34 : decode cX10_handTape 34 = .ok (.ireturn, 1) := by decide +kernel
theorem dX10_set_0 : decode cX10_set 0 = .ok (.aload_n 0, 1) := by decide +kernel
theorem dX10_set_1 : decode cX10_set 1 = .ok (.iconst 0, 1) := by decide +kernel
theorem dX10_set_2 : decode cX10_set 2 = .ok (.iload_n 1, 1) := by decide +kernel
theorem dX10_set_3 : decode cX10_set 3 = .ok (.invokevirtual 303, 3) := by decide +kernel
theorem dX10_set_6 : decode cX10_set 6 = .ok (.ireturn, 1) := by decide +kernel
theorem dX10_put_0 : decode cX10_put 0 = .ok (.aload_n 0, 1) := by decide +kernel
theorem dX10_put_1 : decode cX10_put 1 = .ok (.iconst 1, 1) := by decide +kernel
theorem dX10_put_2 : decode cX10_put 2 = .ok (.iload_n 1, 1) := by decide +kernel
theorem dX10_put_3 : decode cX10_put 3 = .ok (.invokevirtual 303, 3) := by decide +kernel
theorem dX10_put_6 : decode cX10_put 6 = .ok (.ireturn, 1) := by decide +kernel
theorem dX10_take_0 : decode cX10_take 0 = .ok (.aload_n 0, 1) := by decide +kernel
theorem dX10_take_1 : decode cX10_take 1 = .ok (.iconst 2, 1) := by decide +kernel
theorem dX10_take_2 : decode cX10_take 2 = .ok (.iload_n 1, 1) := by decide +kernel
theorem dX10_take_3 : decode cX10_take 3 = .ok (.iconst 0, 1) := by decide +kernel
theorem dX10_take_4 : decode cX10_take 4 = .ok (.aload_n 0, 1) := by decide +kernel
theorem dX10_take_5 : decode cX10_take 5 = .ok (.getfield 34, 3) := by decide +kernel
theorem dX10_take_8 : decode cX10_take 8 = .ok (.iconst 0, 1) := by decide +kernel
theorem dX10_take_9 : decode cX10_take 9 = .ok (.invokevirtual 299, 3) := by decide +kernel
theorem dX10_take_12 : decode cX10_take 12 = .ok (.ireturn, 1) := by decide +kernel
theorem dX10_swap_0 : decode cX10_swap 0 = .ok (.aload_n 0, 1) := by decide +kernel
theorem dX10_swap_1 : decode cX10_swap 1 = .ok (.iconst 3, 1) := by decide +kernel
theorem dX10_swap_2 : decode cX10_swap 2 = .ok (.iload_n 1, 1) := by decide +kernel
theorem dX10_swap_3 : decode cX10_swap 3 = .ok (.iload_n 2, 1) := by decide +kernel
theorem dX10_swap_4 : decode cX10_swap 4 = .ok (.aload_n 0, 1) := by decide +kernel
theorem dX10_swap_5 : decode cX10_swap 5 = .ok (.getfield 34, 3) := by decide +kernel
theorem dX10_swap_8 : decode cX10_swap 8 = .ok (.iconst 0, 1) := by decide +kernel
theorem dX10_swap_9 : decode cX10_swap 9 = .ok (.invokevirtual 299, 3) := by decide +kernel
theorem dX10_swap_12 : decode cX10_swap 12 = .ok (.ireturn, 1) := by decide +kernel
theorem dX10_lay_0 : decode cX10_lay 0 = .ok (.aload_n 0, 1) := by decide +kernel
theorem dX10_lay_1 : decode cX10_lay 1 = .ok (.iconst 4, 1) := by decide +kernel
theorem dX10_lay_2 : decode cX10_lay 2 = .ok (.iload_n 1, 1) := by decide +kernel
theorem dX10_lay_3 : decode cX10_lay 3 = .ok (.iload_n 2, 1) := by decide +kernel
theorem dX10_lay_4 : decode cX10_lay 4 = .ok (.aload_n 0, 1) := by decide +kernel
theorem dX10_lay_5 : decode cX10_lay 5 = .ok (.getfield 34, 3) := by decide +kernel
theorem dX10_lay_8 : decode cX10_lay 8 = .ok (.aload_n 0, 1) := by decide +kernel
theorem dX10_lay_9 : decode cX10_lay 9 = .ok (.getfield 150, 3) := by decide +kernel
theorem dX10_lay_12 : decode cX10_lay 12 = .ok (.invokevirtual 299, 3) := by decide +kernel
theorem dX10_lay_15 : decode cX10_lay 15 = .ok (.ireturn, 1) := by decide +kernel
theorem dX10_page_0 : decode cX10_page 0 = .ok (.aload_n 0, 1) := by decide +kernel
theorem dX10_page_1 : decode cX10_page 1 = .ok (.iconst 5, 1) := by decide +kernel
theorem dX10_page_2 : decode cX10_page 2 = .ok (.iload_n 1, 1) := by decide +kernel
theorem dX10_page_3 : decode cX10_page 3 = .ok (.iconst 0, 1) := by decide +kernel
theorem dX10_page_4 : decode cX10_page 4 = .ok (.aload_n 0, 1) := by decide +kernel
theorem dX10_page_5 : decode cX10_page 5 = .ok (.getfield 34, 3) := by decide +kernel
theorem dX10_page_8 : decode cX10_page 8 = .ok (.iconst 0, 1) := by decide +kernel
theorem dX10_page_9 : decode cX10_page 9 = .ok (.invokevirtual 299, 3) := by decide +kernel
theorem dX10_page_12 : decode cX10_page 12 = .ok (.ireturn, 1) := by decide +kernel
theorem dX10_rewind_0 : decode cX10_rewind 0 = .ok (.aload_n 0, 1) := by decide +kernel
theorem dX10_rewind_1 : decode cX10_rewind 1 = .ok (.bipush 6, 2) := by decide +kernel
theorem dX10_rewind_3 : decode cX10_rewind 3 = .ok (.iload_n 1, 1) := by decide +kernel
theorem dX10_rewind_4 : decode cX10_rewind 4 = .ok (.iconst 0, 1) := by decide +kernel
theorem dX10_rewind_5 : decode cX10_rewind 5 = .ok (.aload_n 0, 1) := by decide +kernel
theorem dX10_rewind_6 : decode cX10_rewind 6 = .ok (.getfield 34, 3) := by decide +kernel
theorem dX10_rewind_9 : decode cX10_rewind 9 = .ok (.iconst 0, 1) := by decide +kernel
theorem dX10_rewind_10 : decode cX10_rewind 10 = .ok (.invokevirtual 299, 3) := by decide +kernel
theorem dX10_rewind_13 : decode cX10_rewind 13 = .ok (.ireturn, 1) := by decide +kernel
theorem dX10_split_0 : decode cX10_split 0 = .ok (.aload_n 0, 1) := by decide +kernel
theorem dX10_split_1 : decode cX10_split 1 = .ok (.bipush 7, 2) := by decide +kernel
theorem dX10_split_3 : decode cX10_split 3 = .ok (.iload_n 1, 1) := by decide +kernel
theorem dX10_split_4 : decode cX10_split 4 = .ok (.iload_n 2, 1) := by decide +kernel
theorem dX10_split_5 : decode cX10_split 5 = .ok (.aload_n 0, 1) := by decide +kernel
theorem dX10_split_6 : decode cX10_split 6 = .ok (.getfield 34, 3) := by decide +kernel
theorem dX10_split_9 : decode cX10_split 9 = .ok (.iconst 0, 1) := by decide +kernel
theorem dX10_split_10 : decode cX10_split 10 = .ok (.invokevirtual 299, 3) := by decide +kernel
theorem dX10_split_13 : decode cX10_split 13 = .ok (.ireturn, 1) := by decide +kernel
theorem dX10_join_0 : decode cX10_join 0 = .ok (.aload_n 0, 1) := by decide +kernel
theorem dX10_join_1 : decode cX10_join 1 = .ok (.bipush 8, 2) := by decide +kernel
theorem dX10_join_3 : decode cX10_join 3 = .ok (.iload_n 1, 1) := by decide +kernel
theorem dX10_join_4 : decode cX10_join 4 = .ok (.iconst 0, 1) := by decide +kernel
theorem dX10_join_5 : decode cX10_join 5 = .ok (.aload_n 0, 1) := by decide +kernel
theorem dX10_join_6 : decode cX10_join 6 = .ok (.getfield 34, 3) := by decide +kernel
theorem dX10_join_9 : decode cX10_join 9 = .ok (.iconst 0, 1) := by decide +kernel
theorem dX10_join_10 : decode cX10_join 10 = .ok (.invokevirtual 299, 3) := by decide +kernel
theorem dX10_join_13 : decode cX10_join 13 = .ok (.ireturn, 1) := by decide +kernel
theorem dX10_draw_0 : decode cX10_draw 0 = .ok (.aload_n 0, 1) := by decide +kernel
theorem dX10_draw_1 : decode cX10_draw 1 = .ok (.aload_n 0, 1) := by decide +kernel
theorem dX10_draw_2 : decode cX10_draw 2 = .ok (.getfield 306, 3) := by decide +kernel
theorem dX10_draw_5 : decode cX10_draw 5 = .ok (.ldc2_w 310, 3) := by decide +kernel
theorem dX10_draw_8 : decode cX10_draw 8 = .ok (.lmul, 1) := by decide +kernel
theorem dX10_draw_9 : decode cX10_draw 9 = .ok (.ldc2_w 312, 3) := by decide +kernel
theorem dX10_draw_12 : decode cX10_draw 12 = .ok (.ladd, 1) := by decide +kernel
theorem dX10_draw_13 : decode cX10_draw 13 = .ok (.putfield 306, 3) := by decide +kernel
theorem dX10_draw_16 : decode cX10_draw 16 = .ok (.aload_n 0, 1) := by decide +kernel
theorem dX10_draw_17 : decode cX10_draw 17 = .ok (.getfield 306, 3) := by decide +kernel
theorem dX10_draw_20 : decode cX10_draw 20 = .ok (.bipush 33, 2) := by decide +kernel
theorem dX10_draw_22 : decode cX10_draw 22 = .ok (.lushr, 1) := by decide +kernel
theorem dX10_draw_23 : decode cX10_draw 23 = .ok (.iload_n 1, 1) := by decide +kernel
theorem dX10_draw_24 : decode cX10_draw 24 = .ok (.i2l, 1) := by decide +kernel
theorem dX10_draw_25 : decode cX10_draw 25 = .ok (.lrem, 1) := by decide +kernel
theorem dX10_draw_26 : decode cX10_draw 26 = .ok (.l2i, 1) := by decide +kernel
theorem dX10_draw_27 : decode cX10_draw 27 = .ok (.ireturn, 1) := by decide +kernel
theorem dX10_tryOne_0 : decode cX10_tryOne 0 = .ok (.aload_n 0, 1) := by decide +kernel
theorem dX10_tryOne_1 : decode cX10_tryOne 1 = .ok (.iload_n 1, 1) := by decide +kernel
theorem dX10_tryOne_2 : decode cX10_tryOne 2 = .ok (.iload_n 2, 1) := by decide +kernel
theorem dX10_tryOne_3 : decode cX10_tryOne 3 = .ok (.iload_n 3, 1) := by decide +kernel
theorem dX10_tryOne_4 : decode cX10_tryOne 4 = .ok (.aload_n 0, 1) := by decide +kernel
theorem dX10_tryOne_5 : decode cX10_tryOne 5 = .ok (.getfield 46, 3) := by decide +kernel
theorem dX10_tryOne_8 : decode cX10_tryOne 8 = .ok (.iconst 0, 1) := by decide +kernel
theorem dX10_tryOne_9 : decode cX10_tryOne 9 = .ok (.iload 4, 2) := by decide +kernel
theorem dX10_tryOne_11 : decode cX10_tryOne 11 = .ok (.invokevirtual 290, 3) := by decide +kernel
theorem dX10_tryOne_14 : decode cX10_tryOne 14 = .ok (.iconst (-1), 1) := by decide +kernel
theorem dX10_tryOne_15 : decode cX10_tryOne 15 = .ok (.if_icmp .ne 18, 3) := by decide +kernel
theorem dX10_tryOne_18 : decode cX10_tryOne 18 = .ok (.aload_n 0, 1) := by decide +kernel
theorem dX10_tryOne_19 : decode cX10_tryOne 19 = .ok (.iload_n 1, 1) := by decide +kernel
theorem dX10_tryOne_20 : decode cX10_tryOne 20 = .ok (.iload_n 2, 1) := by decide +kernel
theorem dX10_tryOne_21 : decode cX10_tryOne 21 = .ok (.iload_n 3, 1) := by decide +kernel
theorem dX10_tryOne_22 : decode cX10_tryOne 22 = .ok (.aload_n 0, 1) := by decide +kernel
theorem dX10_tryOne_23 : decode cX10_tryOne 23 = .ok (.getfield 46, 3) := by decide +kernel
theorem dX10_tryOne_26 : decode cX10_tryOne 26 = .ok (.iconst 0, 1) := by decide +kernel
theorem dX10_tryOne_27 : decode cX10_tryOne 27 = .ok (.iload 4, 2) := by decide +kernel
theorem dX10_tryOne_29 : decode cX10_tryOne 29 = .ok (.invokevirtual 293, 3) := by decide +kernel
theorem dX10_tryOne_32 : decode cX10_tryOne 32 = .ok (.pop, 1) := by decide +kernel
theorem dX10_tryOne_33 : decode cX10_tryOne 33 = .ok (.return_, 1) := by decide +kernel
theorem dX10_drawsSigns_0 : decode cX10_drawsSigns 0 = .ok (.aload_n 0, 1) := by decide +kernel
theorem dX10_drawsSigns_1 : decode cX10_drawsSigns 1 = .ok (.bipush 6, 2) := by decide +kernel
theorem dX10_drawsSigns_3 : decode cX10_drawsSigns 3 = .ok (.invokevirtual 314, 3) := by decide +kernel
theorem dX10_drawsSigns_6 : decode cX10_drawsSigns 6 = .ok (.iconst 1, 1) := by decide +kernel
theorem dX10_drawsSigns_7 : decode cX10_drawsSigns 7 = .ok (.iadd, 1) := by decide +kernel
theorem dX10_drawsSigns_8 : decode cX10_drawsSigns 8 = .ok (.istore_n 1, 1) := by decide +kernel
theorem dX10_drawsSigns_9 : decode cX10_drawsSigns 9 = .ok (.iconst 0, 1) := by decide +kernel
theorem dX10_drawsSigns_10 : decode cX10_drawsSigns 10 = .ok (.istore_n 2, 1) := by decide +kernel
theorem dX10_drawsSigns_11 : decode cX10_drawsSigns 11 = .ok (.iload_n 2, 1) := by decide +kernel
theorem dX10_drawsSigns_12 : decode cX10_drawsSigns 12 = .ok (.iload_n 1, 1) := by decide +kernel
theorem dX10_drawsSigns_13 : decode cX10_drawsSigns 13 = .ok (.if_icmp .ge 33, 3) := by decide +kernel
theorem dX10_drawsSigns_16 : decode cX10_drawsSigns 16 = .ok (.aload_n 0, 1) := by decide +kernel
theorem dX10_drawsSigns_17 : decode cX10_drawsSigns 17 = .ok (.iconst 3, 1) := by decide +kernel
theorem dX10_drawsSigns_18 : decode cX10_drawsSigns 18 = .ok (.invokevirtual 314, 3) := by decide +kernel
theorem dX10_drawsSigns_21 : decode cX10_drawsSigns 21 = .ok (.istore_n 3, 1) := by decide +kernel
theorem dX10_drawsSigns_22 : decode cX10_drawsSigns 22 = .ok (.aload_n 0, 1) := by decide +kernel
theorem dX10_drawsSigns_23 : decode cX10_drawsSigns 23 = .ok (.getfield 46, 3) := by decide +kernel
theorem dX10_drawsSigns_26 : decode cX10_drawsSigns 26 = .ok (.iload_n 2, 1) := by decide +kernel
theorem dX10_drawsSigns_27 : decode cX10_drawsSigns 27 = .ok (.iload_n 3, 1) := by decide +kernel
theorem dX10_drawsSigns_28 : decode cX10_drawsSigns 28 = .ok (.iconst 2, 1) := by decide +kernel
theorem dX10_drawsSigns_29 : decode cX10_drawsSigns 29 = .ok (.if_icmp .ne 7, 3) := by decide +kernel
theorem dX10_drawsSigns_32 : decode cX10_drawsSigns 32 = .ok (.iconst 0, 1) := by decide +kernel
theorem dX10_drawsSigns_33 : decode cX10_drawsSigns 33 = .ok (.goto 6, 3) := by decide +kernel
theorem dX10_drawsSigns_36 : decode cX10_drawsSigns 36 = .ok (.iload_n 3, 1) := by decide +kernel
theorem dX10_drawsSigns_37 : decode cX10_drawsSigns 37 = .ok (.iconst 1, 1) := by decide +kernel
theorem dX10_drawsSigns_38 : decode cX10_drawsSigns 38 = .ok (.iadd, 1) := by decide +kernel
theorem dX10_drawsSigns_39 : decode cX10_drawsSigns 39 = .ok (.iastore, 1) := by decide +kernel
theorem dX10_drawsSigns_40 : decode cX10_drawsSigns 40 = .ok (.iinc 2 1, 3) := by decide +kernel
theorem dX10_drawsSigns_43 : decode cX10_drawsSigns 43 = .ok (.goto (-32), 3) := by decide +kernel
theorem dX10_drawsSigns_46 : decode cX10_drawsSigns 46 = .ok (.iload_n 1, 1) := by decide +kernel
theorem dX10_drawsSigns_47 : decode cX10_drawsSigns 47 = .ok (.ireturn, 1) := by decide +kernel
theorem dX10_drawWay_0 : decode cX10_drawWay 0 = .ok (.aload_n 0, 1) := by decide +kernel
theorem dX10_drawWay_1 : decode cX10_drawWay 1 = .ok (.bipush 8, 2) := by decide +kernel
theorem dX10_drawWay_3 : decode cX10_drawWay 3 = .ok (.invokevirtual 314, 3) := by decide +kernel
theorem dX10_drawWay_6 : decode cX10_drawWay 6 = .ok (.istore_n 1, 1) := by decide +kernel
theorem dX10_drawWay_7 : decode cX10_drawWay 7 = .ok (.iload_n 1, 1) := by decide +kernel
theorem dX10_drawWay_8 : decode cX10_drawWay 8 = .ok (.iconst 3, 1) := by decide +kernel
theorem dX10_drawWay_9 : decode cX10_drawWay 9 = .ok (.if_icmp .ge 28, 3) := by decide +kernel
theorem dX10_drawWay_12 : decode cX10_drawWay 12 = .ok (.aload_n 0, 1) := by decide +kernel
theorem dX10_drawWay_13 : decode cX10_drawWay 13 = .ok (.aload_n 0, 1) := by decide +kernel
theorem dX10_drawWay_14 : decode cX10_drawWay 14 = .ok (.getfield 28, 3) := by decide +kernel
theorem dX10_drawWay_17 : decode cX10_drawWay 17 = .ok (.iconst 0, 1) := by decide +kernel
theorem dX10_drawWay_18 : decode cX10_drawWay 18 = .ok (.iaload, 1) := by decide +kernel
theorem dX10_drawWay_19 : decode cX10_drawWay 19 = .ok (.invokevirtual 314, 3) := by decide +kernel
theorem dX10_drawWay_22 : decode cX10_drawWay 22 = .ok (.istore_n 2, 1) := by decide +kernel
theorem dX10_drawWay_23 : decode cX10_drawWay 23 = .ok (.aload_n 0, 1) := by decide +kernel
theorem dX10_drawWay_24 : decode cX10_drawWay 24 = .ok (.iconst 0, 1) := by decide +kernel
theorem dX10_drawWay_25 : decode cX10_drawWay 25 = .ok (.iload_n 2, 1) := by decide +kernel
theorem dX10_drawWay_26 : decode cX10_drawWay 26 = .ok (.iconst 0, 1) := by decide +kernel
theorem dX10_drawWay_27 : decode cX10_drawWay 27 = .ok (.aload_n 0, 1) := by decide +kernel
theorem dX10_drawWay_28 : decode cX10_drawWay 28 = .ok (.invokevirtual 317, 3) := by decide +kernel
theorem dX10_drawWay_31 : decode cX10_drawWay 31 = .ok (.invokevirtual 320, 3) := by decide +kernel
theorem dX10_drawWay_34 : decode cX10_drawWay 34 = .ok (.goto 119, 3) := by decide +kernel
theorem dX10_drawWay_37 : decode cX10_drawWay 37 = .ok (.iload_n 1, 1) := by decide +kernel
theorem dX10_drawWay_38 : decode cX10_drawWay 38 = .ok (.iconst 3, 1) := by decide +kernel
theorem dX10_drawWay_39 : decode cX10_drawWay 39 = .ok (.if_icmp .ne 30, 3) := by decide +kernel
theorem dX10_drawWay_42 : decode cX10_drawWay 42 = .ok (.aload_n 0, 1) := by decide +kernel
theorem dX10_drawWay_43 : decode cX10_drawWay 43 = .ok (.aload_n 0, 1) := by decide +kernel
theorem dX10_drawWay_44 : decode cX10_drawWay 44 = .ok (.getfield 28, 3) := by decide +kernel
theorem dX10_drawWay_47 : decode cX10_drawWay 47 = .ok (.iconst 0, 1) := by decide +kernel
theorem dX10_drawWay_48 : decode cX10_drawWay 48 = .ok (.iaload, 1) := by decide +kernel
theorem dX10_drawWay_49 : decode cX10_drawWay 49 = .ok (.iconst 1, 1) := by decide +kernel
theorem dX10_drawWay_50 : decode cX10_drawWay 50 = .ok (.iadd, 1) := by decide +kernel
theorem dX10_drawWay_51 : decode cX10_drawWay 51 = .ok (.invokevirtual 314, 3) := by decide +kernel
theorem dX10_drawWay_54 : decode cX10_drawWay 54 = .ok (.istore_n 2, 1) := by decide +kernel
theorem dX10_drawWay_55 : decode cX10_drawWay 55 = .ok (.aload_n 0, 1) := by decide +kernel
theorem dX10_drawWay_56 : decode cX10_drawWay 56 = .ok (.iconst 1, 1) := by decide +kernel
theorem dX10_drawWay_57 : decode cX10_drawWay 57 = .ok (.iload_n 2, 1) := by decide +kernel
theorem dX10_drawWay_58 : decode cX10_drawWay 58 = .ok (.iconst 0, 1) := by decide +kernel
theorem dX10_drawWay_59 : decode cX10_drawWay 59 = .ok (.aload_n 0, 1) := by decide +kernel
theorem dX10_drawWay_60 : decode cX10_drawWay 60 = .ok (.invokevirtual 317, 3) := by decide +kernel
theorem dX10_drawWay_63 : decode cX10_drawWay 63 = .ok (.invokevirtual 320, 3) := by decide +kernel
theorem dX10_drawWay_66 : decode cX10_drawWay 66 = .ok (.goto 87, 3) := by decide +kernel
theorem dX10_drawWay_69 : decode cX10_drawWay 69 = .ok (.iload_n 1, 1) := by decide +kernel
theorem dX10_drawWay_70 : decode cX10_drawWay 70 = .ok (.iconst 4, 1) := by decide +kernel
theorem dX10_drawWay_71 : decode cX10_drawWay 71 = .ok (.if_icmp .ne 23, 3) := by decide +kernel
theorem dX10_drawWay_74 : decode cX10_drawWay 74 = .ok (.aload_n 0, 1) := by decide +kernel
theorem dX10_drawWay_75 : decode cX10_drawWay 75 = .ok (.iconst 2, 1) := by decide +kernel
theorem dX10_drawWay_76 : decode cX10_drawWay 76 = .ok (.aload_n 0, 1) := by decide +kernel
theorem dX10_drawWay_77 : decode cX10_drawWay 77 = .ok (.aload_n 0, 1) := by decide +kernel
theorem dX10_drawWay_78 : decode cX10_drawWay 78 = .ok (.getfield 28, 3) := by decide +kernel
theorem dX10_drawWay_81 : decode cX10_drawWay 81 = .ok (.iconst 0, 1) := by decide +kernel
theorem dX10_drawWay_82 : decode cX10_drawWay 82 = .ok (.iaload, 1) := by decide +kernel
theorem dX10_drawWay_83 : decode cX10_drawWay 83 = .ok (.invokevirtual 314, 3) := by decide +kernel
theorem dX10_drawWay_86 : decode cX10_drawWay 86 = .ok (.iconst 0, 1) := by decide +kernel
theorem dX10_drawWay_87 : decode cX10_drawWay 87 = .ok (.iconst 0, 1) := by decide +kernel
theorem dX10_drawWay_88 : decode cX10_drawWay 88 = .ok (.invokevirtual 320, 3) := by decide +kernel
theorem dX10_drawWay_91 : decode cX10_drawWay 91 = .ok (.goto 62, 3) := by decide +kernel
theorem dX10_drawWay_94 : decode cX10_drawWay 94 = .ok (.iload_n 1, 1) := by decide +kernel
theorem dX10_drawWay_95 : decode cX10_drawWay 95 = .ok (.iconst 5, 1) := by decide +kernel
theorem dX10_drawWay_96 : decode cX10_drawWay 96 = .ok (.if_icmp .ne 34, 3) := by decide +kernel
theorem dX10_drawWay_99 : decode cX10_drawWay 99 = .ok (.aload_n 0, 1) := by decide +kernel
theorem dX10_drawWay_100 : decode cX10_drawWay 100 = .ok (.aload_n 0, 1) := by decide +kernel
theorem dX10_drawWay_101 : decode cX10_drawWay 101 = .ok (.getfield 28, 3) := by decide +kernel
theorem dX10_drawWay_104 : decode cX10_drawWay 104 = .ok (.iconst 0, 1) := by decide +kernel
theorem dX10_drawWay_105 : decode cX10_drawWay 105 = .ok (.iaload, 1) := by decide +kernel
theorem dX10_drawWay_106 : decode cX10_drawWay 106 = .ok (.invokevirtual 314, 3) := by decide +kernel
theorem dX10_drawWay_109 : decode cX10_drawWay 109 = .ok (.istore_n 2, 1) := by decide +kernel
theorem dX10_drawWay_110 : decode cX10_drawWay 110 = .ok (.aload_n 0, 1) := by decide +kernel
theorem dX10_drawWay_111 : decode cX10_drawWay 111 = .ok (.iconst 3, 1) := by decide +kernel
theorem dX10_drawWay_112 : decode cX10_drawWay 112 = .ok (.iload_n 2, 1) := by decide +kernel
theorem dX10_drawWay_113 : decode cX10_drawWay 113 = .ok (.aload_n 0, 1) := by decide +kernel
theorem dX10_drawWay_114 : decode cX10_drawWay 114 = .ok (.aload_n 0, 1) := by decide +kernel
theorem dX10_drawWay_115 : decode cX10_drawWay 115 = .ok (.getfield 28, 3) := by decide +kernel
theorem dX10_drawWay_118 : decode cX10_drawWay 118 = .ok (.iconst 0, 1) := by decide +kernel
theorem dX10_drawWay_119 : decode cX10_drawWay 119 = .ok (.iaload, 1) := by decide +kernel
theorem dX10_drawWay_120 : decode cX10_drawWay 120 = .ok (.invokevirtual 314, 3) := by decide +kernel
theorem dX10_drawWay_123 : decode cX10_drawWay 123 = .ok (.iconst 0, 1) := by decide +kernel
theorem dX10_drawWay_124 : decode cX10_drawWay 124 = .ok (.invokevirtual 320, 3) := by decide +kernel
theorem dX10_drawWay_127 : decode cX10_drawWay 127 = .ok (.goto 26, 3) := by decide +kernel
theorem dX10_drawWay_130 : decode cX10_drawWay 130 = .ok (.aload_n 0, 1) := by decide +kernel
theorem dX10_drawWay_131 : decode cX10_drawWay 131 = .ok (.iload_n 1, 1) := by decide +kernel
theorem dX10_drawWay_132 : decode cX10_drawWay 132 = .ok (.bipush 6, 2) := by decide +kernel
theorem dX10_drawWay_134 : decode cX10_drawWay 134 = .ok (.if_icmp .ne 7, 3) := by decide +kernel
theorem dX10_drawWay_137 : decode cX10_drawWay 137 = .ok (.iconst 5, 1) := by decide +kernel
theorem dX10_drawWay_138 : decode cX10_drawWay 138 = .ok (.goto 5, 3) := by decide +kernel
theorem dX10_drawWay_141 : decode cX10_drawWay 141 = .ok (.bipush 6, 2) := by decide +kernel
theorem dX10_drawWay_143 : decode cX10_drawWay 143 = .ok (.aload_n 0, 1) := by decide +kernel
theorem dX10_drawWay_144 : decode cX10_drawWay 144 = .ok (.iconst 3, 1) := by decide +kernel
theorem dX10_drawWay_145 : decode cX10_drawWay 145 = .ok (.invokevirtual 314, 3) := by decide +kernel
theorem dX10_drawWay_148 : decode cX10_drawWay 148 = .ok (.iconst 0, 1) := by decide +kernel
theorem dX10_drawWay_149 : decode cX10_drawWay 149 = .ok (.iconst 0, 1) := by decide +kernel
theorem dX10_drawWay_150 : decode cX10_drawWay 150 = .ok (.invokevirtual 320, 3) := by decide +kernel
theorem dX10_drawWay_153 : decode cX10_drawWay 153 = .ok (.return_, 1) := by decide +kernel
theorem dX10_ways_0 : decode cX10_ways 0 = .ok (.aload_n 0, 1) := by decide +kernel
theorem dX10_ways_1 : decode cX10_ways 1 = .ok (.invokevirtual 139, 3) := by decide +kernel
theorem dX10_ways_4 : decode cX10_ways 4 = .ok (.ifCond .eq 13, 3) := by decide +kernel
theorem dX10_ways_7 : decode cX10_ways 7 = .ok (.iload_n 1, 1) := by decide +kernel
theorem dX10_ways_8 : decode cX10_ways 8 = .ok (.iconst 1, 1) := by decide +kernel
theorem dX10_ways_9 : decode cX10_ways 9 = .ok (.bipush 40, 2) := by decide +kernel
theorem dX10_ways_11 : decode cX10_ways 11 = .ok (.invokestatic 69, 3) := by decide +kernel
theorem dX10_ways_14 : decode cX10_ways 14 = .ok (.ifCond .ne 5, 3) := by decide +kernel
theorem dX10_ways_17 : decode cX10_ways 17 = .ok (.iconst (-1), 1) := by decide +kernel
theorem dX10_ways_18 : decode cX10_ways 18 = .ok (.ireturn, 1) := by decide +kernel
theorem dX10_ways_19 : decode cX10_ways 19 = .ok (.aload_n 0, 1) := by decide +kernel
theorem dX10_ways_20 : decode cX10_ways 20 = .ok (.lload_n 2, 1) := by decide +kernel
theorem dX10_ways_21 : decode cX10_ways 21 = .ok (.putfield 306, 3) := by decide +kernel
theorem dX10_ways_24 : decode cX10_ways 24 = .ok (.iconst 0, 1) := by decide +kernel
theorem dX10_ways_25 : decode cX10_ways 25 = .ok (.istore 4, 2) := by decide +kernel
theorem dX10_ways_27 : decode cX10_ways 27 = .ok (.iload 4, 2) := by decide +kernel
theorem dX10_ways_29 : decode cX10_ways 29 = .ok (.iload_n 1, 1) := by decide +kernel
theorem dX10_ways_30 : decode cX10_ways 30 = .ok (.if_icmp .ge 13, 3) := by decide +kernel
theorem dX10_ways_33 : decode cX10_ways 33 = .ok (.aload_n 0, 1) := by decide +kernel
theorem dX10_ways_34 : decode cX10_ways 34 = .ok (.invokevirtual 324, 3) := by decide +kernel
theorem dX10_ways_37 : decode cX10_ways 37 = .ok (.iinc 4 1, 3) := by decide +kernel
theorem dX10_ways_40 : decode cX10_ways 40 = .ok (.goto (-13), 3) := by decide +kernel
theorem dX10_ways_43 : decode cX10_ways 43 = .ok (.aload_n 0, 1) := by decide +kernel
theorem dX10_ways_44 : decode cX10_ways 44 = .ok (.invokevirtual 277, 3) := by decide +kernel
theorem dX10_ways_47 : decode cX10_ways 47 = .ok (.ireturn, 1) := by decide +kernel
theorem dX10_status_0 : decode cX10_status 0 = .ok (.iload_n 1, 1) := by decide +kernel
theorem dX10_status_1 : decode cX10_status 1 = .ok (.iconst 0, 1) := by decide +kernel
theorem dX10_status_2 : decode cX10_status 2 = .ok (.iconst 3, 1) := by decide +kernel
theorem dX10_status_3 : decode cX10_status 3 = .ok (.invokestatic 69, 3) := by decide +kernel
theorem dX10_status_6 : decode cX10_status 6 = .ok (.ifCond .eq 12, 3) := by decide +kernel
theorem dX10_status_9 : decode cX10_status 9 = .ok (.aload_n 0, 1) := by decide +kernel
theorem dX10_status_10 : decode cX10_status 10 = .ok (.getfield 31, 3) := by decide +kernel
theorem dX10_status_13 : decode cX10_status 13 = .ok (.iload_n 1, 1) := by decide +kernel
theorem dX10_status_14 : decode cX10_status 14 = .ok (.iaload, 1) := by decide +kernel
theorem dX10_status_15 : decode cX10_status 15 = .ok (.goto 4, 3) := by decide +kernel
theorem dX10_status_18 : decode cX10_status 18 = .ok (.iconst (-1), 1) := by decide +kernel
theorem dX10_status_19 : decode cX10_status 19 = .ok (.ireturn, 1) := by decide +kernel
theorem dX10_undo_0 : decode cX10_undo 0 = .ok (.aload_n 0, 1) := by decide +kernel
theorem dX10_undo_1 : decode cX10_undo 1 = .ok (.getfield 153, 3) := by decide +kernel
theorem dX10_undo_4 : decode cX10_undo 4 = .ok (.ifCond .ne 5, 3) := by decide +kernel
theorem dX10_undo_7 : decode cX10_undo 7 = .ok (.iconst (-1), 1) := by decide +kernel
theorem dX10_undo_8 : decode cX10_undo 8 = .ok (.ireturn, 1) := by decide +kernel
theorem dX10_undo_9 : decode cX10_undo 9 = .ok (.aload_n 0, 1) := by decide +kernel
theorem dX10_undo_10 : decode cX10_undo 10 = .ok (.dup, 1) := by decide +kernel
theorem dX10_undo_11 : decode cX10_undo 11 = .ok (.getfield 153, 3) := by decide +kernel
theorem dX10_undo_14 : decode cX10_undo 14 = .ok (.iconst 1, 1) := by decide +kernel
theorem dX10_undo_15 : decode cX10_undo 15 = .ok (.isub, 1) := by decide +kernel
theorem dX10_undo_16 : decode cX10_undo 16 = .ok (.putfield 153, 3) := by decide +kernel
theorem dX10_undo_19 : decode cX10_undo 19 = .ok (.iconst 0, 1) := by decide +kernel
theorem dX10_undo_20 : decode cX10_undo 20 = .ok (.istore_n 1, 1) := by decide +kernel
theorem dX10_undo_21 : decode cX10_undo 21 = .ok (.iload_n 1, 1) := by decide +kernel
theorem dX10_undo_22 : decode cX10_undo 22 = .ok (.sipush 622, 3) := by decide +kernel
theorem dX10_undo_25 : decode cX10_undo 25 = .ok (.if_icmp .ge 30, 3) := by decide +kernel
theorem dX10_undo_28 : decode cX10_undo 28 = .ok (.aload_n 0, 1) := by decide +kernel
theorem dX10_undo_29 : decode cX10_undo 29 = .ok (.getfield 28, 3) := by decide +kernel
theorem dX10_undo_32 : decode cX10_undo 32 = .ok (.iload_n 1, 1) := by decide +kernel
theorem dX10_undo_33 : decode cX10_undo 33 = .ok (.aload_n 0, 1) := by decide +kernel
theorem dX10_undo_34 : decode cX10_undo 34 = .ok (.getfield 43, 3) := by decide +kernel
theorem dX10_undo_37 : decode cX10_undo 37 = .ok (.sipush 622, 3) := by decide +kernel
theorem dX10_undo_40 : decode cX10_undo 40 = .ok (.aload_n 0, 1) := by decide +kernel
theorem dX10_undo_41 : decode cX10_undo 41 = .ok (.getfield 153, 3) := by decide +kernel
theorem dX10_undo_44 : decode cX10_undo 44 = .ok (.imul, 1) := by decide +kernel
theorem dX10_undo_45 : decode cX10_undo 45 = .ok (.iload_n 1, 1) := by decide +kernel
theorem dX10_undo_46 : decode cX10_undo 46 = .ok (.iadd, 1) := by decide +kernel
theorem dX10_undo_47 : decode cX10_undo 47 = .ok (.iaload, 1) := by decide +kernel
theorem dX10_undo_48 : decode cX10_undo 48 = .ok (.iastore, 1) := by decide +kernel
theorem dX10_undo_49 : decode cX10_undo 49 = .ok (.iinc 1 1, 3) := by decide +kernel
theorem dX10_undo_52 : decode cX10_undo 52 = .ok (.goto (-31), 3) := by decide +kernel
theorem dX10_undo_55 : decode cX10_undo 55 = .ok (.aload_n 0, 1) := by decide +kernel
theorem dX10_undo_56 : decode cX10_undo 56 = .ok (.getfield 153, 3) := by decide +kernel
theorem dX10_undo_59 : decode cX10_undo 59 = .ok (.ireturn, 1) := by decide +kernel
theorem dX10_log_0 : decode cX10_log 0 = .ok (.iload_n 1, 1) := by decide +kernel
theorem dX10_log_1 : decode cX10_log 1 = .ok (.iconst 0, 1) := by decide +kernel
theorem dX10_log_2 : decode cX10_log 2 = .ok (.aload_n 0, 1) := by decide +kernel
theorem dX10_log_3 : decode cX10_log 3 = .ok (.getfield 28, 3) := by decide +kernel
theorem dX10_log_6 : decode cX10_log 6 = .ok (.sipush 441, 3) := by decide +kernel
theorem dX10_log_9 : decode cX10_log 9 = .ok (.iaload, 1) := by decide +kernel
theorem dX10_log_10 : decode cX10_log 10 = .ok (.iconst 1, 1) := by decide +kernel
theorem dX10_log_11 : decode cX10_log 11 = .ok (.isub, 1) := by decide +kernel
theorem dX10_log_12 : decode cX10_log 12 = .ok (.invokestatic 69, 3) := by decide +kernel
theorem dX10_log_15 : decode cX10_log 15 = .ok (.ifCond .eq 40, 3) := by decide +kernel
theorem dX10_log_18 : decode cX10_log 18 = .ok (.iload_n 2, 1) := by decide +kernel
theorem dX10_log_19 : decode cX10_log 19 = .ok (.iconst 0, 1) := by decide +kernel
theorem dX10_log_20 : decode cX10_log 20 = .ok (.iconst 2, 1) := by decide +kernel
theorem dX10_log_21 : decode cX10_log 21 = .ok (.invokestatic 69, 3) := by decide +kernel
theorem dX10_log_24 : decode cX10_log 24 = .ok (.ifCond .eq 31, 3) := by decide +kernel
theorem dX10_log_27 : decode cX10_log 27 = .ok (.aload_n 0, 1) := by decide +kernel
theorem dX10_log_28 : decode cX10_log 28 = .ok (.getfield 28, 3) := by decide +kernel
theorem dX10_log_31 : decode cX10_log 31 = .ok (.sipush 442, 3) := by decide +kernel
theorem dX10_log_34 : decode cX10_log 34 = .ok (.iconst 3, 1) := by decide +kernel
theorem dX10_log_35 : decode cX10_log 35 = .ok (.aload_n 0, 1) := by decide +kernel
theorem dX10_log_36 : decode cX10_log 36 = .ok (.getfield 28, 3) := by decide +kernel
theorem dX10_log_39 : decode cX10_log 39 = .ok (.sipush 441, 3) := by decide +kernel
theorem dX10_log_42 : decode cX10_log 42 = .ok (.iaload, 1) := by decide +kernel
theorem dX10_log_43 : decode cX10_log 43 = .ok (.iconst 1, 1) := by decide +kernel
theorem dX10_log_44 : decode cX10_log 44 = .ok (.isub, 1) := by decide +kernel
theorem dX10_log_45 : decode cX10_log 45 = .ok (.iload_n 1, 1) := by decide +kernel
theorem dX10_log_46 : decode cX10_log 46 = .ok (.isub, 1) := by decide +kernel
theorem dX10_log_47 : decode cX10_log 47 = .ok (.imul, 1) := by decide +kernel
theorem dX10_log_48 : decode cX10_log 48 = .ok (.iadd, 1) := by decide +kernel
theorem dX10_log_49 : decode cX10_log 49 = .ok (.iload_n 2, 1) := by decide +kernel
theorem dX10_log_50 : decode cX10_log 50 = .ok (.iadd, 1) := by decide +kernel
theorem dX10_log_51 : decode cX10_log 51 = .ok (.iaload, 1) := by decide +kernel
theorem dX10_log_52 : decode cX10_log 52 = .ok (.goto 5, 3) := by decide +kernel
theorem dX10_log_55 : decode cX10_log 55 = .ok (.ldc 109, 2) := by decide +kernel
theorem dX10_log_57 : decode cX10_log 57 = .ok (.ireturn, 1) := by decide +kernel
theorem dX10_rule_0 : decode cX10_rule 0 = .ok (.aload_n 0, 1) := by decide +kernel
theorem dX10_rule_1 : decode cX10_rule 1 = .ok (.invokevirtual 139, 3) := by decide +kernel
theorem dX10_rule_4 : decode cX10_rule 4 = .ok (.ifCond .eq 12, 3) := by decide +kernel
theorem dX10_rule_7 : decode cX10_rule 7 = .ok (.iload_n 1, 1) := by decide +kernel
theorem dX10_rule_8 : decode cX10_rule 8 = .ok (.iconst 0, 1) := by decide +kernel
theorem dX10_rule_9 : decode cX10_rule 9 = .ok (.iconst 3, 1) := by decide +kernel
theorem dX10_rule_10 : decode cX10_rule 10 = .ok (.invokestatic 69, 3) := by decide +kernel
theorem dX10_rule_13 : decode cX10_rule 13 = .ok (.ifCond .ne 5, 3) := by decide +kernel
theorem dX10_rule_16 : decode cX10_rule 16 = .ok (.iconst (-1), 1) := by decide +kernel
theorem dX10_rule_17 : decode cX10_rule 17 = .ok (.ireturn, 1) := by decide +kernel
theorem dX10_rule_18 : decode cX10_rule 18 = .ok (.iload_n 1, 1) := by decide +kernel
theorem dX10_rule_19 : decode cX10_rule 19 = .ok (.tableswitch 53 0 2 #[25, 32, 37], 25) := by decide +kernel
theorem dX10_rule_44 : decode cX10_rule 44 = .ok (.aload_n 0, 1) := by decide +kernel
theorem dX10_rule_45 : decode cX10_rule 45 = .ok (.getfield 28, 3) := by decide +kernel
theorem dX10_rule_48 : decode cX10_rule 48 = .ok (.iconst 0, 1) := by decide +kernel
theorem dX10_rule_49 : decode cX10_rule 49 = .ok (.iaload, 1) := by decide +kernel
theorem dX10_rule_50 : decode cX10_rule 50 = .ok (.ireturn, 1) := by decide +kernel
theorem dX10_rule_51 : decode cX10_rule 51 = .ok (.aload_n 0, 1) := by decide +kernel
theorem dX10_rule_52 : decode cX10_rule 52 = .ok (.invokevirtual 277, 3) := by decide +kernel
theorem dX10_rule_55 : decode cX10_rule 55 = .ok (.ireturn, 1) := by decide +kernel
theorem dX10_rule_56 : decode cX10_rule 56 = .ok (.aload_n 0, 1) := by decide +kernel
theorem dX10_rule_57 : decode cX10_rule 57 = .ok (.invokevirtual 327, 3) := by decide +kernel
theorem dX10_rule_60 : decode cX10_rule 60 = .ok (.ifCond .eq 10, 3) := by decide +kernel
theorem dX10_rule_63 : decode cX10_rule 63 = .ok (.aload_n 0, 1) := by decide +kernel
theorem dX10_rule_64 : decode cX10_rule 64 = .ok (.getfield 170, 3) := by decide +kernel
theorem dX10_rule_67 : decode cX10_rule 67 = .ok (.goto 4, 3) := by decide +kernel
theorem dX10_rule_70 : decode cX10_rule 70 = .ok (.iconst 0, 1) := by decide +kernel
theorem dX10_rule_71 : decode cX10_rule 71 = .ok (.ireturn, 1) := by decide +kernel
theorem dX10_rule_72 : decode cX10_rule 72 = .ok (.aload_n 0, 1) := by decide +kernel
theorem dX10_rule_73 : decode cX10_rule 73 = .ok (.getfield 150, 3) := by decide +kernel
theorem dX10_rule_76 : decode cX10_rule 76 = .ok (.ireturn, 1) := by decide +kernel
theorem dX10_line_0 : decode cX10_line 0 = .ok (.aload_n 0, 1) := by decide +kernel
theorem dX10_line_1 : decode cX10_line 1 = .ok (.aload_n 0, 1) := by decide +kernel
theorem dX10_line_2 : decode cX10_line 2 = .ok (.iload_n 1, 1) := by decide +kernel
theorem dX10_line_3 : decode cX10_line 3 = .ok (.invokevirtual 132, 3) := by decide +kernel
theorem dX10_line_6 : decode cX10_line 6 = .ok (.ifCond .eq 16, 3) := by decide +kernel
theorem dX10_line_9 : decode cX10_line 9 = .ok (.iload_n 2, 1) := by decide +kernel
theorem dX10_line_10 : decode cX10_line 10 = .ok (.iconst 0, 1) := by decide +kernel
theorem dX10_line_11 : decode cX10_line 11 = .ok (.iconst 1, 1) := by decide +kernel
theorem dX10_line_12 : decode cX10_line 12 = .ok (.invokestatic 69, 3) := by decide +kernel
theorem dX10_line_15 : decode cX10_line 15 = .ok (.ifCond .eq 7, 3) := by decide +kernel
theorem dX10_line_18 : decode cX10_line 18 = .ok (.iconst 0, 1) := by decide +kernel
theorem dX10_line_19 : decode cX10_line 19 = .ok (.goto 4, 3) := by decide +kernel
theorem dX10_line_22 : decode cX10_line 22 = .ok (.iconst 1, 1) := by decide +kernel
theorem dX10_line_23 : decode cX10_line 23 = .ok (.putfield 58, 3) := by decide +kernel
theorem dX10_line_26 : decode cX10_line 26 = .ok (.aload_n 0, 1) := by decide +kernel
theorem dX10_line_27 : decode cX10_line 27 = .ok (.getfield 58, 3) := by decide +kernel
theorem dX10_line_30 : decode cX10_line 30 = .ok (.iconst 1, 1) := by decide +kernel
theorem dX10_line_31 : decode cX10_line 31 = .ok (.if_icmp .ne 7, 3) := by decide +kernel
theorem dX10_line_34 : decode cX10_line 34 = .ok (.iconst 0, 1) := by decide +kernel
theorem dX10_line_35 : decode cX10_line 35 = .ok (.goto 20, 3) := by decide +kernel
theorem dX10_line_38 : decode cX10_line 38 = .ok (.iload_n 2, 1) := by decide +kernel
theorem dX10_line_39 : decode cX10_line 39 = .ok (.ifCond .ne 11, 3) := by decide +kernel
theorem dX10_line_42 : decode cX10_line 42 = .ok (.aload_n 0, 1) := by decide +kernel
theorem dX10_line_43 : decode cX10_line 43 = .ok (.iload_n 1, 1) := by decide +kernel
theorem dX10_line_44 : decode cX10_line 44 = .ok (.invokevirtual 190, 3) := by decide +kernel
theorem dX10_line_47 : decode cX10_line 47 = .ok (.goto 8, 3) := by decide +kernel
theorem dX10_line_50 : decode cX10_line 50 = .ok (.aload_n 0, 1) := by decide +kernel
theorem dX10_line_51 : decode cX10_line 51 = .ok (.iload_n 1, 1) := by decide +kernel
theorem dX10_line_52 : decode cX10_line 52 = .ok (.invokevirtual 136, 3) := by decide +kernel
theorem dX10_line_55 : decode cX10_line 55 = .ok (.ireturn, 1) := by decide +kernel
theorem dX10_sign_0 : decode cX10_sign 0 = .ok (.aload_n 0, 1) := by decide +kernel
theorem dX10_sign_1 : decode cX10_sign 1 = .ok (.iload_n 1, 1) := by decide +kernel
theorem dX10_sign_2 : decode cX10_sign 2 = .ok (.iload_n 2, 1) := by decide +kernel
theorem dX10_sign_3 : decode cX10_sign 3 = .ok (.invokevirtual 330, 3) := by decide +kernel
theorem dX10_sign_6 : decode cX10_sign 6 = .ok (.ifCond .eq 15, 3) := by decide +kernel
theorem dX10_sign_9 : decode cX10_sign 9 = .ok (.aload_n 0, 1) := by decide +kernel
theorem dX10_sign_10 : decode cX10_sign 10 = .ok (.iload_n 1, 1) := by decide +kernel
theorem dX10_sign_11 : decode cX10_sign 11 = .ok (.iload_n 2, 1) := by decide +kernel
theorem dX10_sign_12 : decode cX10_sign 12 = .ok (.invokevirtual 176, 3) := by decide +kernel
theorem dX10_sign_15 : decode cX10_sign 15 = .ok (.invokestatic 334, 3) := by decide +kernel
theorem dX10_sign_18 : decode cX10_sign 18 = .ok (.goto 4, 3) := by decide +kernel
theorem dX10_sign_21 : decode cX10_sign 21 = .ok (.iconst (-1), 1) := by decide +kernel
theorem dX10_sign_22 : decode cX10_sign 22 = .ok (.ireturn, 1) := by decide +kernel
theorem dX10_hit_0 : decode cX10_hit 0 = .ok (.aload_n 0, 1) := by decide +kernel
theorem dX10_hit_1 : decode cX10_hit 1 = .ok (.invokevirtual 327, 3) := by decide +kernel
theorem dX10_hit_4 : decode cX10_hit 4 = .ok (.ifCond .eq 26, 3) := by decide +kernel
theorem dX10_hit_7 : decode cX10_hit 7 = .ok (.iload_n 1, 1) := by decide +kernel
theorem dX10_hit_8 : decode cX10_hit 8 = .ok (.iconst 0, 1) := by decide +kernel
theorem dX10_hit_9 : decode cX10_hit 9 = .ok (.aload_n 0, 1) := by decide +kernel
theorem dX10_hit_10 : decode cX10_hit 10 = .ok (.getfield 170, 3) := by decide +kernel
theorem dX10_hit_13 : decode cX10_hit 13 = .ok (.iconst 1, 1) := by decide +kernel
theorem dX10_hit_14 : decode cX10_hit 14 = .ok (.isub, 1) := by decide +kernel
theorem dX10_hit_15 : decode cX10_hit 15 = .ok (.invokestatic 69, 3) := by decide +kernel
theorem dX10_hit_18 : decode cX10_hit 18 = .ok (.ifCond .eq 12, 3) := by decide +kernel
theorem dX10_hit_21 : decode cX10_hit 21 = .ok (.iload_n 2, 1) := by decide +kernel
theorem dX10_hit_22 : decode cX10_hit 22 = .ok (.iconst 0, 1) := by decide +kernel
theorem dX10_hit_23 : decode cX10_hit 23 = .ok (.iconst 3, 1) := by decide +kernel
theorem dX10_hit_24 : decode cX10_hit 24 = .ok (.invokestatic 69, 3) := by decide +kernel
theorem dX10_hit_27 : decode cX10_hit 27 = .ok (.ifCond .ne 5, 3) := by decide +kernel
theorem dX10_hit_30 : decode cX10_hit 30 = .ok (.iconst (-1), 1) := by decide +kernel
theorem dX10_hit_31 : decode cX10_hit 31 = .ok (.ireturn, 1) := by decide +kernel
theorem dX10_hit_32 : decode cX10_hit 32 = .ok (.iload_n 2, 1) := by decide +kernel
theorem dX10_hit_33 : decode cX10_hit 33 = .ok (.tableswitch 64 0 2 #[27, 34, 41], 27) := by decide +kernel
theorem dX10_hit_60 : decode cX10_hit 60 = .ok (.aload_n 0, 1) := by decide +kernel
theorem dX10_hit_61 : decode cX10_hit 61 = .ok (.getfield 37, 3) := by decide +kernel
theorem dX10_hit_64 : decode cX10_hit 64 = .ok (.iload_n 1, 1) := by decide +kernel
theorem dX10_hit_65 : decode cX10_hit 65 = .ok (.iaload, 1) := by decide +kernel
theorem dX10_hit_66 : decode cX10_hit 66 = .ok (.ireturn, 1) := by decide +kernel
theorem dX10_hit_67 : decode cX10_hit 67 = .ok (.aload_n 0, 1) := by decide +kernel
theorem dX10_hit_68 : decode cX10_hit 68 = .ok (.getfield 40, 3) := by decide +kernel
theorem dX10_hit_71 : decode cX10_hit 71 = .ok (.iload_n 1, 1) := by decide +kernel
theorem dX10_hit_72 : decode cX10_hit 72 = .ok (.iaload, 1) := by decide +kernel
theorem dX10_hit_73 : decode cX10_hit 73 = .ok (.ireturn, 1) := by decide +kernel
theorem dX10_hit_74 : decode cX10_hit 74 = .ok (.aload_n 0, 1) := by decide +kernel
theorem dX10_hit_75 : decode cX10_hit 75 = .ok (.aload_n 0, 1) := by decide +kernel
theorem dX10_hit_76 : decode cX10_hit 76 = .ok (.getfield 37, 3) := by decide +kernel
theorem dX10_hit_79 : decode cX10_hit 79 = .ok (.iload_n 1, 1) := by decide +kernel
theorem dX10_hit_80 : decode cX10_hit 80 = .ok (.iaload, 1) := by decide +kernel
theorem dX10_hit_81 : decode cX10_hit 81 = .ok (.invokevirtual 136, 3) := by decide +kernel
theorem dX10_hit_84 : decode cX10_hit 84 = .ok (.aload_n 0, 1) := by decide +kernel
theorem dX10_hit_85 : decode cX10_hit 85 = .ok (.getfield 40, 3) := by decide +kernel
theorem dX10_hit_88 : decode cX10_hit 88 = .ok (.iload_n 1, 1) := by decide +kernel
theorem dX10_hit_89 : decode cX10_hit 89 = .ok (.iaload, 1) := by decide +kernel
theorem dX10_hit_90 : decode cX10_hit 90 = .ok (.isub, 1) := by decide +kernel
theorem dX10_hit_91 : decode cX10_hit 91 = .ok (.aload_n 0, 1) := by decide +kernel
theorem dX10_hit_92 : decode cX10_hit 92 = .ok (.getfield 150, 3) := by decide +kernel
theorem dX10_hit_95 : decode cX10_hit 95 = .ok (.isub, 1) := by decide +kernel
theorem dX10_hit_96 : decode cX10_hit 96 = .ok (.ireturn, 1) := by decide +kernel
theorem dX10_hit_97 : decode cX10_hit 97 = .ok (.aload_n 0, 1) := by decide +kernel
theorem dX10_hit_98 : decode cX10_hit 98 = .ok (.getfield 40, 3) := by decide +kernel
theorem dX10_hit_101 : decode cX10_hit 101 = .ok (.iload_n 1, 1) := by decide +kernel
theorem dX10_hit_102 : decode cX10_hit 102 = .ok (.iaload, 1) := by decide +kernel
theorem dX10_hit_103 : decode cX10_hit 103 = .ok (.ireturn, 1) := by decide +kernel
theorem dX10_rank_0 : decode cX10_rank 0 = .ok (.aload_n 0, 1) := by decide +kernel
theorem dX10_rank_1 : decode cX10_rank 1 = .ok (.invokevirtual 327, 3) := by decide +kernel
theorem dX10_rank_4 : decode cX10_rank 4 = .ok (.istore_n 3, 1) := by decide +kernel
theorem dX10_rank_5 : decode cX10_rank 5 = .ok (.iconst 0, 1) := by decide +kernel
theorem dX10_rank_6 : decode cX10_rank 6 = .ok (.istore 4, 2) := by decide +kernel
theorem dX10_rank_8 : decode cX10_rank 8 = .ok (.iload 4, 2) := by decide +kernel
theorem dX10_rank_10 : decode cX10_rank 10 = .ok (.aload_n 0, 1) := by decide +kernel
theorem dX10_rank_11 : decode cX10_rank 11 = .ok (.getfield 170, 3) := by decide +kernel
theorem dX10_rank_14 : decode cX10_rank 14 = .ok (.if_icmp .ge 38, 3) := by decide +kernel
theorem dX10_rank_17 : decode cX10_rank 17 = .ok (.iload_n 3, 1) := by decide +kernel
theorem dX10_rank_18 : decode cX10_rank 18 = .ok (.ifCond .eq 34, 3) := by decide +kernel
theorem dX10_rank_21 : decode cX10_rank 21 = .ok (.aload_n 0, 1) := by decide +kernel
theorem dX10_rank_22 : decode cX10_rank 22 = .ok (.getfield 37, 3) := by decide +kernel
theorem dX10_rank_25 : decode cX10_rank 25 = .ok (.iload 4, 2) := by decide +kernel
theorem dX10_rank_27 : decode cX10_rank 27 = .ok (.iaload, 1) := by decide +kernel
theorem dX10_rank_28 : decode cX10_rank 28 = .ok (.iload_n 1, 1) := by decide +kernel
theorem dX10_rank_29 : decode cX10_rank 29 = .ok (.if_icmp .ne 17, 3) := by decide +kernel
theorem dX10_rank_32 : decode cX10_rank 32 = .ok (.aload_n 0, 1) := by decide +kernel
theorem dX10_rank_33 : decode cX10_rank 33 = .ok (.getfield 40, 3) := by decide +kernel
theorem dX10_rank_36 : decode cX10_rank 36 = .ok (.iload 4, 2) := by decide +kernel
theorem dX10_rank_38 : decode cX10_rank 38 = .ok (.iaload, 1) := by decide +kernel
theorem dX10_rank_39 : decode cX10_rank 39 = .ok (.iload_n 2, 1) := by decide +kernel
theorem dX10_rank_40 : decode cX10_rank 40 = .ok (.if_icmp .ne 6, 3) := by decide +kernel
theorem dX10_rank_43 : decode cX10_rank 43 = .ok (.iload 4, 2) := by decide +kernel
theorem dX10_rank_45 : decode cX10_rank 45 = .ok (.ireturn, 1) := by decide +kernel
theorem dX10_rank_46 : decode cX10_rank 46 = .ok (.iinc 4 1, 3) := by decide +kernel
theorem dX10_rank_49 : decode cX10_rank 49 = .ok (.goto (-41), 3) := by decide +kernel
theorem dX10_rank_52 : decode cX10_rank 52 = .ok (.iconst (-1), 1) := by decide +kernel
theorem dX10_rank_53 : decode cX10_rank 53 = .ok (.ireturn, 1) := by decide +kernel
theorem dX10_laysAll_0 : decode cX10_laysAll 0 = .ok (.aload_n 0, 1) := by decide +kernel
theorem dX10_laysAll_1 : decode cX10_laysAll 1 = .ok (.aload_n 0, 1) := by decide +kernel
theorem dX10_laysAll_2 : decode cX10_laysAll 2 = .ok (.getfield 34, 3) := by decide +kernel
theorem dX10_laysAll_5 : decode cX10_laysAll 5 = .ok (.iconst 0, 1) := by decide +kernel
theorem dX10_laysAll_6 : decode cX10_laysAll 6 = .ok (.iconst 0, 1) := by decide +kernel
theorem dX10_laysAll_7 : decode cX10_laysAll 7 = .ok (.invokevirtual 166, 3) := by decide +kernel
theorem dX10_laysAll_10 : decode cX10_laysAll 10 = .ok (.return_, 1) := by decide +kernel
theorem dX10_sharedAt_0 : decode cX10_sharedAt 0 = .ok (.iconst 0, 1) := by decide +kernel
theorem dX10_sharedAt_1 : decode cX10_sharedAt 1 = .ok (.istore_n 2, 1) := by decide +kernel
theorem dX10_sharedAt_2 : decode cX10_sharedAt 2 = .ok (.aload_n 0, 1) := by decide +kernel
theorem dX10_sharedAt_3 : decode cX10_sharedAt 3 = .ok (.aload_n 0, 1) := by decide +kernel
theorem dX10_sharedAt_4 : decode cX10_sharedAt 4 = .ok (.getfield 37, 3) := by decide +kernel
theorem dX10_sharedAt_7 : decode cX10_sharedAt 7 = .ok (.iload_n 1, 1) := by decide +kernel
theorem dX10_sharedAt_8 : decode cX10_sharedAt 8 = .ok (.iaload, 1) := by decide +kernel
theorem dX10_sharedAt_9 : decode cX10_sharedAt 9 = .ok (.aload_n 0, 1) := by decide +kernel
theorem dX10_sharedAt_10 : decode cX10_sharedAt 10 = .ok (.getfield 40, 3) := by decide +kernel
theorem dX10_sharedAt_13 : decode cX10_sharedAt 13 = .ok (.iload_n 1, 1) := by decide +kernel
theorem dX10_sharedAt_14 : decode cX10_sharedAt 14 = .ok (.iaload, 1) := by decide +kernel
theorem dX10_sharedAt_15 : decode cX10_sharedAt 15 = .ok (.iload_n 2, 1) := by decide +kernel
theorem dX10_sharedAt_16 : decode cX10_sharedAt 16 = .ok (.invokevirtual 180, 3) := by decide +kernel
theorem dX10_sharedAt_19 : decode cX10_sharedAt 19 = .ok (.iconst (-1), 1) := by decide +kernel
theorem dX10_sharedAt_20 : decode cX10_sharedAt 20 = .ok (.if_icmp .eq 50, 3) := by decide +kernel
theorem dX10_sharedAt_23 : decode cX10_sharedAt 23 = .ok (.aload_n 0, 1) := by decide +kernel
theorem dX10_sharedAt_24 : decode cX10_sharedAt 24 = .ok (.aload_n 0, 1) := by decide +kernel
theorem dX10_sharedAt_25 : decode cX10_sharedAt 25 = .ok (.getfield 37, 3) := by decide +kernel
theorem dX10_sharedAt_28 : decode cX10_sharedAt 28 = .ok (.iload_n 1, 1) := by decide +kernel
theorem dX10_sharedAt_29 : decode cX10_sharedAt 29 = .ok (.iaload, 1) := by decide +kernel
theorem dX10_sharedAt_30 : decode cX10_sharedAt 30 = .ok (.aload_n 0, 1) := by decide +kernel
theorem dX10_sharedAt_31 : decode cX10_sharedAt 31 = .ok (.getfield 40, 3) := by decide +kernel
theorem dX10_sharedAt_34 : decode cX10_sharedAt 34 = .ok (.iload_n 1, 1) := by decide +kernel
theorem dX10_sharedAt_35 : decode cX10_sharedAt 35 = .ok (.iaload, 1) := by decide +kernel
theorem dX10_sharedAt_36 : decode cX10_sharedAt 36 = .ok (.iload_n 2, 1) := by decide +kernel
theorem dX10_sharedAt_37 : decode cX10_sharedAt 37 = .ok (.invokevirtual 180, 3) := by decide +kernel
theorem dX10_sharedAt_40 : decode cX10_sharedAt 40 = .ok (.aload_n 0, 1) := by decide +kernel
theorem dX10_sharedAt_41 : decode cX10_sharedAt 41 = .ok (.aload_n 0, 1) := by decide +kernel
theorem dX10_sharedAt_42 : decode cX10_sharedAt 42 = .ok (.getfield 37, 3) := by decide +kernel
theorem dX10_sharedAt_45 : decode cX10_sharedAt 45 = .ok (.iload_n 1, 1) := by decide +kernel
theorem dX10_sharedAt_46 : decode cX10_sharedAt 46 = .ok (.iconst 1, 1) := by decide +kernel
theorem dX10_sharedAt_47 : decode cX10_sharedAt 47 = .ok (.iadd, 1) := by decide +kernel
theorem dX10_sharedAt_48 : decode cX10_sharedAt 48 = .ok (.iaload, 1) := by decide +kernel
theorem dX10_sharedAt_49 : decode cX10_sharedAt 49 = .ok (.aload_n 0, 1) := by decide +kernel
theorem dX10_sharedAt_50 : decode cX10_sharedAt 50 = .ok (.getfield 40, 3) := by decide +kernel
theorem dX10_sharedAt_53 : decode cX10_sharedAt 53 = .ok (.iload_n 1, 1) := by decide +kernel
theorem dX10_sharedAt_54 : decode cX10_sharedAt 54 = .ok (.iconst 1, 1) := by decide +kernel
theorem dX10_sharedAt_55 : decode cX10_sharedAt 55 = .ok (.iadd, 1) := by decide +kernel
theorem dX10_sharedAt_56 : decode cX10_sharedAt 56 = .ok (.iaload, 1) := by decide +kernel
theorem dX10_sharedAt_57 : decode cX10_sharedAt 57 = .ok (.iload_n 2, 1) := by decide +kernel
theorem dX10_sharedAt_58 : decode cX10_sharedAt 58 = .ok (.invokevirtual 180, 3) := by decide +kernel
theorem dX10_sharedAt_61 : decode cX10_sharedAt 61 = .ok (.if_icmp .ne 9, 3) := by decide +kernel
theorem dX10_sharedAt_64 : decode cX10_sharedAt 64 = .ok (.iinc 2 1, 3) := by decide +kernel
theorem dX10_sharedAt_67 : decode cX10_sharedAt 67 = .ok (.goto (-65), 3) := by decide +kernel
theorem dX10_sharedAt_70 : decode cX10_sharedAt 70 = .ok (.iload_n 2, 1) := by decide +kernel
theorem dX10_sharedAt_71 : decode cX10_sharedAt 71 = .ok (.ireturn, 1) := by decide +kernel
theorem dX10_all_0 : decode cX10_all 0 = .ok (.aload_n 0, 1) := by decide +kernel
theorem dX10_all_1 : decode cX10_all 1 = .ok (.invokevirtual 139, 3) := by decide +kernel
theorem dX10_all_4 : decode cX10_all 4 = .ok (.ifCond .eq 12, 3) := by decide +kernel
theorem dX10_all_7 : decode cX10_all 7 = .ok (.iload_n 2, 1) := by decide +kernel
theorem dX10_all_8 : decode cX10_all 8 = .ok (.iconst 0, 1) := by decide +kernel
theorem dX10_all_9 : decode cX10_all 9 = .ok (.iconst 2, 1) := by decide +kernel
theorem dX10_all_10 : decode cX10_all 10 = .ok (.invokestatic 69, 3) := by decide +kernel
theorem dX10_all_13 : decode cX10_all 13 = .ok (.ifCond .ne 5, 3) := by decide +kernel
theorem dX10_all_16 : decode cX10_all 16 = .ok (.iconst (-1), 1) := by decide +kernel
theorem dX10_all_17 : decode cX10_all 17 = .ok (.ireturn, 1) := by decide +kernel
theorem dX10_all_18 : decode cX10_all 18 = .ok (.aload_n 0, 1) := by decide +kernel
theorem dX10_all_19 : decode cX10_all 19 = .ok (.invokevirtual 337, 3) := by decide +kernel
theorem dX10_all_22 : decode cX10_all 22 = .ok (.iload_n 1, 1) := by decide +kernel
theorem dX10_all_23 : decode cX10_all 23 = .ok (.iconst 0, 1) := by decide +kernel
theorem dX10_all_24 : decode cX10_all 24 = .ok (.aload_n 0, 1) := by decide +kernel
theorem dX10_all_25 : decode cX10_all 25 = .ok (.getfield 170, 3) := by decide +kernel
theorem dX10_all_28 : decode cX10_all 28 = .ok (.iconst 1, 1) := by decide +kernel
theorem dX10_all_29 : decode cX10_all 29 = .ok (.isub, 1) := by decide +kernel
theorem dX10_all_30 : decode cX10_all 30 = .ok (.invokestatic 69, 3) := by decide +kernel
theorem dX10_all_33 : decode cX10_all 33 = .ok (.ifCond .ne 5, 3) := by decide +kernel
theorem dX10_all_36 : decode cX10_all 36 = .ok (.iconst (-1), 1) := by decide +kernel
theorem dX10_all_37 : decode cX10_all 37 = .ok (.ireturn, 1) := by decide +kernel
theorem dX10_all_38 : decode cX10_all 38 = .ok (.iload_n 2, 1) := by decide +kernel
theorem dX10_all_39 : decode cX10_all 39 = .ok (.ifCond .ne 12, 3) := by decide +kernel
theorem dX10_all_42 : decode cX10_all 42 = .ok (.aload_n 0, 1) := by decide +kernel
theorem dX10_all_43 : decode cX10_all 43 = .ok (.getfield 37, 3) := by decide +kernel
theorem dX10_all_46 : decode cX10_all 46 = .ok (.iload_n 1, 1) := by decide +kernel
theorem dX10_all_47 : decode cX10_all 47 = .ok (.iaload, 1) := by decide +kernel
theorem dX10_all_48 : decode cX10_all 48 = .ok (.goto 36, 3) := by decide +kernel
theorem dX10_all_51 : decode cX10_all 51 = .ok (.iload_n 2, 1) := by decide +kernel
theorem dX10_all_52 : decode cX10_all 52 = .ok (.iconst 1, 1) := by decide +kernel
theorem dX10_all_53 : decode cX10_all 53 = .ok (.if_icmp .ne 12, 3) := by decide +kernel
theorem dX10_all_56 : decode cX10_all 56 = .ok (.aload_n 0, 1) := by decide +kernel
theorem dX10_all_57 : decode cX10_all 57 = .ok (.getfield 40, 3) := by decide +kernel
theorem dX10_all_60 : decode cX10_all 60 = .ok (.iload_n 1, 1) := by decide +kernel
theorem dX10_all_61 : decode cX10_all 61 = .ok (.iaload, 1) := by decide +kernel
theorem dX10_all_62 : decode cX10_all 62 = .ok (.goto 22, 3) := by decide +kernel
theorem dX10_all_65 : decode cX10_all 65 = .ok (.iload_n 1, 1) := by decide +kernel
theorem dX10_all_66 : decode cX10_all 66 = .ok (.aload_n 0, 1) := by decide +kernel
theorem dX10_all_67 : decode cX10_all 67 = .ok (.getfield 170, 3) := by decide +kernel
theorem dX10_all_70 : decode cX10_all 70 = .ok (.iconst 1, 1) := by decide +kernel
theorem dX10_all_71 : decode cX10_all 71 = .ok (.isub, 1) := by decide +kernel
theorem dX10_all_72 : decode cX10_all 72 = .ok (.if_icmp .ne 7, 3) := by decide +kernel
theorem dX10_all_75 : decode cX10_all 75 = .ok (.iconst (-1), 1) := by decide +kernel
theorem dX10_all_76 : decode cX10_all 76 = .ok (.goto 8, 3) := by decide +kernel
theorem dX10_all_79 : decode cX10_all 79 = .ok (.aload_n 0, 1) := by decide +kernel
theorem dX10_all_80 : decode cX10_all 80 = .ok (.iload_n 1, 1) := by decide +kernel
theorem dX10_all_81 : decode cX10_all 81 = .ok (.invokevirtual 340, 3) := by decide +kernel
theorem dX10_all_84 : decode cX10_all 84 = .ok (.ireturn, 1) := by decide +kernel
theorem dX10_mostShared_0 : decode cX10_mostShared 0 = .ok (.aload_n 0, 1) := by decide +kernel
theorem dX10_mostShared_1 : decode cX10_mostShared 1 = .ok (.invokevirtual 337, 3) := by decide +kernel
theorem dX10_mostShared_4 : decode cX10_mostShared 4 = .ok (.iconst (-1), 1) := by decide +kernel
theorem dX10_mostShared_5 : decode cX10_mostShared 5 = .ok (.istore_n 1, 1) := by decide +kernel
theorem dX10_mostShared_6 : decode cX10_mostShared 6 = .ok (.iconst 0, 1) := by decide +kernel
theorem dX10_mostShared_7 : decode cX10_mostShared 7 = .ok (.istore_n 2, 1) := by decide +kernel
theorem dX10_mostShared_8 : decode cX10_mostShared 8 = .ok (.iload_n 2, 1) := by decide +kernel
theorem dX10_mostShared_9 : decode cX10_mostShared 9 = .ok (.iconst 1, 1) := by decide +kernel
theorem dX10_mostShared_10 : decode cX10_mostShared 10 = .ok (.iadd, 1) := by decide +kernel
theorem dX10_mostShared_11 : decode cX10_mostShared 11 = .ok (.aload_n 0, 1) := by decide +kernel
theorem dX10_mostShared_12 : decode cX10_mostShared 12 = .ok (.getfield 170, 3) := by decide +kernel
theorem dX10_mostShared_15 : decode cX10_mostShared 15 = .ok (.if_icmp .ge 37, 3) := by decide +kernel
theorem dX10_mostShared_18 : decode cX10_mostShared 18 = .ok (.aload_n 0, 1) := by decide +kernel
theorem dX10_mostShared_19 : decode cX10_mostShared 19 = .ok (.iload_n 2, 1) := by decide +kernel
theorem dX10_mostShared_20 : decode cX10_mostShared 20 = .ok (.invokevirtual 340, 3) := by decide +kernel
theorem dX10_mostShared_23 : decode cX10_mostShared 23 = .ok (.iload_n 1, 1) := by decide +kernel
theorem dX10_mostShared_24 : decode cX10_mostShared 24 = .ok (.iconst (-1), 1) := by decide +kernel
theorem dX10_mostShared_25 : decode cX10_mostShared 25 = .ok (.if_icmp .ne 7, 3) := by decide +kernel
theorem dX10_mostShared_28 : decode cX10_mostShared 28 = .ok (.iconst 0, 1) := by decide +kernel
theorem dX10_mostShared_29 : decode cX10_mostShared 29 = .ok (.goto 8, 3) := by decide +kernel
theorem dX10_mostShared_32 : decode cX10_mostShared 32 = .ok (.aload_n 0, 1) := by decide +kernel
theorem dX10_mostShared_33 : decode cX10_mostShared 33 = .ok (.iload_n 1, 1) := by decide +kernel
theorem dX10_mostShared_34 : decode cX10_mostShared 34 = .ok (.invokevirtual 340, 3) := by decide +kernel
theorem dX10_mostShared_37 : decode cX10_mostShared 37 = .ok (.if_icmp .le 7, 3) := by decide +kernel
theorem dX10_mostShared_40 : decode cX10_mostShared 40 = .ok (.iload_n 2, 1) := by decide +kernel
theorem dX10_mostShared_41 : decode cX10_mostShared 41 = .ok (.goto 4, 3) := by decide +kernel
theorem dX10_mostShared_44 : decode cX10_mostShared 44 = .ok (.iload_n 1, 1) := by decide +kernel
theorem dX10_mostShared_45 : decode cX10_mostShared 45 = .ok (.istore_n 1, 1) := by decide +kernel
theorem dX10_mostShared_46 : decode cX10_mostShared 46 = .ok (.iinc 2 1, 3) := by decide +kernel
theorem dX10_mostShared_49 : decode cX10_mostShared 49 = .ok (.goto (-41), 3) := by decide +kernel
theorem dX10_mostShared_52 : decode cX10_mostShared 52 = .ok (.iload_n 1, 1) := by decide +kernel
theorem dX10_mostShared_53 : decode cX10_mostShared 53 = .ok (.ireturn, 1) := by decide +kernel
theorem dX10_twice_0 : decode cX10_twice 0 = .ok (.aload_n 0, 1) := by decide +kernel
theorem dX10_twice_1 : decode cX10_twice 1 = .ok (.invokevirtual 139, 3) := by decide +kernel
theorem dX10_twice_4 : decode cX10_twice 4 = .ok (.ifCond .eq 12, 3) := by decide +kernel
theorem dX10_twice_7 : decode cX10_twice 7 = .ok (.iload_n 1, 1) := by decide +kernel
theorem dX10_twice_8 : decode cX10_twice 8 = .ok (.iconst 0, 1) := by decide +kernel
theorem dX10_twice_9 : decode cX10_twice 9 = .ok (.iconst 1, 1) := by decide +kernel
theorem dX10_twice_10 : decode cX10_twice 10 = .ok (.invokestatic 69, 3) := by decide +kernel
theorem dX10_twice_13 : decode cX10_twice 13 = .ok (.ifCond .ne 5, 3) := by decide +kernel
theorem dX10_twice_16 : decode cX10_twice 16 = .ok (.iconst (-1), 1) := by decide +kernel
theorem dX10_twice_17 : decode cX10_twice 17 = .ok (.ireturn, 1) := by decide +kernel
theorem dX10_twice_18 : decode cX10_twice 18 = .ok (.aload_n 0, 1) := by decide +kernel
theorem dX10_twice_19 : decode cX10_twice 19 = .ok (.invokevirtual 343, 3) := by decide +kernel
theorem dX10_twice_22 : decode cX10_twice 22 = .ok (.istore_n 2, 1) := by decide +kernel
theorem dX10_twice_23 : decode cX10_twice 23 = .ok (.iload_n 2, 1) := by decide +kernel
theorem dX10_twice_24 : decode cX10_twice 24 = .ok (.iconst (-1), 1) := by decide +kernel
theorem dX10_twice_25 : decode cX10_twice 25 = .ok (.if_icmp .eq 7, 3) := by decide +kernel
theorem dX10_twice_28 : decode cX10_twice 28 = .ok (.iload_n 1, 1) := by decide +kernel
theorem dX10_twice_29 : decode cX10_twice 29 = .ok (.ifCond .ne 7, 3) := by decide +kernel
theorem dX10_twice_32 : decode cX10_twice 32 = .ok (.iload_n 2, 1) := by decide +kernel
theorem dX10_twice_33 : decode cX10_twice 33 = .ok (.goto 8, 3) := by decide +kernel
theorem dX10_twice_36 : decode cX10_twice 36 = .ok (.aload_n 0, 1) := by decide +kernel
theorem dX10_twice_37 : decode cX10_twice 37 = .ok (.iload_n 2, 1) := by decide +kernel
theorem dX10_twice_38 : decode cX10_twice 38 = .ok (.invokevirtual 340, 3) := by decide +kernel
theorem dX10_twice_41 : decode cX10_twice 41 = .ok (.ireturn, 1) := by decide +kernel
theorem dX10_restOf_0 : decode cX10_restOf 0 = .ok (.aload_n 0, 1) := by decide +kernel
theorem dX10_restOf_1 : decode cX10_restOf 1 = .ok (.aload_n 0, 1) := by decide +kernel
theorem dX10_restOf_2 : decode cX10_restOf 2 = .ok (.getfield 37, 3) := by decide +kernel
theorem dX10_restOf_5 : decode cX10_restOf 5 = .ok (.iload_n 1, 1) := by decide +kernel
theorem dX10_restOf_6 : decode cX10_restOf 6 = .ok (.iaload, 1) := by decide +kernel
theorem dX10_restOf_7 : decode cX10_restOf 7 = .ok (.invokevirtual 136, 3) := by decide +kernel
theorem dX10_restOf_10 : decode cX10_restOf 10 = .ok (.aload_n 0, 1) := by decide +kernel
theorem dX10_restOf_11 : decode cX10_restOf 11 = .ok (.getfield 40, 3) := by decide +kernel
theorem dX10_restOf_14 : decode cX10_restOf 14 = .ok (.iload_n 1, 1) := by decide +kernel
theorem dX10_restOf_15 : decode cX10_restOf 15 = .ok (.iaload, 1) := by decide +kernel
theorem dX10_restOf_16 : decode cX10_restOf 16 = .ok (.isub, 1) := by decide +kernel
theorem dX10_restOf_17 : decode cX10_restOf 17 = .ok (.ireturn, 1) := by decide +kernel
theorem dX10_unlike_0 : decode cX10_unlike 0 = .ok (.aload_n 0, 1) := by decide +kernel
theorem dX10_unlike_1 : decode cX10_unlike 1 = .ok (.invokevirtual 139, 3) := by decide +kernel
theorem dX10_unlike_4 : decode cX10_unlike 4 = .ok (.ifCond .eq 13, 3) := by decide +kernel
theorem dX10_unlike_7 : decode cX10_unlike 7 = .ok (.iload_n 1, 1) := by decide +kernel
theorem dX10_unlike_8 : decode cX10_unlike 8 = .ok (.iconst 1, 1) := by decide +kernel
theorem dX10_unlike_9 : decode cX10_unlike 9 = .ok (.bipush 6, 2) := by decide +kernel
theorem dX10_unlike_11 : decode cX10_unlike 11 = .ok (.invokestatic 69, 3) := by decide +kernel
theorem dX10_unlike_14 : decode cX10_unlike 14 = .ok (.ifCond .ne 5, 3) := by decide +kernel
theorem dX10_unlike_17 : decode cX10_unlike 17 = .ok (.iconst (-1), 1) := by decide +kernel
theorem dX10_unlike_18 : decode cX10_unlike 18 = .ok (.ireturn, 1) := by decide +kernel
theorem dX10_unlike_19 : decode cX10_unlike 19 = .ok (.aload_n 0, 1) := by decide +kernel
theorem dX10_unlike_20 : decode cX10_unlike 20 = .ok (.invokevirtual 337, 3) := by decide +kernel
theorem dX10_unlike_23 : decode cX10_unlike 23 = .ok (.iconst 0, 1) := by decide +kernel
theorem dX10_unlike_24 : decode cX10_unlike 24 = .ok (.istore_n 2, 1) := by decide +kernel
theorem dX10_unlike_25 : decode cX10_unlike 25 = .ok (.iconst 0, 1) := by decide +kernel
theorem dX10_unlike_26 : decode cX10_unlike 26 = .ok (.istore_n 3, 1) := by decide +kernel
theorem dX10_unlike_27 : decode cX10_unlike 27 = .ok (.iload_n 3, 1) := by decide +kernel
theorem dX10_unlike_28 : decode cX10_unlike 28 = .ok (.aload_n 0, 1) := by decide +kernel
theorem dX10_unlike_29 : decode cX10_unlike 29 = .ok (.getfield 170, 3) := by decide +kernel
theorem dX10_unlike_32 : decode cX10_unlike 32 = .ok (.if_icmp .ge 53, 3) := by decide +kernel
theorem dX10_unlike_35 : decode cX10_unlike 35 = .ok (.aload_n 0, 1) := by decide +kernel
theorem dX10_unlike_36 : decode cX10_unlike 36 = .ok (.iload_n 3, 1) := by decide +kernel
theorem dX10_unlike_37 : decode cX10_unlike 37 = .ok (.invokevirtual 346, 3) := by decide +kernel
theorem dX10_unlike_40 : decode cX10_unlike 40 = .ok (.iload_n 1, 1) := by decide +kernel
theorem dX10_unlike_41 : decode cX10_unlike 41 = .ok (.if_icmp .lt 22, 3) := by decide +kernel
theorem dX10_unlike_44 : decode cX10_unlike 44 = .ok (.iload_n 3, 1) := by decide +kernel
theorem dX10_unlike_45 : decode cX10_unlike 45 = .ok (.ifCond .eq 14, 3) := by decide +kernel
theorem dX10_unlike_48 : decode cX10_unlike 48 = .ok (.aload_n 0, 1) := by decide +kernel
theorem dX10_unlike_49 : decode cX10_unlike 49 = .ok (.iload_n 3, 1) := by decide +kernel
theorem dX10_unlike_50 : decode cX10_unlike 50 = .ok (.iconst 1, 1) := by decide +kernel
theorem dX10_unlike_51 : decode cX10_unlike 51 = .ok (.isub, 1) := by decide +kernel
theorem dX10_unlike_52 : decode cX10_unlike 52 = .ok (.invokevirtual 340, 3) := by decide +kernel
theorem dX10_unlike_55 : decode cX10_unlike 55 = .ok (.iload_n 1, 1) := by decide +kernel
theorem dX10_unlike_56 : decode cX10_unlike 56 = .ok (.if_icmp .ge 7, 3) := by decide +kernel
theorem dX10_unlike_59 : decode cX10_unlike 59 = .ok (.iconst 1, 1) := by decide +kernel
theorem dX10_unlike_60 : decode cX10_unlike 60 = .ok (.goto 4, 3) := by decide +kernel
theorem dX10_unlike_63 : decode cX10_unlike 63 = .ok (.iconst 0, 1) := by decide +kernel
theorem dX10_unlike_64 : decode cX10_unlike 64 = .ok (.istore 4, 2) := by decide +kernel
theorem dX10_unlike_66 : decode cX10_unlike 66 = .ok (.iload_n 2, 1) := by decide +kernel
theorem dX10_unlike_67 : decode cX10_unlike 67 = .ok (.iload 4, 2) := by decide +kernel
theorem dX10_unlike_69 : decode cX10_unlike 69 = .ok (.ifCond .eq 7, 3) := by decide +kernel
theorem dX10_unlike_72 : decode cX10_unlike 72 = .ok (.iconst 1, 1) := by decide +kernel
theorem dX10_unlike_73 : decode cX10_unlike 73 = .ok (.goto 4, 3) := by decide +kernel
theorem dX10_unlike_76 : decode cX10_unlike 76 = .ok (.iconst 0, 1) := by decide +kernel
theorem dX10_unlike_77 : decode cX10_unlike 77 = .ok (.iadd, 1) := by decide +kernel
theorem dX10_unlike_78 : decode cX10_unlike 78 = .ok (.istore_n 2, 1) := by decide +kernel
theorem dX10_unlike_79 : decode cX10_unlike 79 = .ok (.iinc 3 1, 3) := by decide +kernel
theorem dX10_unlike_82 : decode cX10_unlike 82 = .ok (.goto (-55), 3) := by decide +kernel
theorem dX10_unlike_85 : decode cX10_unlike 85 = .ok (.iload_n 2, 1) := by decide +kernel
theorem dX10_unlike_86 : decode cX10_unlike 86 = .ok (.ireturn, 1) := by decide +kernel
theorem dX10_laysOften_0 : decode cX10_laysOften 0 = .ok (.aload_n 0, 1) := by decide +kernel
theorem dX10_laysOften_1 : decode cX10_laysOften 1 = .ok (.invokevirtual 337, 3) := by decide +kernel
theorem dX10_laysOften_4 : decode cX10_laysOften 4 = .ok (.aload_n 0, 1) := by decide +kernel
theorem dX10_laysOften_5 : decode cX10_laysOften 5 = .ok (.iconst 0, 1) := by decide +kernel
theorem dX10_laysOften_6 : decode cX10_laysOften 6 = .ok (.putfield 349, 3) := by decide +kernel
theorem dX10_laysOften_9 : decode cX10_laysOften 9 = .ok (.iconst 0, 1) := by decide +kernel
theorem dX10_laysOften_10 : decode cX10_laysOften 10 = .ok (.istore_n 2, 1) := by decide +kernel
theorem dX10_laysOften_11 : decode cX10_laysOften 11 = .ok (.iconst 0, 1) := by decide +kernel
theorem dX10_laysOften_12 : decode cX10_laysOften 12 = .ok (.istore_n 3, 1) := by decide +kernel
theorem dX10_laysOften_13 : decode cX10_laysOften 13 = .ok (.iload_n 3, 1) := by decide +kernel
theorem dX10_laysOften_14 : decode cX10_laysOften 14 = .ok (.aload_n 0, 1) := by decide +kernel
theorem dX10_laysOften_15 : decode cX10_laysOften 15 = .ok (.getfield 170, 3) := by decide +kernel
theorem dX10_laysOften_18 : decode cX10_laysOften 18 = .ok (.if_icmp .ge 78, 3) := by decide +kernel
theorem dX10_laysOften_21 : decode cX10_laysOften 21 = .ok (.aload_n 0, 1) := by decide +kernel
theorem dX10_laysOften_22 : decode cX10_laysOften 22 = .ok (.iload_n 3, 1) := by decide +kernel
theorem dX10_laysOften_23 : decode cX10_laysOften 23 = .ok (.invokevirtual 346, 3) := by decide +kernel
theorem dX10_laysOften_26 : decode cX10_laysOften 26 = .ok (.iload_n 1, 1) := by decide +kernel
theorem dX10_laysOften_27 : decode cX10_laysOften 27 = .ok (.if_icmp .ge 7, 3) := by decide +kernel
theorem dX10_laysOften_30 : decode cX10_laysOften 30 = .ok (.iconst 0, 1) := by decide +kernel
theorem dX10_laysOften_31 : decode cX10_laysOften 31 = .ok (.goto 25, 3) := by decide +kernel
theorem dX10_laysOften_34 : decode cX10_laysOften 34 = .ok (.iload_n 3, 1) := by decide +kernel
theorem dX10_laysOften_35 : decode cX10_laysOften 35 = .ok (.ifCond .le 20, 3) := by decide +kernel
theorem dX10_laysOften_38 : decode cX10_laysOften 38 = .ok (.aload_n 0, 1) := by decide +kernel
theorem dX10_laysOften_39 : decode cX10_laysOften 39 = .ok (.iload_n 3, 1) := by decide +kernel
theorem dX10_laysOften_40 : decode cX10_laysOften 40 = .ok (.iconst 1, 1) := by decide +kernel
theorem dX10_laysOften_41 : decode cX10_laysOften 41 = .ok (.isub, 1) := by decide +kernel
theorem dX10_laysOften_42 : decode cX10_laysOften 42 = .ok (.invokevirtual 340, 3) := by decide +kernel
theorem dX10_laysOften_45 : decode cX10_laysOften 45 = .ok (.iload_n 1, 1) := by decide +kernel
theorem dX10_laysOften_46 : decode cX10_laysOften 46 = .ok (.if_icmp .lt 9, 3) := by decide +kernel
theorem dX10_laysOften_49 : decode cX10_laysOften 49 = .ok (.iload_n 2, 1) := by decide +kernel
theorem dX10_laysOften_50 : decode cX10_laysOften 50 = .ok (.iconst 1, 1) := by decide +kernel
theorem dX10_laysOften_51 : decode cX10_laysOften 51 = .ok (.iadd, 1) := by decide +kernel
theorem dX10_laysOften_52 : decode cX10_laysOften 52 = .ok (.goto 4, 3) := by decide +kernel
theorem dX10_laysOften_55 : decode cX10_laysOften 55 = .ok (.iconst 1, 1) := by decide +kernel
theorem dX10_laysOften_56 : decode cX10_laysOften 56 = .ok (.istore_n 2, 1) := by decide +kernel
theorem dX10_laysOften_57 : decode cX10_laysOften 57 = .ok (.iload_n 2, 1) := by decide +kernel
theorem dX10_laysOften_58 : decode cX10_laysOften 58 = .ok (.aload_n 0, 1) := by decide +kernel
theorem dX10_laysOften_59 : decode cX10_laysOften 59 = .ok (.getfield 349, 3) := by decide +kernel
theorem dX10_laysOften_62 : decode cX10_laysOften 62 = .ok (.if_icmp .le 28, 3) := by decide +kernel
theorem dX10_laysOften_65 : decode cX10_laysOften 65 = .ok (.aload_n 0, 1) := by decide +kernel
theorem dX10_laysOften_66 : decode cX10_laysOften 66 = .ok (.iload_n 2, 1) := by decide +kernel
theorem dX10_laysOften_67 : decode cX10_laysOften 67 = .ok (.putfield 349, 3) := by decide +kernel
theorem dX10_laysOften_70 : decode cX10_laysOften 70 = .ok (.aload_n 0, 1) := by decide +kernel
theorem dX10_laysOften_71 : decode cX10_laysOften 71 = .ok (.aload_n 0, 1) := by decide +kernel
theorem dX10_laysOften_72 : decode cX10_laysOften 72 = .ok (.getfield 37, 3) := by decide +kernel
theorem dX10_laysOften_75 : decode cX10_laysOften 75 = .ok (.iload_n 3, 1) := by decide +kernel
theorem dX10_laysOften_76 : decode cX10_laysOften 76 = .ok (.iaload, 1) := by decide +kernel
theorem dX10_laysOften_77 : decode cX10_laysOften 77 = .ok (.putfield 352, 3) := by decide +kernel
theorem dX10_laysOften_80 : decode cX10_laysOften 80 = .ok (.aload_n 0, 1) := by decide +kernel
theorem dX10_laysOften_81 : decode cX10_laysOften 81 = .ok (.aload_n 0, 1) := by decide +kernel
theorem dX10_laysOften_82 : decode cX10_laysOften 82 = .ok (.getfield 40, 3) := by decide +kernel
theorem dX10_laysOften_85 : decode cX10_laysOften 85 = .ok (.iload_n 3, 1) := by decide +kernel
theorem dX10_laysOften_86 : decode cX10_laysOften 86 = .ok (.iaload, 1) := by decide +kernel
theorem dX10_laysOften_87 : decode cX10_laysOften 87 = .ok (.putfield 355, 3) := by decide +kernel
theorem dX10_laysOften_90 : decode cX10_laysOften 90 = .ok (.iinc 3 1, 3) := by decide +kernel
theorem dX10_laysOften_93 : decode cX10_laysOften 93 = .ok (.goto (-80), 3) := by decide +kernel
theorem dX10_laysOften_96 : decode cX10_laysOften 96 = .ok (.aload_n 0, 1) := by decide +kernel
theorem dX10_laysOften_97 : decode cX10_laysOften 97 = .ok (.getfield 349, 3) := by decide +kernel
theorem dX10_laysOften_100 : decode cX10_laysOften 100 = .ok (.ifCond .le 46, 3) := by decide +kernel
theorem dX10_laysOften_103 : decode cX10_laysOften 103 = .ok (.aload_n 0, 1) := by decide +kernel
theorem dX10_laysOften_104 : decode cX10_laysOften 104 = .ok (.aload_n 0, 1) := by decide +kernel
theorem dX10_laysOften_105 : decode cX10_laysOften 105 = .ok (.getfield 28, 3) := by decide +kernel
theorem dX10_laysOften_108 : decode cX10_laysOften 108 = .ok (.aload_n 0, 1) := by decide +kernel
theorem dX10_laysOften_109 : decode cX10_laysOften 109 = .ok (.getfield 352, 3) := by decide +kernel
theorem dX10_laysOften_112 : decode cX10_laysOften 112 = .ok (.invokestatic 129, 3) := by decide +kernel
theorem dX10_laysOften_115 : decode cX10_laysOften 115 = .ok (.iconst 2, 1) := by decide +kernel
theorem dX10_laysOften_116 : decode cX10_laysOften 116 = .ok (.iadd, 1) := by decide +kernel
theorem dX10_laysOften_117 : decode cX10_laysOften 117 = .ok (.aload_n 0, 1) := by decide +kernel
theorem dX10_laysOften_118 : decode cX10_laysOften 118 = .ok (.getfield 355, 3) := by decide +kernel
theorem dX10_laysOften_121 : decode cX10_laysOften 121 = .ok (.iadd, 1) := by decide +kernel
theorem dX10_laysOften_122 : decode cX10_laysOften 122 = .ok (.iload_n 1, 1) := by decide +kernel
theorem dX10_laysOften_123 : decode cX10_laysOften 123 = .ok (.invokevirtual 166, 3) := by decide +kernel
theorem dX10_laysOften_126 : decode cX10_laysOften 126 = .ok (.aload_n 0, 1) := by decide +kernel
theorem dX10_laysOften_127 : decode cX10_laysOften 127 = .ok (.aload_n 0, 1) := by decide +kernel
theorem dX10_laysOften_128 : decode cX10_laysOften 128 = .ok (.getfield 37, 3) := by decide +kernel
theorem dX10_laysOften_131 : decode cX10_laysOften 131 = .ok (.iconst 0, 1) := by decide +kernel
theorem dX10_laysOften_132 : decode cX10_laysOften 132 = .ok (.iaload, 1) := by decide +kernel
theorem dX10_laysOften_133 : decode cX10_laysOften 133 = .ok (.putfield 352, 3) := by decide +kernel
theorem dX10_laysOften_136 : decode cX10_laysOften 136 = .ok (.aload_n 0, 1) := by decide +kernel
theorem dX10_laysOften_137 : decode cX10_laysOften 137 = .ok (.aload_n 0, 1) := by decide +kernel
theorem dX10_laysOften_138 : decode cX10_laysOften 138 = .ok (.getfield 40, 3) := by decide +kernel
theorem dX10_laysOften_141 : decode cX10_laysOften 141 = .ok (.iconst 0, 1) := by decide +kernel
theorem dX10_laysOften_142 : decode cX10_laysOften 142 = .ok (.iaload, 1) := by decide +kernel
theorem dX10_laysOften_143 : decode cX10_laysOften 143 = .ok (.putfield 355, 3) := by decide +kernel
theorem dX10_laysOften_146 : decode cX10_laysOften 146 = .ok (.return_, 1) := by decide +kernel
theorem dX10_frequent_0 : decode cX10_frequent 0 = .ok (.aload_n 0, 1) := by decide +kernel
theorem dX10_frequent_1 : decode cX10_frequent 1 = .ok (.invokevirtual 139, 3) := by decide +kernel
theorem dX10_frequent_4 : decode cX10_frequent 4 = .ok (.ifCond .eq 22, 3) := by decide +kernel
theorem dX10_frequent_7 : decode cX10_frequent 7 = .ok (.iload_n 1, 1) := by decide +kernel
theorem dX10_frequent_8 : decode cX10_frequent 8 = .ok (.iconst 1, 1) := by decide +kernel
theorem dX10_frequent_9 : decode cX10_frequent 9 = .ok (.bipush 6, 2) := by decide +kernel
theorem dX10_frequent_11 : decode cX10_frequent 11 = .ok (.invokestatic 69, 3) := by decide +kernel
theorem dX10_frequent_14 : decode cX10_frequent 14 = .ok (.ifCond .eq 12, 3) := by decide +kernel
theorem dX10_frequent_17 : decode cX10_frequent 17 = .ok (.iload_n 2, 1) := by decide +kernel
theorem dX10_frequent_18 : decode cX10_frequent 18 = .ok (.iconst 0, 1) := by decide +kernel
theorem dX10_frequent_19 : decode cX10_frequent 19 = .ok (.iconst 2, 1) := by decide +kernel
theorem dX10_frequent_20 : decode cX10_frequent 20 = .ok (.invokestatic 69, 3) := by decide +kernel
theorem dX10_frequent_23 : decode cX10_frequent 23 = .ok (.ifCond .ne 5, 3) := by decide +kernel
theorem dX10_frequent_26 : decode cX10_frequent 26 = .ok (.iconst (-1), 1) := by decide +kernel
theorem dX10_frequent_27 : decode cX10_frequent 27 = .ok (.ireturn, 1) := by decide +kernel
theorem dX10_frequent_28 : decode cX10_frequent 28 = .ok (.aload_n 0, 1) := by decide +kernel
theorem dX10_frequent_29 : decode cX10_frequent 29 = .ok (.iload_n 1, 1) := by decide +kernel
theorem dX10_frequent_30 : decode cX10_frequent 30 = .ok (.invokevirtual 358, 3) := by decide +kernel
theorem dX10_frequent_33 : decode cX10_frequent 33 = .ok (.aload_n 0, 1) := by decide +kernel
theorem dX10_frequent_34 : decode cX10_frequent 34 = .ok (.getfield 349, 3) := by decide +kernel
theorem dX10_frequent_37 : decode cX10_frequent 37 = .ok (.ifCond .ne 7, 3) := by decide +kernel
theorem dX10_frequent_40 : decode cX10_frequent 40 = .ok (.iconst (-1), 1) := by decide +kernel
theorem dX10_frequent_41 : decode cX10_frequent 41 = .ok (.goto 30, 3) := by decide +kernel
theorem dX10_frequent_44 : decode cX10_frequent 44 = .ok (.iload_n 2, 1) := by decide +kernel
theorem dX10_frequent_45 : decode cX10_frequent 45 = .ok (.ifCond .ne 10, 3) := by decide +kernel
theorem dX10_frequent_48 : decode cX10_frequent 48 = .ok (.aload_n 0, 1) := by decide +kernel
theorem dX10_frequent_49 : decode cX10_frequent 49 = .ok (.getfield 349, 3) := by decide +kernel
theorem dX10_frequent_52 : decode cX10_frequent 52 = .ok (.goto 19, 3) := by decide +kernel
theorem dX10_frequent_55 : decode cX10_frequent 55 = .ok (.iload_n 2, 1) := by decide +kernel
theorem dX10_frequent_56 : decode cX10_frequent 56 = .ok (.iconst 1, 1) := by decide +kernel
theorem dX10_frequent_57 : decode cX10_frequent 57 = .ok (.if_icmp .ne 10, 3) := by decide +kernel
theorem dX10_frequent_60 : decode cX10_frequent 60 = .ok (.aload_n 0, 1) := by decide +kernel
theorem dX10_frequent_61 : decode cX10_frequent 61 = .ok (.getfield 352, 3) := by decide +kernel
theorem dX10_frequent_64 : decode cX10_frequent 64 = .ok (.goto 7, 3) := by decide +kernel
theorem dX10_frequent_67 : decode cX10_frequent 67 = .ok (.aload_n 0, 1) := by decide +kernel
theorem dX10_frequent_68 : decode cX10_frequent 68 = .ok (.getfield 355, 3) := by decide +kernel
theorem dX10_frequent_71 : decode cX10_frequent 71 = .ok (.ireturn, 1) := by decide +kernel
theorem dX10_few_0 : decode cX10_few 0 = .ok (.aload_n 0, 1) := by decide +kernel
theorem dX10_few_1 : decode cX10_few 1 = .ok (.iload_n 1, 1) := by decide +kernel
theorem dX10_few_2 : decode cX10_few 2 = .ok (.iload_n 2, 1) := by decide +kernel
theorem dX10_few_3 : decode cX10_few 3 = .ok (.invokevirtual 330, 3) := by decide +kernel
theorem dX10_few_6 : decode cX10_few 6 = .ok (.ifCond .ne 5, 3) := by decide +kernel
theorem dX10_few_9 : decode cX10_few 9 = .ok (.iconst (-1), 1) := by decide +kernel
theorem dX10_few_10 : decode cX10_few 10 = .ok (.ireturn, 1) := by decide +kernel
theorem dX10_few_11 : decode cX10_few 11 = .ok (.iconst 1, 1) := by decide +kernel
theorem dX10_few_12 : decode cX10_few 12 = .ok (.istore_n 3, 1) := by decide +kernel
theorem dX10_few_13 : decode cX10_few 13 = .ok (.iload_n 2, 1) := by decide +kernel
theorem dX10_few_14 : decode cX10_few 14 = .ok (.iload_n 3, 1) := by decide +kernel
theorem dX10_few_15 : decode cX10_few 15 = .ok (.iadd, 1) := by decide +kernel
theorem dX10_few_16 : decode cX10_few 16 = .ok (.aload_n 0, 1) := by decide +kernel
theorem dX10_few_17 : decode cX10_few 17 = .ok (.iload_n 1, 1) := by decide +kernel
theorem dX10_few_18 : decode cX10_few 18 = .ok (.invokevirtual 136, 3) := by decide +kernel
theorem dX10_few_21 : decode cX10_few 21 = .ok (.if_icmp .gt 32, 3) := by decide +kernel
theorem dX10_few_24 : decode cX10_few 24 = .ok (.aload_n 0, 1) := by decide +kernel
theorem dX10_few_25 : decode cX10_few 25 = .ok (.aload_n 0, 1) := by decide +kernel
theorem dX10_few_26 : decode cX10_few 26 = .ok (.getfield 28, 3) := by decide +kernel
theorem dX10_few_29 : decode cX10_few 29 = .ok (.iload_n 1, 1) := by decide +kernel
theorem dX10_few_30 : decode cX10_few 30 = .ok (.invokestatic 129, 3) := by decide +kernel
theorem dX10_few_33 : decode cX10_few 33 = .ok (.iconst 2, 1) := by decide +kernel
theorem dX10_few_34 : decode cX10_few 34 = .ok (.iadd, 1) := by decide +kernel
theorem dX10_few_35 : decode cX10_few 35 = .ok (.iload_n 2, 1) := by decide +kernel
theorem dX10_few_36 : decode cX10_few 36 = .ok (.iadd, 1) := by decide +kernel
theorem dX10_few_37 : decode cX10_few 37 = .ok (.iload_n 3, 1) := by decide +kernel
theorem dX10_few_38 : decode cX10_few 38 = .ok (.invokevirtual 361, 3) := by decide +kernel
theorem dX10_few_41 : decode cX10_few 41 = .ok (.iconst 1, 1) := by decide +kernel
theorem dX10_few_42 : decode cX10_few 42 = .ok (.if_icmp .ne 5, 3) := by decide +kernel
theorem dX10_few_45 : decode cX10_few 45 = .ok (.iload_n 3, 1) := by decide +kernel
theorem dX10_few_46 : decode cX10_few 46 = .ok (.ireturn, 1) := by decide +kernel
theorem dX10_few_47 : decode cX10_few 47 = .ok (.iinc 3 1, 3) := by decide +kernel
theorem dX10_few_50 : decode cX10_few 50 = .ok (.goto (-37), 3) := by decide +kernel
theorem dX10_few_53 : decode cX10_few 53 = .ok (.iconst (-1), 1) := by decide +kernel
theorem dX10_few_54 : decode cX10_few 54 = .ok (.ireturn, 1) := by decide +kernel
theorem dX10_beside_0 : decode cX10_beside 0 = .ok (.iload_n 2, 1) := by decide +kernel
theorem dX10_beside_1 : decode cX10_beside 1 = .ok (.iconst 0, 1) := by decide +kernel
theorem dX10_beside_2 : decode cX10_beside 2 = .ok (.bipush 27, 2) := by decide +kernel
theorem dX10_beside_4 : decode cX10_beside 4 = .ok (.invokestatic 69, 3) := by decide +kernel
theorem dX10_beside_7 : decode cX10_beside 7 = .ok (.ifCond .eq 10, 3) := by decide +kernel
theorem dX10_beside_10 : decode cX10_beside 10 = .ok (.aload_n 0, 1) := by decide +kernel
theorem dX10_beside_11 : decode cX10_beside 11 = .ok (.invokevirtual 327, 3) := by decide +kernel
theorem dX10_beside_14 : decode cX10_beside 14 = .ok (.ifCond .ne 5, 3) := by decide +kernel
theorem dX10_beside_17 : decode cX10_beside 17 = .ok (.iconst (-1), 1) := by decide +kernel
theorem dX10_beside_18 : decode cX10_beside 18 = .ok (.ireturn, 1) := by decide +kernel
theorem dX10_beside_19 : decode cX10_beside 19 = .ok (.iconst 0, 1) := by decide +kernel
theorem dX10_beside_20 : decode cX10_beside 20 = .ok (.istore_n 3, 1) := by decide +kernel
theorem dX10_beside_21 : decode cX10_beside 21 = .ok (.iconst 0, 1) := by decide +kernel
theorem dX10_beside_22 : decode cX10_beside 22 = .ok (.istore 4, 2) := by decide +kernel
theorem dX10_beside_24 : decode cX10_beside 24 = .ok (.iload 4, 2) := by decide +kernel
theorem dX10_beside_26 : decode cX10_beside 26 = .ok (.aload_n 0, 1) := by decide +kernel
theorem dX10_beside_27 : decode cX10_beside 27 = .ok (.getfield 170, 3) := by decide +kernel
theorem dX10_beside_30 : decode cX10_beside 30 = .ok (.if_icmp .ge 80, 3) := by decide +kernel
theorem dX10_beside_33 : decode cX10_beside 33 = .ok (.iload_n 1, 1) := by decide +kernel
theorem dX10_beside_34 : decode cX10_beside 34 = .ok (.ifCond .eq 25, 3) := by decide +kernel
theorem dX10_beside_37 : decode cX10_beside 37 = .ok (.aload_n 0, 1) := by decide +kernel
theorem dX10_beside_38 : decode cX10_beside 38 = .ok (.aload_n 0, 1) := by decide +kernel
theorem dX10_beside_39 : decode cX10_beside 39 = .ok (.getfield 37, 3) := by decide +kernel
theorem dX10_beside_42 : decode cX10_beside 42 = .ok (.iload 4, 2) := by decide +kernel
theorem dX10_beside_44 : decode cX10_beside 44 = .ok (.iaload, 1) := by decide +kernel
theorem dX10_beside_45 : decode cX10_beside 45 = .ok (.aload_n 0, 1) := by decide +kernel
theorem dX10_beside_46 : decode cX10_beside 46 = .ok (.getfield 40, 3) := by decide +kernel
theorem dX10_beside_49 : decode cX10_beside 49 = .ok (.iload 4, 2) := by decide +kernel
theorem dX10_beside_51 : decode cX10_beside 51 = .ok (.iaload, 1) := by decide +kernel
theorem dX10_beside_52 : decode cX10_beside 52 = .ok (.iconst 0, 1) := by decide +kernel
theorem dX10_beside_53 : decode cX10_beside 53 = .ok (.invokevirtual 180, 3) := by decide +kernel
theorem dX10_beside_56 : decode cX10_beside 56 = .ok (.goto 22, 3) := by decide +kernel
theorem dX10_beside_59 : decode cX10_beside 59 = .ok (.aload_n 0, 1) := by decide +kernel
theorem dX10_beside_60 : decode cX10_beside 60 = .ok (.aload_n 0, 1) := by decide +kernel
theorem dX10_beside_61 : decode cX10_beside 61 = .ok (.getfield 37, 3) := by decide +kernel
theorem dX10_beside_64 : decode cX10_beside 64 = .ok (.iload 4, 2) := by decide +kernel
theorem dX10_beside_66 : decode cX10_beside 66 = .ok (.iaload, 1) := by decide +kernel
theorem dX10_beside_67 : decode cX10_beside 67 = .ok (.aload_n 0, 1) := by decide +kernel
theorem dX10_beside_68 : decode cX10_beside 68 = .ok (.getfield 40, 3) := by decide +kernel
theorem dX10_beside_71 : decode cX10_beside 71 = .ok (.iload 4, 2) := by decide +kernel
theorem dX10_beside_73 : decode cX10_beside 73 = .ok (.iaload, 1) := by decide +kernel
theorem dX10_beside_74 : decode cX10_beside 74 = .ok (.iconst 0, 1) := by decide +kernel
theorem dX10_beside_75 : decode cX10_beside 75 = .ok (.invokevirtual 187, 3) := by decide +kernel
theorem dX10_beside_78 : decode cX10_beside 78 = .ok (.istore 5, 2) := by decide +kernel
theorem dX10_beside_80 : decode cX10_beside 80 = .ok (.iload_n 3, 1) := by decide +kernel
theorem dX10_beside_81 : decode cX10_beside 81 = .ok (.iload 5, 2) := by decide +kernel
theorem dX10_beside_83 : decode cX10_beside 83 = .ok (.iload_n 2, 1) := by decide +kernel
theorem dX10_beside_84 : decode cX10_beside 84 = .ok (.bipush 27, 2) := by decide +kernel
theorem dX10_beside_86 : decode cX10_beside 86 = .ok (.if_icmp .ne 7, 3) := by decide +kernel
theorem dX10_beside_89 : decode cX10_beside 89 = .ok (.iconst (-1), 1) := by decide +kernel
theorem dX10_beside_90 : decode cX10_beside 90 = .ok (.goto 4, 3) := by decide +kernel
theorem dX10_beside_93 : decode cX10_beside 93 = .ok (.iload_n 2, 1) := by decide +kernel
theorem dX10_beside_94 : decode cX10_beside 94 = .ok (.if_icmp .ne 7, 3) := by decide +kernel
theorem dX10_beside_97 : decode cX10_beside 97 = .ok (.iconst 1, 1) := by decide +kernel
theorem dX10_beside_98 : decode cX10_beside 98 = .ok (.goto 4, 3) := by decide +kernel
theorem dX10_beside_101 : decode cX10_beside 101 = .ok (.iconst 0, 1) := by decide +kernel
theorem dX10_beside_102 : decode cX10_beside 102 = .ok (.iadd, 1) := by decide +kernel
theorem dX10_beside_103 : decode cX10_beside 103 = .ok (.istore_n 3, 1) := by decide +kernel
theorem dX10_beside_104 : decode cX10_beside 104 = .ok (.iinc 4 1, 3) := by decide +kernel
theorem dX10_beside_107 : decode cX10_beside 107 = .ok (.goto (-83), 3) := by decide +kernel
theorem dX10_beside_110 : decode cX10_beside 110 = .ok (.iload_n 3, 1) := by decide +kernel
theorem dX10_beside_111 : decode cX10_beside 111 = .ok (.ireturn, 1) := by decide +kernel
theorem dX10_cursor_0 : decode cX10_cursor 0 = .ok (.aload_n 0, 1) := by decide +kernel
theorem dX10_cursor_1 : decode cX10_cursor 1 = .ok (.iload_n 1, 1) := by decide +kernel
theorem dX10_cursor_2 : decode cX10_cursor 2 = .ok (.invokevirtual 240, 3) := by decide +kernel
theorem dX10_cursor_5 : decode cX10_cursor 5 = .ok (.ifCond .eq 12, 3) := by decide +kernel
theorem dX10_cursor_8 : decode cX10_cursor 8 = .ok (.iload_n 2, 1) := by decide +kernel
theorem dX10_cursor_9 : decode cX10_cursor 9 = .ok (.iconst 0, 1) := by decide +kernel
theorem dX10_cursor_10 : decode cX10_cursor 10 = .ok (.iconst 5, 1) := by decide +kernel
theorem dX10_cursor_11 : decode cX10_cursor 11 = .ok (.invokestatic 69, 3) := by decide +kernel
theorem dX10_cursor_14 : decode cX10_cursor 14 = .ok (.ifCond .ne 5, 3) := by decide +kernel
theorem dX10_cursor_17 : decode cX10_cursor 17 = .ok (.iconst (-1), 1) := by decide +kernel
theorem dX10_cursor_18 : decode cX10_cursor 18 = .ok (.ireturn, 1) := by decide +kernel
theorem dX10_cursor_19 : decode cX10_cursor 19 = .ok (.iload_n 1, 1) := by decide +kernel
theorem dX10_cursor_20 : decode cX10_cursor 20 = .ok (.invokestatic 143, 3) := by decide +kernel
theorem dX10_cursor_23 : decode cX10_cursor 23 = .ok (.istore_n 3, 1) := by decide +kernel
theorem dX10_cursor_24 : decode cX10_cursor 24 = .ok (.iload_n 2, 1) := by decide +kernel
theorem dX10_cursor_25 : decode cX10_cursor 25 = .ok (.tableswitch 80 0 4 #[35, 45, 54, 64, 74], 35) := by decide +kernel
theorem dX10_cursor_60 : decode cX10_cursor 60 = .ok (.aload_n 0, 1) := by decide +kernel
theorem dX10_cursor_61 : decode cX10_cursor 61 = .ok (.getfield 28, 3) := by decide +kernel
theorem dX10_cursor_64 : decode cX10_cursor 64 = .ok (.iload_n 3, 1) := by decide +kernel
theorem dX10_cursor_65 : decode cX10_cursor 65 = .ok (.bipush 7, 2) := by decide +kernel
theorem dX10_cursor_67 : decode cX10_cursor 67 = .ok (.iadd, 1) := by decide +kernel
theorem dX10_cursor_68 : decode cX10_cursor 68 = .ok (.iaload, 1) := by decide +kernel
theorem dX10_cursor_69 : decode cX10_cursor 69 = .ok (.ireturn, 1) := by decide +kernel
theorem dX10_cursor_70 : decode cX10_cursor 70 = .ok (.aload_n 0, 1) := by decide +kernel
theorem dX10_cursor_71 : decode cX10_cursor 71 = .ok (.getfield 28, 3) := by decide +kernel
theorem dX10_cursor_74 : decode cX10_cursor 74 = .ok (.iload_n 3, 1) := by decide +kernel
theorem dX10_cursor_75 : decode cX10_cursor 75 = .ok (.iconst 0, 1) := by decide +kernel
theorem dX10_cursor_76 : decode cX10_cursor 76 = .ok (.iadd, 1) := by decide +kernel
theorem dX10_cursor_77 : decode cX10_cursor 77 = .ok (.iaload, 1) := by decide +kernel
theorem dX10_cursor_78 : decode cX10_cursor 78 = .ok (.ireturn, 1) := by decide +kernel
theorem dX10_cursor_79 : decode cX10_cursor 79 = .ok (.aload_n 0, 1) := by decide +kernel
theorem dX10_cursor_80 : decode cX10_cursor 80 = .ok (.getfield 28, 3) := by decide +kernel
theorem dX10_cursor_83 : decode cX10_cursor 83 = .ok (.iload_n 3, 1) := by decide +kernel
theorem dX10_cursor_84 : decode cX10_cursor 84 = .ok (.bipush 53, 2) := by decide +kernel
theorem dX10_cursor_86 : decode cX10_cursor 86 = .ok (.iadd, 1) := by decide +kernel
theorem dX10_cursor_87 : decode cX10_cursor 87 = .ok (.iaload, 1) := by decide +kernel
theorem dX10_cursor_88 : decode cX10_cursor 88 = .ok (.ireturn, 1) := by decide +kernel
theorem dX10_cursor_89 : decode cX10_cursor 89 = .ok (.aload_n 0, 1) := by decide +kernel
theorem dX10_cursor_90 : decode cX10_cursor 90 = .ok (.getfield 28, 3) := by decide +kernel
theorem dX10_cursor_93 : decode cX10_cursor 93 = .ok (.iload_n 3, 1) := by decide +kernel
theorem dX10_cursor_94 : decode cX10_cursor 94 = .ok (.bipush 54, 2) := by decide +kernel
theorem dX10_cursor_96 : decode cX10_cursor 96 = .ok (.iadd, 1) := by decide +kernel
theorem dX10_cursor_97 : decode cX10_cursor 97 = .ok (.iaload, 1) := by decide +kernel
theorem dX10_cursor_98 : decode cX10_cursor 98 = .ok (.ireturn, 1) := by decide +kernel
theorem dX10_cursor_99 : decode cX10_cursor 99 = .ok (.aload_n 0, 1) := by decide +kernel
theorem dX10_cursor_100 : decode cX10_cursor 100 = .ok (.iload_n 1, 1) := by decide +kernel
theorem dX10_cursor_101 : decode cX10_cursor 101 = .ok (.invokevirtual 223, 3) := by decide +kernel
theorem dX10_cursor_104 : decode cX10_cursor 104 = .ok (.ireturn, 1) := by decide +kernel
theorem dX10_cursor_105 : decode cX10_cursor 105 = .ok (.aload_n 0, 1) := by decide +kernel
theorem dX10_cursor_106 : decode cX10_cursor 106 = .ok (.getfield 28, 3) := by decide +kernel
theorem dX10_cursor_109 : decode cX10_cursor 109 = .ok (.iload_n 3, 1) := by decide +kernel
theorem dX10_cursor_110 : decode cX10_cursor 110 = .ok (.bipush 8, 2) := by decide +kernel
theorem dX10_cursor_112 : decode cX10_cursor 112 = .ok (.iadd, 1) := by decide +kernel
theorem dX10_cursor_113 : decode cX10_cursor 113 = .ok (.iaload, 1) := by decide +kernel
theorem dX10_cursor_114 : decode cX10_cursor 114 = .ok (.ireturn, 1) := by decide +kernel
theorem dX10_told_0 : decode cX10_told 0 = .ok (.aload_n 0, 1) := by decide +kernel
theorem dX10_told_1 : decode cX10_told 1 = .ok (.iload_n 1, 1) := by decide +kernel
theorem dX10_told_2 : decode cX10_told 2 = .ok (.invokevirtual 240, 3) := by decide +kernel
theorem dX10_told_5 : decode cX10_told 5 = .ok (.ifCond .eq 55, 3) := by decide +kernel
theorem dX10_told_8 : decode cX10_told 8 = .ok (.iload_n 2, 1) := by decide +kernel
theorem dX10_told_9 : decode cX10_told 9 = .ok (.iconst 0, 1) := by decide +kernel
theorem dX10_told_10 : decode cX10_told 10 = .ok (.aload_n 0, 1) := by decide +kernel
theorem dX10_told_11 : decode cX10_told 11 = .ok (.getfield 28, 3) := by decide +kernel
theorem dX10_told_14 : decode cX10_told 14 = .ok (.iload_n 1, 1) := by decide +kernel
theorem dX10_told_15 : decode cX10_told 15 = .ok (.invokestatic 143, 3) := by decide +kernel
theorem dX10_told_18 : decode cX10_told 18 = .ok (.bipush 53, 2) := by decide +kernel
theorem dX10_told_20 : decode cX10_told 20 = .ok (.iadd, 1) := by decide +kernel
theorem dX10_told_21 : decode cX10_told 21 = .ok (.iaload, 1) := by decide +kernel
theorem dX10_told_22 : decode cX10_told 22 = .ok (.iconst 1, 1) := by decide +kernel
theorem dX10_told_23 : decode cX10_told 23 = .ok (.isub, 1) := by decide +kernel
theorem dX10_told_24 : decode cX10_told 24 = .ok (.invokestatic 69, 3) := by decide +kernel
theorem dX10_told_27 : decode cX10_told 27 = .ok (.ifCond .eq 33, 3) := by decide +kernel
theorem dX10_told_30 : decode cX10_told 30 = .ok (.iload_n 3, 1) := by decide +kernel
theorem dX10_told_31 : decode cX10_told 31 = .ok (.iconst 0, 1) := by decide +kernel
theorem dX10_told_32 : decode cX10_told 32 = .ok (.iconst 1, 1) := by decide +kernel
theorem dX10_told_33 : decode cX10_told 33 = .ok (.invokestatic 69, 3) := by decide +kernel
theorem dX10_told_36 : decode cX10_told 36 = .ok (.ifCond .eq 24, 3) := by decide +kernel
theorem dX10_told_39 : decode cX10_told 39 = .ok (.aload_n 0, 1) := by decide +kernel
theorem dX10_told_40 : decode cX10_told 40 = .ok (.getfield 28, 3) := by decide +kernel
theorem dX10_told_43 : decode cX10_told 43 = .ok (.iload_n 1, 1) := by decide +kernel
theorem dX10_told_44 : decode cX10_told 44 = .ok (.invokestatic 143, 3) := by decide +kernel
theorem dX10_told_47 : decode cX10_told 47 = .ok (.bipush 55, 2) := by decide +kernel
theorem dX10_told_49 : decode cX10_told 49 = .ok (.iadd, 1) := by decide +kernel
theorem dX10_told_50 : decode cX10_told 50 = .ok (.iconst 2, 1) := by decide +kernel
theorem dX10_told_51 : decode cX10_told 51 = .ok (.iload_n 2, 1) := by decide +kernel
theorem dX10_told_52 : decode cX10_told 52 = .ok (.imul, 1) := by decide +kernel
theorem dX10_told_53 : decode cX10_told 53 = .ok (.iadd, 1) := by decide +kernel
theorem dX10_told_54 : decode cX10_told 54 = .ok (.iload_n 3, 1) := by decide +kernel
theorem dX10_told_55 : decode cX10_told 55 = .ok (.iadd, 1) := by decide +kernel
theorem dX10_told_56 : decode cX10_told 56 = .ok (.iaload, 1) := by decide +kernel
theorem dX10_told_57 : decode cX10_told 57 = .ok (.goto 4, 3) := by decide +kernel
theorem dX10_told_60 : decode cX10_told 60 = .ok (.iconst (-1), 1) := by decide +kernel
theorem dX10_told_61 : decode cX10_told 61 = .ok (.ireturn, 1) := by decide +kernel
theorem dX10_spells_0 : decode cX10_spells 0 = .ok (.aload_n 0, 1) := by decide +kernel
theorem dX10_spells_1 : decode cX10_spells 1 = .ok (.getfield 49, 3) := by decide +kernel
theorem dX10_spells_4 : decode cX10_spells 4 = .ok (.aload_n 0, 1) := by decide +kernel
theorem dX10_spells_5 : decode cX10_spells 5 = .ok (.getfield 364, 3) := by decide +kernel
theorem dX10_spells_8 : decode cX10_spells 8 = .ok (.iload_n 1, 1) := by decide +kernel
theorem dX10_spells_9 : decode cX10_spells 9 = .ok (.iastore, 1) := by decide +kernel
theorem dX10_spells_10 : decode cX10_spells 10 = .ok (.aload_n 0, 1) := by decide +kernel
theorem dX10_spells_11 : decode cX10_spells 11 = .ok (.dup, 1) := by decide +kernel
theorem dX10_spells_12 : decode cX10_spells 12 = .ok (.getfield 364, 3) := by decide +kernel
theorem dX10_spells_15 : decode cX10_spells 15 = .ok (.iconst 1, 1) := by decide +kernel
theorem dX10_spells_16 : decode cX10_spells 16 = .ok (.iadd, 1) := by decide +kernel
theorem dX10_spells_17 : decode cX10_spells 17 = .ok (.putfield 364, 3) := by decide +kernel
theorem dX10_spells_20 : decode cX10_spells 20 = .ok (.return_, 1) := by decide +kernel
theorem dX10_spell_0 : decode cX10_spell 0 = .ok (.aload_n 0, 1) := by decide +kernel
theorem dX10_spell_1 : decode cX10_spell 1 = .ok (.invokevirtual 327, 3) := by decide +kernel
theorem dX10_spell_4 : decode cX10_spell 4 = .ok (.ifCond .eq 17, 3) := by decide +kernel
theorem dX10_spell_7 : decode cX10_spell 7 = .ok (.iload_n 1, 1) := by decide +kernel
theorem dX10_spell_8 : decode cX10_spell 8 = .ok (.iconst 0, 1) := by decide +kernel
theorem dX10_spell_9 : decode cX10_spell 9 = .ok (.aload_n 0, 1) := by decide +kernel
theorem dX10_spell_10 : decode cX10_spell 10 = .ok (.getfield 170, 3) := by decide +kernel
theorem dX10_spell_13 : decode cX10_spell 13 = .ok (.iconst 1, 1) := by decide +kernel
theorem dX10_spell_14 : decode cX10_spell 14 = .ok (.isub, 1) := by decide +kernel
theorem dX10_spell_15 : decode cX10_spell 15 = .ok (.invokestatic 69, 3) := by decide +kernel
theorem dX10_spell_18 : decode cX10_spell 18 = .ok (.ifCond .ne 5, 3) := by decide +kernel
theorem dX10_spell_21 : decode cX10_spell 21 = .ok (.iconst (-1), 1) := by decide +kernel
theorem dX10_spell_22 : decode cX10_spell 22 = .ok (.ireturn, 1) := by decide +kernel
theorem dX10_spell_23 : decode cX10_spell 23 = .ok (.aload_n 0, 1) := by decide +kernel
theorem dX10_spell_24 : decode cX10_spell 24 = .ok (.iconst 0, 1) := by decide +kernel
theorem dX10_spell_25 : decode cX10_spell 25 = .ok (.putfield 364, 3) := by decide +kernel
theorem dX10_spell_28 : decode cX10_spell 28 = .ok (.aload_n 0, 1) := by decide +kernel
theorem dX10_spell_29 : decode cX10_spell 29 = .ok (.getfield 37, 3) := by decide +kernel
theorem dX10_spell_32 : decode cX10_spell 32 = .ok (.iload_n 1, 1) := by decide +kernel
theorem dX10_spell_33 : decode cX10_spell 33 = .ok (.iaload, 1) := by decide +kernel
theorem dX10_spell_34 : decode cX10_spell 34 = .ok (.istore_n 3, 1) := by decide +kernel
theorem dX10_spell_35 : decode cX10_spell 35 = .ok (.aload_n 0, 1) := by decide +kernel
theorem dX10_spell_36 : decode cX10_spell 36 = .ok (.getfield 40, 3) := by decide +kernel
theorem dX10_spell_39 : decode cX10_spell 39 = .ok (.iload_n 1, 1) := by decide +kernel
theorem dX10_spell_40 : decode cX10_spell 40 = .ok (.iaload, 1) := by decide +kernel
theorem dX10_spell_41 : decode cX10_spell 41 = .ok (.istore 4, 2) := by decide +kernel
theorem dX10_spell_43 : decode cX10_spell 43 = .ok (.iconst 0, 1) := by decide +kernel
theorem dX10_spell_44 : decode cX10_spell 44 = .ok (.iload 4, 2) := by decide +kernel
theorem dX10_spell_46 : decode cX10_spell 46 = .ok (.iconst 5, 1) := by decide +kernel
theorem dX10_spell_47 : decode cX10_spell 47 = .ok (.isub, 1) := by decide +kernel
theorem dX10_spell_48 : decode cX10_spell 48 = .ok (.invokestatic 211, 3) := by decide +kernel
theorem dX10_spell_51 : decode cX10_spell 51 = .ok (.istore 5, 2) := by decide +kernel
theorem dX10_spell_53 : decode cX10_spell 53 = .ok (.iload 5, 2) := by decide +kernel
theorem dX10_spell_55 : decode cX10_spell 55 = .ok (.iload 4, 2) := by decide +kernel
theorem dX10_spell_57 : decode cX10_spell 57 = .ok (.if_icmp .ge 23, 3) := by decide +kernel
theorem dX10_spell_60 : decode cX10_spell 60 = .ok (.aload_n 0, 1) := by decide +kernel
theorem dX10_spell_61 : decode cX10_spell 61 = .ok (.aload_n 0, 1) := by decide +kernel
theorem dX10_spell_62 : decode cX10_spell 62 = .ok (.iload_n 3, 1) := by decide +kernel
theorem dX10_spell_63 : decode cX10_spell 63 = .ok (.iload 5, 2) := by decide +kernel
theorem dX10_spell_65 : decode cX10_spell 65 = .ok (.invokevirtual 176, 3) := by decide +kernel
theorem dX10_spell_68 : decode cX10_spell 68 = .ok (.invokestatic 334, 3) := by decide +kernel
theorem dX10_spell_71 : decode cX10_spell 71 = .ok (.invokevirtual 367, 3) := by decide +kernel
theorem dX10_spell_74 : decode cX10_spell 74 = .ok (.iinc 5 1, 3) := by decide +kernel
theorem dX10_spell_77 : decode cX10_spell 77 = .ok (.goto (-24), 3) := by decide +kernel
theorem dX10_spell_80 : decode cX10_spell 80 = .ok (.aload_n 0, 1) := by decide +kernel
theorem dX10_spell_81 : decode cX10_spell 81 = .ok (.bipush 91, 2) := by decide +kernel
theorem dX10_spell_83 : decode cX10_spell 83 = .ok (.invokevirtual 367, 3) := by decide +kernel
theorem dX10_spell_86 : decode cX10_spell 86 = .ok (.iload 4, 2) := by decide +kernel
theorem dX10_spell_88 : decode cX10_spell 88 = .ok (.istore 5, 2) := by decide +kernel
theorem dX10_spell_90 : decode cX10_spell 90 = .ok (.iload 5, 2) := by decide +kernel
theorem dX10_spell_92 : decode cX10_spell 92 = .ok (.iload 4, 2) := by decide +kernel
theorem dX10_spell_94 : decode cX10_spell 94 = .ok (.aload_n 0, 1) := by decide +kernel
theorem dX10_spell_95 : decode cX10_spell 95 = .ok (.getfield 150, 3) := by decide +kernel
theorem dX10_spell_98 : decode cX10_spell 98 = .ok (.iadd, 1) := by decide +kernel
theorem dX10_spell_99 : decode cX10_spell 99 = .ok (.if_icmp .ge 23, 3) := by decide +kernel
theorem dX10_spell_102 : decode cX10_spell 102 = .ok (.aload_n 0, 1) := by decide +kernel
theorem dX10_spell_103 : decode cX10_spell 103 = .ok (.aload_n 0, 1) := by decide +kernel
theorem dX10_spell_104 : decode cX10_spell 104 = .ok (.iload_n 3, 1) := by decide +kernel
theorem dX10_spell_105 : decode cX10_spell 105 = .ok (.iload 5, 2) := by decide +kernel
theorem dX10_spell_107 : decode cX10_spell 107 = .ok (.invokevirtual 176, 3) := by decide +kernel
theorem dX10_spell_110 : decode cX10_spell 110 = .ok (.invokestatic 334, 3) := by decide +kernel
theorem dX10_spell_113 : decode cX10_spell 113 = .ok (.invokevirtual 367, 3) := by decide +kernel
theorem dX10_spell_116 : decode cX10_spell 116 = .ok (.iinc 5 1, 3) := by decide +kernel
theorem dX10_spell_119 : decode cX10_spell 119 = .ok (.goto (-29), 3) := by decide +kernel
theorem dX10_spell_122 : decode cX10_spell 122 = .ok (.aload_n 0, 1) := by decide +kernel
theorem dX10_spell_123 : decode cX10_spell 123 = .ok (.bipush 93, 2) := by decide +kernel
theorem dX10_spell_125 : decode cX10_spell 125 = .ok (.invokevirtual 367, 3) := by decide +kernel
theorem dX10_spell_128 : decode cX10_spell 128 = .ok (.iload 4, 2) := by decide +kernel
theorem dX10_spell_130 : decode cX10_spell 130 = .ok (.aload_n 0, 1) := by decide +kernel
theorem dX10_spell_131 : decode cX10_spell 131 = .ok (.getfield 150, 3) := by decide +kernel
theorem dX10_spell_134 : decode cX10_spell 134 = .ok (.iadd, 1) := by decide +kernel
theorem dX10_spell_135 : decode cX10_spell 135 = .ok (.istore 5, 2) := by decide +kernel
theorem dX10_spell_137 : decode cX10_spell 137 = .ok (.iload 5, 2) := by decide +kernel
theorem dX10_spell_139 : decode cX10_spell 139 = .ok (.aload_n 0, 1) := by decide +kernel
theorem dX10_spell_140 : decode cX10_spell 140 = .ok (.iload_n 3, 1) := by decide +kernel
theorem dX10_spell_141 : decode cX10_spell 141 = .ok (.invokevirtual 136, 3) := by decide +kernel
theorem dX10_spell_144 : decode cX10_spell 144 = .ok (.iload 4, 2) := by decide +kernel
theorem dX10_spell_146 : decode cX10_spell 146 = .ok (.aload_n 0, 1) := by decide +kernel
theorem dX10_spell_147 : decode cX10_spell 147 = .ok (.getfield 150, 3) := by decide +kernel
theorem dX10_spell_150 : decode cX10_spell 150 = .ok (.iadd, 1) := by decide +kernel
theorem dX10_spell_151 : decode cX10_spell 151 = .ok (.iconst 5, 1) := by decide +kernel
theorem dX10_spell_152 : decode cX10_spell 152 = .ok (.iadd, 1) := by decide +kernel
theorem dX10_spell_153 : decode cX10_spell 153 = .ok (.invokestatic 216, 3) := by decide +kernel
theorem dX10_spell_156 : decode cX10_spell 156 = .ok (.if_icmp .ge 23, 3) := by decide +kernel
theorem dX10_spell_159 : decode cX10_spell 159 = .ok (.aload_n 0, 1) := by decide +kernel
theorem dX10_spell_160 : decode cX10_spell 160 = .ok (.aload_n 0, 1) := by decide +kernel
theorem dX10_spell_161 : decode cX10_spell 161 = .ok (.iload_n 3, 1) := by decide +kernel
theorem dX10_spell_162 : decode cX10_spell 162 = .ok (.iload 5, 2) := by decide +kernel
theorem dX10_spell_164 : decode cX10_spell 164 = .ok (.invokevirtual 176, 3) := by decide +kernel
theorem dX10_spell_167 : decode cX10_spell 167 = .ok (.invokestatic 334, 3) := by decide +kernel
theorem dX10_spell_170 : decode cX10_spell 170 = .ok (.invokevirtual 367, 3) := by decide +kernel
theorem dX10_spell_173 : decode cX10_spell 173 = .ok (.iinc 5 1, 3) := by decide +kernel
theorem dX10_spell_176 : decode cX10_spell 176 = .ok (.goto (-39), 3) := by decide +kernel
theorem dX10_spell_179 : decode cX10_spell 179 = .ok (.iload_n 2, 1) := by decide +kernel
theorem dX10_spell_180 : decode cX10_spell 180 = .ok (.iconst (-1), 1) := by decide +kernel
theorem dX10_spell_181 : decode cX10_spell 181 = .ok (.if_icmp .ne 10, 3) := by decide +kernel
theorem dX10_spell_184 : decode cX10_spell 184 = .ok (.aload_n 0, 1) := by decide +kernel
theorem dX10_spell_185 : decode cX10_spell 185 = .ok (.getfield 364, 3) := by decide +kernel
theorem dX10_spell_188 : decode cX10_spell 188 = .ok (.goto 27, 3) := by decide +kernel
theorem dX10_spell_191 : decode cX10_spell 191 = .ok (.iload_n 2, 1) := by decide +kernel
theorem dX10_spell_192 : decode cX10_spell 192 = .ok (.iconst 0, 1) := by decide +kernel
theorem dX10_spell_193 : decode cX10_spell 193 = .ok (.aload_n 0, 1) := by decide +kernel
theorem dX10_spell_194 : decode cX10_spell 194 = .ok (.getfield 364, 3) := by decide +kernel
theorem dX10_spell_197 : decode cX10_spell 197 = .ok (.iconst 1, 1) := by decide +kernel
theorem dX10_spell_198 : decode cX10_spell 198 = .ok (.isub, 1) := by decide +kernel
theorem dX10_spell_199 : decode cX10_spell 199 = .ok (.invokestatic 69, 3) := by decide +kernel
theorem dX10_spell_202 : decode cX10_spell 202 = .ok (.ifCond .eq 12, 3) := by decide +kernel
theorem dX10_spell_205 : decode cX10_spell 205 = .ok (.aload_n 0, 1) := by decide +kernel
theorem dX10_spell_206 : decode cX10_spell 206 = .ok (.getfield 49, 3) := by decide +kernel
theorem dX10_spell_209 : decode cX10_spell 209 = .ok (.iload_n 2, 1) := by decide +kernel
theorem dX10_spell_210 : decode cX10_spell 210 = .ok (.iaload, 1) := by decide +kernel
theorem dX10_spell_211 : decode cX10_spell 211 = .ok (.goto 4, 3) := by decide +kernel
theorem dX10_spell_214 : decode cX10_spell 214 = .ok (.iconst (-1), 1) := by decide +kernel
theorem dX10_spell_215 : decode cX10_spell 215 = .ok (.ireturn, 1) := by decide +kernel
theorem dX10_putAside_0 : decode cX10_putAside 0 = .ok (.iconst 0, 1) := by decide +kernel
theorem dX10_putAside_1 : decode cX10_putAside 1 = .ok (.istore_n 1, 1) := by decide +kernel
theorem dX10_putAside_2 : decode cX10_putAside 2 = .ok (.iload_n 1, 1) := by decide +kernel
theorem dX10_putAside_3 : decode cX10_putAside 3 = .ok (.sipush 441, 3) := by decide +kernel
theorem dX10_putAside_6 : decode cX10_putAside 6 = .ok (.if_icmp .ge 21, 3) := by decide +kernel
theorem dX10_putAside_9 : decode cX10_putAside 9 = .ok (.aload_n 0, 1) := by decide +kernel
theorem dX10_putAside_10 : decode cX10_putAside 10 = .ok (.getfield 52, 3) := by decide +kernel
theorem dX10_putAside_13 : decode cX10_putAside 13 = .ok (.iload_n 1, 1) := by decide +kernel
theorem dX10_putAside_14 : decode cX10_putAside 14 = .ok (.aload_n 0, 1) := by decide +kernel
theorem dX10_putAside_15 : decode cX10_putAside 15 = .ok (.getfield 28, 3) := by decide +kernel
theorem dX10_putAside_18 : decode cX10_putAside 18 = .ok (.iload_n 1, 1) := by decide +kernel
theorem dX10_putAside_19 : decode cX10_putAside 19 = .ok (.iaload, 1) := by decide +kernel
theorem dX10_putAside_20 : decode cX10_putAside 20 = .ok (.iastore, 1) := by decide +kernel
theorem dX10_putAside_21 : decode cX10_putAside 21 = .ok (.iinc 1 1, 3) := by decide +kernel
theorem dX10_putAside_24 : decode cX10_putAside 24 = .ok (.goto (-22), 3) := by decide +kernel
theorem dX10_putAside_27 : decode cX10_putAside 27 = .ok (.return_, 1) := by decide +kernel
theorem dX10_bringBack_0 : decode cX10_bringBack 0 = .ok (.iconst 0, 1) := by decide +kernel
theorem dX10_bringBack_1 : decode cX10_bringBack 1 = .ok (.istore_n 1, 1) := by decide +kernel
theorem dX10_bringBack_2 : decode cX10_bringBack 2 = .ok (.iload_n 1, 1) := by decide +kernel
theorem dX10_bringBack_3 : decode cX10_bringBack 3 = .ok (.sipush 441, 3) := by decide +kernel
theorem dX10_bringBack_6 : decode cX10_bringBack 6 = .ok (.if_icmp .ge 21, 3) := by decide +kernel
theorem dX10_bringBack_9 : decode cX10_bringBack 9 = .ok (.aload_n 0, 1) := by decide +kernel
theorem dX10_bringBack_10 : decode cX10_bringBack 10 = .ok (.getfield 28, 3) := by decide +kernel
theorem dX10_bringBack_13 : decode cX10_bringBack 13 = .ok (.iload_n 1, 1) := by decide +kernel
theorem dX10_bringBack_14 : decode cX10_bringBack 14 = .ok (.aload_n 0, 1) := by decide +kernel
theorem dX10_bringBack_15 : decode cX10_bringBack 15 = .ok (.getfield 52, 3) := by decide +kernel
theorem dX10_bringBack_18 : decode cX10_bringBack 18 = .ok (.iload_n 1, 1) := by decide +kernel
theorem dX10_bringBack_19 : decode cX10_bringBack 19 = .ok (.iaload, 1) := by decide +kernel
theorem dX10_bringBack_20 : decode cX10_bringBack 20 = .ok (.iastore, 1) := by decide +kernel
theorem dX10_bringBack_21 : decode cX10_bringBack 21 = .ok (.iinc 1 1, 3) := by decide +kernel
theorem dX10_bringBack_24 : decode cX10_bringBack 24 = .ok (.goto (-22), 3) := by decide +kernel
theorem dX10_bringBack_27 : decode cX10_bringBack 27 = .ok (.return_, 1) := by decide +kernel
theorem dX10_would_0 : decode cX10_would 0 = .ok (.aload_n 0, 1) := by decide +kernel
theorem dX10_would_1 : decode cX10_would 1 = .ok (.iload_n 1, 1) := by decide +kernel
theorem dX10_would_2 : decode cX10_would 2 = .ok (.invokevirtual 132, 3) := by decide +kernel
theorem dX10_would_5 : decode cX10_would 5 = .ok (.ifCond .eq 17, 3) := by decide +kernel
theorem dX10_would_8 : decode cX10_would 8 = .ok (.aload_n 0, 1) := by decide +kernel
theorem dX10_would_9 : decode cX10_would 9 = .ok (.getfield 150, 3) := by decide +kernel
theorem dX10_would_12 : decode cX10_would 12 = .ok (.ifCond .eq 10, 3) := by decide +kernel
theorem dX10_would_15 : decode cX10_would 15 = .ok (.aload_n 0, 1) := by decide +kernel
theorem dX10_would_16 : decode cX10_would 16 = .ok (.invokevirtual 296, 3) := by decide +kernel
theorem dX10_would_19 : decode cX10_would 19 = .ok (.ifCond .ne 5, 3) := by decide +kernel
theorem dX10_would_22 : decode cX10_would 22 = .ok (.iconst (-1), 1) := by decide +kernel
theorem dX10_would_23 : decode cX10_would 23 = .ok (.ireturn, 1) := by decide +kernel
theorem dX10_would_24 : decode cX10_would 24 = .ok (.aload_n 0, 1) := by decide +kernel
theorem dX10_would_25 : decode cX10_would 25 = .ok (.invokevirtual 370, 3) := by decide +kernel
theorem dX10_would_28 : decode cX10_would 28 = .ok (.aload_n 0, 1) := by decide +kernel
theorem dX10_would_29 : decode cX10_would 29 = .ok (.iload_n 1, 1) := by decide +kernel
theorem dX10_would_30 : decode cX10_would 30 = .ok (.aload_n 0, 1) := by decide +kernel
theorem dX10_would_31 : decode cX10_would 31 = .ok (.getfield 25, 3) := by decide +kernel
theorem dX10_would_34 : decode cX10_would 34 = .ok (.iconst 0, 1) := by decide +kernel
theorem dX10_would_35 : decode cX10_would 35 = .ok (.aload_n 0, 1) := by decide +kernel
theorem dX10_would_36 : decode cX10_would 36 = .ok (.getfield 117, 3) := by decide +kernel
theorem dX10_would_39 : decode cX10_would 39 = .ok (.invokevirtual 146, 3) := by decide +kernel
theorem dX10_would_42 : decode cX10_would 42 = .ok (.aload_n 0, 1) := by decide +kernel
theorem dX10_would_43 : decode cX10_would 43 = .ok (.invokevirtual 327, 3) := by decide +kernel
theorem dX10_would_46 : decode cX10_would 46 = .ok (.pop, 1) := by decide +kernel
theorem dX10_would_47 : decode cX10_would 47 = .ok (.aload_n 0, 1) := by decide +kernel
theorem dX10_would_48 : decode cX10_would 48 = .ok (.invokevirtual 373, 3) := by decide +kernel
theorem dX10_would_51 : decode cX10_would 51 = .ok (.aload_n 0, 1) := by decide +kernel
theorem dX10_would_52 : decode cX10_would 52 = .ok (.getfield 170, 3) := by decide +kernel
theorem dX10_would_55 : decode cX10_would 55 = .ok (.ireturn, 1) := by decide +kernel
theorem dX10_isScript_0 : decode cX10_isScript 0 = .ok (.iload_n 1, 1) := by decide +kernel
theorem dX10_isScript_1 : decode cX10_isScript 1 = .ok (.iconst 0, 1) := by decide +kernel
theorem dX10_isScript_2 : decode cX10_isScript 2 = .ok (.aload_n 0, 1) := by decide +kernel
theorem dX10_isScript_3 : decode cX10_isScript 3 = .ok (.getfield 163, 3) := by decide +kernel
theorem dX10_isScript_6 : decode cX10_isScript 6 = .ok (.iconst 1, 1) := by decide +kernel
theorem dX10_isScript_7 : decode cX10_isScript 7 = .ok (.isub, 1) := by decide +kernel
theorem dX10_isScript_8 : decode cX10_isScript 8 = .ok (.invokestatic 69, 3) := by decide +kernel
theorem dX10_isScript_11 : decode cX10_isScript 11 = .ok (.ireturn, 1) := by decide +kernel
theorem dX10_step_0 : decode cX10_step 0 = .ok (.aload_n 0, 1) := by decide +kernel
theorem dX10_step_1 : decode cX10_step 1 = .ok (.iload_n 1, 1) := by decide +kernel
theorem dX10_step_2 : decode cX10_step 2 = .ok (.invokevirtual 376, 3) := by decide +kernel
theorem dX10_step_5 : decode cX10_step 5 = .ok (.ifCond .eq 47, 3) := by decide +kernel
theorem dX10_step_8 : decode cX10_step 8 = .ok (.iload_n 2, 1) := by decide +kernel
theorem dX10_step_9 : decode cX10_step 9 = .ok (.iconst 0, 1) := by decide +kernel
theorem dX10_step_10 : decode cX10_step 10 = .ok (.aload_n 0, 1) := by decide +kernel
theorem dX10_step_11 : decode cX10_step 11 = .ok (.getfield 22, 3) := by decide +kernel
theorem dX10_step_14 : decode cX10_step 14 = .ok (.iload_n 1, 1) := by decide +kernel
theorem dX10_step_15 : decode cX10_step 15 = .ok (.iaload, 1) := by decide +kernel
theorem dX10_step_16 : decode cX10_step 16 = .ok (.iconst 1, 1) := by decide +kernel
theorem dX10_step_17 : decode cX10_step 17 = .ok (.isub, 1) := by decide +kernel
theorem dX10_step_18 : decode cX10_step 18 = .ok (.invokestatic 69, 3) := by decide +kernel
theorem dX10_step_21 : decode cX10_step 21 = .ok (.ifCond .eq 31, 3) := by decide +kernel
theorem dX10_step_24 : decode cX10_step 24 = .ok (.iload_n 3, 1) := by decide +kernel
theorem dX10_step_25 : decode cX10_step 25 = .ok (.iconst 0, 1) := by decide +kernel
theorem dX10_step_26 : decode cX10_step 26 = .ok (.iconst 3, 1) := by decide +kernel
theorem dX10_step_27 : decode cX10_step 27 = .ok (.invokestatic 69, 3) := by decide +kernel
theorem dX10_step_30 : decode cX10_step 30 = .ok (.ifCond .eq 22, 3) := by decide +kernel
theorem dX10_step_33 : decode cX10_step 33 = .ok (.aload_n 0, 1) := by decide +kernel
theorem dX10_step_34 : decode cX10_step 34 = .ok (.getfield 19, 3) := by decide +kernel
theorem dX10_step_37 : decode cX10_step 37 = .ok (.bipush 24, 2) := by decide +kernel
theorem dX10_step_39 : decode cX10_step 39 = .ok (.bipush 12, 2) := by decide +kernel
theorem dX10_step_41 : decode cX10_step 41 = .ok (.iload_n 1, 1) := by decide +kernel
theorem dX10_step_42 : decode cX10_step 42 = .ok (.imul, 1) := by decide +kernel
theorem dX10_step_43 : decode cX10_step 43 = .ok (.iload_n 2, 1) := by decide +kernel
theorem dX10_step_44 : decode cX10_step 44 = .ok (.iadd, 1) := by decide +kernel
theorem dX10_step_45 : decode cX10_step 45 = .ok (.imul, 1) := by decide +kernel
theorem dX10_step_46 : decode cX10_step 46 = .ok (.iload_n 3, 1) := by decide +kernel
theorem dX10_step_47 : decode cX10_step 47 = .ok (.iadd, 1) := by decide +kernel
theorem dX10_step_48 : decode cX10_step 48 = .ok (.iaload, 1) := by decide +kernel
theorem dX10_step_49 : decode cX10_step 49 = .ok (.goto 5, 3) := by decide +kernel
theorem dX10_step_52 : decode cX10_step 52 = .ok (.ldc 109, 2) := by decide +kernel
theorem dX10_step_54 : decode cX10_step 54 = .ok (.ireturn, 1) := by decide +kernel
theorem dX10_goSteps_0 : decode cX10_goSteps 0 = .ok (.iconst 0, 1) := by decide +kernel
theorem dX10_goSteps_1 : decode cX10_goSteps 1 = .ok (.istore_n 3, 1) := by decide +kernel
theorem dX10_goSteps_2 : decode cX10_goSteps 2 = .ok (.iload_n 3, 1) := by decide +kernel
theorem dX10_goSteps_3 : decode cX10_goSteps 3 = .ok (.aload_n 0, 1) := by decide +kernel
theorem dX10_goSteps_4 : decode cX10_goSteps 4 = .ok (.getfield 22, 3) := by decide +kernel
theorem dX10_goSteps_7 : decode cX10_goSteps 7 = .ok (.iload_n 1, 1) := by decide +kernel
theorem dX10_goSteps_8 : decode cX10_goSteps 8 = .ok (.iaload, 1) := by decide +kernel
theorem dX10_goSteps_9 : decode cX10_goSteps 9 = .ok (.if_icmp .ge 155, 3) := by decide +kernel
theorem dX10_goSteps_12 : decode cX10_goSteps 12 = .ok (.bipush 24, 2) := by decide +kernel
theorem dX10_goSteps_14 : decode cX10_goSteps 14 = .ok (.bipush 12, 2) := by decide +kernel
theorem dX10_goSteps_16 : decode cX10_goSteps 16 = .ok (.iload_n 1, 1) := by decide +kernel
theorem dX10_goSteps_17 : decode cX10_goSteps 17 = .ok (.imul, 1) := by decide +kernel
theorem dX10_goSteps_18 : decode cX10_goSteps 18 = .ok (.iload_n 3, 1) := by decide +kernel
theorem dX10_goSteps_19 : decode cX10_goSteps 19 = .ok (.iadd, 1) := by decide +kernel
theorem dX10_goSteps_20 : decode cX10_goSteps 20 = .ok (.imul, 1) := by decide +kernel
theorem dX10_goSteps_21 : decode cX10_goSteps 21 = .ok (.istore 4, 2) := by decide +kernel
theorem dX10_goSteps_23 : decode cX10_goSteps 23 = .ok (.aload_n 0, 1) := by decide +kernel
theorem dX10_goSteps_24 : decode cX10_goSteps 24 = .ok (.getfield 19, 3) := by decide +kernel
theorem dX10_goSteps_27 : decode cX10_goSteps 27 = .ok (.iload 4, 2) := by decide +kernel
theorem dX10_goSteps_29 : decode cX10_goSteps 29 = .ok (.iconst 1, 1) := by decide +kernel
theorem dX10_goSteps_30 : decode cX10_goSteps 30 = .ok (.iadd, 1) := by decide +kernel
theorem dX10_goSteps_31 : decode cX10_goSteps 31 = .ok (.iaload, 1) := by decide +kernel
theorem dX10_goSteps_32 : decode cX10_goSteps 32 = .ok (.istore 5, 2) := by decide +kernel
theorem dX10_goSteps_34 : decode cX10_goSteps 34 = .ok (.aload_n 0, 1) := by decide +kernel
theorem dX10_goSteps_35 : decode cX10_goSteps 35 = .ok (.getfield 19, 3) := by decide +kernel
theorem dX10_goSteps_38 : decode cX10_goSteps 38 = .ok (.iload 4, 2) := by decide +kernel
theorem dX10_goSteps_40 : decode cX10_goSteps 40 = .ok (.iconst 1, 1) := by decide +kernel
theorem dX10_goSteps_41 : decode cX10_goSteps 41 = .ok (.iadd, 1) := by decide +kernel
theorem dX10_goSteps_42 : decode cX10_goSteps 42 = .ok (.iconst 1, 1) := by decide +kernel
theorem dX10_goSteps_43 : decode cX10_goSteps 43 = .ok (.iadd, 1) := by decide +kernel
theorem dX10_goSteps_44 : decode cX10_goSteps 44 = .ok (.iaload, 1) := by decide +kernel
theorem dX10_goSteps_45 : decode cX10_goSteps 45 = .ok (.istore 6, 2) := by decide +kernel
theorem dX10_goSteps_47 : decode cX10_goSteps 47 = .ok (.aload_n 0, 1) := by decide +kernel
theorem dX10_goSteps_48 : decode cX10_goSteps 48 = .ok (.aload_n 0, 1) := by decide +kernel
theorem dX10_goSteps_49 : decode cX10_goSteps 49 = .ok (.getfield 19, 3) := by decide +kernel
theorem dX10_goSteps_52 : decode cX10_goSteps 52 = .ok (.iload 4, 2) := by decide +kernel
theorem dX10_goSteps_54 : decode cX10_goSteps 54 = .ok (.iaload, 1) := by decide +kernel
theorem dX10_goSteps_55 : decode cX10_goSteps 55 = .ok (.iload 5, 2) := by decide +kernel
theorem dX10_goSteps_57 : decode cX10_goSteps 57 = .ok (.iload 6, 2) := by decide +kernel
theorem dX10_goSteps_59 : decode cX10_goSteps 59 = .ok (.aload_n 0, 1) := by decide +kernel
theorem dX10_goSteps_60 : decode cX10_goSteps 60 = .ok (.getfield 19, 3) := by decide +kernel
theorem dX10_goSteps_63 : decode cX10_goSteps 63 = .ok (.iload 4, 2) := by decide +kernel
theorem dX10_goSteps_65 : decode cX10_goSteps 65 = .ok (.iconst 4, 1) := by decide +kernel
theorem dX10_goSteps_66 : decode cX10_goSteps 66 = .ok (.iadd, 1) := by decide +kernel
theorem dX10_goSteps_67 : decode cX10_goSteps 67 = .ok (.aload_n 0, 1) := by decide +kernel
theorem dX10_goSteps_68 : decode cX10_goSteps 68 = .ok (.getfield 19, 3) := by decide +kernel
theorem dX10_goSteps_71 : decode cX10_goSteps 71 = .ok (.iload 4, 2) := by decide +kernel
theorem dX10_goSteps_73 : decode cX10_goSteps 73 = .ok (.iconst 3, 1) := by decide +kernel
theorem dX10_goSteps_74 : decode cX10_goSteps 74 = .ok (.iadd, 1) := by decide +kernel
theorem dX10_goSteps_75 : decode cX10_goSteps 75 = .ok (.iaload, 1) := by decide +kernel
theorem dX10_goSteps_76 : decode cX10_goSteps 76 = .ok (.invokevirtual 290, 3) := by decide +kernel
theorem dX10_goSteps_79 : decode cX10_goSteps 79 = .ok (.iconst (-1), 1) := by decide +kernel
theorem dX10_goSteps_80 : decode cX10_goSteps 80 = .ok (.if_icmp .eq 5, 3) := by decide +kernel
theorem dX10_goSteps_83 : decode cX10_goSteps 83 = .ok (.iload_n 3, 1) := by decide +kernel
theorem dX10_goSteps_84 : decode cX10_goSteps 84 = .ok (.ireturn, 1) := by decide +kernel
theorem dX10_goSteps_85 : decode cX10_goSteps 85 = .ok (.iload_n 2, 1) := by decide +kernel
theorem dX10_goSteps_86 : decode cX10_goSteps 86 = .ok (.ifCond .eq 39, 3) := by decide +kernel
theorem dX10_goSteps_89 : decode cX10_goSteps 89 = .ok (.aload_n 0, 1) := by decide +kernel
theorem dX10_goSteps_90 : decode cX10_goSteps 90 = .ok (.aload_n 0, 1) := by decide +kernel
theorem dX10_goSteps_91 : decode cX10_goSteps 91 = .ok (.getfield 19, 3) := by decide +kernel
theorem dX10_goSteps_94 : decode cX10_goSteps 94 = .ok (.iload 4, 2) := by decide +kernel
theorem dX10_goSteps_96 : decode cX10_goSteps 96 = .ok (.iaload, 1) := by decide +kernel
theorem dX10_goSteps_97 : decode cX10_goSteps 97 = .ok (.iload 5, 2) := by decide +kernel
theorem dX10_goSteps_99 : decode cX10_goSteps 99 = .ok (.iload 6, 2) := by decide +kernel
theorem dX10_goSteps_101 : decode cX10_goSteps 101 = .ok (.aload_n 0, 1) := by decide +kernel
theorem dX10_goSteps_102 : decode cX10_goSteps 102 = .ok (.getfield 19, 3) := by decide +kernel
theorem dX10_goSteps_105 : decode cX10_goSteps 105 = .ok (.iload 4, 2) := by decide +kernel
theorem dX10_goSteps_107 : decode cX10_goSteps 107 = .ok (.iconst 4, 1) := by decide +kernel
theorem dX10_goSteps_108 : decode cX10_goSteps 108 = .ok (.iadd, 1) := by decide +kernel
theorem dX10_goSteps_109 : decode cX10_goSteps 109 = .ok (.aload_n 0, 1) := by decide +kernel
theorem dX10_goSteps_110 : decode cX10_goSteps 110 = .ok (.getfield 19, 3) := by decide +kernel
theorem dX10_goSteps_113 : decode cX10_goSteps 113 = .ok (.iload 4, 2) := by decide +kernel
theorem dX10_goSteps_115 : decode cX10_goSteps 115 = .ok (.iconst 3, 1) := by decide +kernel
theorem dX10_goSteps_116 : decode cX10_goSteps 116 = .ok (.iadd, 1) := by decide +kernel
theorem dX10_goSteps_117 : decode cX10_goSteps 117 = .ok (.iaload, 1) := by decide +kernel
theorem dX10_goSteps_118 : decode cX10_goSteps 118 = .ok (.invokevirtual 293, 3) := by decide +kernel
theorem dX10_goSteps_121 : decode cX10_goSteps 121 = .ok (.pop, 1) := by decide +kernel
theorem dX10_goSteps_122 : decode cX10_goSteps 122 = .ok (.goto 36, 3) := by decide +kernel
theorem dX10_goSteps_125 : decode cX10_goSteps 125 = .ok (.aload_n 0, 1) := by decide +kernel
theorem dX10_goSteps_126 : decode cX10_goSteps 126 = .ok (.aload_n 0, 1) := by decide +kernel
theorem dX10_goSteps_127 : decode cX10_goSteps 127 = .ok (.getfield 19, 3) := by decide +kernel
theorem dX10_goSteps_130 : decode cX10_goSteps 130 = .ok (.iload 4, 2) := by decide +kernel
theorem dX10_goSteps_132 : decode cX10_goSteps 132 = .ok (.iaload, 1) := by decide +kernel
theorem dX10_goSteps_133 : decode cX10_goSteps 133 = .ok (.iload 5, 2) := by decide +kernel
theorem dX10_goSteps_135 : decode cX10_goSteps 135 = .ok (.iload 6, 2) := by decide +kernel
theorem dX10_goSteps_137 : decode cX10_goSteps 137 = .ok (.aload_n 0, 1) := by decide +kernel
theorem dX10_goSteps_138 : decode cX10_goSteps 138 = .ok (.getfield 19, 3) := by decide +kernel
theorem dX10_goSteps_141 : decode cX10_goSteps 141 = .ok (.iload 4, 2) := by decide +kernel
theorem dX10_goSteps_143 : decode cX10_goSteps 143 = .ok (.iconst 4, 1) := by decide +kernel
theorem dX10_goSteps_144 : decode cX10_goSteps 144 = .ok (.iadd, 1) := by decide +kernel
theorem dX10_goSteps_145 : decode cX10_goSteps 145 = .ok (.aload_n 0, 1) := by decide +kernel
theorem dX10_goSteps_146 : decode cX10_goSteps 146 = .ok (.getfield 19, 3) := by decide +kernel
theorem dX10_goSteps_149 : decode cX10_goSteps 149 = .ok (.iload 4, 2) := by decide +kernel
theorem dX10_goSteps_151 : decode cX10_goSteps 151 = .ok (.iconst 3, 1) := by decide +kernel
theorem dX10_goSteps_152 : decode cX10_goSteps 152 = .ok (.iadd, 1) := by decide +kernel
theorem dX10_goSteps_153 : decode cX10_goSteps 153 = .ok (.iaload, 1) := by decide +kernel
theorem dX10_goSteps_154 : decode cX10_goSteps 154 = .ok (.invokevirtual 283, 3) := by decide +kernel
theorem dX10_goSteps_157 : decode cX10_goSteps 157 = .ok (.pop, 1) := by decide +kernel
theorem dX10_goSteps_158 : decode cX10_goSteps 158 = .ok (.iinc 3 1, 3) := by decide +kernel
theorem dX10_goSteps_161 : decode cX10_goSteps 161 = .ok (.goto (-159), 3) := by decide +kernel
theorem dX10_goSteps_164 : decode cX10_goSteps 164 = .ok (.aload_n 0, 1) := by decide +kernel
theorem dX10_goSteps_165 : decode cX10_goSteps 165 = .ok (.getfield 22, 3) := by decide +kernel
theorem dX10_goSteps_168 : decode cX10_goSteps 168 = .ok (.iload_n 1, 1) := by decide +kernel
theorem dX10_goSteps_169 : decode cX10_goSteps 169 = .ok (.iaload, 1) := by decide +kernel
theorem dX10_goSteps_170 : decode cX10_goSteps 170 = .ok (.ireturn, 1) := by decide +kernel
theorem dX10_run_0 : decode cX10_run 0 = .ok (.aload_n 0, 1) := by decide +kernel
theorem dX10_run_1 : decode cX10_run 1 = .ok (.iload_n 1, 1) := by decide +kernel
theorem dX10_run_2 : decode cX10_run 2 = .ok (.invokevirtual 376, 3) := by decide +kernel
theorem dX10_run_5 : decode cX10_run 5 = .ok (.ifCond .eq 19, 3) := by decide +kernel
theorem dX10_run_8 : decode cX10_run 8 = .ok (.aload_n 0, 1) := by decide +kernel
theorem dX10_run_9 : decode cX10_run 9 = .ok (.invokevirtual 139, 3) := by decide +kernel
theorem dX10_run_12 : decode cX10_run 12 = .ok (.ifCond .eq 12, 3) := by decide +kernel
theorem dX10_run_15 : decode cX10_run 15 = .ok (.iload_n 2, 1) := by decide +kernel
theorem dX10_run_16 : decode cX10_run 16 = .ok (.iconst 0, 1) := by decide +kernel
theorem dX10_run_17 : decode cX10_run 17 = .ok (.iconst 1, 1) := by decide +kernel
theorem dX10_run_18 : decode cX10_run 18 = .ok (.invokestatic 69, 3) := by decide +kernel
theorem dX10_run_21 : decode cX10_run 21 = .ok (.ifCond .ne 6, 3) := by decide +kernel
theorem dX10_run_24 : decode cX10_run 24 = .ok (.ldc 109, 2) := by decide +kernel
theorem dX10_run_26 : decode cX10_run 26 = .ok (.ireturn, 1) := by decide +kernel
theorem dX10_run_27 : decode cX10_run 27 = .ok (.aload_n 0, 1) := by decide +kernel
theorem dX10_run_28 : decode cX10_run 28 = .ok (.invokevirtual 370, 3) := by decide +kernel
theorem dX10_run_31 : decode cX10_run 31 = .ok (.aload_n 0, 1) := by decide +kernel
theorem dX10_run_32 : decode cX10_run 32 = .ok (.iload_n 1, 1) := by decide +kernel
theorem dX10_run_33 : decode cX10_run 33 = .ok (.iconst 0, 1) := by decide +kernel
theorem dX10_run_34 : decode cX10_run 34 = .ok (.invokevirtual 379, 3) := by decide +kernel
theorem dX10_run_37 : decode cX10_run 37 = .ok (.istore_n 3, 1) := by decide +kernel
theorem dX10_run_38 : decode cX10_run 38 = .ok (.aload_n 0, 1) := by decide +kernel
theorem dX10_run_39 : decode cX10_run 39 = .ok (.invokevirtual 277, 3) := by decide +kernel
theorem dX10_run_42 : decode cX10_run 42 = .ok (.istore 4, 2) := by decide +kernel
theorem dX10_run_44 : decode cX10_run 44 = .ok (.aload_n 0, 1) := by decide +kernel
theorem dX10_run_45 : decode cX10_run 45 = .ok (.invokevirtual 373, 3) := by decide +kernel
theorem dX10_run_48 : decode cX10_run 48 = .ok (.iload_n 2, 1) := by decide +kernel
theorem dX10_run_49 : decode cX10_run 49 = .ok (.iconst 1, 1) := by decide +kernel
theorem dX10_run_50 : decode cX10_run 50 = .ok (.if_icmp .ne 8, 3) := by decide +kernel
theorem dX10_run_53 : decode cX10_run 53 = .ok (.iload 4, 2) := by decide +kernel
theorem dX10_run_55 : decode cX10_run 55 = .ok (.goto 18, 3) := by decide +kernel
theorem dX10_run_58 : decode cX10_run 58 = .ok (.iload_n 3, 1) := by decide +kernel
theorem dX10_run_59 : decode cX10_run 59 = .ok (.aload_n 0, 1) := by decide +kernel
theorem dX10_run_60 : decode cX10_run 60 = .ok (.getfield 22, 3) := by decide +kernel
theorem dX10_run_63 : decode cX10_run 63 = .ok (.iload_n 1, 1) := by decide +kernel
theorem dX10_run_64 : decode cX10_run 64 = .ok (.iaload, 1) := by decide +kernel
theorem dX10_run_65 : decode cX10_run 65 = .ok (.if_icmp .ne 7, 3) := by decide +kernel
theorem dX10_run_68 : decode cX10_run 68 = .ok (.iconst (-1), 1) := by decide +kernel
theorem dX10_run_69 : decode cX10_run 69 = .ok (.goto 4, 3) := by decide +kernel
theorem dX10_run_72 : decode cX10_run 72 = .ok (.iload_n 3, 1) := by decide +kernel
theorem dX10_run_73 : decode cX10_run 73 = .ok (.ireturn, 1) := by decide +kernel
theorem dX10_perform_0 : decode cX10_perform 0 = .ok (.aload_n 0, 1) := by decide +kernel
theorem dX10_perform_1 : decode cX10_perform 1 = .ok (.iload_n 1, 1) := by decide +kernel
theorem dX10_perform_2 : decode cX10_perform 2 = .ok (.invokevirtual 376, 3) := by decide +kernel
theorem dX10_perform_5 : decode cX10_perform 5 = .ok (.ifCond .eq 19, 3) := by decide +kernel
theorem dX10_perform_8 : decode cX10_perform 8 = .ok (.aload_n 0, 1) := by decide +kernel
theorem dX10_perform_9 : decode cX10_perform 9 = .ok (.invokevirtual 139, 3) := by decide +kernel
theorem dX10_perform_12 : decode cX10_perform 12 = .ok (.ifCond .eq 12, 3) := by decide +kernel
theorem dX10_perform_15 : decode cX10_perform 15 = .ok (.aload_n 0, 1) := by decide +kernel
theorem dX10_perform_16 : decode cX10_perform 16 = .ok (.iload_n 1, 1) := by decide +kernel
theorem dX10_perform_17 : decode cX10_perform 17 = .ok (.iconst 1, 1) := by decide +kernel
theorem dX10_perform_18 : decode cX10_perform 18 = .ok (.invokevirtual 379, 3) := by decide +kernel
theorem dX10_perform_21 : decode cX10_perform 21 = .ok (.goto 4, 3) := by decide +kernel
theorem dX10_perform_24 : decode cX10_perform 24 = .ok (.iconst (-1), 1) := by decide +kernel
theorem dX10_perform_25 : decode cX10_perform 25 = .ok (.ireturn, 1) := by decide +kernel
theorem dX10_farthest_0 : decode cX10_farthest 0 = .ok (.iconst 0, 1) := by decide +kernel
theorem dX10_farthest_1 : decode cX10_farthest 1 = .ok (.istore_n 2, 1) := by decide +kernel
theorem dX10_farthest_2 : decode cX10_farthest 2 = .ok (.iconst 1, 1) := by decide +kernel
theorem dX10_farthest_3 : decode cX10_farthest 3 = .ok (.istore_n 3, 1) := by decide +kernel
theorem dX10_farthest_4 : decode cX10_farthest 4 = .ok (.iload_n 3, 1) := by decide +kernel
theorem dX10_farthest_5 : decode cX10_farthest 5 = .ok (.aload_n 0, 1) := by decide +kernel
theorem dX10_farthest_6 : decode cX10_farthest 6 = .ok (.getfield 28, 3) := by decide +kernel
theorem dX10_farthest_9 : decode cX10_farthest 9 = .ok (.iconst 0, 1) := by decide +kernel
theorem dX10_farthest_10 : decode cX10_farthest 10 = .ok (.iaload, 1) := by decide +kernel
theorem dX10_farthest_11 : decode cX10_farthest 11 = .ok (.if_icmp .ge 32, 3) := by decide +kernel
theorem dX10_farthest_14 : decode cX10_farthest 14 = .ok (.iload_n 1, 1) := by decide +kernel
theorem dX10_farthest_15 : decode cX10_farthest 15 = .ok (.aload_n 0, 1) := by decide +kernel
theorem dX10_farthest_16 : decode cX10_farthest 16 = .ok (.iload_n 3, 1) := by decide +kernel
theorem dX10_farthest_17 : decode cX10_farthest 17 = .ok (.invokevirtual 136, 3) := by decide +kernel
theorem dX10_farthest_20 : decode cX10_farthest 20 = .ok (.imul, 1) := by decide +kernel
theorem dX10_farthest_21 : decode cX10_farthest 21 = .ok (.iload_n 1, 1) := by decide +kernel
theorem dX10_farthest_22 : decode cX10_farthest 22 = .ok (.aload_n 0, 1) := by decide +kernel
theorem dX10_farthest_23 : decode cX10_farthest 23 = .ok (.iload_n 2, 1) := by decide +kernel
theorem dX10_farthest_24 : decode cX10_farthest 24 = .ok (.invokevirtual 136, 3) := by decide +kernel
theorem dX10_farthest_27 : decode cX10_farthest 27 = .ok (.imul, 1) := by decide +kernel
theorem dX10_farthest_28 : decode cX10_farthest 28 = .ok (.if_icmp .le 7, 3) := by decide +kernel
theorem dX10_farthest_31 : decode cX10_farthest 31 = .ok (.iload_n 3, 1) := by decide +kernel
theorem dX10_farthest_32 : decode cX10_farthest 32 = .ok (.goto 4, 3) := by decide +kernel
theorem dX10_farthest_35 : decode cX10_farthest 35 = .ok (.iload_n 2, 1) := by decide +kernel
theorem dX10_farthest_36 : decode cX10_farthest 36 = .ok (.istore_n 2, 1) := by decide +kernel
theorem dX10_farthest_37 : decode cX10_farthest 37 = .ok (.iinc 3 1, 3) := by decide +kernel
theorem dX10_farthest_40 : decode cX10_farthest 40 = .ok (.goto (-36), 3) := by decide +kernel
theorem dX10_farthest_43 : decode cX10_farthest 43 = .ok (.iload_n 2, 1) := by decide +kernel
theorem dX10_farthest_44 : decode cX10_farthest 44 = .ok (.ireturn, 1) := by decide +kernel
theorem dX10_unlikeSigns_0 : decode cX10_unlikeSigns 0 = .ok (.iconst 0, 1) := by decide +kernel
theorem dX10_unlikeSigns_1 : decode cX10_unlikeSigns 1 = .ok (.istore_n 1, 1) := by decide +kernel
theorem dX10_unlikeSigns_2 : decode cX10_unlikeSigns 2 = .ok (.iconst 0, 1) := by decide +kernel
theorem dX10_unlikeSigns_3 : decode cX10_unlikeSigns 3 = .ok (.istore_n 2, 1) := by decide +kernel
theorem dX10_unlikeSigns_4 : decode cX10_unlikeSigns 4 = .ok (.iload_n 2, 1) := by decide +kernel
theorem dX10_unlikeSigns_5 : decode cX10_unlikeSigns 5 = .ok (.aload_n 0, 1) := by decide +kernel
theorem dX10_unlikeSigns_6 : decode cX10_unlikeSigns 6 = .ok (.getfield 28, 3) := by decide +kernel
theorem dX10_unlikeSigns_9 : decode cX10_unlikeSigns 9 = .ok (.iconst 0, 1) := by decide +kernel
theorem dX10_unlikeSigns_10 : decode cX10_unlikeSigns 10 = .ok (.iaload, 1) := by decide +kernel
theorem dX10_unlikeSigns_11 : decode cX10_unlikeSigns 11 = .ok (.if_icmp .ge 37, 3) := by decide +kernel
theorem dX10_unlikeSigns_14 : decode cX10_unlikeSigns 14 = .ok (.iconst 0, 1) := by decide +kernel
theorem dX10_unlikeSigns_15 : decode cX10_unlikeSigns 15 = .ok (.istore_n 3, 1) := by decide +kernel
theorem dX10_unlikeSigns_16 : decode cX10_unlikeSigns 16 = .ok (.iload_n 3, 1) := by decide +kernel
theorem dX10_unlikeSigns_17 : decode cX10_unlikeSigns 17 = .ok (.aload_n 0, 1) := by decide +kernel
theorem dX10_unlikeSigns_18 : decode cX10_unlikeSigns 18 = .ok (.iload_n 2, 1) := by decide +kernel
theorem dX10_unlikeSigns_19 : decode cX10_unlikeSigns 19 = .ok (.invokevirtual 136, 3) := by decide +kernel
theorem dX10_unlikeSigns_22 : decode cX10_unlikeSigns 22 = .ok (.if_icmp .ge 20, 3) := by decide +kernel
theorem dX10_unlikeSigns_25 : decode cX10_unlikeSigns 25 = .ok (.iload_n 1, 1) := by decide +kernel
theorem dX10_unlikeSigns_26 : decode cX10_unlikeSigns 26 = .ok (.iconst 1, 1) := by decide +kernel
theorem dX10_unlikeSigns_27 : decode cX10_unlikeSigns 27 = .ok (.aload_n 0, 1) := by decide +kernel
theorem dX10_unlikeSigns_28 : decode cX10_unlikeSigns 28 = .ok (.iload_n 2, 1) := by decide +kernel
theorem dX10_unlikeSigns_29 : decode cX10_unlikeSigns 29 = .ok (.iload_n 3, 1) := by decide +kernel
theorem dX10_unlikeSigns_30 : decode cX10_unlikeSigns 30 = .ok (.invokevirtual 176, 3) := by decide +kernel
theorem dX10_unlikeSigns_33 : decode cX10_unlikeSigns 33 = .ok (.ishl, 1) := by decide +kernel
theorem dX10_unlikeSigns_34 : decode cX10_unlikeSigns 34 = .ok (.ior, 1) := by decide +kernel
theorem dX10_unlikeSigns_35 : decode cX10_unlikeSigns 35 = .ok (.istore_n 1, 1) := by decide +kernel
theorem dX10_unlikeSigns_36 : decode cX10_unlikeSigns 36 = .ok (.iinc 3 1, 3) := by decide +kernel
theorem dX10_unlikeSigns_39 : decode cX10_unlikeSigns 39 = .ok (.goto (-23), 3) := by decide +kernel
theorem dX10_unlikeSigns_42 : decode cX10_unlikeSigns 42 = .ok (.iinc 2 1, 3) := by decide +kernel
theorem dX10_unlikeSigns_45 : decode cX10_unlikeSigns 45 = .ok (.goto (-41), 3) := by decide +kernel
theorem dX10_unlikeSigns_48 : decode cX10_unlikeSigns 48 = .ok (.iconst 0, 1) := by decide +kernel
theorem dX10_unlikeSigns_49 : decode cX10_unlikeSigns 49 = .ok (.istore_n 2, 1) := by decide +kernel
theorem dX10_unlikeSigns_50 : decode cX10_unlikeSigns 50 = .ok (.iconst 0, 1) := by decide +kernel
theorem dX10_unlikeSigns_51 : decode cX10_unlikeSigns 51 = .ok (.istore_n 3, 1) := by decide +kernel
theorem dX10_unlikeSigns_52 : decode cX10_unlikeSigns 52 = .ok (.iload_n 3, 1) := by decide +kernel
theorem dX10_unlikeSigns_53 : decode cX10_unlikeSigns 53 = .ok (.bipush 27, 2) := by decide +kernel
theorem dX10_unlikeSigns_55 : decode cX10_unlikeSigns 55 = .ok (.if_icmp .ge 17, 3) := by decide +kernel
theorem dX10_unlikeSigns_58 : decode cX10_unlikeSigns 58 = .ok (.iload_n 2, 1) := by decide +kernel
theorem dX10_unlikeSigns_59 : decode cX10_unlikeSigns 59 = .ok (.iload_n 1, 1) := by decide +kernel
theorem dX10_unlikeSigns_60 : decode cX10_unlikeSigns 60 = .ok (.iload_n 3, 1) := by decide +kernel
theorem dX10_unlikeSigns_61 : decode cX10_unlikeSigns 61 = .ok (.ishr, 1) := by decide +kernel
theorem dX10_unlikeSigns_62 : decode cX10_unlikeSigns 62 = .ok (.iconst 1, 1) := by decide +kernel
theorem dX10_unlikeSigns_63 : decode cX10_unlikeSigns 63 = .ok (.iand, 1) := by decide +kernel
theorem dX10_unlikeSigns_64 : decode cX10_unlikeSigns 64 = .ok (.iadd, 1) := by decide +kernel
theorem dX10_unlikeSigns_65 : decode cX10_unlikeSigns 65 = .ok (.istore_n 2, 1) := by decide +kernel
theorem dX10_unlikeSigns_66 : decode cX10_unlikeSigns 66 = .ok (.iinc 3 1, 3) := by decide +kernel
theorem dX10_unlikeSigns_69 : decode cX10_unlikeSigns 69 = .ok (.goto (-17), 3) := by decide +kernel
theorem dX10_unlikeSigns_72 : decode cX10_unlikeSigns 72 = .ok (.iload_n 2, 1) := by decide +kernel
theorem dX10_unlikeSigns_73 : decode cX10_unlikeSigns 73 = .ok (.ireturn, 1) := by decide +kernel
theorem dX10_rising_0 : decode cX10_rising 0 = .ok (.iconst 1, 1) := by decide +kernel
theorem dX10_rising_1 : decode cX10_rising 1 = .ok (.istore_n 1, 1) := by decide +kernel
theorem dX10_rising_2 : decode cX10_rising 2 = .ok (.iload_n 1, 1) := by decide +kernel
theorem dX10_rising_3 : decode cX10_rising 3 = .ok (.aload_n 0, 1) := by decide +kernel
theorem dX10_rising_4 : decode cX10_rising 4 = .ok (.getfield 28, 3) := by decide +kernel
theorem dX10_rising_7 : decode cX10_rising 7 = .ok (.iconst 0, 1) := by decide +kernel
theorem dX10_rising_8 : decode cX10_rising 8 = .ok (.iaload, 1) := by decide +kernel
theorem dX10_rising_9 : decode cX10_rising 9 = .ok (.if_icmp .ge 24, 3) := by decide +kernel
theorem dX10_rising_12 : decode cX10_rising 12 = .ok (.aload_n 0, 1) := by decide +kernel
theorem dX10_rising_13 : decode cX10_rising 13 = .ok (.iload_n 1, 1) := by decide +kernel
theorem dX10_rising_14 : decode cX10_rising 14 = .ok (.invokevirtual 190, 3) := by decide +kernel
theorem dX10_rising_17 : decode cX10_rising 17 = .ok (.aload_n 0, 1) := by decide +kernel
theorem dX10_rising_18 : decode cX10_rising 18 = .ok (.iload_n 1, 1) := by decide +kernel
theorem dX10_rising_19 : decode cX10_rising 19 = .ok (.iconst 1, 1) := by decide +kernel
theorem dX10_rising_20 : decode cX10_rising 20 = .ok (.isub, 1) := by decide +kernel
theorem dX10_rising_21 : decode cX10_rising 21 = .ok (.invokevirtual 190, 3) := by decide +kernel
theorem dX10_rising_24 : decode cX10_rising 24 = .ok (.if_icmp .le 9, 3) := by decide +kernel
theorem dX10_rising_27 : decode cX10_rising 27 = .ok (.iinc 1 1, 3) := by decide +kernel
theorem dX10_rising_30 : decode cX10_rising 30 = .ok (.goto (-28), 3) := by decide +kernel
theorem dX10_rising_33 : decode cX10_rising 33 = .ok (.iload_n 1, 1) := by decide +kernel
theorem dX10_rising_34 : decode cX10_rising 34 = .ok (.ireturn, 1) := by decide +kernel
theorem dX10_cursors_0 : decode cX10_cursors 0 = .ok (.iconst 0, 1) := by decide +kernel
theorem dX10_cursors_1 : decode cX10_cursors 1 = .ok (.istore_n 1, 1) := by decide +kernel
theorem dX10_cursors_2 : decode cX10_cursors 2 = .ok (.iconst 0, 1) := by decide +kernel
theorem dX10_cursors_3 : decode cX10_cursors 3 = .ok (.istore_n 2, 1) := by decide +kernel
theorem dX10_cursors_4 : decode cX10_cursors 4 = .ok (.iload_n 2, 1) := by decide +kernel
theorem dX10_cursors_5 : decode cX10_cursors 5 = .ok (.iconst 3, 1) := by decide +kernel
theorem dX10_cursors_6 : decode cX10_cursors 6 = .ok (.if_icmp .ge 27, 3) := by decide +kernel
theorem dX10_cursors_9 : decode cX10_cursors 9 = .ok (.iload_n 1, 1) := by decide +kernel
theorem dX10_cursors_10 : decode cX10_cursors 10 = .ok (.aload_n 0, 1) := by decide +kernel
theorem dX10_cursors_11 : decode cX10_cursors 11 = .ok (.iload_n 2, 1) := by decide +kernel
theorem dX10_cursors_12 : decode cX10_cursors 12 = .ok (.invokevirtual 240, 3) := by decide +kernel
theorem dX10_cursors_15 : decode cX10_cursors 15 = .ok (.ifCond .eq 9, 3) := by decide +kernel
theorem dX10_cursors_18 : decode cX10_cursors 18 = .ok (.iconst 1, 1) := by decide +kernel
theorem dX10_cursors_19 : decode cX10_cursors 19 = .ok (.iload_n 2, 1) := by decide +kernel
theorem dX10_cursors_20 : decode cX10_cursors 20 = .ok (.ishl, 1) := by decide +kernel
theorem dX10_cursors_21 : decode cX10_cursors 21 = .ok (.goto 4, 3) := by decide +kernel
theorem dX10_cursors_24 : decode cX10_cursors 24 = .ok (.iconst 0, 1) := by decide +kernel
theorem dX10_cursors_25 : decode cX10_cursors 25 = .ok (.ior, 1) := by decide +kernel
theorem dX10_cursors_26 : decode cX10_cursors 26 = .ok (.istore_n 1, 1) := by decide +kernel
theorem dX10_cursors_27 : decode cX10_cursors 27 = .ok (.iinc 2 1, 3) := by decide +kernel
theorem dX10_cursors_30 : decode cX10_cursors 30 = .ok (.goto (-26), 3) := by decide +kernel
theorem dX10_cursors_33 : decode cX10_cursors 33 = .ok (.iload_n 1, 1) := by decide +kernel
theorem dX10_cursors_34 : decode cX10_cursors 34 = .ok (.ireturn, 1) := by decide +kernel
theorem dX10_isWithin_0 : decode cX10_isWithin 0 = .ok (.iconst 0, 1) := by decide +kernel
theorem dX10_isWithin_1 : decode cX10_isWithin 1 = .ok (.istore_n 2, 1) := by decide +kernel
theorem dX10_isWithin_2 : decode cX10_isWithin 2 = .ok (.iload_n 2, 1) := by decide +kernel
theorem dX10_isWithin_3 : decode cX10_isWithin 3 = .ok (.aload_n 0, 1) := by decide +kernel
theorem dX10_isWithin_4 : decode cX10_isWithin 4 = .ok (.getfield 28, 3) := by decide +kernel
theorem dX10_isWithin_7 : decode cX10_isWithin 7 = .ok (.iconst 0, 1) := by decide +kernel
theorem dX10_isWithin_8 : decode cX10_isWithin 8 = .ok (.iaload, 1) := by decide +kernel
theorem dX10_isWithin_9 : decode cX10_isWithin 9 = .ok (.if_icmp .ge 57, 3) := by decide +kernel
theorem dX10_isWithin_12 : decode cX10_isWithin 12 = .ok (.iconst 0, 1) := by decide +kernel
theorem dX10_isWithin_13 : decode cX10_isWithin 13 = .ok (.istore_n 3, 1) := by decide +kernel
theorem dX10_isWithin_14 : decode cX10_isWithin 14 = .ok (.iload_n 3, 1) := by decide +kernel
theorem dX10_isWithin_15 : decode cX10_isWithin 15 = .ok (.aload_n 0, 1) := by decide +kernel
theorem dX10_isWithin_16 : decode cX10_isWithin 16 = .ok (.iload_n 2, 1) := by decide +kernel
theorem dX10_isWithin_17 : decode cX10_isWithin 17 = .ok (.invokevirtual 136, 3) := by decide +kernel
theorem dX10_isWithin_20 : decode cX10_isWithin 20 = .ok (.if_icmp .ge 40, 3) := by decide +kernel
theorem dX10_isWithin_23 : decode cX10_isWithin 23 = .ok (.iload_n 2, 1) := by decide +kernel
theorem dX10_isWithin_24 : decode cX10_isWithin 24 = .ok (.iload_n 1, 1) := by decide +kernel
theorem dX10_isWithin_25 : decode cX10_isWithin 25 = .ok (.if_icmp .eq 29, 3) := by decide +kernel
theorem dX10_isWithin_28 : decode cX10_isWithin 28 = .ok (.aload_n 0, 1) := by decide +kernel
theorem dX10_isWithin_29 : decode cX10_isWithin 29 = .ok (.aload_n 0, 1) := by decide +kernel
theorem dX10_isWithin_30 : decode cX10_isWithin 30 = .ok (.getfield 28, 3) := by decide +kernel
theorem dX10_isWithin_33 : decode cX10_isWithin 33 = .ok (.iload_n 1, 1) := by decide +kernel
theorem dX10_isWithin_34 : decode cX10_isWithin 34 = .ok (.invokestatic 129, 3) := by decide +kernel
theorem dX10_isWithin_37 : decode cX10_isWithin 37 = .ok (.iconst 2, 1) := by decide +kernel
theorem dX10_isWithin_38 : decode cX10_isWithin 38 = .ok (.iadd, 1) := by decide +kernel
theorem dX10_isWithin_39 : decode cX10_isWithin 39 = .ok (.aload_n 0, 1) := by decide +kernel
theorem dX10_isWithin_40 : decode cX10_isWithin 40 = .ok (.iload_n 1, 1) := by decide +kernel
theorem dX10_isWithin_41 : decode cX10_isWithin 41 = .ok (.invokevirtual 136, 3) := by decide +kernel
theorem dX10_isWithin_44 : decode cX10_isWithin 44 = .ok (.iload_n 2, 1) := by decide +kernel
theorem dX10_isWithin_45 : decode cX10_isWithin 45 = .ok (.iload_n 3, 1) := by decide +kernel
theorem dX10_isWithin_46 : decode cX10_isWithin 46 = .ok (.invokevirtual 197, 3) := by decide +kernel
theorem dX10_isWithin_49 : decode cX10_isWithin 49 = .ok (.ifCond .eq 5, 3) := by decide +kernel
theorem dX10_isWithin_52 : decode cX10_isWithin 52 = .ok (.iconst 1, 1) := by decide +kernel
theorem dX10_isWithin_53 : decode cX10_isWithin 53 = .ok (.ireturn, 1) := by decide +kernel
theorem dX10_isWithin_54 : decode cX10_isWithin 54 = .ok (.iinc 3 1, 3) := by decide +kernel
theorem dX10_isWithin_57 : decode cX10_isWithin 57 = .ok (.goto (-43), 3) := by decide +kernel
theorem dX10_isWithin_60 : decode cX10_isWithin 60 = .ok (.iinc 2 1, 3) := by decide +kernel
theorem dX10_isWithin_63 : decode cX10_isWithin 63 = .ok (.goto (-61), 3) := by decide +kernel
theorem dX10_isWithin_66 : decode cX10_isWithin 66 = .ok (.iconst 0, 1) := by decide +kernel
theorem dX10_isWithin_67 : decode cX10_isWithin 67 = .ok (.ireturn, 1) := by decide +kernel
theorem dX10_withinOnes_0 : decode cX10_withinOnes 0 = .ok (.iconst 0, 1) := by decide +kernel
theorem dX10_withinOnes_1 : decode cX10_withinOnes 1 = .ok (.istore_n 1, 1) := by decide +kernel
theorem dX10_withinOnes_2 : decode cX10_withinOnes 2 = .ok (.iconst 0, 1) := by decide +kernel
theorem dX10_withinOnes_3 : decode cX10_withinOnes 3 = .ok (.istore_n 2, 1) := by decide +kernel
theorem dX10_withinOnes_4 : decode cX10_withinOnes 4 = .ok (.iload_n 2, 1) := by decide +kernel
theorem dX10_withinOnes_5 : decode cX10_withinOnes 5 = .ok (.aload_n 0, 1) := by decide +kernel
theorem dX10_withinOnes_6 : decode cX10_withinOnes 6 = .ok (.getfield 28, 3) := by decide +kernel
theorem dX10_withinOnes_9 : decode cX10_withinOnes 9 = .ok (.iconst 0, 1) := by decide +kernel
theorem dX10_withinOnes_10 : decode cX10_withinOnes 10 = .ok (.iaload, 1) := by decide +kernel
theorem dX10_withinOnes_11 : decode cX10_withinOnes 11 = .ok (.if_icmp .ge 27, 3) := by decide +kernel
theorem dX10_withinOnes_14 : decode cX10_withinOnes 14 = .ok (.iload_n 1, 1) := by decide +kernel
theorem dX10_withinOnes_15 : decode cX10_withinOnes 15 = .ok (.aload_n 0, 1) := by decide +kernel
theorem dX10_withinOnes_16 : decode cX10_withinOnes 16 = .ok (.iload_n 2, 1) := by decide +kernel
theorem dX10_withinOnes_17 : decode cX10_withinOnes 17 = .ok (.invokevirtual 383, 3) := by decide +kernel
theorem dX10_withinOnes_20 : decode cX10_withinOnes 20 = .ok (.ifCond .eq 9, 3) := by decide +kernel
theorem dX10_withinOnes_23 : decode cX10_withinOnes 23 = .ok (.iconst 1, 1) := by decide +kernel
theorem dX10_withinOnes_24 : decode cX10_withinOnes 24 = .ok (.iload_n 2, 1) := by decide +kernel
theorem dX10_withinOnes_25 : decode cX10_withinOnes 25 = .ok (.ishl, 1) := by decide +kernel
theorem dX10_withinOnes_26 : decode cX10_withinOnes 26 = .ok (.goto 4, 3) := by decide +kernel
theorem dX10_withinOnes_29 : decode cX10_withinOnes 29 = .ok (.iconst 0, 1) := by decide +kernel
theorem dX10_withinOnes_30 : decode cX10_withinOnes 30 = .ok (.ior, 1) := by decide +kernel
theorem dX10_withinOnes_31 : decode cX10_withinOnes 31 = .ok (.istore_n 1, 1) := by decide +kernel
theorem dX10_withinOnes_32 : decode cX10_withinOnes 32 = .ok (.iinc 2 1, 3) := by decide +kernel
theorem dX10_withinOnes_35 : decode cX10_withinOnes 35 = .ok (.goto (-31), 3) := by decide +kernel
theorem dX10_withinOnes_38 : decode cX10_withinOnes 38 = .ok (.iload_n 1, 1) := by decide +kernel
theorem dX10_withinOnes_39 : decode cX10_withinOnes 39 = .ok (.ireturn, 1) := by decide +kernel
theorem dX10_most_0 : decode cX10_most 0 = .ok (.aload_n 0, 1) := by decide +kernel
theorem dX10_most_1 : decode cX10_most 1 = .ok (.invokevirtual 139, 3) := by decide +kernel
theorem dX10_most_4 : decode cX10_most 4 = .ok (.ifCond .eq 13, 3) := by decide +kernel
theorem dX10_most_7 : decode cX10_most 7 = .ok (.iload_n 1, 1) := by decide +kernel
theorem dX10_most_8 : decode cX10_most 8 = .ok (.iconst 0, 1) := by decide +kernel
theorem dX10_most_9 : decode cX10_most 9 = .ok (.bipush 6, 2) := by decide +kernel
theorem dX10_most_11 : decode cX10_most 11 = .ok (.invokestatic 69, 3) := by decide +kernel
theorem dX10_most_14 : decode cX10_most 14 = .ok (.ifCond .ne 6, 3) := by decide +kernel
theorem dX10_most_17 : decode cX10_most 17 = .ok (.ldc 109, 2) := by decide +kernel
theorem dX10_most_19 : decode cX10_most 19 = .ok (.ireturn, 1) := by decide +kernel
theorem dX10_most_20 : decode cX10_most 20 = .ok (.iload_n 1, 1) := by decide +kernel
theorem dX10_most_21 : decode cX10_most 21 = .ok (.tableswitch 76 0 5 #[39, 45, 51, 56, 66, 71], 39) := by decide +kernel
theorem dX10_most_60 : decode cX10_most 60 = .ok (.aload_n 0, 1) := by decide +kernel
theorem dX10_most_61 : decode cX10_most 61 = .ok (.iconst 1, 1) := by decide +kernel
theorem dX10_most_62 : decode cX10_most 62 = .ok (.invokevirtual 386, 3) := by decide +kernel
theorem dX10_most_65 : decode cX10_most 65 = .ok (.ireturn, 1) := by decide +kernel
theorem dX10_most_66 : decode cX10_most 66 = .ok (.aload_n 0, 1) := by decide +kernel
theorem dX10_most_67 : decode cX10_most 67 = .ok (.iconst (-1), 1) := by decide +kernel
theorem dX10_most_68 : decode cX10_most 68 = .ok (.invokevirtual 386, 3) := by decide +kernel
theorem dX10_most_71 : decode cX10_most 71 = .ok (.ireturn, 1) := by decide +kernel
theorem dX10_most_72 : decode cX10_most 72 = .ok (.aload_n 0, 1) := by decide +kernel
theorem dX10_most_73 : decode cX10_most 73 = .ok (.invokevirtual 389, 3) := by decide +kernel
theorem dX10_most_76 : decode cX10_most 76 = .ok (.ireturn, 1) := by decide +kernel
theorem dX10_most_77 : decode cX10_most 77 = .ok (.iconst 0, 1) := by decide +kernel
theorem dX10_most_78 : decode cX10_most 78 = .ok (.aload_n 0, 1) := by decide +kernel
theorem dX10_most_79 : decode cX10_most 79 = .ok (.iconst 1, 1) := by decide +kernel
theorem dX10_most_80 : decode cX10_most 80 = .ok (.invokevirtual 392, 3) := by decide +kernel
theorem dX10_most_83 : decode cX10_most 83 = .ok (.invokestatic 211, 3) := by decide +kernel
theorem dX10_most_86 : decode cX10_most 86 = .ok (.ireturn, 1) := by decide +kernel
theorem dX10_most_87 : decode cX10_most 87 = .ok (.aload_n 0, 1) := by decide +kernel
theorem dX10_most_88 : decode cX10_most 88 = .ok (.invokevirtual 395, 3) := by decide +kernel
theorem dX10_most_91 : decode cX10_most 91 = .ok (.ireturn, 1) := by decide +kernel
theorem dX10_most_92 : decode cX10_most 92 = .ok (.aload_n 0, 1) := by decide +kernel
theorem dX10_most_93 : decode cX10_most 93 = .ok (.invokevirtual 398, 3) := by decide +kernel
theorem dX10_most_96 : decode cX10_most 96 = .ok (.ireturn, 1) := by decide +kernel
theorem dX10_most_97 : decode cX10_most 97 = .ok (.aload_n 0, 1) := by decide +kernel
theorem dX10_most_98 : decode cX10_most 98 = .ok (.invokevirtual 401, 3) := by decide +kernel
theorem dX10_most_101 : decode cX10_most 101 = .ok (.ireturn, 1) := by decide +kernel
theorem dX10_image_0 : decode cX10_image 0 = .ok (.aload_n 0, 1) := by decide +kernel
theorem dX10_image_1 : decode cX10_image 1 = .ok (.invokevirtual 139, 3) := by decide +kernel
theorem dX10_image_4 : decode cX10_image 4 = .ok (.ifCond .ne 5, 3) := by decide +kernel
theorem dX10_image_7 : decode cX10_image 7 = .ok (.iconst (-1), 1) := by decide +kernel
theorem dX10_image_8 : decode cX10_image 8 = .ok (.ireturn, 1) := by decide +kernel
theorem dX10_image_9 : decode cX10_image 9 = .ok (.iconst 0, 1) := by decide +kernel
theorem dX10_image_10 : decode cX10_image 10 = .ok (.istore_n 1, 1) := by decide +kernel
theorem dX10_image_11 : decode cX10_image 11 = .ok (.iload_n 1, 1) := by decide +kernel
theorem dX10_image_12 : decode cX10_image 12 = .ok (.sipush 622, 3) := by decide +kernel
theorem dX10_image_15 : decode cX10_image 15 = .ok (.if_icmp .ge 21, 3) := by decide +kernel
theorem dX10_image_18 : decode cX10_image 18 = .ok (.aload_n 0, 1) := by decide +kernel
theorem dX10_image_19 : decode cX10_image 19 = .ok (.getfield 55, 3) := by decide +kernel
theorem dX10_image_22 : decode cX10_image 22 = .ok (.iload_n 1, 1) := by decide +kernel
theorem dX10_image_23 : decode cX10_image 23 = .ok (.aload_n 0, 1) := by decide +kernel
theorem dX10_image_24 : decode cX10_image 24 = .ok (.getfield 28, 3) := by decide +kernel
theorem dX10_image_27 : decode cX10_image 27 = .ok (.iload_n 1, 1) := by decide +kernel
theorem dX10_image_28 : decode cX10_image 28 = .ok (.iaload, 1) := by decide +kernel
theorem dX10_image_29 : decode cX10_image 29 = .ok (.iastore, 1) := by decide +kernel
theorem dX10_image_30 : decode cX10_image 30 = .ok (.iinc 1 1, 3) := by decide +kernel
theorem dX10_image_33 : decode cX10_image 33 = .ok (.goto (-22), 3) := by decide +kernel
theorem dX10_image_36 : decode cX10_image 36 = .ok (.aload_n 0, 1) := by decide +kernel
theorem dX10_image_37 : decode cX10_image 37 = .ok (.iconst 1, 1) := by decide +kernel
theorem dX10_image_38 : decode cX10_image 38 = .ok (.putfield 156, 3) := by decide +kernel
theorem dX10_image_41 : decode cX10_image 41 = .ok (.aload_n 0, 1) := by decide +kernel
theorem dX10_image_42 : decode cX10_image 42 = .ok (.invokevirtual 277, 3) := by decide +kernel
theorem dX10_image_45 : decode cX10_image 45 = .ok (.ireturn, 1) := by decide +kernel
theorem dX10_back_0 : decode cX10_back 0 = .ok (.aload_n 0, 1) := by decide +kernel
theorem dX10_back_1 : decode cX10_back 1 = .ok (.getfield 156, 3) := by decide +kernel
theorem dX10_back_4 : decode cX10_back 4 = .ok (.ifCond .ne 5, 3) := by decide +kernel
theorem dX10_back_7 : decode cX10_back 7 = .ok (.iconst (-1), 1) := by decide +kernel
theorem dX10_back_8 : decode cX10_back 8 = .ok (.ireturn, 1) := by decide +kernel
theorem dX10_back_9 : decode cX10_back 9 = .ok (.iconst 0, 1) := by decide +kernel
theorem dX10_back_10 : decode cX10_back 10 = .ok (.istore_n 1, 1) := by decide +kernel
theorem dX10_back_11 : decode cX10_back 11 = .ok (.iload_n 1, 1) := by decide +kernel
theorem dX10_back_12 : decode cX10_back 12 = .ok (.sipush 622, 3) := by decide +kernel
theorem dX10_back_15 : decode cX10_back 15 = .ok (.if_icmp .ge 21, 3) := by decide +kernel
theorem dX10_back_18 : decode cX10_back 18 = .ok (.aload_n 0, 1) := by decide +kernel
theorem dX10_back_19 : decode cX10_back 19 = .ok (.getfield 28, 3) := by decide +kernel
theorem dX10_back_22 : decode cX10_back 22 = .ok (.iload_n 1, 1) := by decide +kernel
theorem dX10_back_23 : decode cX10_back 23 = .ok (.aload_n 0, 1) := by decide +kernel
theorem dX10_back_24 : decode cX10_back 24 = .ok (.getfield 55, 3) := by decide +kernel
theorem dX10_back_27 : decode cX10_back 27 = .ok (.iload_n 1, 1) := by decide +kernel
theorem dX10_back_28 : decode cX10_back 28 = .ok (.iaload, 1) := by decide +kernel
theorem dX10_back_29 : decode cX10_back 29 = .ok (.iastore, 1) := by decide +kernel
theorem dX10_back_30 : decode cX10_back 30 = .ok (.iinc 1 1, 3) := by decide +kernel
theorem dX10_back_33 : decode cX10_back 33 = .ok (.goto (-22), 3) := by decide +kernel
theorem dX10_back_36 : decode cX10_back 36 = .ok (.aload_n 0, 1) := by decide +kernel
theorem dX10_back_37 : decode cX10_back 37 = .ok (.iconst 0, 1) := by decide +kernel
theorem dX10_back_38 : decode cX10_back 38 = .ok (.putfield 153, 3) := by decide +kernel
theorem dX10_back_41 : decode cX10_back 41 = .ok (.aload_n 0, 1) := by decide +kernel
theorem dX10_back_42 : decode cX10_back 42 = .ok (.invokevirtual 277, 3) := by decide +kernel
theorem dX10_back_45 : decode cX10_back 45 = .ok (.ireturn, 1) := by decide +kernel
theorem dX10_count_0 : decode cX10_count 0 = .ok (.iload_n 1, 1) := by decide +kernel
theorem dX10_count_1 : decode cX10_count 1 = .ok (.tableswitch 77 0 5 #[39, 46, 51, 56, 65, 70], 39) := by decide +kernel
theorem dX10_count_40 : decode cX10_count 40 = .ok (.aload_n 0, 1) := by decide +kernel
theorem dX10_count_41 : decode cX10_count 41 = .ok (.getfield 28, 3) := by decide +kernel
theorem dX10_count_44 : decode cX10_count 44 = .ok (.iconst 0, 1) := by decide +kernel
theorem dX10_count_45 : decode cX10_count 45 = .ok (.iaload, 1) := by decide +kernel
theorem dX10_count_46 : decode cX10_count 46 = .ok (.ireturn, 1) := by decide +kernel
theorem dX10_count_47 : decode cX10_count 47 = .ok (.aload_n 0, 1) := by decide +kernel
theorem dX10_count_48 : decode cX10_count 48 = .ok (.getfield 163, 3) := by decide +kernel
theorem dX10_count_51 : decode cX10_count 51 = .ok (.ireturn, 1) := by decide +kernel
theorem dX10_count_52 : decode cX10_count 52 = .ok (.aload_n 0, 1) := by decide +kernel
theorem dX10_count_53 : decode cX10_count 53 = .ok (.getfield 66, 3) := by decide +kernel
theorem dX10_count_56 : decode cX10_count 56 = .ok (.ireturn, 1) := by decide +kernel
theorem dX10_count_57 : decode cX10_count 57 = .ok (.aload_n 0, 1) := by decide +kernel
theorem dX10_count_58 : decode cX10_count 58 = .ok (.getfield 28, 3) := by decide +kernel
theorem dX10_count_61 : decode cX10_count 61 = .ok (.sipush 441, 3) := by decide +kernel
theorem dX10_count_64 : decode cX10_count 64 = .ok (.iaload, 1) := by decide +kernel
theorem dX10_count_65 : decode cX10_count 65 = .ok (.ireturn, 1) := by decide +kernel
theorem dX10_count_66 : decode cX10_count 66 = .ok (.aload_n 0, 1) := by decide +kernel
theorem dX10_count_67 : decode cX10_count 67 = .ok (.getfield 153, 3) := by decide +kernel
theorem dX10_count_70 : decode cX10_count 70 = .ok (.ireturn, 1) := by decide +kernel
theorem dX10_count_71 : decode cX10_count 71 = .ok (.aload_n 0, 1) := by decide +kernel
theorem dX10_count_72 : decode cX10_count 72 = .ok (.getfield 28, 3) := by decide +kernel
theorem dX10_count_75 : decode cX10_count 75 = .ok (.iconst 1, 1) := by decide +kernel
theorem dX10_count_76 : decode cX10_count 76 = .ok (.iaload, 1) := by decide +kernel
theorem dX10_count_77 : decode cX10_count 77 = .ok (.ireturn, 1) := by decide +kernel
theorem dX10_count_78 : decode cX10_count 78 = .ok (.ldc 109, 2) := by decide +kernel
theorem dX10_count_80 : decode cX10_count 80 = .ok (.ireturn, 1) := by decide +kernel

theorem dX9_init_0 : decode cX9_init 0 = .ok (.aload_n 0, 1) := by decide +kernel
theorem dX9_init_1 : decode cX9_init 1 = .ok (.invokespecial 1, 3) := by decide +kernel
theorem dX9_init_4 : decode cX9_init 4 = .ok (.aload_n 0, 1) := by decide +kernel
theorem dX9_init_5 : decode cX9_init 5 = .ok (.new 7, 3) := by decide +kernel
theorem dX9_init_8 : decode cX9_init 8 = .ok (.dup, 1) := by decide +kernel
theorem dX9_init_9 : decode cX9_init 9 = .ok (.invokespecial 9, 3) := by decide +kernel
theorem dX9_init_12 : decode cX9_init 12 = .ok (.putfield 10, 3) := by decide +kernel
theorem dX9_init_15 : decode cX9_init 15 = .ok (.aload_n 0, 1) := by decide +kernel
theorem dX9_init_16 : decode cX9_init 16 = .ok (.new 16, 3) := by decide +kernel
theorem dX9_init_19 : decode cX9_init 19 = .ok (.dup, 1) := by decide +kernel
theorem dX9_init_20 : decode cX9_init 20 = .ok (.invokespecial 18, 3) := by decide +kernel
theorem dX9_init_23 : decode cX9_init 23 = .ok (.putfield 19, 3) := by decide +kernel
theorem dX9_init_26 : decode cX9_init 26 = .ok (.aload_n 0, 1) := by decide +kernel
theorem dX9_init_27 : decode cX9_init 27 = .ok (.new 16, 3) := by decide +kernel
theorem dX9_init_30 : decode cX9_init 30 = .ok (.dup, 1) := by decide +kernel
theorem dX9_init_31 : decode cX9_init 31 = .ok (.invokespecial 18, 3) := by decide +kernel
theorem dX9_init_34 : decode cX9_init 34 = .ok (.putfield 23, 3) := by decide +kernel
theorem dX9_init_37 : decode cX9_init 37 = .ok (.aload_n 0, 1) := by decide +kernel
theorem dX9_init_38 : decode cX9_init 38 = .ok (.bipush 40, 2) := by decide +kernel
theorem dX9_init_40 : decode cX9_init 40 = .ok (.anewarray 16, 3) := by decide +kernel
theorem dX9_init_43 : decode cX9_init 43 = .ok (.putfield 26, 3) := by decide +kernel
theorem dX9_init_46 : decode cX9_init 46 = .ok (.aload_n 0, 1) := by decide +kernel
theorem dX9_init_47 : decode cX9_init 47 = .ok (.new 30, 3) := by decide +kernel
theorem dX9_init_50 : decode cX9_init 50 = .ok (.dup, 1) := by decide +kernel
theorem dX9_init_51 : decode cX9_init 51 = .ok (.invokespecial 32, 3) := by decide +kernel
theorem dX9_init_54 : decode cX9_init 54 = .ok (.putfield 33, 3) := by decide +kernel
theorem dX9_init_57 : decode cX9_init 57 = .ok (.aload_n 0, 1) := by decide +kernel
theorem dX9_init_58 : decode cX9_init 58 = .ok (.new 30, 3) := by decide +kernel
theorem dX9_init_61 : decode cX9_init 61 = .ok (.dup, 1) := by decide +kernel
theorem dX9_init_62 : decode cX9_init 62 = .ok (.invokespecial 32, 3) := by decide +kernel
theorem dX9_init_65 : decode cX9_init 65 = .ok (.putfield 37, 3) := by decide +kernel
theorem dX9_init_68 : decode cX9_init 68 = .ok (.aload_n 0, 1) := by decide +kernel
theorem dX9_init_69 : decode cX9_init 69 = .ok (.new 30, 3) := by decide +kernel
theorem dX9_init_72 : decode cX9_init 72 = .ok (.dup, 1) := by decide +kernel
theorem dX9_init_73 : decode cX9_init 73 = .ok (.invokespecial 32, 3) := by decide +kernel
theorem dX9_init_76 : decode cX9_init 76 = .ok (.putfield 40, 3) := by decide +kernel
theorem dX9_init_79 : decode cX9_init 79 = .ok (.aload_n 0, 1) := by decide +kernel
theorem dX9_init_80 : decode cX9_init 80 = .ok (.new 43, 3) := by decide +kernel
theorem dX9_init_83 : decode cX9_init 83 = .ok (.dup, 1) := by decide +kernel
theorem dX9_init_84 : decode cX9_init 84 = .ok (.invokespecial 45, 3) := by decide +kernel
theorem dX9_init_87 : decode cX9_init 87 = .ok (.putfield 46, 3) := by decide +kernel
theorem dX9_init_90 : decode cX9_init 90 = .ok (.aload_n 0, 1) := by decide +kernel
theorem dX9_init_91 : decode cX9_init 91 = .ok (.iconst 5, 1) := by decide +kernel
theorem dX9_init_92 : decode cX9_init 92 = .ok (.anewarray 50, 3) := by decide +kernel
theorem dX9_init_95 : decode cX9_init 95 = .ok (.putfield 52, 3) := by decide +kernel
theorem dX9_init_98 : decode cX9_init 98 = .ok (.aload_n 0, 1) := by decide +kernel
theorem dX9_init_99 : decode cX9_init 99 = .ok (.iconst 4, 1) := by decide +kernel
theorem dX9_init_100 : decode cX9_init 100 = .ok (.newarray .int, 2) := by decide +kernel
theorem dX9_init_102 : decode cX9_init 102 = .ok (.putfield 56, 3) := by decide +kernel
theorem dX9_init_105 : decode cX9_init 105 = .ok (.new 16, 3) := by decide +kernel
theorem dX9_init_108 : decode cX9_init 108 = .ok (.dup, 1) := by decide +kernel
theorem dX9_init_109 : decode cX9_init 109 = .ok (.invokespecial 18, 3) := by decide +kernel
theorem dX9_init_112 : decode cX9_init 112 = .ok (.astore_n 1, 1) := by decide +kernel
theorem dX9_init_113 : decode cX9_init 113 = .ok (.aload_n 0, 1) := by decide +kernel
theorem dX9_init_114 : decode cX9_init 114 = .ok (.aload_n 1, 1) := by decide +kernel
theorem dX9_init_115 : decode cX9_init 115 = .ok (.putfield 60, 3) := by decide +kernel
theorem dX9_init_118 : decode cX9_init 118 = .ok (.aload_n 0, 1) := by decide +kernel
theorem dX9_init_119 : decode cX9_init 119 = .ok (.new 63, 3) := by decide +kernel
theorem dX9_init_122 : decode cX9_init 122 = .ok (.dup, 1) := by decide +kernel
theorem dX9_init_123 : decode cX9_init 123 = .ok (.aload_n 1, 1) := by decide +kernel
theorem dX9_init_124 : decode cX9_init 124 = .ok (.invokespecial 65, 3) := by decide +kernel
theorem dX9_init_127 : decode cX9_init 127 = .ok (.putfield 68, 3) := by decide +kernel
theorem dX9_init_130 : decode cX9_init 130 = .ok (.aload_n 0, 1) := by decide +kernel
theorem dX9_init_131 : decode cX9_init 131 = .ok (.new 63, 3) := by decide +kernel
theorem dX9_init_134 : decode cX9_init 134 = .ok (.dup, 1) := by decide +kernel
theorem dX9_init_135 : decode cX9_init 135 = .ok (.aload_n 1, 1) := by decide +kernel
theorem dX9_init_136 : decode cX9_init 136 = .ok (.invokespecial 65, 3) := by decide +kernel
theorem dX9_init_139 : decode cX9_init 139 = .ok (.putfield 72, 3) := by decide +kernel
theorem dX9_init_142 : decode cX9_init 142 = .ok (.iconst 0, 1) := by decide +kernel
theorem dX9_init_143 : decode cX9_init 143 = .ok (.istore_n 2, 1) := by decide +kernel
theorem dX9_init_144 : decode cX9_init 144 = .ok (.iload_n 2, 1) := by decide +kernel
theorem dX9_init_145 : decode cX9_init 145 = .ok (.aload_n 0, 1) := by decide +kernel
theorem dX9_init_146 : decode cX9_init 146 = .ok (.getfield 26, 3) := by decide +kernel
theorem dX9_init_149 : decode cX9_init 149 = .ok (.arraylength, 1) := by decide +kernel
theorem dX9_init_150 : decode cX9_init 150 = .ok (.if_icmp .ge 22, 3) := by decide +kernel
theorem dX9_init_153 : decode cX9_init 153 = .ok (.aload_n 0, 1) := by decide +kernel
theorem dX9_init_154 : decode cX9_init 154 = .ok (.getfield 26, 3) := by decide +kernel
theorem dX9_init_157 : decode cX9_init 157 = .ok (.iload_n 2, 1) := by decide +kernel
theorem dX9_init_158 : decode cX9_init 158 = .ok (.new 16, 3) := by decide +kernel
theorem dX9_init_161 : decode cX9_init 161 = .ok (.dup, 1) := by decide +kernel
theorem dX9_init_162 : decode cX9_init 162 = .ok (.invokespecial 18, 3) := by decide +kernel
theorem dX9_init_165 : decode cX9_init 165 = .ok (.aastore, 1) := by decide +kernel
theorem dX9_init_166 : decode cX9_init 166 = .ok (.iinc 2 1, 3) := by decide +kernel
theorem dX9_init_169 : decode cX9_init 169 = .ok (.goto (-25), 3) := by decide +kernel
theorem dX9_init_172 : decode cX9_init 172 = .ok (.iconst 0, 1) := by decide +kernel
theorem dX9_init_173 : decode cX9_init 173 = .ok (.istore_n 2, 1) := by decide +kernel
theorem dX9_init_174 : decode cX9_init 174 = .ok (.iload_n 2, 1) := by decide +kernel
theorem dX9_init_175 : decode cX9_init 175 = .ok (.aload_n 0, 1) := by decide +kernel
theorem dX9_init_176 : decode cX9_init 176 = .ok (.getfield 52, 3) := by decide +kernel
theorem dX9_init_179 : decode cX9_init 179 = .ok (.arraylength, 1) := by decide +kernel
theorem dX9_init_180 : decode cX9_init 180 = .ok (.if_icmp .ge 22, 3) := by decide +kernel
theorem dX9_init_183 : decode cX9_init 183 = .ok (.aload_n 0, 1) := by decide +kernel
theorem dX9_init_184 : decode cX9_init 184 = .ok (.getfield 52, 3) := by decide +kernel
theorem dX9_init_187 : decode cX9_init 187 = .ok (.iload_n 2, 1) := by decide +kernel
theorem dX9_init_188 : decode cX9_init 188 = .ok (.new 50, 3) := by decide +kernel
theorem dX9_init_191 : decode cX9_init 191 = .ok (.dup, 1) := by decide +kernel
theorem dX9_init_192 : decode cX9_init 192 = .ok (.invokespecial 75, 3) := by decide +kernel
theorem dX9_init_195 : decode cX9_init 195 = .ok (.aastore, 1) := by decide +kernel
theorem dX9_init_196 : decode cX9_init 196 = .ok (.iinc 2 1, 3) := by decide +kernel
theorem dX9_init_199 : decode cX9_init 199 = .ok (.goto (-25), 3) := by decide +kernel
theorem dX9_init_202 : decode cX9_init 202 = .ok (.return_, 1) := by decide +kernel
theorem dX9_feed_0 : decode cX9_feed 0 = .ok (.aload_n 0, 1) := by decide +kernel
theorem dX9_feed_1 : decode cX9_feed 1 = .ok (.getfield 10, 3) := by decide +kernel
theorem dX9_feed_4 : decode cX9_feed 4 = .ok (.getfield 76, 3) := by decide +kernel
theorem dX9_feed_7 : decode cX9_feed 7 = .ok (.istore 6, 2) := by decide +kernel
theorem dX9_feed_9 : decode cX9_feed 9 = .ok (.aload_n 0, 1) := by decide +kernel
theorem dX9_feed_10 : decode cX9_feed 10 = .ok (.getfield 10, 3) := by decide +kernel
theorem dX9_feed_13 : decode cX9_feed 13 = .ok (.iload_n 1, 1) := by decide +kernel
theorem dX9_feed_14 : decode cX9_feed 14 = .ok (.invokevirtual 80, 3) := by decide +kernel
theorem dX9_feed_17 : decode cX9_feed 17 = .ok (.ifCond .eq 53, 3) := by decide +kernel
theorem dX9_feed_20 : decode cX9_feed 20 = .ok (.aload_n 0, 1) := by decide +kernel
theorem dX9_feed_21 : decode cX9_feed 21 = .ok (.getfield 10, 3) := by decide +kernel
theorem dX9_feed_24 : decode cX9_feed 24 = .ok (.iload_n 2, 1) := by decide +kernel
theorem dX9_feed_25 : decode cX9_feed 25 = .ok (.invokevirtual 80, 3) := by decide +kernel
theorem dX9_feed_28 : decode cX9_feed 28 = .ok (.ifCond .eq 42, 3) := by decide +kernel
theorem dX9_feed_31 : decode cX9_feed 31 = .ok (.aload_n 0, 1) := by decide +kernel
theorem dX9_feed_32 : decode cX9_feed 32 = .ok (.getfield 10, 3) := by decide +kernel
theorem dX9_feed_35 : decode cX9_feed 35 = .ok (.iload_n 3, 1) := by decide +kernel
theorem dX9_feed_36 : decode cX9_feed 36 = .ok (.invokevirtual 80, 3) := by decide +kernel
theorem dX9_feed_39 : decode cX9_feed 39 = .ok (.ifCond .eq 31, 3) := by decide +kernel
theorem dX9_feed_42 : decode cX9_feed 42 = .ok (.aload_n 0, 1) := by decide +kernel
theorem dX9_feed_43 : decode cX9_feed 43 = .ok (.getfield 10, 3) := by decide +kernel
theorem dX9_feed_46 : decode cX9_feed 46 = .ok (.iload 4, 2) := by decide +kernel
theorem dX9_feed_48 : decode cX9_feed 48 = .ok (.invokevirtual 80, 3) := by decide +kernel
theorem dX9_feed_51 : decode cX9_feed 51 = .ok (.ifCond .eq 19, 3) := by decide +kernel
theorem dX9_feed_54 : decode cX9_feed 54 = .ok (.aload_n 0, 1) := by decide +kernel
theorem dX9_feed_55 : decode cX9_feed 55 = .ok (.getfield 10, 3) := by decide +kernel
theorem dX9_feed_58 : decode cX9_feed 58 = .ok (.iload 5, 2) := by decide +kernel
theorem dX9_feed_60 : decode cX9_feed 60 = .ok (.invokevirtual 80, 3) := by decide +kernel
theorem dX9_feed_63 : decode cX9_feed 63 = .ok (.ifCond .eq 7, 3) := by decide +kernel
theorem dX9_feed_66 : decode cX9_feed 66 = .ok (.iconst 1, 1) := by decide +kernel
theorem dX9_feed_67 : decode cX9_feed 67 = .ok (.goto 4, 3) := by decide +kernel
theorem dX9_feed_70 : decode cX9_feed 70 = .ok (.iconst 0, 1) := by decide +kernel
theorem dX9_feed_71 : decode cX9_feed 71 = .ok (.istore 7, 2) := by decide +kernel
theorem dX9_feed_73 : decode cX9_feed 73 = .ok (.iload 7, 2) := by decide +kernel
theorem dX9_feed_75 : decode cX9_feed 75 = .ok (.ifCond .ne 14, 3) := by decide +kernel
theorem dX9_feed_78 : decode cX9_feed 78 = .ok (.aload_n 0, 1) := by decide +kernel
theorem dX9_feed_79 : decode cX9_feed 79 = .ok (.getfield 10, 3) := by decide +kernel
theorem dX9_feed_82 : decode cX9_feed 82 = .ok (.iload 6, 2) := by decide +kernel
theorem dX9_feed_84 : decode cX9_feed 84 = .ok (.putfield 76, 3) := by decide +kernel
theorem dX9_feed_87 : decode cX9_feed 87 = .ok (.iconst (-1), 1) := by decide +kernel
theorem dX9_feed_88 : decode cX9_feed 88 = .ok (.ireturn, 1) := by decide +kernel
theorem dX9_feed_89 : decode cX9_feed 89 = .ok (.aload_n 0, 1) := by decide +kernel
theorem dX9_feed_90 : decode cX9_feed 90 = .ok (.getfield 10, 3) := by decide +kernel
theorem dX9_feed_93 : decode cX9_feed 93 = .ok (.getfield 76, 3) := by decide +kernel
theorem dX9_feed_96 : decode cX9_feed 96 = .ok (.ireturn, 1) := by decide +kernel
theorem dX9_end_0 : decode cX9_end 0 = .ok (.iload_n 1, 1) := by decide +kernel
theorem dX9_end_1 : decode cX9_end 1 = .ok (.ifCond .lt 14, 3) := by decide +kernel
theorem dX9_end_4 : decode cX9_end 4 = .ok (.iload_n 1, 1) := by decide +kernel
theorem dX9_end_5 : decode cX9_end 5 = .ok (.aload_n 0, 1) := by decide +kernel
theorem dX9_end_6 : decode cX9_end 6 = .ok (.getfield 10, 3) := by decide +kernel
theorem dX9_end_9 : decode cX9_end 9 = .ok (.getfield 76, 3) := by decide +kernel
theorem dX9_end_12 : decode cX9_end 12 = .ok (.if_icmp .le 5, 3) := by decide +kernel
theorem dX9_end_15 : decode cX9_end 15 = .ok (.iconst 0, 1) := by decide +kernel
theorem dX9_end_16 : decode cX9_end 16 = .ok (.ireturn, 1) := by decide +kernel
theorem dX9_end_17 : decode cX9_end 17 = .ok (.aload_n 0, 1) := by decide +kernel
theorem dX9_end_18 : decode cX9_end 18 = .ok (.getfield 10, 3) := by decide +kernel
theorem dX9_end_21 : decode cX9_end 21 = .ok (.iload_n 1, 1) := by decide +kernel
theorem dX9_end_22 : decode cX9_end 22 = .ok (.putfield 76, 3) := by decide +kernel
theorem dX9_end_25 : decode cX9_end 25 = .ok (.iconst 1, 1) := by decide +kernel
theorem dX9_end_26 : decode cX9_end 26 = .ok (.ireturn, 1) := by decide +kernel
theorem dX9_fault_0 : decode cX9_fault 0 = .ok (.iload_n 1, 1) := by decide +kernel
theorem dX9_fault_1 : decode cX9_fault 1 = .ok (.tableswitch 88 0 3 #[31, 43, 60, 74], 31) := by decide +kernel
theorem dX9_fault_32 : decode cX9_fault 32 = .ok (.aload_n 0, 1) := by decide +kernel
theorem dX9_fault_33 : decode cX9_fault 33 = .ok (.getfield 10, 3) := by decide +kernel
theorem dX9_fault_36 : decode cX9_fault 36 = .ok (.aload_n 0, 1) := by decide +kernel
theorem dX9_fault_37 : decode cX9_fault 37 = .ok (.getfield 19, 3) := by decide +kernel
theorem dX9_fault_40 : decode cX9_fault 40 = .ok (.invokevirtual 84, 3) := by decide +kernel
theorem dX9_fault_43 : decode cX9_fault 43 = .ok (.ireturn, 1) := by decide +kernel
theorem dX9_fault_44 : decode cX9_fault 44 = .ok (.aload_n 0, 1) := by decide +kernel
theorem dX9_fault_45 : decode cX9_fault 45 = .ok (.getfield 10, 3) := by decide +kernel
theorem dX9_fault_48 : decode cX9_fault 48 = .ok (.aload_n 0, 1) := by decide +kernel
theorem dX9_fault_49 : decode cX9_fault 49 = .ok (.getfield 52, 3) := by decide +kernel
theorem dX9_fault_52 : decode cX9_fault 52 = .ok (.aload_n 0, 1) := by decide +kernel
theorem dX9_fault_53 : decode cX9_fault 53 = .ok (.getfield 88, 3) := by decide +kernel
theorem dX9_fault_56 : decode cX9_fault 56 = .ok (.aaload, 1) := by decide +kernel
theorem dX9_fault_57 : decode cX9_fault 57 = .ok (.invokevirtual 91, 3) := by decide +kernel
theorem dX9_fault_60 : decode cX9_fault 60 = .ok (.ireturn, 1) := by decide +kernel
theorem dX9_fault_61 : decode cX9_fault 61 = .ok (.aload_n 0, 1) := by decide +kernel
theorem dX9_fault_62 : decode cX9_fault 62 = .ok (.getfield 10, 3) := by decide +kernel
theorem dX9_fault_65 : decode cX9_fault 65 = .ok (.aload_n 0, 1) := by decide +kernel
theorem dX9_fault_66 : decode cX9_fault 66 = .ok (.getfield 40, 3) := by decide +kernel
theorem dX9_fault_69 : decode cX9_fault 69 = .ok (.bipush 20, 2) := by decide +kernel
theorem dX9_fault_71 : decode cX9_fault 71 = .ok (.invokevirtual 95, 3) := by decide +kernel
theorem dX9_fault_74 : decode cX9_fault 74 = .ok (.ireturn, 1) := by decide +kernel
theorem dX9_fault_75 : decode cX9_fault 75 = .ok (.aload_n 0, 1) := by decide +kernel
theorem dX9_fault_76 : decode cX9_fault 76 = .ok (.getfield 10, 3) := by decide +kernel
theorem dX9_fault_79 : decode cX9_fault 79 = .ok (.aload_n 0, 1) := by decide +kernel
theorem dX9_fault_80 : decode cX9_fault 80 = .ok (.getfield 40, 3) := by decide +kernel
theorem dX9_fault_83 : decode cX9_fault 83 = .ok (.bipush 6, 2) := by decide +kernel
theorem dX9_fault_85 : decode cX9_fault 85 = .ok (.invokevirtual 95, 3) := by decide +kernel
theorem dX9_fault_88 : decode cX9_fault 88 = .ok (.ireturn, 1) := by decide +kernel
theorem dX9_fault_89 : decode cX9_fault 89 = .ok (.bipush (-2), 2) := by decide +kernel
theorem dX9_fault_91 : decode cX9_fault 91 = .ok (.ireturn, 1) := by decide +kernel
theorem dX9_text_0 : decode cX9_text 0 = .ok (.iload_n 1, 1) := by decide +kernel
theorem dX9_text_1 : decode cX9_text 1 = .ok (.lookupswitch 37 #[(0, 27), (1, 32)], 27) := by decide +kernel
theorem dX9_text_28 : decode cX9_text 28 = .ok (.aload_n 0, 1) := by decide +kernel
theorem dX9_text_29 : decode cX9_text 29 = .ok (.invokevirtual 99, 3) := by decide +kernel
theorem dX9_text_32 : decode cX9_text 32 = .ok (.ireturn, 1) := by decide +kernel
theorem dX9_text_33 : decode cX9_text 33 = .ok (.aload_n 0, 1) := by decide +kernel
theorem dX9_text_34 : decode cX9_text 34 = .ok (.invokevirtual 103, 3) := by decide +kernel
theorem dX9_text_37 : decode cX9_text 37 = .ok (.ireturn, 1) := by decide +kernel
theorem dX9_text_38 : decode cX9_text 38 = .ok (.iconst (-1), 1) := by decide +kernel
theorem dX9_text_39 : decode cX9_text 39 = .ok (.ireturn, 1) := by decide +kernel
theorem dX9_takeStore_0 : decode cX9_takeStore 0 = .ok (.aload_n 0, 1) := by decide +kernel
theorem dX9_takeStore_1 : decode cX9_takeStore 1 = .ok (.getfield 10, 3) := by decide +kernel
theorem dX9_takeStore_4 : decode cX9_takeStore 4 = .ok (.aload_n 0, 1) := by decide +kernel
theorem dX9_takeStore_5 : decode cX9_takeStore 5 = .ok (.getfield 19, 3) := by decide +kernel
theorem dX9_takeStore_8 : decode cX9_takeStore 8 = .ok (.invokevirtual 84, 3) := by decide +kernel
theorem dX9_takeStore_11 : decode cX9_takeStore 11 = .ok (.iconst (-1), 1) := by decide +kernel
theorem dX9_takeStore_12 : decode cX9_takeStore 12 = .ok (.if_icmp .eq 5, 3) := by decide +kernel
theorem dX9_takeStore_15 : decode cX9_takeStore 15 = .ok (.iconst (-1), 1) := by decide +kernel
theorem dX9_takeStore_16 : decode cX9_takeStore 16 = .ok (.ireturn, 1) := by decide +kernel
theorem dX9_takeStore_17 : decode cX9_takeStore 17 = .ok (.aload_n 0, 1) := by decide +kernel
theorem dX9_takeStore_18 : decode cX9_takeStore 18 = .ok (.getfield 10, 3) := by decide +kernel
theorem dX9_takeStore_21 : decode cX9_takeStore 21 = .ok (.iconst 0, 1) := by decide +kernel
theorem dX9_takeStore_22 : decode cX9_takeStore 22 = .ok (.putfield 76, 3) := by decide +kernel
theorem dX9_takeStore_25 : decode cX9_takeStore 25 = .ok (.aload_n 0, 1) := by decide +kernel
theorem dX9_takeStore_26 : decode cX9_takeStore 26 = .ok (.getfield 60, 3) := by decide +kernel
theorem dX9_takeStore_29 : decode cX9_takeStore 29 = .ok (.aload_n 0, 1) := by decide +kernel
theorem dX9_takeStore_30 : decode cX9_takeStore 30 = .ok (.getfield 19, 3) := by decide +kernel
theorem dX9_takeStore_33 : decode cX9_takeStore 33 = .ok (.invokevirtual 106, 3) := by decide +kernel
theorem dX9_takeStore_36 : decode cX9_takeStore 36 = .ok (.aload_n 0, 1) := by decide +kernel
theorem dX9_takeStore_37 : decode cX9_takeStore 37 = .ok (.getfield 33, 3) := by decide +kernel
theorem dX9_takeStore_40 : decode cX9_takeStore 40 = .ok (.iconst 0, 1) := by decide +kernel
theorem dX9_takeStore_41 : decode cX9_takeStore 41 = .ok (.putfield 109, 3) := by decide +kernel
theorem dX9_takeStore_44 : decode cX9_takeStore 44 = .ok (.aload_n 0, 1) := by decide +kernel
theorem dX9_takeStore_45 : decode cX9_takeStore 45 = .ok (.iconst 0, 1) := by decide +kernel
theorem dX9_takeStore_46 : decode cX9_takeStore 46 = .ok (.putfield 110, 3) := by decide +kernel
theorem dX9_takeStore_49 : decode cX9_takeStore 49 = .ok (.aload_n 0, 1) := by decide +kernel
theorem dX9_takeStore_50 : decode cX9_takeStore 50 = .ok (.iconst 0, 1) := by decide +kernel
theorem dX9_takeStore_51 : decode cX9_takeStore 51 = .ok (.putfield 113, 3) := by decide +kernel
theorem dX9_takeStore_54 : decode cX9_takeStore 54 = .ok (.aload_n 0, 1) := by decide +kernel
theorem dX9_takeStore_55 : decode cX9_takeStore 55 = .ok (.invokevirtual 117, 3) := by decide +kernel
theorem dX9_takeStore_58 : decode cX9_takeStore 58 = .ok (.aload_n 0, 1) := by decide +kernel
theorem dX9_takeStore_59 : decode cX9_takeStore 59 = .ok (.getfield 60, 3) := by decide +kernel
theorem dX9_takeStore_62 : decode cX9_takeStore 62 = .ok (.getfield 120, 3) := by decide +kernel
theorem dX9_takeStore_65 : decode cX9_takeStore 65 = .ok (.ireturn, 1) := by decide +kernel
theorem dX9_takeScript_0 : decode cX9_takeScript 0 = .ok (.aload_n 0, 1) := by decide +kernel
theorem dX9_takeScript_1 : decode cX9_takeScript 1 = .ok (.getfield 88, 3) := by decide +kernel
theorem dX9_takeScript_4 : decode cX9_takeScript 4 = .ok (.iconst 4, 1) := by decide +kernel
theorem dX9_takeScript_5 : decode cX9_takeScript 5 = .ok (.if_icmp .ge 23, 3) := by decide +kernel
theorem dX9_takeScript_8 : decode cX9_takeScript 8 = .ok (.aload_n 0, 1) := by decide +kernel
theorem dX9_takeScript_9 : decode cX9_takeScript 9 = .ok (.getfield 10, 3) := by decide +kernel
theorem dX9_takeScript_12 : decode cX9_takeScript 12 = .ok (.aload_n 0, 1) := by decide +kernel
theorem dX9_takeScript_13 : decode cX9_takeScript 13 = .ok (.getfield 52, 3) := by decide +kernel
theorem dX9_takeScript_16 : decode cX9_takeScript 16 = .ok (.aload_n 0, 1) := by decide +kernel
theorem dX9_takeScript_17 : decode cX9_takeScript 17 = .ok (.getfield 88, 3) := by decide +kernel
theorem dX9_takeScript_20 : decode cX9_takeScript 20 = .ok (.aaload, 1) := by decide +kernel
theorem dX9_takeScript_21 : decode cX9_takeScript 21 = .ok (.invokevirtual 91, 3) := by decide +kernel
theorem dX9_takeScript_24 : decode cX9_takeScript 24 = .ok (.iconst (-1), 1) := by decide +kernel
theorem dX9_takeScript_25 : decode cX9_takeScript 25 = .ok (.if_icmp .eq 5, 3) := by decide +kernel
theorem dX9_takeScript_28 : decode cX9_takeScript 28 = .ok (.iconst (-1), 1) := by decide +kernel
theorem dX9_takeScript_29 : decode cX9_takeScript 29 = .ok (.ireturn, 1) := by decide +kernel
theorem dX9_takeScript_30 : decode cX9_takeScript 30 = .ok (.aload_n 0, 1) := by decide +kernel
theorem dX9_takeScript_31 : decode cX9_takeScript 31 = .ok (.getfield 10, 3) := by decide +kernel
theorem dX9_takeScript_34 : decode cX9_takeScript 34 = .ok (.iconst 0, 1) := by decide +kernel
theorem dX9_takeScript_35 : decode cX9_takeScript 35 = .ok (.putfield 76, 3) := by decide +kernel
theorem dX9_takeScript_38 : decode cX9_takeScript 38 = .ok (.aload_n 0, 1) := by decide +kernel
theorem dX9_takeScript_39 : decode cX9_takeScript 39 = .ok (.dup, 1) := by decide +kernel
theorem dX9_takeScript_40 : decode cX9_takeScript 40 = .ok (.getfield 88, 3) := by decide +kernel
theorem dX9_takeScript_43 : decode cX9_takeScript 43 = .ok (.iconst 1, 1) := by decide +kernel
theorem dX9_takeScript_44 : decode cX9_takeScript 44 = .ok (.iadd, 1) := by decide +kernel
theorem dX9_takeScript_45 : decode cX9_takeScript 45 = .ok (.putfield 88, 3) := by decide +kernel
theorem dX9_takeScript_48 : decode cX9_takeScript 48 = .ok (.aload_n 0, 1) := by decide +kernel
theorem dX9_takeScript_49 : decode cX9_takeScript 49 = .ok (.getfield 88, 3) := by decide +kernel
theorem dX9_takeScript_52 : decode cX9_takeScript 52 = .ok (.iconst 1, 1) := by decide +kernel
theorem dX9_takeScript_53 : decode cX9_takeScript 53 = .ok (.isub, 1) := by decide +kernel
theorem dX9_takeScript_54 : decode cX9_takeScript 54 = .ok (.ireturn, 1) := by decide +kernel
theorem dX9_word_0 : decode cX9_word 0 = .ok (.aload_n 0, 1) := by decide +kernel
theorem dX9_word_1 : decode cX9_word 1 = .ok (.getfield 60, 3) := by decide +kernel
theorem dX9_word_4 : decode cX9_word 4 = .ok (.getfield 120, 3) := by decide +kernel
theorem dX9_word_7 : decode cX9_word 7 = .ok (.ifCond .eq 20, 3) := by decide +kernel
theorem dX9_word_10 : decode cX9_word 10 = .ok (.aload_n 0, 1) := by decide +kernel
theorem dX9_word_11 : decode cX9_word 11 = .ok (.getfield 10, 3) := by decide +kernel
theorem dX9_word_14 : decode cX9_word 14 = .ok (.aload_n 0, 1) := by decide +kernel
theorem dX9_word_15 : decode cX9_word 15 = .ok (.getfield 40, 3) := by decide +kernel
theorem dX9_word_18 : decode cX9_word 18 = .ok (.bipush 6, 2) := by decide +kernel
theorem dX9_word_20 : decode cX9_word 20 = .ok (.invokevirtual 95, 3) := by decide +kernel
theorem dX9_word_23 : decode cX9_word 23 = .ok (.iconst (-1), 1) := by decide +kernel
theorem dX9_word_24 : decode cX9_word 24 = .ok (.if_icmp .eq 5, 3) := by decide +kernel
theorem dX9_word_27 : decode cX9_word 27 = .ok (.iconst (-1), 1) := by decide +kernel
theorem dX9_word_28 : decode cX9_word 28 = .ok (.ireturn, 1) := by decide +kernel
theorem dX9_word_29 : decode cX9_word 29 = .ok (.aload_n 0, 1) := by decide +kernel
theorem dX9_word_30 : decode cX9_word 30 = .ok (.getfield 10, 3) := by decide +kernel
theorem dX9_word_33 : decode cX9_word 33 = .ok (.iconst 0, 1) := by decide +kernel
theorem dX9_word_34 : decode cX9_word 34 = .ok (.putfield 76, 3) := by decide +kernel
theorem dX9_word_37 : decode cX9_word 37 = .ok (.aload_n 0, 1) := by decide +kernel
theorem dX9_word_38 : decode cX9_word 38 = .ok (.getfield 33, 3) := by decide +kernel
theorem dX9_word_41 : decode cX9_word 41 = .ok (.aload_n 0, 1) := by decide +kernel
theorem dX9_word_42 : decode cX9_word 42 = .ok (.getfield 40, 3) := by decide +kernel
theorem dX9_word_45 : decode cX9_word 45 = .ok (.invokevirtual 123, 3) := by decide +kernel
theorem dX9_word_48 : decode cX9_word 48 = .ok (.aload_n 0, 1) := by decide +kernel
theorem dX9_word_49 : decode cX9_word 49 = .ok (.invokevirtual 117, 3) := by decide +kernel
theorem dX9_word_52 : decode cX9_word 52 = .ok (.aload_n 0, 1) := by decide +kernel
theorem dX9_word_53 : decode cX9_word 53 = .ok (.invokevirtual 126, 3) := by decide +kernel
theorem dX9_word_56 : decode cX9_word 56 = .ok (.getfield 130, 3) := by decide +kernel
theorem dX9_word_59 : decode cX9_word 59 = .ok (.ireturn, 1) := by decide +kernel
theorem dX9_rule_0 : decode cX9_rule 0 = .ok (.aload_n 0, 1) := by decide +kernel
theorem dX9_rule_1 : decode cX9_rule 1 = .ok (.getfield 60, 3) := by decide +kernel
theorem dX9_rule_4 : decode cX9_rule 4 = .ok (.getfield 120, 3) := by decide +kernel
theorem dX9_rule_7 : decode cX9_rule 7 = .ok (.ifCond .ne 5, 3) := by decide +kernel
theorem dX9_rule_10 : decode cX9_rule 10 = .ok (.iconst (-1), 1) := by decide +kernel
theorem dX9_rule_11 : decode cX9_rule 11 = .ok (.ireturn, 1) := by decide +kernel
theorem dX9_rule_12 : decode cX9_rule 12 = .ok (.iload_n 1, 1) := by decide +kernel
theorem dX9_rule_13 : decode cX9_rule 13 = .ok (.tableswitch 63 0 3 #[31, 39, 47, 55], 31) := by decide +kernel
theorem dX9_rule_44 : decode cX9_rule 44 = .ok (.aload_n 0, 1) := by decide +kernel
theorem dX9_rule_45 : decode cX9_rule 45 = .ok (.getfield 60, 3) := by decide +kernel
theorem dX9_rule_48 : decode cX9_rule 48 = .ok (.getfield 120, 3) := by decide +kernel
theorem dX9_rule_51 : decode cX9_rule 51 = .ok (.ireturn, 1) := by decide +kernel
theorem dX9_rule_52 : decode cX9_rule 52 = .ok (.aload_n 0, 1) := by decide +kernel
theorem dX9_rule_53 : decode cX9_rule 53 = .ok (.getfield 60, 3) := by decide +kernel
theorem dX9_rule_56 : decode cX9_rule 56 = .ok (.invokevirtual 131, 3) := by decide +kernel
theorem dX9_rule_59 : decode cX9_rule 59 = .ok (.ireturn, 1) := by decide +kernel
theorem dX9_rule_60 : decode cX9_rule 60 = .ok (.aload_n 0, 1) := by decide +kernel
theorem dX9_rule_61 : decode cX9_rule 61 = .ok (.invokevirtual 126, 3) := by decide +kernel
theorem dX9_rule_64 : decode cX9_rule 64 = .ok (.getfield 130, 3) := by decide +kernel
theorem dX9_rule_67 : decode cX9_rule 67 = .ok (.ireturn, 1) := by decide +kernel
theorem dX9_rule_68 : decode cX9_rule 68 = .ok (.aload_n 0, 1) := by decide +kernel
theorem dX9_rule_69 : decode cX9_rule 69 = .ok (.getfield 33, 3) := by decide +kernel
theorem dX9_rule_72 : decode cX9_rule 72 = .ok (.getfield 109, 3) := by decide +kernel
theorem dX9_rule_75 : decode cX9_rule 75 = .ok (.ireturn, 1) := by decide +kernel
theorem dX9_rule_76 : decode cX9_rule 76 = .ok (.iconst (-1), 1) := by decide +kernel
theorem dX9_rule_77 : decode cX9_rule 77 = .ok (.ireturn, 1) := by decide +kernel
theorem dX9_line_0 : decode cX9_line 0 = .ok (.aload_n 0, 1) := by decide +kernel
theorem dX9_line_1 : decode cX9_line 1 = .ok (.getfield 60, 3) := by decide +kernel
theorem dX9_line_4 : decode cX9_line 4 = .ok (.iload_n 1, 1) := by decide +kernel
theorem dX9_line_5 : decode cX9_line 5 = .ok (.invokevirtual 134, 3) := by decide +kernel
theorem dX9_line_8 : decode cX9_line 8 = .ok (.ifCond .eq 12, 3) := by decide +kernel
theorem dX9_line_11 : decode cX9_line 11 = .ok (.iload_n 2, 1) := by decide +kernel
theorem dX9_line_12 : decode cX9_line 12 = .ok (.ifCond .lt 8, 3) := by decide +kernel
theorem dX9_line_15 : decode cX9_line 15 = .ok (.iload_n 2, 1) := by decide +kernel
theorem dX9_line_16 : decode cX9_line 16 = .ok (.iconst 1, 1) := by decide +kernel
theorem dX9_line_17 : decode cX9_line 17 = .ok (.if_icmp .le 11, 3) := by decide +kernel
theorem dX9_line_20 : decode cX9_line 20 = .ok (.new 137, 3) := by decide +kernel
theorem dX9_line_23 : decode cX9_line 23 = .ok (.dup, 1) := by decide +kernel
theorem dX9_line_24 : decode cX9_line 24 = .ok (.invokespecial 139, 3) := by decide +kernel
theorem dX9_line_27 : decode cX9_line 27 = .ok (.athrow, 1) := by decide +kernel
theorem dX9_line_28 : decode cX9_line 28 = .ok (.iload_n 2, 1) := by decide +kernel
theorem dX9_line_29 : decode cX9_line 29 = .ok (.ifCond .ne 18, 3) := by decide +kernel
theorem dX9_line_32 : decode cX9_line 32 = .ok (.aload_n 0, 1) := by decide +kernel
theorem dX9_line_33 : decode cX9_line 33 = .ok (.getfield 60, 3) := by decide +kernel
theorem dX9_line_36 : decode cX9_line 36 = .ok (.getfield 140, 3) := by decide +kernel
theorem dX9_line_39 : decode cX9_line 39 = .ok (.iload_n 1, 1) := by decide +kernel
theorem dX9_line_40 : decode cX9_line 40 = .ok (.aaload, 1) := by decide +kernel
theorem dX9_line_41 : decode cX9_line 41 = .ok (.getfield 144, 3) := by decide +kernel
theorem dX9_line_44 : decode cX9_line 44 = .ok (.goto 18, 3) := by decide +kernel
theorem dX9_line_47 : decode cX9_line 47 = .ok (.aload_n 0, 1) := by decide +kernel
theorem dX9_line_48 : decode cX9_line 48 = .ok (.getfield 60, 3) := by decide +kernel
theorem dX9_line_51 : decode cX9_line 51 = .ok (.getfield 140, 3) := by decide +kernel
theorem dX9_line_54 : decode cX9_line 54 = .ok (.iload_n 1, 1) := by decide +kernel
theorem dX9_line_55 : decode cX9_line 55 = .ok (.aaload, 1) := by decide +kernel
theorem dX9_line_56 : decode cX9_line 56 = .ok (.getfield 149, 3) := by decide +kernel
theorem dX9_line_59 : decode cX9_line 59 = .ok (.getfield 109, 3) := by decide +kernel
theorem dX9_line_62 : decode cX9_line 62 = .ok (.ireturn, 1) := by decide +kernel
theorem dX9_sign_0 : decode cX9_sign 0 = .ok (.aload_n 0, 1) := by decide +kernel
theorem dX9_sign_1 : decode cX9_sign 1 = .ok (.getfield 60, 3) := by decide +kernel
theorem dX9_sign_4 : decode cX9_sign 4 = .ok (.iload_n 1, 1) := by decide +kernel
theorem dX9_sign_5 : decode cX9_sign 5 = .ok (.invokevirtual 134, 3) := by decide +kernel
theorem dX9_sign_8 : decode cX9_sign 8 = .ok (.ifCond .eq 22, 3) := by decide +kernel
theorem dX9_sign_11 : decode cX9_sign 11 = .ok (.aload_n 0, 1) := by decide +kernel
theorem dX9_sign_12 : decode cX9_sign 12 = .ok (.getfield 60, 3) := by decide +kernel
theorem dX9_sign_15 : decode cX9_sign 15 = .ok (.getfield 140, 3) := by decide +kernel
theorem dX9_sign_18 : decode cX9_sign 18 = .ok (.iload_n 1, 1) := by decide +kernel
theorem dX9_sign_19 : decode cX9_sign 19 = .ok (.aaload, 1) := by decide +kernel
theorem dX9_sign_20 : decode cX9_sign 20 = .ok (.getfield 149, 3) := by decide +kernel
theorem dX9_sign_23 : decode cX9_sign 23 = .ok (.iload_n 2, 1) := by decide +kernel
theorem dX9_sign_24 : decode cX9_sign 24 = .ok (.invokevirtual 152, 3) := by decide +kernel
theorem dX9_sign_27 : decode cX9_sign 27 = .ok (.goto 4, 3) := by decide +kernel
theorem dX9_sign_30 : decode cX9_sign 30 = .ok (.iconst (-1), 1) := by decide +kernel
theorem dX9_sign_31 : decode cX9_sign 31 = .ok (.ireturn, 1) := by decide +kernel
theorem dX9_hit_0 : decode cX9_hit 0 = .ok (.aload_n 0, 1) := by decide +kernel
theorem dX9_hit_1 : decode cX9_hit 1 = .ok (.invokevirtual 126, 3) := by decide +kernel
theorem dX9_hit_4 : decode cX9_hit 4 = .ok (.astore_n 3, 1) := by decide +kernel
theorem dX9_hit_5 : decode cX9_hit 5 = .ok (.aload_n 3, 1) := by decide +kernel
theorem dX9_hit_6 : decode cX9_hit 6 = .ok (.iload_n 1, 1) := by decide +kernel
theorem dX9_hit_7 : decode cX9_hit 7 = .ok (.invokevirtual 156, 3) := by decide +kernel
theorem dX9_hit_10 : decode cX9_hit 10 = .ok (.ifCond .ne 5, 3) := by decide +kernel
theorem dX9_hit_13 : decode cX9_hit 13 = .ok (.iconst (-1), 1) := by decide +kernel
theorem dX9_hit_14 : decode cX9_hit 14 = .ok (.ireturn, 1) := by decide +kernel
theorem dX9_hit_15 : decode cX9_hit 15 = .ok (.iload_n 2, 1) := by decide +kernel
theorem dX9_hit_16 : decode cX9_hit 16 = .ok (.tableswitch 58 0 3 #[32, 38, 44, 38], 32) := by decide +kernel
theorem dX9_hit_48 : decode cX9_hit 48 = .ok (.aload_n 3, 1) := by decide +kernel
theorem dX9_hit_49 : decode cX9_hit 49 = .ok (.iload_n 1, 1) := by decide +kernel
theorem dX9_hit_50 : decode cX9_hit 50 = .ok (.invokevirtual 159, 3) := by decide +kernel
theorem dX9_hit_53 : decode cX9_hit 53 = .ok (.ireturn, 1) := by decide +kernel
theorem dX9_hit_54 : decode cX9_hit 54 = .ok (.aload_n 3, 1) := by decide +kernel
theorem dX9_hit_55 : decode cX9_hit 55 = .ok (.iload_n 1, 1) := by decide +kernel
theorem dX9_hit_56 : decode cX9_hit 56 = .ok (.invokevirtual 162, 3) := by decide +kernel
theorem dX9_hit_59 : decode cX9_hit 59 = .ok (.ireturn, 1) := by decide +kernel
theorem dX9_hit_60 : decode cX9_hit 60 = .ok (.aload_n 3, 1) := by decide +kernel
theorem dX9_hit_61 : decode cX9_hit 61 = .ok (.iload_n 1, 1) := by decide +kernel
theorem dX9_hit_62 : decode cX9_hit 62 = .ok (.invokevirtual 165, 3) := by decide +kernel
theorem dX9_hit_65 : decode cX9_hit 65 = .ok (.aload_n 0, 1) := by decide +kernel
theorem dX9_hit_66 : decode cX9_hit 66 = .ok (.getfield 33, 3) := by decide +kernel
theorem dX9_hit_69 : decode cX9_hit 69 = .ok (.getfield 109, 3) := by decide +kernel
theorem dX9_hit_72 : decode cX9_hit 72 = .ok (.isub, 1) := by decide +kernel
theorem dX9_hit_73 : decode cX9_hit 73 = .ok (.ireturn, 1) := by decide +kernel
theorem dX9_hit_74 : decode cX9_hit 74 = .ok (.iconst (-1), 1) := by decide +kernel
theorem dX9_hit_75 : decode cX9_hit 75 = .ok (.ireturn, 1) := by decide +kernel
theorem dX9_rank_0 : decode cX9_rank 0 = .ok (.aload_n 0, 1) := by decide +kernel
theorem dX9_rank_1 : decode cX9_rank 1 = .ok (.invokevirtual 126, 3) := by decide +kernel
theorem dX9_rank_4 : decode cX9_rank 4 = .ok (.iload_n 1, 1) := by decide +kernel
theorem dX9_rank_5 : decode cX9_rank 5 = .ok (.iload_n 2, 1) := by decide +kernel
theorem dX9_rank_6 : decode cX9_rank 6 = .ok (.invokevirtual 168, 3) := by decide +kernel
theorem dX9_rank_9 : decode cX9_rank 9 = .ok (.ireturn, 1) := by decide +kernel
theorem dX9_all_0 : decode cX9_all 0 = .ok (.aload_n 0, 1) := by decide +kernel
theorem dX9_all_1 : decode cX9_all 1 = .ok (.invokevirtual 172, 3) := by decide +kernel
theorem dX9_all_4 : decode cX9_all 4 = .ok (.astore_n 3, 1) := by decide +kernel
theorem dX9_all_5 : decode cX9_all 5 = .ok (.aload_n 3, 1) := by decide +kernel
theorem dX9_all_6 : decode cX9_all 6 = .ok (.iload_n 1, 1) := by decide +kernel
theorem dX9_all_7 : decode cX9_all 7 = .ok (.invokevirtual 156, 3) := by decide +kernel
theorem dX9_all_10 : decode cX9_all 10 = .ok (.ifCond .ne 5, 3) := by decide +kernel
theorem dX9_all_13 : decode cX9_all 13 = .ok (.iconst (-1), 1) := by decide +kernel
theorem dX9_all_14 : decode cX9_all 14 = .ok (.ireturn, 1) := by decide +kernel
theorem dX9_all_15 : decode cX9_all 15 = .ok (.iload_n 2, 1) := by decide +kernel
theorem dX9_all_16 : decode cX9_all 16 = .ok (.tableswitch 46 0 2 #[28, 34, 40], 28) := by decide +kernel
theorem dX9_all_44 : decode cX9_all 44 = .ok (.aload_n 3, 1) := by decide +kernel
theorem dX9_all_45 : decode cX9_all 45 = .ok (.iload_n 1, 1) := by decide +kernel
theorem dX9_all_46 : decode cX9_all 46 = .ok (.invokevirtual 159, 3) := by decide +kernel
theorem dX9_all_49 : decode cX9_all 49 = .ok (.ireturn, 1) := by decide +kernel
theorem dX9_all_50 : decode cX9_all 50 = .ok (.aload_n 3, 1) := by decide +kernel
theorem dX9_all_51 : decode cX9_all 51 = .ok (.iload_n 1, 1) := by decide +kernel
theorem dX9_all_52 : decode cX9_all 52 = .ok (.invokevirtual 162, 3) := by decide +kernel
theorem dX9_all_55 : decode cX9_all 55 = .ok (.ireturn, 1) := by decide +kernel
theorem dX9_all_56 : decode cX9_all 56 = .ok (.aload_n 3, 1) := by decide +kernel
theorem dX9_all_57 : decode cX9_all 57 = .ok (.iload_n 1, 1) := by decide +kernel
theorem dX9_all_58 : decode cX9_all 58 = .ok (.invokevirtual 175, 3) := by decide +kernel
theorem dX9_all_61 : decode cX9_all 61 = .ok (.ireturn, 1) := by decide +kernel
theorem dX9_all_62 : decode cX9_all 62 = .ok (.iconst (-1), 1) := by decide +kernel
theorem dX9_all_63 : decode cX9_all 63 = .ok (.ireturn, 1) := by decide +kernel
theorem dX9_twice_0 : decode cX9_twice 0 = .ok (.aload_n 0, 1) := by decide +kernel
theorem dX9_twice_1 : decode cX9_twice 1 = .ok (.invokevirtual 172, 3) := by decide +kernel
theorem dX9_twice_4 : decode cX9_twice 4 = .ok (.astore_n 2, 1) := by decide +kernel
theorem dX9_twice_5 : decode cX9_twice 5 = .ok (.aload_n 2, 1) := by decide +kernel
theorem dX9_twice_6 : decode cX9_twice 6 = .ok (.invokevirtual 178, 3) := by decide +kernel
theorem dX9_twice_9 : decode cX9_twice 9 = .ok (.istore_n 3, 1) := by decide +kernel
theorem dX9_twice_10 : decode cX9_twice 10 = .ok (.iload_n 1, 1) := by decide +kernel
theorem dX9_twice_11 : decode cX9_twice 11 = .ok (.lookupswitch 33 #[(0, 25), (1, 27)], 25) := by decide +kernel
theorem dX9_twice_36 : decode cX9_twice 36 = .ok (.iload_n 3, 1) := by decide +kernel
theorem dX9_twice_37 : decode cX9_twice 37 = .ok (.ireturn, 1) := by decide +kernel
theorem dX9_twice_38 : decode cX9_twice 38 = .ok (.aload_n 2, 1) := by decide +kernel
theorem dX9_twice_39 : decode cX9_twice 39 = .ok (.iload_n 3, 1) := by decide +kernel
theorem dX9_twice_40 : decode cX9_twice 40 = .ok (.invokevirtual 175, 3) := by decide +kernel
theorem dX9_twice_43 : decode cX9_twice 43 = .ok (.ireturn, 1) := by decide +kernel
theorem dX9_twice_44 : decode cX9_twice 44 = .ok (.iconst (-1), 1) := by decide +kernel
theorem dX9_twice_45 : decode cX9_twice 45 = .ok (.ireturn, 1) := by decide +kernel
theorem dX9_unlike_0 : decode cX9_unlike 0 = .ok (.aload_n 0, 1) := by decide +kernel
theorem dX9_unlike_1 : decode cX9_unlike 1 = .ok (.getfield 60, 3) := by decide +kernel
theorem dX9_unlike_4 : decode cX9_unlike 4 = .ok (.getfield 120, 3) := by decide +kernel
theorem dX9_unlike_7 : decode cX9_unlike 7 = .ok (.ifCond .eq 14, 3) := by decide +kernel
theorem dX9_unlike_10 : decode cX9_unlike 10 = .ok (.iload_n 1, 1) := by decide +kernel
theorem dX9_unlike_11 : decode cX9_unlike 11 = .ok (.iconst 1, 1) := by decide +kernel
theorem dX9_unlike_12 : decode cX9_unlike 12 = .ok (.if_icmp .lt 9, 3) := by decide +kernel
theorem dX9_unlike_15 : decode cX9_unlike 15 = .ok (.iload_n 1, 1) := by decide +kernel
theorem dX9_unlike_16 : decode cX9_unlike 16 = .ok (.bipush 6, 2) := by decide +kernel
theorem dX9_unlike_18 : decode cX9_unlike 18 = .ok (.if_icmp .le 5, 3) := by decide +kernel
theorem dX9_unlike_21 : decode cX9_unlike 21 = .ok (.iconst (-1), 1) := by decide +kernel
theorem dX9_unlike_22 : decode cX9_unlike 22 = .ok (.ireturn, 1) := by decide +kernel
theorem dX9_unlike_23 : decode cX9_unlike 23 = .ok (.aload_n 0, 1) := by decide +kernel
theorem dX9_unlike_24 : decode cX9_unlike 24 = .ok (.invokevirtual 172, 3) := by decide +kernel
theorem dX9_unlike_27 : decode cX9_unlike 27 = .ok (.astore_n 2, 1) := by decide +kernel
theorem dX9_unlike_28 : decode cX9_unlike 28 = .ok (.iconst 0, 1) := by decide +kernel
theorem dX9_unlike_29 : decode cX9_unlike 29 = .ok (.istore_n 3, 1) := by decide +kernel
theorem dX9_unlike_30 : decode cX9_unlike 30 = .ok (.iconst 0, 1) := by decide +kernel
theorem dX9_unlike_31 : decode cX9_unlike 31 = .ok (.istore 4, 2) := by decide +kernel
theorem dX9_unlike_33 : decode cX9_unlike 33 = .ok (.iload 4, 2) := by decide +kernel
theorem dX9_unlike_35 : decode cX9_unlike 35 = .ok (.aload_n 2, 1) := by decide +kernel
theorem dX9_unlike_36 : decode cX9_unlike 36 = .ok (.getfield 130, 3) := by decide +kernel
theorem dX9_unlike_39 : decode cX9_unlike 39 = .ok (.if_icmp .ge 22, 3) := by decide +kernel
theorem dX9_unlike_42 : decode cX9_unlike 42 = .ok (.aload_n 2, 1) := by decide +kernel
theorem dX9_unlike_43 : decode cX9_unlike 43 = .ok (.iload 4, 2) := by decide +kernel
theorem dX9_unlike_45 : decode cX9_unlike 45 = .ok (.iload_n 1, 1) := by decide +kernel
theorem dX9_unlike_46 : decode cX9_unlike 46 = .ok (.invokevirtual 181, 3) := by decide +kernel
theorem dX9_unlike_49 : decode cX9_unlike 49 = .ok (.ifCond .eq 6, 3) := by decide +kernel
theorem dX9_unlike_52 : decode cX9_unlike 52 = .ok (.iinc 3 1, 3) := by decide +kernel
theorem dX9_unlike_55 : decode cX9_unlike 55 = .ok (.iinc 4 1, 3) := by decide +kernel
theorem dX9_unlike_58 : decode cX9_unlike 58 = .ok (.goto (-25), 3) := by decide +kernel
theorem dX9_unlike_61 : decode cX9_unlike 61 = .ok (.iload_n 3, 1) := by decide +kernel
theorem dX9_unlike_62 : decode cX9_unlike 62 = .ok (.ireturn, 1) := by decide +kernel
theorem dX9_frequent_0 : decode cX9_frequent 0 = .ok (.iload_n 1, 1) := by decide +kernel
theorem dX9_frequent_1 : decode cX9_frequent 1 = .ok (.iconst 1, 1) := by decide +kernel
theorem dX9_frequent_2 : decode cX9_frequent 2 = .ok (.if_icmp .lt 9, 3) := by decide +kernel
theorem dX9_frequent_5 : decode cX9_frequent 5 = .ok (.iload_n 1, 1) := by decide +kernel
theorem dX9_frequent_6 : decode cX9_frequent 6 = .ok (.bipush 6, 2) := by decide +kernel
theorem dX9_frequent_8 : decode cX9_frequent 8 = .ok (.if_icmp .le 5, 3) := by decide +kernel
theorem dX9_frequent_11 : decode cX9_frequent 11 = .ok (.iconst (-1), 1) := by decide +kernel
theorem dX9_frequent_12 : decode cX9_frequent 12 = .ok (.ireturn, 1) := by decide +kernel
theorem dX9_frequent_13 : decode cX9_frequent 13 = .ok (.aload_n 0, 1) := by decide +kernel
theorem dX9_frequent_14 : decode cX9_frequent 14 = .ok (.invokevirtual 172, 3) := by decide +kernel
theorem dX9_frequent_17 : decode cX9_frequent 17 = .ok (.astore_n 3, 1) := by decide +kernel
theorem dX9_frequent_18 : decode cX9_frequent 18 = .ok (.aload_n 3, 1) := by decide +kernel
theorem dX9_frequent_19 : decode cX9_frequent 19 = .ok (.iload_n 1, 1) := by decide +kernel
theorem dX9_frequent_20 : decode cX9_frequent 20 = .ok (.invokevirtual 185, 3) := by decide +kernel
theorem dX9_frequent_23 : decode cX9_frequent 23 = .ok (.istore 4, 2) := by decide +kernel
theorem dX9_frequent_25 : decode cX9_frequent 25 = .ok (.iload 4, 2) := by decide +kernel
theorem dX9_frequent_27 : decode cX9_frequent 27 = .ok (.iconst (-1), 1) := by decide +kernel
theorem dX9_frequent_28 : decode cX9_frequent 28 = .ok (.if_icmp .ne 5, 3) := by decide +kernel
theorem dX9_frequent_31 : decode cX9_frequent 31 = .ok (.iconst (-1), 1) := by decide +kernel
theorem dX9_frequent_32 : decode cX9_frequent 32 = .ok (.ireturn, 1) := by decide +kernel
theorem dX9_frequent_33 : decode cX9_frequent 33 = .ok (.iload_n 2, 1) := by decide +kernel
theorem dX9_frequent_34 : decode cX9_frequent 34 = .ok (.tableswitch 48 0 2 #[26, 34, 41], 26) := by decide +kernel
theorem dX9_frequent_60 : decode cX9_frequent 60 = .ok (.aload_n 3, 1) := by decide +kernel
theorem dX9_frequent_61 : decode cX9_frequent 61 = .ok (.iload 4, 2) := by decide +kernel
theorem dX9_frequent_63 : decode cX9_frequent 63 = .ok (.iload_n 1, 1) := by decide +kernel
theorem dX9_frequent_64 : decode cX9_frequent 64 = .ok (.invokevirtual 188, 3) := by decide +kernel
theorem dX9_frequent_67 : decode cX9_frequent 67 = .ok (.ireturn, 1) := by decide +kernel
theorem dX9_frequent_68 : decode cX9_frequent 68 = .ok (.aload_n 3, 1) := by decide +kernel
theorem dX9_frequent_69 : decode cX9_frequent 69 = .ok (.iload 4, 2) := by decide +kernel
theorem dX9_frequent_71 : decode cX9_frequent 71 = .ok (.invokevirtual 159, 3) := by decide +kernel
theorem dX9_frequent_74 : decode cX9_frequent 74 = .ok (.ireturn, 1) := by decide +kernel
theorem dX9_frequent_75 : decode cX9_frequent 75 = .ok (.aload_n 3, 1) := by decide +kernel
theorem dX9_frequent_76 : decode cX9_frequent 76 = .ok (.iload 4, 2) := by decide +kernel
theorem dX9_frequent_78 : decode cX9_frequent 78 = .ok (.invokevirtual 162, 3) := by decide +kernel
theorem dX9_frequent_81 : decode cX9_frequent 81 = .ok (.ireturn, 1) := by decide +kernel
theorem dX9_frequent_82 : decode cX9_frequent 82 = .ok (.iconst (-1), 1) := by decide +kernel
theorem dX9_frequent_83 : decode cX9_frequent 83 = .ok (.ireturn, 1) := by decide +kernel
theorem dX9_few_0 : decode cX9_few 0 = .ok (.aload_n 0, 1) := by decide +kernel
theorem dX9_few_1 : decode cX9_few 1 = .ok (.invokevirtual 172, 3) := by decide +kernel
theorem dX9_few_4 : decode cX9_few 4 = .ok (.astore_n 3, 1) := by decide +kernel
theorem dX9_few_5 : decode cX9_few 5 = .ok (.aload_n 3, 1) := by decide +kernel
theorem dX9_few_6 : decode cX9_few 6 = .ok (.iload_n 1, 1) := by decide +kernel
theorem dX9_few_7 : decode cX9_few 7 = .ok (.iload_n 2, 1) := by decide +kernel
theorem dX9_few_8 : decode cX9_few 8 = .ok (.invokevirtual 168, 3) := by decide +kernel
theorem dX9_few_11 : decode cX9_few 11 = .ok (.istore 4, 2) := by decide +kernel
theorem dX9_few_13 : decode cX9_few 13 = .ok (.iload 4, 2) := by decide +kernel
theorem dX9_few_15 : decode cX9_few 15 = .ok (.iconst (-1), 1) := by decide +kernel
theorem dX9_few_16 : decode cX9_few 16 = .ok (.if_icmp .ne 5, 3) := by decide +kernel
theorem dX9_few_19 : decode cX9_few 19 = .ok (.iconst (-1), 1) := by decide +kernel
theorem dX9_few_20 : decode cX9_few 20 = .ok (.ireturn, 1) := by decide +kernel
theorem dX9_few_21 : decode cX9_few 21 = .ok (.iconst 0, 1) := by decide +kernel
theorem dX9_few_22 : decode cX9_few 22 = .ok (.aload_n 3, 1) := by decide +kernel
theorem dX9_few_23 : decode cX9_few 23 = .ok (.iload 4, 2) := by decide +kernel
theorem dX9_few_25 : decode cX9_few 25 = .ok (.iconst 1, 1) := by decide +kernel
theorem dX9_few_26 : decode cX9_few 26 = .ok (.isub, 1) := by decide +kernel
theorem dX9_few_27 : decode cX9_few 27 = .ok (.invokevirtual 175, 3) := by decide +kernel
theorem dX9_few_30 : decode cX9_few 30 = .ok (.aload_n 3, 1) := by decide +kernel
theorem dX9_few_31 : decode cX9_few 31 = .ok (.iload 4, 2) := by decide +kernel
theorem dX9_few_33 : decode cX9_few 33 = .ok (.invokevirtual 175, 3) := by decide +kernel
theorem dX9_few_36 : decode cX9_few 36 = .ok (.invokestatic 191, 3) := by decide +kernel
theorem dX9_few_39 : decode cX9_few 39 = .ok (.invokestatic 191, 3) := by decide +kernel
theorem dX9_few_42 : decode cX9_few 42 = .ok (.istore 5, 2) := by decide +kernel
theorem dX9_few_44 : decode cX9_few 44 = .ok (.iload 5, 2) := by decide +kernel
theorem dX9_few_46 : decode cX9_few 46 = .ok (.aload_n 3, 1) := by decide +kernel
theorem dX9_few_47 : decode cX9_few 47 = .ok (.iload 4, 2) := by decide +kernel
theorem dX9_few_49 : decode cX9_few 49 = .ok (.invokevirtual 165, 3) := by decide +kernel
theorem dX9_few_52 : decode cX9_few 52 = .ok (.if_icmp .ge 10, 3) := by decide +kernel
theorem dX9_few_55 : decode cX9_few 55 = .ok (.iload 5, 2) := by decide +kernel
theorem dX9_few_57 : decode cX9_few 57 = .ok (.iconst 1, 1) := by decide +kernel
theorem dX9_few_58 : decode cX9_few 58 = .ok (.iadd, 1) := by decide +kernel
theorem dX9_few_59 : decode cX9_few 59 = .ok (.goto 4, 3) := by decide +kernel
theorem dX9_few_62 : decode cX9_few 62 = .ok (.iconst (-1), 1) := by decide +kernel
theorem dX9_few_63 : decode cX9_few 63 = .ok (.ireturn, 1) := by decide +kernel
theorem dX9_beside_0 : decode cX9_beside 0 = .ok (.aload_n 0, 1) := by decide +kernel
theorem dX9_beside_1 : decode cX9_beside 1 = .ok (.getfield 33, 3) := by decide +kernel
theorem dX9_beside_4 : decode cX9_beside 4 = .ok (.getfield 109, 3) := by decide +kernel
theorem dX9_beside_7 : decode cX9_beside 7 = .ok (.ifCond .eq 13, 3) := by decide +kernel
theorem dX9_beside_10 : decode cX9_beside 10 = .ok (.iload_n 2, 1) := by decide +kernel
theorem dX9_beside_11 : decode cX9_beside 11 = .ok (.ifCond .lt 9, 3) := by decide +kernel
theorem dX9_beside_14 : decode cX9_beside 14 = .ok (.iload_n 2, 1) := by decide +kernel
theorem dX9_beside_15 : decode cX9_beside 15 = .ok (.bipush 27, 2) := by decide +kernel
theorem dX9_beside_17 : decode cX9_beside 17 = .ok (.if_icmp .le 5, 3) := by decide +kernel
theorem dX9_beside_20 : decode cX9_beside 20 = .ok (.iconst (-1), 1) := by decide +kernel
theorem dX9_beside_21 : decode cX9_beside 21 = .ok (.ireturn, 1) := by decide +kernel
theorem dX9_beside_22 : decode cX9_beside 22 = .ok (.aload_n 0, 1) := by decide +kernel
theorem dX9_beside_23 : decode cX9_beside 23 = .ok (.invokevirtual 126, 3) := by decide +kernel
theorem dX9_beside_26 : decode cX9_beside 26 = .ok (.astore_n 3, 1) := by decide +kernel
theorem dX9_beside_27 : decode cX9_beside 27 = .ok (.iconst 0, 1) := by decide +kernel
theorem dX9_beside_28 : decode cX9_beside 28 = .ok (.istore 4, 2) := by decide +kernel
theorem dX9_beside_30 : decode cX9_beside 30 = .ok (.iconst 0, 1) := by decide +kernel
theorem dX9_beside_31 : decode cX9_beside 31 = .ok (.istore 5, 2) := by decide +kernel
theorem dX9_beside_33 : decode cX9_beside 33 = .ok (.iload 5, 2) := by decide +kernel
theorem dX9_beside_35 : decode cX9_beside 35 = .ok (.aload_n 3, 1) := by decide +kernel
theorem dX9_beside_36 : decode cX9_beside 36 = .ok (.getfield 130, 3) := by decide +kernel
theorem dX9_beside_39 : decode cX9_beside 39 = .ok (.if_icmp .ge 72, 3) := by decide +kernel
theorem dX9_beside_42 : decode cX9_beside 42 = .ok (.aload_n 3, 1) := by decide +kernel
theorem dX9_beside_43 : decode cX9_beside 43 = .ok (.iload 5, 2) := by decide +kernel
theorem dX9_beside_45 : decode cX9_beside 45 = .ok (.invokevirtual 162, 3) := by decide +kernel
theorem dX9_beside_48 : decode cX9_beside 48 = .ok (.istore 6, 2) := by decide +kernel
theorem dX9_beside_50 : decode cX9_beside 50 = .ok (.aload_n 0, 1) := by decide +kernel
theorem dX9_beside_51 : decode cX9_beside 51 = .ok (.getfield 60, 3) := by decide +kernel
theorem dX9_beside_54 : decode cX9_beside 54 = .ok (.getfield 140, 3) := by decide +kernel
theorem dX9_beside_57 : decode cX9_beside 57 = .ok (.aload_n 3, 1) := by decide +kernel
theorem dX9_beside_58 : decode cX9_beside 58 = .ok (.iload 5, 2) := by decide +kernel
theorem dX9_beside_60 : decode cX9_beside 60 = .ok (.invokevirtual 159, 3) := by decide +kernel
theorem dX9_beside_63 : decode cX9_beside 63 = .ok (.aaload, 1) := by decide +kernel
theorem dX9_beside_64 : decode cX9_beside 64 = .ok (.getfield 149, 3) := by decide +kernel
theorem dX9_beside_67 : decode cX9_beside 67 = .ok (.astore 7, 2) := by decide +kernel
theorem dX9_beside_69 : decode cX9_beside 69 = .ok (.aload 7, 2) := by decide +kernel
theorem dX9_beside_71 : decode cX9_beside 71 = .ok (.iload_n 1, 1) := by decide +kernel
theorem dX9_beside_72 : decode cX9_beside 72 = .ok (.ifCond .eq 16, 3) := by decide +kernel
theorem dX9_beside_75 : decode cX9_beside 75 = .ok (.iload 6, 2) := by decide +kernel
theorem dX9_beside_77 : decode cX9_beside 77 = .ok (.aload_n 0, 1) := by decide +kernel
theorem dX9_beside_78 : decode cX9_beside 78 = .ok (.getfield 33, 3) := by decide +kernel
theorem dX9_beside_81 : decode cX9_beside 81 = .ok (.getfield 109, 3) := by decide +kernel
theorem dX9_beside_84 : decode cX9_beside 84 = .ok (.iadd, 1) := by decide +kernel
theorem dX9_beside_85 : decode cX9_beside 85 = .ok (.goto 7, 3) := by decide +kernel
theorem dX9_beside_88 : decode cX9_beside 88 = .ok (.iload 6, 2) := by decide +kernel
theorem dX9_beside_90 : decode cX9_beside 90 = .ok (.iconst 1, 1) := by decide +kernel
theorem dX9_beside_91 : decode cX9_beside 91 = .ok (.isub, 1) := by decide +kernel
theorem dX9_beside_92 : decode cX9_beside 92 = .ok (.invokevirtual 152, 3) := by decide +kernel
theorem dX9_beside_95 : decode cX9_beside 95 = .ok (.invokestatic 196, 3) := by decide +kernel
theorem dX9_beside_98 : decode cX9_beside 98 = .ok (.iload_n 2, 1) := by decide +kernel
theorem dX9_beside_99 : decode cX9_beside 99 = .ok (.if_icmp .ne 6, 3) := by decide +kernel
theorem dX9_beside_102 : decode cX9_beside 102 = .ok (.iinc 4 1, 3) := by decide +kernel
theorem dX9_beside_105 : decode cX9_beside 105 = .ok (.iinc 5 1, 3) := by decide +kernel
theorem dX9_beside_108 : decode cX9_beside 108 = .ok (.goto (-75), 3) := by decide +kernel
theorem dX9_beside_111 : decode cX9_beside 111 = .ok (.iload 4, 2) := by decide +kernel
theorem dX9_beside_113 : decode cX9_beside 113 = .ok (.ireturn, 1) := by decide +kernel
theorem dX9_signIndex_0 : decode cX9_signIndex 0 = .ok (.iload_n 0, 1) := by decide +kernel
theorem dX9_signIndex_1 : decode cX9_signIndex 1 = .ok (.iconst (-1), 1) := by decide +kernel
theorem dX9_signIndex_2 : decode cX9_signIndex 2 = .ok (.if_icmp .ne 6, 3) := by decide +kernel
theorem dX9_signIndex_5 : decode cX9_signIndex 5 = .ok (.bipush 27, 2) := by decide +kernel
theorem dX9_signIndex_7 : decode cX9_signIndex 7 = .ok (.ireturn, 1) := by decide +kernel
theorem dX9_signIndex_8 : decode cX9_signIndex 8 = .ok (.iload_n 0, 1) := by decide +kernel
theorem dX9_signIndex_9 : decode cX9_signIndex 9 = .ok (.bipush 95, 2) := by decide +kernel
theorem dX9_signIndex_11 : decode cX9_signIndex 11 = .ok (.if_icmp .ne 7, 3) := by decide +kernel
theorem dX9_signIndex_14 : decode cX9_signIndex 14 = .ok (.iconst 0, 1) := by decide +kernel
theorem dX9_signIndex_15 : decode cX9_signIndex 15 = .ok (.goto 9, 3) := by decide +kernel
theorem dX9_signIndex_18 : decode cX9_signIndex 18 = .ok (.iload_n 0, 1) := by decide +kernel
theorem dX9_signIndex_19 : decode cX9_signIndex 19 = .ok (.bipush 97, 2) := by decide +kernel
theorem dX9_signIndex_21 : decode cX9_signIndex 21 = .ok (.isub, 1) := by decide +kernel
theorem dX9_signIndex_22 : decode cX9_signIndex 22 = .ok (.iconst 1, 1) := by decide +kernel
theorem dX9_signIndex_23 : decode cX9_signIndex 23 = .ok (.iadd, 1) := by decide +kernel
theorem dX9_signIndex_24 : decode cX9_signIndex 24 = .ok (.ireturn, 1) := by decide +kernel
theorem dX9_set_0 : decode cX9_set 0 = .ok (.aload_n 0, 1) := by decide +kernel
theorem dX9_set_1 : decode cX9_set 1 = .ok (.iconst 0, 1) := by decide +kernel
theorem dX9_set_2 : decode cX9_set 2 = .ok (.iload_n 1, 1) := by decide +kernel
theorem dX9_set_3 : decode cX9_set 3 = .ok (.invokevirtual 199, 3) := by decide +kernel
theorem dX9_set_6 : decode cX9_set 6 = .ok (.aload_n 0, 1) := by decide +kernel
theorem dX9_set_7 : decode cX9_set 7 = .ok (.aload_n 0, 1) := by decide +kernel
theorem dX9_set_8 : decode cX9_set 8 = .ok (.aload_n 0, 1) := by decide +kernel
theorem dX9_set_9 : decode cX9_set 9 = .ok (.getfield 46, 3) := by decide +kernel
theorem dX9_set_12 : decode cX9_set 12 = .ok (.iconst 1, 1) := by decide +kernel
theorem dX9_set_13 : decode cX9_set 13 = .ok (.invokevirtual 203, 3) := by decide +kernel
theorem dX9_set_16 : decode cX9_set 16 = .ok (.invokevirtual 207, 3) := by decide +kernel
theorem dX9_set_19 : decode cX9_set 19 = .ok (.ireturn, 1) := by decide +kernel
theorem dX9_put_0 : decode cX9_put 0 = .ok (.aload_n 0, 1) := by decide +kernel
theorem dX9_put_1 : decode cX9_put 1 = .ok (.iconst 1, 1) := by decide +kernel
theorem dX9_put_2 : decode cX9_put 2 = .ok (.iload_n 1, 1) := by decide +kernel
theorem dX9_put_3 : decode cX9_put 3 = .ok (.invokevirtual 199, 3) := by decide +kernel
theorem dX9_put_6 : decode cX9_put 6 = .ok (.aload_n 0, 1) := by decide +kernel
theorem dX9_put_7 : decode cX9_put 7 = .ok (.aload_n 0, 1) := by decide +kernel
theorem dX9_put_8 : decode cX9_put 8 = .ok (.aload_n 0, 1) := by decide +kernel
theorem dX9_put_9 : decode cX9_put 9 = .ok (.getfield 46, 3) := by decide +kernel
theorem dX9_put_12 : decode cX9_put 12 = .ok (.iconst 1, 1) := by decide +kernel
theorem dX9_put_13 : decode cX9_put 13 = .ok (.invokevirtual 203, 3) := by decide +kernel
theorem dX9_put_16 : decode cX9_put 16 = .ok (.invokevirtual 207, 3) := by decide +kernel
theorem dX9_put_19 : decode cX9_put 19 = .ok (.ireturn, 1) := by decide +kernel
theorem dX9_take_0 : decode cX9_take 0 = .ok (.aload_n 0, 1) := by decide +kernel
theorem dX9_take_1 : decode cX9_take 1 = .ok (.getfield 46, 3) := by decide +kernel
theorem dX9_take_4 : decode cX9_take 4 = .ok (.iconst 2, 1) := by decide +kernel
theorem dX9_take_5 : decode cX9_take 5 = .ok (.iload_n 1, 1) := by decide +kernel
theorem dX9_take_6 : decode cX9_take 6 = .ok (.ldc 210, 2) := by decide +kernel
theorem dX9_take_8 : decode cX9_take 8 = .ok (.invokevirtual 211, 3) := by decide +kernel
theorem dX9_take_11 : decode cX9_take 11 = .ok (.aload_n 0, 1) := by decide +kernel
theorem dX9_take_12 : decode cX9_take 12 = .ok (.aload_n 0, 1) := by decide +kernel
theorem dX9_take_13 : decode cX9_take 13 = .ok (.getfield 46, 3) := by decide +kernel
theorem dX9_take_16 : decode cX9_take 16 = .ok (.iconst 1, 1) := by decide +kernel
theorem dX9_take_17 : decode cX9_take 17 = .ok (.invokevirtual 203, 3) := by decide +kernel
theorem dX9_take_20 : decode cX9_take 20 = .ok (.ireturn, 1) := by decide +kernel
theorem dX9_swap_0 : decode cX9_swap 0 = .ok (.aload_n 0, 1) := by decide +kernel
theorem dX9_swap_1 : decode cX9_swap 1 = .ok (.getfield 46, 3) := by decide +kernel
theorem dX9_swap_4 : decode cX9_swap 4 = .ok (.iconst 3, 1) := by decide +kernel
theorem dX9_swap_5 : decode cX9_swap 5 = .ok (.iload_n 1, 1) := by decide +kernel
theorem dX9_swap_6 : decode cX9_swap 6 = .ok (.iload_n 2, 1) := by decide +kernel
theorem dX9_swap_7 : decode cX9_swap 7 = .ok (.invokevirtual 211, 3) := by decide +kernel
theorem dX9_swap_10 : decode cX9_swap 10 = .ok (.aload_n 0, 1) := by decide +kernel
theorem dX9_swap_11 : decode cX9_swap 11 = .ok (.aload_n 0, 1) := by decide +kernel
theorem dX9_swap_12 : decode cX9_swap 12 = .ok (.getfield 46, 3) := by decide +kernel
theorem dX9_swap_15 : decode cX9_swap 15 = .ok (.iconst 1, 1) := by decide +kernel
theorem dX9_swap_16 : decode cX9_swap 16 = .ok (.invokevirtual 203, 3) := by decide +kernel
theorem dX9_swap_19 : decode cX9_swap 19 = .ok (.ireturn, 1) := by decide +kernel
theorem dX9_lay_0 : decode cX9_lay 0 = .ok (.aload_n 0, 1) := by decide +kernel
theorem dX9_lay_1 : decode cX9_lay 1 = .ok (.getfield 46, 3) := by decide +kernel
theorem dX9_lay_4 : decode cX9_lay 4 = .ok (.iconst 4, 1) := by decide +kernel
theorem dX9_lay_5 : decode cX9_lay 5 = .ok (.iload_n 1, 1) := by decide +kernel
theorem dX9_lay_6 : decode cX9_lay 6 = .ok (.iload_n 2, 1) := by decide +kernel
theorem dX9_lay_7 : decode cX9_lay 7 = .ok (.invokevirtual 211, 3) := by decide +kernel
theorem dX9_lay_10 : decode cX9_lay 10 = .ok (.aload_n 0, 1) := by decide +kernel
theorem dX9_lay_11 : decode cX9_lay 11 = .ok (.getfield 46, 3) := by decide +kernel
theorem dX9_lay_14 : decode cX9_lay 14 = .ok (.getfield 215, 3) := by decide +kernel
theorem dX9_lay_17 : decode cX9_lay 17 = .ok (.aload_n 0, 1) := by decide +kernel
theorem dX9_lay_18 : decode cX9_lay 18 = .ok (.getfield 33, 3) := by decide +kernel
theorem dX9_lay_21 : decode cX9_lay 21 = .ok (.invokevirtual 123, 3) := by decide +kernel
theorem dX9_lay_24 : decode cX9_lay 24 = .ok (.aload_n 0, 1) := by decide +kernel
theorem dX9_lay_25 : decode cX9_lay 25 = .ok (.aload_n 0, 1) := by decide +kernel
theorem dX9_lay_26 : decode cX9_lay 26 = .ok (.getfield 46, 3) := by decide +kernel
theorem dX9_lay_29 : decode cX9_lay 29 = .ok (.iconst 1, 1) := by decide +kernel
theorem dX9_lay_30 : decode cX9_lay 30 = .ok (.invokevirtual 203, 3) := by decide +kernel
theorem dX9_lay_33 : decode cX9_lay 33 = .ok (.ireturn, 1) := by decide +kernel
theorem dX9_page_0 : decode cX9_page 0 = .ok (.aload_n 0, 1) := by decide +kernel
theorem dX9_page_1 : decode cX9_page 1 = .ok (.getfield 46, 3) := by decide +kernel
theorem dX9_page_4 : decode cX9_page 4 = .ok (.iconst 5, 1) := by decide +kernel
theorem dX9_page_5 : decode cX9_page 5 = .ok (.iload_n 1, 1) := by decide +kernel
theorem dX9_page_6 : decode cX9_page 6 = .ok (.ldc 210, 2) := by decide +kernel
theorem dX9_page_8 : decode cX9_page 8 = .ok (.invokevirtual 211, 3) := by decide +kernel
theorem dX9_page_11 : decode cX9_page 11 = .ok (.aload_n 0, 1) := by decide +kernel
theorem dX9_page_12 : decode cX9_page 12 = .ok (.aload_n 0, 1) := by decide +kernel
theorem dX9_page_13 : decode cX9_page 13 = .ok (.getfield 46, 3) := by decide +kernel
theorem dX9_page_16 : decode cX9_page 16 = .ok (.iconst 1, 1) := by decide +kernel
theorem dX9_page_17 : decode cX9_page 17 = .ok (.invokevirtual 203, 3) := by decide +kernel
theorem dX9_page_20 : decode cX9_page 20 = .ok (.ireturn, 1) := by decide +kernel
theorem dX9_rewind_0 : decode cX9_rewind 0 = .ok (.aload_n 0, 1) := by decide +kernel
theorem dX9_rewind_1 : decode cX9_rewind 1 = .ok (.getfield 46, 3) := by decide +kernel
theorem dX9_rewind_4 : decode cX9_rewind 4 = .ok (.bipush 6, 2) := by decide +kernel
theorem dX9_rewind_6 : decode cX9_rewind 6 = .ok (.iload_n 1, 1) := by decide +kernel
theorem dX9_rewind_7 : decode cX9_rewind 7 = .ok (.ldc 210, 2) := by decide +kernel
theorem dX9_rewind_9 : decode cX9_rewind 9 = .ok (.invokevirtual 211, 3) := by decide +kernel
theorem dX9_rewind_12 : decode cX9_rewind 12 = .ok (.aload_n 0, 1) := by decide +kernel
theorem dX9_rewind_13 : decode cX9_rewind 13 = .ok (.aload_n 0, 1) := by decide +kernel
theorem dX9_rewind_14 : decode cX9_rewind 14 = .ok (.getfield 46, 3) := by decide +kernel
theorem dX9_rewind_17 : decode cX9_rewind 17 = .ok (.iconst 1, 1) := by decide +kernel
theorem dX9_rewind_18 : decode cX9_rewind 18 = .ok (.invokevirtual 203, 3) := by decide +kernel
theorem dX9_rewind_21 : decode cX9_rewind 21 = .ok (.ireturn, 1) := by decide +kernel
theorem dX9_cursor_0 : decode cX9_cursor 0 = .ok (.aload_n 0, 1) := by decide +kernel
theorem dX9_cursor_1 : decode cX9_cursor 1 = .ok (.getfield 60, 3) := by decide +kernel
theorem dX9_cursor_4 : decode cX9_cursor 4 = .ok (.iload_n 1, 1) := by decide +kernel
theorem dX9_cursor_5 : decode cX9_cursor 5 = .ok (.invokevirtual 216, 3) := by decide +kernel
theorem dX9_cursor_8 : decode cX9_cursor 8 = .ok (.ifCond .ne 5, 3) := by decide +kernel
theorem dX9_cursor_11 : decode cX9_cursor 11 = .ok (.iconst (-1), 1) := by decide +kernel
theorem dX9_cursor_12 : decode cX9_cursor 12 = .ok (.ireturn, 1) := by decide +kernel
theorem dX9_cursor_13 : decode cX9_cursor 13 = .ok (.aload_n 0, 1) := by decide +kernel
theorem dX9_cursor_14 : decode cX9_cursor 14 = .ok (.getfield 60, 3) := by decide +kernel
theorem dX9_cursor_17 : decode cX9_cursor 17 = .ok (.getfield 219, 3) := by decide +kernel
theorem dX9_cursor_20 : decode cX9_cursor 20 = .ok (.iload_n 1, 1) := by decide +kernel
theorem dX9_cursor_21 : decode cX9_cursor 21 = .ok (.aaload, 1) := by decide +kernel
theorem dX9_cursor_22 : decode cX9_cursor 22 = .ok (.astore_n 3, 1) := by decide +kernel
theorem dX9_cursor_23 : decode cX9_cursor 23 = .ok (.iload_n 2, 1) := by decide +kernel
theorem dX9_cursor_24 : decode cX9_cursor 24 = .ok (.tableswitch 85 0 5 #[40, 45, 53, 58, 63, 72], 40) := by decide +kernel
theorem dX9_cursor_64 : decode cX9_cursor 64 = .ok (.aload_n 3, 1) := by decide +kernel
theorem dX9_cursor_65 : decode cX9_cursor 65 = .ok (.getfield 223, 3) := by decide +kernel
theorem dX9_cursor_68 : decode cX9_cursor 68 = .ok (.ireturn, 1) := by decide +kernel
theorem dX9_cursor_69 : decode cX9_cursor 69 = .ok (.aload_n 3, 1) := by decide +kernel
theorem dX9_cursor_70 : decode cX9_cursor 70 = .ok (.getfield 226, 3) := by decide +kernel
theorem dX9_cursor_73 : decode cX9_cursor 73 = .ok (.getfield 109, 3) := by decide +kernel
theorem dX9_cursor_76 : decode cX9_cursor 76 = .ok (.ireturn, 1) := by decide +kernel
theorem dX9_cursor_77 : decode cX9_cursor 77 = .ok (.aload_n 3, 1) := by decide +kernel
theorem dX9_cursor_78 : decode cX9_cursor 78 = .ok (.getfield 227, 3) := by decide +kernel
theorem dX9_cursor_81 : decode cX9_cursor 81 = .ok (.ireturn, 1) := by decide +kernel
theorem dX9_cursor_82 : decode cX9_cursor 82 = .ok (.aload_n 3, 1) := by decide +kernel
theorem dX9_cursor_83 : decode cX9_cursor 83 = .ok (.getfield 230, 3) := by decide +kernel
theorem dX9_cursor_86 : decode cX9_cursor 86 = .ok (.ireturn, 1) := by decide +kernel
theorem dX9_cursor_87 : decode cX9_cursor 87 = .ok (.aload_n 0, 1) := by decide +kernel
theorem dX9_cursor_88 : decode cX9_cursor 88 = .ok (.getfield 60, 3) := by decide +kernel
theorem dX9_cursor_91 : decode cX9_cursor 91 = .ok (.aload_n 3, 1) := by decide +kernel
theorem dX9_cursor_92 : decode cX9_cursor 92 = .ok (.invokevirtual 233, 3) := by decide +kernel
theorem dX9_cursor_95 : decode cX9_cursor 95 = .ok (.ireturn, 1) := by decide +kernel
theorem dX9_cursor_96 : decode cX9_cursor 96 = .ok (.aload_n 3, 1) := by decide +kernel
theorem dX9_cursor_97 : decode cX9_cursor 97 = .ok (.getfield 237, 3) := by decide +kernel
theorem dX9_cursor_100 : decode cX9_cursor 100 = .ok (.ifCond .eq 7, 3) := by decide +kernel
theorem dX9_cursor_103 : decode cX9_cursor 103 = .ok (.iconst 1, 1) := by decide +kernel
theorem dX9_cursor_104 : decode cX9_cursor 104 = .ok (.goto 4, 3) := by decide +kernel
theorem dX9_cursor_107 : decode cX9_cursor 107 = .ok (.iconst 0, 1) := by decide +kernel
theorem dX9_cursor_108 : decode cX9_cursor 108 = .ok (.ireturn, 1) := by decide +kernel
theorem dX9_cursor_109 : decode cX9_cursor 109 = .ok (.iconst (-1), 1) := by decide +kernel
theorem dX9_cursor_110 : decode cX9_cursor 110 = .ok (.ireturn, 1) := by decide +kernel
theorem dX9_told_0 : decode cX9_told 0 = .ok (.aload_n 0, 1) := by decide +kernel
theorem dX9_told_1 : decode cX9_told 1 = .ok (.getfield 60, 3) := by decide +kernel
theorem dX9_told_4 : decode cX9_told 4 = .ok (.iload_n 1, 1) := by decide +kernel
theorem dX9_told_5 : decode cX9_told 5 = .ok (.invokevirtual 216, 3) := by decide +kernel
theorem dX9_told_8 : decode cX9_told 8 = .ok (.ifCond .eq 23, 3) := by decide +kernel
theorem dX9_told_11 : decode cX9_told 11 = .ok (.iload_n 2, 1) := by decide +kernel
theorem dX9_told_12 : decode cX9_told 12 = .ok (.ifCond .lt 19, 3) := by decide +kernel
theorem dX9_told_15 : decode cX9_told 15 = .ok (.iload_n 2, 1) := by decide +kernel
theorem dX9_told_16 : decode cX9_told 16 = .ok (.aload_n 0, 1) := by decide +kernel
theorem dX9_told_17 : decode cX9_told 17 = .ok (.getfield 60, 3) := by decide +kernel
theorem dX9_told_20 : decode cX9_told 20 = .ok (.getfield 219, 3) := by decide +kernel
theorem dX9_told_23 : decode cX9_told 23 = .ok (.iload_n 1, 1) := by decide +kernel
theorem dX9_told_24 : decode cX9_told 24 = .ok (.aaload, 1) := by decide +kernel
theorem dX9_told_25 : decode cX9_told 25 = .ok (.getfield 227, 3) := by decide +kernel
theorem dX9_told_28 : decode cX9_told 28 = .ok (.if_icmp .lt 5, 3) := by decide +kernel
theorem dX9_told_31 : decode cX9_told 31 = .ok (.iconst (-1), 1) := by decide +kernel
theorem dX9_told_32 : decode cX9_told 32 = .ok (.ireturn, 1) := by decide +kernel
theorem dX9_told_33 : decode cX9_told 33 = .ok (.iload_n 3, 1) := by decide +kernel
theorem dX9_told_34 : decode cX9_told 34 = .ok (.lookupswitch 56 #[(0, 26), (1, 41)], 26) := by decide +kernel
theorem dX9_told_60 : decode cX9_told 60 = .ok (.aload_n 0, 1) := by decide +kernel
theorem dX9_told_61 : decode cX9_told 61 = .ok (.getfield 60, 3) := by decide +kernel
theorem dX9_told_64 : decode cX9_told 64 = .ok (.getfield 219, 3) := by decide +kernel
theorem dX9_told_67 : decode cX9_told 67 = .ok (.iload_n 1, 1) := by decide +kernel
theorem dX9_told_68 : decode cX9_told 68 = .ok (.aaload, 1) := by decide +kernel
theorem dX9_told_69 : decode cX9_told 69 = .ok (.getfield 240, 3) := by decide +kernel
theorem dX9_told_72 : decode cX9_told 72 = .ok (.iload_n 2, 1) := by decide +kernel
theorem dX9_told_73 : decode cX9_told 73 = .ok (.iaload, 1) := by decide +kernel
theorem dX9_told_74 : decode cX9_told 74 = .ok (.ireturn, 1) := by decide +kernel
theorem dX9_told_75 : decode cX9_told 75 = .ok (.aload_n 0, 1) := by decide +kernel
theorem dX9_told_76 : decode cX9_told 76 = .ok (.getfield 60, 3) := by decide +kernel
theorem dX9_told_79 : decode cX9_told 79 = .ok (.getfield 219, 3) := by decide +kernel
theorem dX9_told_82 : decode cX9_told 82 = .ok (.iload_n 1, 1) := by decide +kernel
theorem dX9_told_83 : decode cX9_told 83 = .ok (.aaload, 1) := by decide +kernel
theorem dX9_told_84 : decode cX9_told 84 = .ok (.getfield 243, 3) := by decide +kernel
theorem dX9_told_87 : decode cX9_told 87 = .ok (.iload_n 2, 1) := by decide +kernel
theorem dX9_told_88 : decode cX9_told 88 = .ok (.iaload, 1) := by decide +kernel
theorem dX9_told_89 : decode cX9_told 89 = .ok (.ireturn, 1) := by decide +kernel
theorem dX9_told_90 : decode cX9_told 90 = .ok (.iconst (-1), 1) := by decide +kernel
theorem dX9_told_91 : decode cX9_told 91 = .ok (.ireturn, 1) := by decide +kernel
theorem dX9_split_0 : decode cX9_split 0 = .ok (.aload_n 0, 1) := by decide +kernel
theorem dX9_split_1 : decode cX9_split 1 = .ok (.getfield 46, 3) := by decide +kernel
theorem dX9_split_4 : decode cX9_split 4 = .ok (.bipush 7, 2) := by decide +kernel
theorem dX9_split_6 : decode cX9_split 6 = .ok (.iload_n 1, 1) := by decide +kernel
theorem dX9_split_7 : decode cX9_split 7 = .ok (.iload_n 2, 1) := by decide +kernel
theorem dX9_split_8 : decode cX9_split 8 = .ok (.invokevirtual 211, 3) := by decide +kernel
theorem dX9_split_11 : decode cX9_split 11 = .ok (.aload_n 0, 1) := by decide +kernel
theorem dX9_split_12 : decode cX9_split 12 = .ok (.aload_n 0, 1) := by decide +kernel
theorem dX9_split_13 : decode cX9_split 13 = .ok (.getfield 46, 3) := by decide +kernel
theorem dX9_split_16 : decode cX9_split 16 = .ok (.iconst 1, 1) := by decide +kernel
theorem dX9_split_17 : decode cX9_split 17 = .ok (.invokevirtual 203, 3) := by decide +kernel
theorem dX9_split_20 : decode cX9_split 20 = .ok (.ireturn, 1) := by decide +kernel
theorem dX9_join_0 : decode cX9_join 0 = .ok (.aload_n 0, 1) := by decide +kernel
theorem dX9_join_1 : decode cX9_join 1 = .ok (.getfield 46, 3) := by decide +kernel
theorem dX9_join_4 : decode cX9_join 4 = .ok (.bipush 8, 2) := by decide +kernel
theorem dX9_join_6 : decode cX9_join 6 = .ok (.iload_n 1, 1) := by decide +kernel
theorem dX9_join_7 : decode cX9_join 7 = .ok (.ldc 210, 2) := by decide +kernel
theorem dX9_join_9 : decode cX9_join 9 = .ok (.invokevirtual 211, 3) := by decide +kernel
theorem dX9_join_12 : decode cX9_join 12 = .ok (.aload_n 0, 1) := by decide +kernel
theorem dX9_join_13 : decode cX9_join 13 = .ok (.aload_n 0, 1) := by decide +kernel
theorem dX9_join_14 : decode cX9_join 14 = .ok (.getfield 46, 3) := by decide +kernel
theorem dX9_join_17 : decode cX9_join 17 = .ok (.iconst 1, 1) := by decide +kernel
theorem dX9_join_18 : decode cX9_join 18 = .ok (.invokevirtual 203, 3) := by decide +kernel
theorem dX9_join_21 : decode cX9_join 21 = .ok (.ireturn, 1) := by decide +kernel
theorem dX9_ways_0 : decode cX9_ways 0 = .ok (.aload_n 0, 1) := by decide +kernel
theorem dX9_ways_1 : decode cX9_ways 1 = .ok (.getfield 60, 3) := by decide +kernel
theorem dX9_ways_4 : decode cX9_ways 4 = .ok (.getfield 120, 3) := by decide +kernel
theorem dX9_ways_7 : decode cX9_ways 7 = .ok (.ifCond .eq 14, 3) := by decide +kernel
theorem dX9_ways_10 : decode cX9_ways 10 = .ok (.iload_n 1, 1) := by decide +kernel
theorem dX9_ways_11 : decode cX9_ways 11 = .ok (.iconst 1, 1) := by decide +kernel
theorem dX9_ways_12 : decode cX9_ways 12 = .ok (.if_icmp .lt 9, 3) := by decide +kernel
theorem dX9_ways_15 : decode cX9_ways 15 = .ok (.iload_n 1, 1) := by decide +kernel
theorem dX9_ways_16 : decode cX9_ways 16 = .ok (.bipush 40, 2) := by decide +kernel
theorem dX9_ways_18 : decode cX9_ways 18 = .ok (.if_icmp .le 5, 3) := by decide +kernel
theorem dX9_ways_21 : decode cX9_ways 21 = .ok (.iconst (-1), 1) := by decide +kernel
theorem dX9_ways_22 : decode cX9_ways 22 = .ok (.ireturn, 1) := by decide +kernel
theorem dX9_ways_23 : decode cX9_ways 23 = .ok (.aload_n 0, 1) := by decide +kernel
theorem dX9_ways_24 : decode cX9_ways 24 = .ok (.lload_n 2, 1) := by decide +kernel
theorem dX9_ways_25 : decode cX9_ways 25 = .ok (.putfield 246, 3) := by decide +kernel
theorem dX9_ways_28 : decode cX9_ways 28 = .ok (.iconst 0, 1) := by decide +kernel
theorem dX9_ways_29 : decode cX9_ways 29 = .ok (.istore 4, 2) := by decide +kernel
theorem dX9_ways_31 : decode cX9_ways 31 = .ok (.iload 4, 2) := by decide +kernel
theorem dX9_ways_33 : decode cX9_ways 33 = .ok (.iload_n 1, 1) := by decide +kernel
theorem dX9_ways_34 : decode cX9_ways 34 = .ok (.if_icmp .ge 23, 3) := by decide +kernel
theorem dX9_ways_37 : decode cX9_ways 37 = .ok (.aload_n 0, 1) := by decide +kernel
theorem dX9_ways_38 : decode cX9_ways 38 = .ok (.invokevirtual 250, 3) := by decide +kernel
theorem dX9_ways_41 : decode cX9_ways 41 = .ok (.aload_n 0, 1) := by decide +kernel
theorem dX9_ways_42 : decode cX9_ways 42 = .ok (.aload_n 0, 1) := by decide +kernel
theorem dX9_ways_43 : decode cX9_ways 43 = .ok (.getfield 46, 3) := by decide +kernel
theorem dX9_ways_46 : decode cX9_ways 46 = .ok (.iconst 0, 1) := by decide +kernel
theorem dX9_ways_47 : decode cX9_ways 47 = .ok (.invokevirtual 203, 3) := by decide +kernel
theorem dX9_ways_50 : decode cX9_ways 50 = .ok (.pop, 1) := by decide +kernel
theorem dX9_ways_51 : decode cX9_ways 51 = .ok (.iinc 4 1, 3) := by decide +kernel
theorem dX9_ways_54 : decode cX9_ways 54 = .ok (.goto (-23), 3) := by decide +kernel
theorem dX9_ways_57 : decode cX9_ways 57 = .ok (.aload_n 0, 1) := by decide +kernel
theorem dX9_ways_58 : decode cX9_ways 58 = .ok (.getfield 60, 3) := by decide +kernel
theorem dX9_ways_61 : decode cX9_ways 61 = .ok (.invokevirtual 131, 3) := by decide +kernel
theorem dX9_ways_64 : decode cX9_ways 64 = .ok (.ireturn, 1) := by decide +kernel
theorem dX9_drawAct_0 : decode cX9_drawAct 0 = .ok (.aload_n 0, 1) := by decide +kernel
theorem dX9_drawAct_1 : decode cX9_drawAct 1 = .ok (.bipush 8, 2) := by decide +kernel
theorem dX9_drawAct_3 : decode cX9_drawAct 3 = .ok (.invokevirtual 253, 3) := by decide +kernel
theorem dX9_drawAct_6 : decode cX9_drawAct 6 = .ok (.istore_n 1, 1) := by decide +kernel
theorem dX9_drawAct_7 : decode cX9_drawAct 7 = .ok (.iload_n 1, 1) := by decide +kernel
theorem dX9_drawAct_8 : decode cX9_drawAct 8 = .ok (.iconst 2, 1) := by decide +kernel
theorem dX9_drawAct_9 : decode cX9_drawAct 9 = .ok (.if_icmp .gt 31, 3) := by decide +kernel
theorem dX9_drawAct_12 : decode cX9_drawAct 12 = .ok (.aload_n 0, 1) := by decide +kernel
theorem dX9_drawAct_13 : decode cX9_drawAct 13 = .ok (.getfield 46, 3) := by decide +kernel
theorem dX9_drawAct_16 : decode cX9_drawAct 16 = .ok (.iconst 0, 1) := by decide +kernel
theorem dX9_drawAct_17 : decode cX9_drawAct 17 = .ok (.aload_n 0, 1) := by decide +kernel
theorem dX9_drawAct_18 : decode cX9_drawAct 18 = .ok (.aload_n 0, 1) := by decide +kernel
theorem dX9_drawAct_19 : decode cX9_drawAct 19 = .ok (.getfield 60, 3) := by decide +kernel
theorem dX9_drawAct_22 : decode cX9_drawAct 22 = .ok (.getfield 120, 3) := by decide +kernel
theorem dX9_drawAct_25 : decode cX9_drawAct 25 = .ok (.invokevirtual 253, 3) := by decide +kernel
theorem dX9_drawAct_28 : decode cX9_drawAct 28 = .ok (.ldc 210, 2) := by decide +kernel
theorem dX9_drawAct_30 : decode cX9_drawAct 30 = .ok (.invokevirtual 211, 3) := by decide +kernel
theorem dX9_drawAct_33 : decode cX9_drawAct 33 = .ok (.aload_n 0, 1) := by decide +kernel
theorem dX9_drawAct_34 : decode cX9_drawAct 34 = .ok (.invokevirtual 256, 3) := by decide +kernel
theorem dX9_drawAct_37 : decode cX9_drawAct 37 = .ok (.goto 133, 3) := by decide +kernel
theorem dX9_drawAct_40 : decode cX9_drawAct 40 = .ok (.iload_n 1, 1) := by decide +kernel
theorem dX9_drawAct_41 : decode cX9_drawAct 41 = .ok (.iconst 3, 1) := by decide +kernel
theorem dX9_drawAct_42 : decode cX9_drawAct 42 = .ok (.if_icmp .ne 33, 3) := by decide +kernel
theorem dX9_drawAct_45 : decode cX9_drawAct 45 = .ok (.aload_n 0, 1) := by decide +kernel
theorem dX9_drawAct_46 : decode cX9_drawAct 46 = .ok (.getfield 46, 3) := by decide +kernel
theorem dX9_drawAct_49 : decode cX9_drawAct 49 = .ok (.iconst 1, 1) := by decide +kernel
theorem dX9_drawAct_50 : decode cX9_drawAct 50 = .ok (.aload_n 0, 1) := by decide +kernel
theorem dX9_drawAct_51 : decode cX9_drawAct 51 = .ok (.aload_n 0, 1) := by decide +kernel
theorem dX9_drawAct_52 : decode cX9_drawAct 52 = .ok (.getfield 60, 3) := by decide +kernel
theorem dX9_drawAct_55 : decode cX9_drawAct 55 = .ok (.getfield 120, 3) := by decide +kernel
theorem dX9_drawAct_58 : decode cX9_drawAct 58 = .ok (.iconst 1, 1) := by decide +kernel
theorem dX9_drawAct_59 : decode cX9_drawAct 59 = .ok (.iadd, 1) := by decide +kernel
theorem dX9_drawAct_60 : decode cX9_drawAct 60 = .ok (.invokevirtual 253, 3) := by decide +kernel
theorem dX9_drawAct_63 : decode cX9_drawAct 63 = .ok (.ldc 210, 2) := by decide +kernel
theorem dX9_drawAct_65 : decode cX9_drawAct 65 = .ok (.invokevirtual 211, 3) := by decide +kernel
theorem dX9_drawAct_68 : decode cX9_drawAct 68 = .ok (.aload_n 0, 1) := by decide +kernel
theorem dX9_drawAct_69 : decode cX9_drawAct 69 = .ok (.invokevirtual 256, 3) := by decide +kernel
theorem dX9_drawAct_72 : decode cX9_drawAct 72 = .ok (.goto 98, 3) := by decide +kernel
theorem dX9_drawAct_75 : decode cX9_drawAct 75 = .ok (.iload_n 1, 1) := by decide +kernel
theorem dX9_drawAct_76 : decode cX9_drawAct 76 = .ok (.iconst 4, 1) := by decide +kernel
theorem dX9_drawAct_77 : decode cX9_drawAct 77 = .ok (.if_icmp .ne 27, 3) := by decide +kernel
theorem dX9_drawAct_80 : decode cX9_drawAct 80 = .ok (.aload_n 0, 1) := by decide +kernel
theorem dX9_drawAct_81 : decode cX9_drawAct 81 = .ok (.getfield 46, 3) := by decide +kernel
theorem dX9_drawAct_84 : decode cX9_drawAct 84 = .ok (.iconst 2, 1) := by decide +kernel
theorem dX9_drawAct_85 : decode cX9_drawAct 85 = .ok (.aload_n 0, 1) := by decide +kernel
theorem dX9_drawAct_86 : decode cX9_drawAct 86 = .ok (.aload_n 0, 1) := by decide +kernel
theorem dX9_drawAct_87 : decode cX9_drawAct 87 = .ok (.getfield 60, 3) := by decide +kernel
theorem dX9_drawAct_90 : decode cX9_drawAct 90 = .ok (.getfield 120, 3) := by decide +kernel
theorem dX9_drawAct_93 : decode cX9_drawAct 93 = .ok (.invokevirtual 253, 3) := by decide +kernel
theorem dX9_drawAct_96 : decode cX9_drawAct 96 = .ok (.ldc 210, 2) := by decide +kernel
theorem dX9_drawAct_98 : decode cX9_drawAct 98 = .ok (.invokevirtual 211, 3) := by decide +kernel
theorem dX9_drawAct_101 : decode cX9_drawAct 101 = .ok (.goto 69, 3) := by decide +kernel
theorem dX9_drawAct_104 : decode cX9_drawAct 104 = .ok (.iload_n 1, 1) := by decide +kernel
theorem dX9_drawAct_105 : decode cX9_drawAct 105 = .ok (.iconst 5, 1) := by decide +kernel
theorem dX9_drawAct_106 : decode cX9_drawAct 106 = .ok (.if_icmp .ne 38, 3) := by decide +kernel
theorem dX9_drawAct_109 : decode cX9_drawAct 109 = .ok (.aload_n 0, 1) := by decide +kernel
theorem dX9_drawAct_110 : decode cX9_drawAct 110 = .ok (.aload_n 0, 1) := by decide +kernel
theorem dX9_drawAct_111 : decode cX9_drawAct 111 = .ok (.getfield 60, 3) := by decide +kernel
theorem dX9_drawAct_114 : decode cX9_drawAct 114 = .ok (.getfield 120, 3) := by decide +kernel
theorem dX9_drawAct_117 : decode cX9_drawAct 117 = .ok (.invokevirtual 253, 3) := by decide +kernel
theorem dX9_drawAct_120 : decode cX9_drawAct 120 = .ok (.istore_n 2, 1) := by decide +kernel
theorem dX9_drawAct_121 : decode cX9_drawAct 121 = .ok (.aload_n 0, 1) := by decide +kernel
theorem dX9_drawAct_122 : decode cX9_drawAct 122 = .ok (.getfield 46, 3) := by decide +kernel
theorem dX9_drawAct_125 : decode cX9_drawAct 125 = .ok (.iconst 3, 1) := by decide +kernel
theorem dX9_drawAct_126 : decode cX9_drawAct 126 = .ok (.iload_n 2, 1) := by decide +kernel
theorem dX9_drawAct_127 : decode cX9_drawAct 127 = .ok (.aload_n 0, 1) := by decide +kernel
theorem dX9_drawAct_128 : decode cX9_drawAct 128 = .ok (.aload_n 0, 1) := by decide +kernel
theorem dX9_drawAct_129 : decode cX9_drawAct 129 = .ok (.getfield 60, 3) := by decide +kernel
theorem dX9_drawAct_132 : decode cX9_drawAct 132 = .ok (.getfield 120, 3) := by decide +kernel
theorem dX9_drawAct_135 : decode cX9_drawAct 135 = .ok (.invokevirtual 253, 3) := by decide +kernel
theorem dX9_drawAct_138 : decode cX9_drawAct 138 = .ok (.invokevirtual 211, 3) := by decide +kernel
theorem dX9_drawAct_141 : decode cX9_drawAct 141 = .ok (.goto 29, 3) := by decide +kernel
theorem dX9_drawAct_144 : decode cX9_drawAct 144 = .ok (.aload_n 0, 1) := by decide +kernel
theorem dX9_drawAct_145 : decode cX9_drawAct 145 = .ok (.getfield 46, 3) := by decide +kernel
theorem dX9_drawAct_148 : decode cX9_drawAct 148 = .ok (.iload_n 1, 1) := by decide +kernel
theorem dX9_drawAct_149 : decode cX9_drawAct 149 = .ok (.bipush 6, 2) := by decide +kernel
theorem dX9_drawAct_151 : decode cX9_drawAct 151 = .ok (.if_icmp .ne 7, 3) := by decide +kernel
theorem dX9_drawAct_154 : decode cX9_drawAct 154 = .ok (.iconst 5, 1) := by decide +kernel
theorem dX9_drawAct_155 : decode cX9_drawAct 155 = .ok (.goto 5, 3) := by decide +kernel
theorem dX9_drawAct_158 : decode cX9_drawAct 158 = .ok (.bipush 6, 2) := by decide +kernel
theorem dX9_drawAct_160 : decode cX9_drawAct 160 = .ok (.aload_n 0, 1) := by decide +kernel
theorem dX9_drawAct_161 : decode cX9_drawAct 161 = .ok (.iconst 3, 1) := by decide +kernel
theorem dX9_drawAct_162 : decode cX9_drawAct 162 = .ok (.invokevirtual 253, 3) := by decide +kernel
theorem dX9_drawAct_165 : decode cX9_drawAct 165 = .ok (.ldc 210, 2) := by decide +kernel
theorem dX9_drawAct_167 : decode cX9_drawAct 167 = .ok (.invokevirtual 211, 3) := by decide +kernel
theorem dX9_drawAct_170 : decode cX9_drawAct 170 = .ok (.return_, 1) := by decide +kernel
theorem dX9_drawSigns_0 : decode cX9_drawSigns 0 = .ok (.aload_n 0, 1) := by decide +kernel
theorem dX9_drawSigns_1 : decode cX9_drawSigns 1 = .ok (.bipush 6, 2) := by decide +kernel
theorem dX9_drawSigns_3 : decode cX9_drawSigns 3 = .ok (.invokevirtual 253, 3) := by decide +kernel
theorem dX9_drawSigns_6 : decode cX9_drawSigns 6 = .ok (.iconst 1, 1) := by decide +kernel
theorem dX9_drawSigns_7 : decode cX9_drawSigns 7 = .ok (.iadd, 1) := by decide +kernel
theorem dX9_drawSigns_8 : decode cX9_drawSigns 8 = .ok (.istore_n 1, 1) := by decide +kernel
theorem dX9_drawSigns_9 : decode cX9_drawSigns 9 = .ok (.iconst 0, 1) := by decide +kernel
theorem dX9_drawSigns_10 : decode cX9_drawSigns 10 = .ok (.istore_n 2, 1) := by decide +kernel
theorem dX9_drawSigns_11 : decode cX9_drawSigns 11 = .ok (.iload_n 2, 1) := by decide +kernel
theorem dX9_drawSigns_12 : decode cX9_drawSigns 12 = .ok (.iload_n 1, 1) := by decide +kernel
theorem dX9_drawSigns_13 : decode cX9_drawSigns 13 = .ok (.if_icmp .ge 31, 3) := by decide +kernel
theorem dX9_drawSigns_16 : decode cX9_drawSigns 16 = .ok (.aload_n 0, 1) := by decide +kernel
theorem dX9_drawSigns_17 : decode cX9_drawSigns 17 = .ok (.getfield 46, 3) := by decide +kernel
theorem dX9_drawSigns_20 : decode cX9_drawSigns 20 = .ok (.getfield 215, 3) := by decide +kernel
theorem dX9_drawSigns_23 : decode cX9_drawSigns 23 = .ok (.getstatic 259, 3) := by decide +kernel
theorem dX9_drawSigns_26 : decode cX9_drawSigns 26 = .ok (.aload_n 0, 1) := by decide +kernel
theorem dX9_drawSigns_27 : decode cX9_drawSigns 27 = .ok (.getstatic 259, 3) := by decide +kernel
theorem dX9_drawSigns_30 : decode cX9_drawSigns 30 = .ok (.arraylength, 1) := by decide +kernel
theorem dX9_drawSigns_31 : decode cX9_drawSigns 31 = .ok (.invokevirtual 253, 3) := by decide +kernel
theorem dX9_drawSigns_34 : decode cX9_drawSigns 34 = .ok (.iaload, 1) := by decide +kernel
theorem dX9_drawSigns_35 : decode cX9_drawSigns 35 = .ok (.invokevirtual 262, 3) := by decide +kernel
theorem dX9_drawSigns_38 : decode cX9_drawSigns 38 = .ok (.iinc 2 1, 3) := by decide +kernel
theorem dX9_drawSigns_41 : decode cX9_drawSigns 41 = .ok (.goto (-30), 3) := by decide +kernel
theorem dX9_drawSigns_44 : decode cX9_drawSigns 44 = .ok (.return_, 1) := by decide +kernel
theorem dX9_draw_0 : decode cX9_draw 0 = .ok (.aload_n 0, 1) := by decide +kernel
theorem dX9_draw_1 : decode cX9_draw 1 = .ok (.aload_n 0, 1) := by decide +kernel
theorem dX9_draw_2 : decode cX9_draw 2 = .ok (.getfield 246, 3) := by decide +kernel
theorem dX9_draw_5 : decode cX9_draw 5 = .ok (.ldc2_w 266, 3) := by decide +kernel
theorem dX9_draw_8 : decode cX9_draw 8 = .ok (.lmul, 1) := by decide +kernel
theorem dX9_draw_9 : decode cX9_draw 9 = .ok (.ldc2_w 268, 3) := by decide +kernel
theorem dX9_draw_12 : decode cX9_draw 12 = .ok (.ladd, 1) := by decide +kernel
theorem dX9_draw_13 : decode cX9_draw 13 = .ok (.putfield 246, 3) := by decide +kernel
theorem dX9_draw_16 : decode cX9_draw 16 = .ok (.iload_n 1, 1) := by decide +kernel
theorem dX9_draw_17 : decode cX9_draw 17 = .ok (.iconst 1, 1) := by decide +kernel
theorem dX9_draw_18 : decode cX9_draw 18 = .ok (.if_icmp .ge 7, 3) := by decide +kernel
theorem dX9_draw_21 : decode cX9_draw 21 = .ok (.iconst 0, 1) := by decide +kernel
theorem dX9_draw_22 : decode cX9_draw 22 = .ok (.goto 14, 3) := by decide +kernel
theorem dX9_draw_25 : decode cX9_draw 25 = .ok (.aload_n 0, 1) := by decide +kernel
theorem dX9_draw_26 : decode cX9_draw 26 = .ok (.getfield 246, 3) := by decide +kernel
theorem dX9_draw_29 : decode cX9_draw 29 = .ok (.bipush 33, 2) := by decide +kernel
theorem dX9_draw_31 : decode cX9_draw 31 = .ok (.lushr, 1) := by decide +kernel
theorem dX9_draw_32 : decode cX9_draw 32 = .ok (.iload_n 1, 1) := by decide +kernel
theorem dX9_draw_33 : decode cX9_draw 33 = .ok (.i2l, 1) := by decide +kernel
theorem dX9_draw_34 : decode cX9_draw 34 = .ok (.lrem, 1) := by decide +kernel
theorem dX9_draw_35 : decode cX9_draw 35 = .ok (.l2i, 1) := by decide +kernel
theorem dX9_draw_36 : decode cX9_draw 36 = .ok (.ireturn, 1) := by decide +kernel
theorem dX9_status_0 : decode cX9_status 0 = .ok (.iload_n 1, 1) := by decide +kernel
theorem dX9_status_1 : decode cX9_status 1 = .ok (.ifCond .lt 12, 3) := by decide +kernel
theorem dX9_status_4 : decode cX9_status 4 = .ok (.iload_n 1, 1) := by decide +kernel
theorem dX9_status_5 : decode cX9_status 5 = .ok (.aload_n 0, 1) := by decide +kernel
theorem dX9_status_6 : decode cX9_status 6 = .ok (.getfield 56, 3) := by decide +kernel
theorem dX9_status_9 : decode cX9_status 9 = .ok (.arraylength, 1) := by decide +kernel
theorem dX9_status_10 : decode cX9_status 10 = .ok (.if_icmp .lt 7, 3) := by decide +kernel
theorem dX9_status_13 : decode cX9_status 13 = .ok (.iconst (-1), 1) := by decide +kernel
theorem dX9_status_14 : decode cX9_status 14 = .ok (.goto 9, 3) := by decide +kernel
theorem dX9_status_17 : decode cX9_status 17 = .ok (.aload_n 0, 1) := by decide +kernel
theorem dX9_status_18 : decode cX9_status 18 = .ok (.getfield 56, 3) := by decide +kernel
theorem dX9_status_21 : decode cX9_status 21 = .ok (.iload_n 1, 1) := by decide +kernel
theorem dX9_status_22 : decode cX9_status 22 = .ok (.iaload, 1) := by decide +kernel
theorem dX9_status_23 : decode cX9_status 23 = .ok (.ireturn, 1) := by decide +kernel
theorem dX9_undo_0 : decode cX9_undo 0 = .ok (.aload_n 0, 1) := by decide +kernel
theorem dX9_undo_1 : decode cX9_undo 1 = .ok (.getfield 110, 3) := by decide +kernel
theorem dX9_undo_4 : decode cX9_undo 4 = .ok (.ifCond .ne 5, 3) := by decide +kernel
theorem dX9_undo_7 : decode cX9_undo 7 = .ok (.iconst (-1), 1) := by decide +kernel
theorem dX9_undo_8 : decode cX9_undo 8 = .ok (.ireturn, 1) := by decide +kernel
theorem dX9_undo_9 : decode cX9_undo 9 = .ok (.aload_n 0, 1) := by decide +kernel
theorem dX9_undo_10 : decode cX9_undo 10 = .ok (.aload_n 0, 1) := by decide +kernel
theorem dX9_undo_11 : decode cX9_undo 11 = .ok (.getfield 270, 3) := by decide +kernel
theorem dX9_undo_14 : decode cX9_undo 14 = .ok (.ifCond .ne 8, 3) := by decide +kernel
theorem dX9_undo_17 : decode cX9_undo 17 = .ok (.bipush 39, 2) := by decide +kernel
theorem dX9_undo_19 : decode cX9_undo 19 = .ok (.goto 9, 3) := by decide +kernel
theorem dX9_undo_22 : decode cX9_undo 22 = .ok (.aload_n 0, 1) := by decide +kernel
theorem dX9_undo_23 : decode cX9_undo 23 = .ok (.getfield 270, 3) := by decide +kernel
theorem dX9_undo_26 : decode cX9_undo 26 = .ok (.iconst 1, 1) := by decide +kernel
theorem dX9_undo_27 : decode cX9_undo 27 = .ok (.isub, 1) := by decide +kernel
theorem dX9_undo_28 : decode cX9_undo 28 = .ok (.putfield 270, 3) := by decide +kernel
theorem dX9_undo_31 : decode cX9_undo 31 = .ok (.aload_n 0, 1) := by decide +kernel
theorem dX9_undo_32 : decode cX9_undo 32 = .ok (.getfield 60, 3) := by decide +kernel
theorem dX9_undo_35 : decode cX9_undo 35 = .ok (.aload_n 0, 1) := by decide +kernel
theorem dX9_undo_36 : decode cX9_undo 36 = .ok (.getfield 26, 3) := by decide +kernel
theorem dX9_undo_39 : decode cX9_undo 39 = .ok (.aload_n 0, 1) := by decide +kernel
theorem dX9_undo_40 : decode cX9_undo 40 = .ok (.getfield 270, 3) := by decide +kernel
theorem dX9_undo_43 : decode cX9_undo 43 = .ok (.aaload, 1) := by decide +kernel
theorem dX9_undo_44 : decode cX9_undo 44 = .ok (.invokevirtual 106, 3) := by decide +kernel
theorem dX9_undo_47 : decode cX9_undo 47 = .ok (.aload_n 0, 1) := by decide +kernel
theorem dX9_undo_48 : decode cX9_undo 48 = .ok (.dup, 1) := by decide +kernel
theorem dX9_undo_49 : decode cX9_undo 49 = .ok (.getfield 110, 3) := by decide +kernel
theorem dX9_undo_52 : decode cX9_undo 52 = .ok (.iconst 1, 1) := by decide +kernel
theorem dX9_undo_53 : decode cX9_undo 53 = .ok (.isub, 1) := by decide +kernel
theorem dX9_undo_54 : decode cX9_undo 54 = .ok (.putfield 110, 3) := by decide +kernel
theorem dX9_undo_57 : decode cX9_undo 57 = .ok (.aload_n 0, 1) := by decide +kernel
theorem dX9_undo_58 : decode cX9_undo 58 = .ok (.invokevirtual 117, 3) := by decide +kernel
theorem dX9_undo_61 : decode cX9_undo 61 = .ok (.aload_n 0, 1) := by decide +kernel
theorem dX9_undo_62 : decode cX9_undo 62 = .ok (.getfield 110, 3) := by decide +kernel
theorem dX9_undo_65 : decode cX9_undo 65 = .ok (.ireturn, 1) := by decide +kernel
theorem dX9_log_0 : decode cX9_log 0 = .ok (.aload_n 0, 1) := by decide +kernel
theorem dX9_log_1 : decode cX9_log 1 = .ok (.getfield 60, 3) := by decide +kernel
theorem dX9_log_4 : decode cX9_log 4 = .ok (.getfield 273, 3) := by decide +kernel
theorem dX9_log_7 : decode cX9_log 7 = .ok (.iload_n 1, 1) := by decide +kernel
theorem dX9_log_8 : decode cX9_log 8 = .ok (.iload_n 2, 1) := by decide +kernel
theorem dX9_log_9 : decode cX9_log 9 = .ok (.invokevirtual 277, 3) := by decide +kernel
theorem dX9_log_12 : decode cX9_log 12 = .ok (.ireturn, 1) := by decide +kernel
theorem dX9_spell_0 : decode cX9_spell 0 = .ok (.aload_n 0, 1) := by decide +kernel
theorem dX9_spell_1 : decode cX9_spell 1 = .ok (.invokevirtual 126, 3) := by decide +kernel
theorem dX9_spell_4 : decode cX9_spell 4 = .ok (.astore_n 3, 1) := by decide +kernel
theorem dX9_spell_5 : decode cX9_spell 5 = .ok (.aload_n 3, 1) := by decide +kernel
theorem dX9_spell_6 : decode cX9_spell 6 = .ok (.iload_n 1, 1) := by decide +kernel
theorem dX9_spell_7 : decode cX9_spell 7 = .ok (.invokevirtual 156, 3) := by decide +kernel
theorem dX9_spell_10 : decode cX9_spell 10 = .ok (.ifCond .ne 5, 3) := by decide +kernel
theorem dX9_spell_13 : decode cX9_spell 13 = .ok (.iconst (-1), 1) := by decide +kernel
theorem dX9_spell_14 : decode cX9_spell 14 = .ok (.ireturn, 1) := by decide +kernel
theorem dX9_spell_15 : decode cX9_spell 15 = .ok (.aload_n 3, 1) := by decide +kernel
theorem dX9_spell_16 : decode cX9_spell 16 = .ok (.iload_n 1, 1) := by decide +kernel
theorem dX9_spell_17 : decode cX9_spell 17 = .ok (.invokevirtual 162, 3) := by decide +kernel
theorem dX9_spell_20 : decode cX9_spell 20 = .ok (.istore 4, 2) := by decide +kernel
theorem dX9_spell_22 : decode cX9_spell 22 = .ok (.iconst 5, 1) := by decide +kernel
theorem dX9_spell_23 : decode cX9_spell 23 = .ok (.iload 4, 2) := by decide +kernel
theorem dX9_spell_25 : decode cX9_spell 25 = .ok (.invokestatic 282, 3) := by decide +kernel
theorem dX9_spell_28 : decode cX9_spell 28 = .ok (.istore 5, 2) := by decide +kernel
theorem dX9_spell_30 : decode cX9_spell 30 = .ok (.iconst 5, 1) := by decide +kernel
theorem dX9_spell_31 : decode cX9_spell 31 = .ok (.aload_n 3, 1) := by decide +kernel
theorem dX9_spell_32 : decode cX9_spell 32 = .ok (.iload_n 1, 1) := by decide +kernel
theorem dX9_spell_33 : decode cX9_spell 33 = .ok (.invokevirtual 165, 3) := by decide +kernel
theorem dX9_spell_36 : decode cX9_spell 36 = .ok (.aload_n 0, 1) := by decide +kernel
theorem dX9_spell_37 : decode cX9_spell 37 = .ok (.getfield 33, 3) := by decide +kernel
theorem dX9_spell_40 : decode cX9_spell 40 = .ok (.getfield 109, 3) := by decide +kernel
theorem dX9_spell_43 : decode cX9_spell 43 = .ok (.isub, 1) := by decide +kernel
theorem dX9_spell_44 : decode cX9_spell 44 = .ok (.invokestatic 282, 3) := by decide +kernel
theorem dX9_spell_47 : decode cX9_spell 47 = .ok (.istore 6, 2) := by decide +kernel
theorem dX9_spell_49 : decode cX9_spell 49 = .ok (.iload 5, 2) := by decide +kernel
theorem dX9_spell_51 : decode cX9_spell 51 = .ok (.aload_n 0, 1) := by decide +kernel
theorem dX9_spell_52 : decode cX9_spell 52 = .ok (.getfield 33, 3) := by decide +kernel
theorem dX9_spell_55 : decode cX9_spell 55 = .ok (.getfield 109, 3) := by decide +kernel
theorem dX9_spell_58 : decode cX9_spell 58 = .ok (.iadd, 1) := by decide +kernel
theorem dX9_spell_59 : decode cX9_spell 59 = .ok (.iload 6, 2) := by decide +kernel
theorem dX9_spell_61 : decode cX9_spell 61 = .ok (.iadd, 1) := by decide +kernel
theorem dX9_spell_62 : decode cX9_spell 62 = .ok (.iconst 2, 1) := by decide +kernel
theorem dX9_spell_63 : decode cX9_spell 63 = .ok (.iadd, 1) := by decide +kernel
theorem dX9_spell_64 : decode cX9_spell 64 = .ok (.istore 7, 2) := by decide +kernel
theorem dX9_spell_66 : decode cX9_spell 66 = .ok (.iload_n 2, 1) := by decide +kernel
theorem dX9_spell_67 : decode cX9_spell 67 = .ok (.iconst (-1), 1) := by decide +kernel
theorem dX9_spell_68 : decode cX9_spell 68 = .ok (.if_icmp .ne 6, 3) := by decide +kernel
theorem dX9_spell_71 : decode cX9_spell 71 = .ok (.iload 7, 2) := by decide +kernel
theorem dX9_spell_73 : decode cX9_spell 73 = .ok (.ireturn, 1) := by decide +kernel
theorem dX9_spell_74 : decode cX9_spell 74 = .ok (.iload_n 2, 1) := by decide +kernel
theorem dX9_spell_75 : decode cX9_spell 75 = .ok (.ifCond .lt 9, 3) := by decide +kernel
theorem dX9_spell_78 : decode cX9_spell 78 = .ok (.iload_n 2, 1) := by decide +kernel
theorem dX9_spell_79 : decode cX9_spell 79 = .ok (.iload 7, 2) := by decide +kernel
theorem dX9_spell_81 : decode cX9_spell 81 = .ok (.if_icmp .lt 5, 3) := by decide +kernel
theorem dX9_spell_84 : decode cX9_spell 84 = .ok (.iconst (-1), 1) := by decide +kernel
theorem dX9_spell_85 : decode cX9_spell 85 = .ok (.ireturn, 1) := by decide +kernel
theorem dX9_spell_86 : decode cX9_spell 86 = .ok (.iload 5, 2) := by decide +kernel
theorem dX9_spell_88 : decode cX9_spell 88 = .ok (.istore 8, 2) := by decide +kernel
theorem dX9_spell_90 : decode cX9_spell 90 = .ok (.iload 5, 2) := by decide +kernel
theorem dX9_spell_92 : decode cX9_spell 92 = .ok (.aload_n 0, 1) := by decide +kernel
theorem dX9_spell_93 : decode cX9_spell 93 = .ok (.getfield 33, 3) := by decide +kernel
theorem dX9_spell_96 : decode cX9_spell 96 = .ok (.getfield 109, 3) := by decide +kernel
theorem dX9_spell_99 : decode cX9_spell 99 = .ok (.iadd, 1) := by decide +kernel
theorem dX9_spell_100 : decode cX9_spell 100 = .ok (.iconst 1, 1) := by decide +kernel
theorem dX9_spell_101 : decode cX9_spell 101 = .ok (.iadd, 1) := by decide +kernel
theorem dX9_spell_102 : decode cX9_spell 102 = .ok (.istore 9, 2) := by decide +kernel
theorem dX9_spell_104 : decode cX9_spell 104 = .ok (.iload_n 2, 1) := by decide +kernel
theorem dX9_spell_105 : decode cX9_spell 105 = .ok (.iload 8, 2) := by decide +kernel
theorem dX9_spell_107 : decode cX9_spell 107 = .ok (.if_icmp .ne 6, 3) := by decide +kernel
theorem dX9_spell_110 : decode cX9_spell 110 = .ok (.bipush 91, 2) := by decide +kernel
theorem dX9_spell_112 : decode cX9_spell 112 = .ok (.ireturn, 1) := by decide +kernel
theorem dX9_spell_113 : decode cX9_spell 113 = .ok (.iload_n 2, 1) := by decide +kernel
theorem dX9_spell_114 : decode cX9_spell 114 = .ok (.iload 9, 2) := by decide +kernel
theorem dX9_spell_116 : decode cX9_spell 116 = .ok (.if_icmp .ne 6, 3) := by decide +kernel
theorem dX9_spell_119 : decode cX9_spell 119 = .ok (.bipush 93, 2) := by decide +kernel
theorem dX9_spell_121 : decode cX9_spell 121 = .ok (.ireturn, 1) := by decide +kernel
theorem dX9_spell_122 : decode cX9_spell 122 = .ok (.iload_n 2, 1) := by decide +kernel
theorem dX9_spell_123 : decode cX9_spell 123 = .ok (.iload 8, 2) := by decide +kernel
theorem dX9_spell_125 : decode cX9_spell 125 = .ok (.if_icmp .ge 7, 3) := by decide +kernel
theorem dX9_spell_128 : decode cX9_spell 128 = .ok (.iconst 0, 1) := by decide +kernel
theorem dX9_spell_129 : decode cX9_spell 129 = .ok (.goto 14, 3) := by decide +kernel
theorem dX9_spell_132 : decode cX9_spell 132 = .ok (.iload_n 2, 1) := by decide +kernel
theorem dX9_spell_133 : decode cX9_spell 133 = .ok (.iload 9, 2) := by decide +kernel
theorem dX9_spell_135 : decode cX9_spell 135 = .ok (.if_icmp .ge 7, 3) := by decide +kernel
theorem dX9_spell_138 : decode cX9_spell 138 = .ok (.iconst 1, 1) := by decide +kernel
theorem dX9_spell_139 : decode cX9_spell 139 = .ok (.goto 4, 3) := by decide +kernel
theorem dX9_spell_142 : decode cX9_spell 142 = .ok (.iconst 2, 1) := by decide +kernel
theorem dX9_spell_143 : decode cX9_spell 143 = .ok (.istore 10, 2) := by decide +kernel
theorem dX9_spell_145 : decode cX9_spell 145 = .ok (.aload_n 0, 1) := by decide +kernel
theorem dX9_spell_146 : decode cX9_spell 146 = .ok (.getfield 60, 3) := by decide +kernel
theorem dX9_spell_149 : decode cX9_spell 149 = .ok (.getfield 140, 3) := by decide +kernel
theorem dX9_spell_152 : decode cX9_spell 152 = .ok (.aload_n 3, 1) := by decide +kernel
theorem dX9_spell_153 : decode cX9_spell 153 = .ok (.iload_n 1, 1) := by decide +kernel
theorem dX9_spell_154 : decode cX9_spell 154 = .ok (.invokevirtual 159, 3) := by decide +kernel
theorem dX9_spell_157 : decode cX9_spell 157 = .ok (.aaload, 1) := by decide +kernel
theorem dX9_spell_158 : decode cX9_spell 158 = .ok (.getfield 149, 3) := by decide +kernel
theorem dX9_spell_161 : decode cX9_spell 161 = .ok (.iload 4, 2) := by decide +kernel
theorem dX9_spell_163 : decode cX9_spell 163 = .ok (.iload 5, 2) := by decide +kernel
theorem dX9_spell_165 : decode cX9_spell 165 = .ok (.isub, 1) := by decide +kernel
theorem dX9_spell_166 : decode cX9_spell 166 = .ok (.iload_n 2, 1) := by decide +kernel
theorem dX9_spell_167 : decode cX9_spell 167 = .ok (.iadd, 1) := by decide +kernel
theorem dX9_spell_168 : decode cX9_spell 168 = .ok (.iload 10, 2) := by decide +kernel
theorem dX9_spell_170 : decode cX9_spell 170 = .ok (.isub, 1) := by decide +kernel
theorem dX9_spell_171 : decode cX9_spell 171 = .ok (.invokevirtual 152, 3) := by decide +kernel
theorem dX9_spell_174 : decode cX9_spell 174 = .ok (.ireturn, 1) := by decide +kernel
theorem dX9_would_0 : decode cX9_would 0 = .ok (.aload_n 0, 1) := by decide +kernel
theorem dX9_would_1 : decode cX9_would 1 = .ok (.getfield 60, 3) := by decide +kernel
theorem dX9_would_4 : decode cX9_would 4 = .ok (.iload_n 1, 1) := by decide +kernel
theorem dX9_would_5 : decode cX9_would 5 = .ok (.invokevirtual 134, 3) := by decide +kernel
theorem dX9_would_8 : decode cX9_would 8 = .ok (.ifCond .eq 30, 3) := by decide +kernel
theorem dX9_would_11 : decode cX9_would 11 = .ok (.aload_n 0, 1) := by decide +kernel
theorem dX9_would_12 : decode cX9_would 12 = .ok (.getfield 33, 3) := by decide +kernel
theorem dX9_would_15 : decode cX9_would 15 = .ok (.getfield 109, 3) := by decide +kernel
theorem dX9_would_18 : decode cX9_would 18 = .ok (.ifCond .eq 20, 3) := by decide +kernel
theorem dX9_would_21 : decode cX9_would 21 = .ok (.aload_n 0, 1) := by decide +kernel
theorem dX9_would_22 : decode cX9_would 22 = .ok (.getfield 10, 3) := by decide +kernel
theorem dX9_would_25 : decode cX9_would 25 = .ok (.aload_n 0, 1) := by decide +kernel
theorem dX9_would_26 : decode cX9_would 26 = .ok (.getfield 40, 3) := by decide +kernel
theorem dX9_would_29 : decode cX9_would 29 = .ok (.bipush 20, 2) := by decide +kernel
theorem dX9_would_31 : decode cX9_would 31 = .ok (.invokevirtual 95, 3) := by decide +kernel
theorem dX9_would_34 : decode cX9_would 34 = .ok (.iconst (-1), 1) := by decide +kernel
theorem dX9_would_35 : decode cX9_would 35 = .ok (.if_icmp .eq 5, 3) := by decide +kernel
theorem dX9_would_38 : decode cX9_would 38 = .ok (.iconst (-1), 1) := by decide +kernel
theorem dX9_would_39 : decode cX9_would 39 = .ok (.ireturn, 1) := by decide +kernel
theorem dX9_would_40 : decode cX9_would 40 = .ok (.aload_n 0, 1) := by decide +kernel
theorem dX9_would_41 : decode cX9_would 41 = .ok (.getfield 60, 3) := by decide +kernel
theorem dX9_would_44 : decode cX9_would 44 = .ok (.aload_n 0, 1) := by decide +kernel
theorem dX9_would_45 : decode cX9_would 45 = .ok (.getfield 33, 3) := by decide +kernel
theorem dX9_would_48 : decode cX9_would 48 = .ok (.invokevirtual 285, 3) := by decide +kernel
theorem dX9_would_51 : decode cX9_would 51 = .ok (.aload_n 0, 1) := by decide +kernel
theorem dX9_would_52 : decode cX9_would 52 = .ok (.getfield 60, 3) := by decide +kernel
theorem dX9_would_55 : decode cX9_would 55 = .ok (.getfield 140, 3) := by decide +kernel
theorem dX9_would_58 : decode cX9_would 58 = .ok (.iload_n 1, 1) := by decide +kernel
theorem dX9_would_59 : decode cX9_would 59 = .ok (.aaload, 1) := by decide +kernel
theorem dX9_would_60 : decode cX9_would 60 = .ok (.getfield 149, 3) := by decide +kernel
theorem dX9_would_63 : decode cX9_would 63 = .ok (.aload_n 0, 1) := by decide +kernel
theorem dX9_would_64 : decode cX9_would 64 = .ok (.getfield 33, 3) := by decide +kernel
theorem dX9_would_67 : decode cX9_would 67 = .ok (.invokevirtual 289, 3) := by decide +kernel
theorem dX9_would_70 : decode cX9_would 70 = .ok (.isub, 1) := by decide +kernel
theorem dX9_would_71 : decode cX9_would 71 = .ok (.aload_n 0, 1) := by decide +kernel
theorem dX9_would_72 : decode cX9_would 72 = .ok (.getfield 40, 3) := by decide +kernel
theorem dX9_would_75 : decode cX9_would 75 = .ok (.aload_n 0, 1) := by decide +kernel
theorem dX9_would_76 : decode cX9_would 76 = .ok (.getfield 33, 3) := by decide +kernel
theorem dX9_would_79 : decode cX9_would 79 = .ok (.invokevirtual 289, 3) := by decide +kernel
theorem dX9_would_82 : decode cX9_would 82 = .ok (.iadd, 1) := by decide +kernel
theorem dX9_would_83 : decode cX9_would 83 = .ok (.ireturn, 1) := by decide +kernel
theorem dX9_step_0 : decode cX9_step 0 = .ok (.aload_n 0, 1) := by decide +kernel
theorem dX9_step_1 : decode cX9_step 1 = .ok (.iload_n 1, 1) := by decide +kernel
theorem dX9_step_2 : decode cX9_step 2 = .ok (.invokevirtual 290, 3) := by decide +kernel
theorem dX9_step_5 : decode cX9_step 5 = .ok (.ifCond .eq 20, 3) := by decide +kernel
theorem dX9_step_8 : decode cX9_step 8 = .ok (.iload_n 2, 1) := by decide +kernel
theorem dX9_step_9 : decode cX9_step 9 = .ok (.ifCond .lt 16, 3) := by decide +kernel
theorem dX9_step_12 : decode cX9_step 12 = .ok (.iload_n 2, 1) := by decide +kernel
theorem dX9_step_13 : decode cX9_step 13 = .ok (.aload_n 0, 1) := by decide +kernel
theorem dX9_step_14 : decode cX9_step 14 = .ok (.getfield 52, 3) := by decide +kernel
theorem dX9_step_17 : decode cX9_step 17 = .ok (.iload_n 1, 1) := by decide +kernel
theorem dX9_step_18 : decode cX9_step 18 = .ok (.aaload, 1) := by decide +kernel
theorem dX9_step_19 : decode cX9_step 19 = .ok (.getfield 293, 3) := by decide +kernel
theorem dX9_step_22 : decode cX9_step 22 = .ok (.if_icmp .lt 6, 3) := by decide +kernel
theorem dX9_step_25 : decode cX9_step 25 = .ok (.ldc 210, 2) := by decide +kernel
theorem dX9_step_27 : decode cX9_step 27 = .ok (.ireturn, 1) := by decide +kernel
theorem dX9_step_28 : decode cX9_step 28 = .ok (.aload_n 0, 1) := by decide +kernel
theorem dX9_step_29 : decode cX9_step 29 = .ok (.getfield 52, 3) := by decide +kernel
theorem dX9_step_32 : decode cX9_step 32 = .ok (.iload_n 1, 1) := by decide +kernel
theorem dX9_step_33 : decode cX9_step 33 = .ok (.aaload, 1) := by decide +kernel
theorem dX9_step_34 : decode cX9_step 34 = .ok (.getfield 294, 3) := by decide +kernel
theorem dX9_step_37 : decode cX9_step 37 = .ok (.iload_n 2, 1) := by decide +kernel
theorem dX9_step_38 : decode cX9_step 38 = .ok (.aaload, 1) := by decide +kernel
theorem dX9_step_39 : decode cX9_step 39 = .ok (.astore 4, 2) := by decide +kernel
theorem dX9_step_41 : decode cX9_step 41 = .ok (.iload_n 3, 1) := by decide +kernel
theorem dX9_step_42 : decode cX9_step 42 = .ok (.tableswitch 57 0 3 #[30, 36, 42, 48], 30) := by decide +kernel
theorem dX9_step_72 : decode cX9_step 72 = .ok (.aload 4, 2) := by decide +kernel
theorem dX9_step_74 : decode cX9_step 74 = .ok (.getfield 298, 3) := by decide +kernel
theorem dX9_step_77 : decode cX9_step 77 = .ok (.ireturn, 1) := by decide +kernel
theorem dX9_step_78 : decode cX9_step 78 = .ok (.aload 4, 2) := by decide +kernel
theorem dX9_step_80 : decode cX9_step 80 = .ok (.getfield 301, 3) := by decide +kernel
theorem dX9_step_83 : decode cX9_step 83 = .ok (.ireturn, 1) := by decide +kernel
theorem dX9_step_84 : decode cX9_step 84 = .ok (.aload 4, 2) := by decide +kernel
theorem dX9_step_86 : decode cX9_step 86 = .ok (.getfield 304, 3) := by decide +kernel
theorem dX9_step_89 : decode cX9_step 89 = .ok (.ireturn, 1) := by decide +kernel
theorem dX9_step_90 : decode cX9_step 90 = .ok (.aload 4, 2) := by decide +kernel
theorem dX9_step_92 : decode cX9_step 92 = .ok (.getfield 215, 3) := by decide +kernel
theorem dX9_step_95 : decode cX9_step 95 = .ok (.getfield 109, 3) := by decide +kernel
theorem dX9_step_98 : decode cX9_step 98 = .ok (.ireturn, 1) := by decide +kernel
theorem dX9_step_99 : decode cX9_step 99 = .ok (.ldc 210, 2) := by decide +kernel
theorem dX9_step_101 : decode cX9_step 101 = .ok (.ireturn, 1) := by decide +kernel
theorem dX9_run_0 : decode cX9_run 0 = .ok (.aload_n 0, 1) := by decide +kernel
theorem dX9_run_1 : decode cX9_run 1 = .ok (.iload_n 1, 1) := by decide +kernel
theorem dX9_run_2 : decode cX9_run 2 = .ok (.invokevirtual 290, 3) := by decide +kernel
theorem dX9_run_5 : decode cX9_run 5 = .ok (.ifCond .eq 22, 3) := by decide +kernel
theorem dX9_run_8 : decode cX9_run 8 = .ok (.aload_n 0, 1) := by decide +kernel
theorem dX9_run_9 : decode cX9_run 9 = .ok (.getfield 60, 3) := by decide +kernel
theorem dX9_run_12 : decode cX9_run 12 = .ok (.getfield 120, 3) := by decide +kernel
theorem dX9_run_15 : decode cX9_run 15 = .ok (.ifCond .eq 12, 3) := by decide +kernel
theorem dX9_run_18 : decode cX9_run 18 = .ok (.iload_n 2, 1) := by decide +kernel
theorem dX9_run_19 : decode cX9_run 19 = .ok (.ifCond .lt 8, 3) := by decide +kernel
theorem dX9_run_22 : decode cX9_run 22 = .ok (.iload_n 2, 1) := by decide +kernel
theorem dX9_run_23 : decode cX9_run 23 = .ok (.iconst 1, 1) := by decide +kernel
theorem dX9_run_24 : decode cX9_run 24 = .ok (.if_icmp .le 6, 3) := by decide +kernel
theorem dX9_run_27 : decode cX9_run 27 = .ok (.ldc 210, 2) := by decide +kernel
theorem dX9_run_29 : decode cX9_run 29 = .ok (.ireturn, 1) := by decide +kernel
theorem dX9_run_30 : decode cX9_run 30 = .ok (.aload_n 0, 1) := by decide +kernel
theorem dX9_run_31 : decode cX9_run 31 = .ok (.getfield 52, 3) := by decide +kernel
theorem dX9_run_34 : decode cX9_run 34 = .ok (.iload_n 1, 1) := by decide +kernel
theorem dX9_run_35 : decode cX9_run 35 = .ok (.aaload, 1) := by decide +kernel
theorem dX9_run_36 : decode cX9_run 36 = .ok (.astore_n 3, 1) := by decide +kernel
theorem dX9_run_37 : decode cX9_run 37 = .ok (.aload_n 0, 1) := by decide +kernel
theorem dX9_run_38 : decode cX9_run 38 = .ok (.getfield 19, 3) := by decide +kernel
theorem dX9_run_41 : decode cX9_run 41 = .ok (.aload_n 0, 1) := by decide +kernel
theorem dX9_run_42 : decode cX9_run 42 = .ok (.getfield 60, 3) := by decide +kernel
theorem dX9_run_45 : decode cX9_run 45 = .ok (.invokevirtual 106, 3) := by decide +kernel
theorem dX9_run_48 : decode cX9_run 48 = .ok (.iconst 0, 1) := by decide +kernel
theorem dX9_run_49 : decode cX9_run 49 = .ok (.istore 4, 2) := by decide +kernel
theorem dX9_run_51 : decode cX9_run 51 = .ok (.iload 4, 2) := by decide +kernel
theorem dX9_run_53 : decode cX9_run 53 = .ok (.aload_n 3, 1) := by decide +kernel
theorem dX9_run_54 : decode cX9_run 54 = .ok (.getfield 293, 3) := by decide +kernel
theorem dX9_run_57 : decode cX9_run 57 = .ok (.if_icmp .ge 42, 3) := by decide +kernel
theorem dX9_run_60 : decode cX9_run 60 = .ok (.aload_n 0, 1) := by decide +kernel
theorem dX9_run_61 : decode cX9_run 61 = .ok (.getfield 19, 3) := by decide +kernel
theorem dX9_run_64 : decode cX9_run 64 = .ok (.aload_n 3, 1) := by decide +kernel
theorem dX9_run_65 : decode cX9_run 65 = .ok (.getfield 294, 3) := by decide +kernel
theorem dX9_run_68 : decode cX9_run 68 = .ok (.iload 4, 2) := by decide +kernel
theorem dX9_run_70 : decode cX9_run 70 = .ok (.aaload, 1) := by decide +kernel
theorem dX9_run_71 : decode cX9_run 71 = .ok (.invokevirtual 307, 3) := by decide +kernel
theorem dX9_run_74 : decode cX9_run 74 = .ok (.iconst (-1), 1) := by decide +kernel
theorem dX9_run_75 : decode cX9_run 75 = .ok (.if_icmp .ne 24, 3) := by decide +kernel
theorem dX9_run_78 : decode cX9_run 78 = .ok (.aload_n 0, 1) := by decide +kernel
theorem dX9_run_79 : decode cX9_run 79 = .ok (.getfield 19, 3) := by decide +kernel
theorem dX9_run_82 : decode cX9_run 82 = .ok (.aload_n 3, 1) := by decide +kernel
theorem dX9_run_83 : decode cX9_run 83 = .ok (.getfield 294, 3) := by decide +kernel
theorem dX9_run_86 : decode cX9_run 86 = .ok (.iload 4, 2) := by decide +kernel
theorem dX9_run_88 : decode cX9_run 88 = .ok (.aaload, 1) := by decide +kernel
theorem dX9_run_89 : decode cX9_run 89 = .ok (.invokevirtual 311, 3) := by decide +kernel
theorem dX9_run_92 : decode cX9_run 92 = .ok (.pop, 1) := by decide +kernel
theorem dX9_run_93 : decode cX9_run 93 = .ok (.iinc 4 1, 3) := by decide +kernel
theorem dX9_run_96 : decode cX9_run 96 = .ok (.goto (-45), 3) := by decide +kernel
theorem dX9_run_99 : decode cX9_run 99 = .ok (.iload_n 2, 1) := by decide +kernel
theorem dX9_run_100 : decode cX9_run 100 = .ok (.iconst 1, 1) := by decide +kernel
theorem dX9_run_101 : decode cX9_run 101 = .ok (.if_icmp .ne 11, 3) := by decide +kernel
theorem dX9_run_104 : decode cX9_run 104 = .ok (.aload_n 0, 1) := by decide +kernel
theorem dX9_run_105 : decode cX9_run 105 = .ok (.getfield 19, 3) := by decide +kernel
theorem dX9_run_108 : decode cX9_run 108 = .ok (.invokevirtual 131, 3) := by decide +kernel
theorem dX9_run_111 : decode cX9_run 111 = .ok (.ireturn, 1) := by decide +kernel
theorem dX9_run_112 : decode cX9_run 112 = .ok (.iload 4, 2) := by decide +kernel
theorem dX9_run_114 : decode cX9_run 114 = .ok (.aload_n 3, 1) := by decide +kernel
theorem dX9_run_115 : decode cX9_run 115 = .ok (.getfield 293, 3) := by decide +kernel
theorem dX9_run_118 : decode cX9_run 118 = .ok (.if_icmp .ne 7, 3) := by decide +kernel
theorem dX9_run_121 : decode cX9_run 121 = .ok (.iconst (-1), 1) := by decide +kernel
theorem dX9_run_122 : decode cX9_run 122 = .ok (.goto 5, 3) := by decide +kernel
theorem dX9_run_125 : decode cX9_run 125 = .ok (.iload 4, 2) := by decide +kernel
theorem dX9_run_127 : decode cX9_run 127 = .ok (.ireturn, 1) := by decide +kernel
theorem dX9_perform_0 : decode cX9_perform 0 = .ok (.aload_n 0, 1) := by decide +kernel
theorem dX9_perform_1 : decode cX9_perform 1 = .ok (.iload_n 1, 1) := by decide +kernel
theorem dX9_perform_2 : decode cX9_perform 2 = .ok (.invokevirtual 290, 3) := by decide +kernel
theorem dX9_perform_5 : decode cX9_perform 5 = .ok (.ifCond .eq 13, 3) := by decide +kernel
theorem dX9_perform_8 : decode cX9_perform 8 = .ok (.aload_n 0, 1) := by decide +kernel
theorem dX9_perform_9 : decode cX9_perform 9 = .ok (.getfield 60, 3) := by decide +kernel
theorem dX9_perform_12 : decode cX9_perform 12 = .ok (.getfield 120, 3) := by decide +kernel
theorem dX9_perform_15 : decode cX9_perform 15 = .ok (.ifCond .ne 5, 3) := by decide +kernel
theorem dX9_perform_18 : decode cX9_perform 18 = .ok (.iconst (-1), 1) := by decide +kernel
theorem dX9_perform_19 : decode cX9_perform 19 = .ok (.ireturn, 1) := by decide +kernel
theorem dX9_perform_20 : decode cX9_perform 20 = .ok (.aload_n 0, 1) := by decide +kernel
theorem dX9_perform_21 : decode cX9_perform 21 = .ok (.getfield 52, 3) := by decide +kernel
theorem dX9_perform_24 : decode cX9_perform 24 = .ok (.iload_n 1, 1) := by decide +kernel
theorem dX9_perform_25 : decode cX9_perform 25 = .ok (.aaload, 1) := by decide +kernel
theorem dX9_perform_26 : decode cX9_perform 26 = .ok (.astore_n 2, 1) := by decide +kernel
theorem dX9_perform_27 : decode cX9_perform 27 = .ok (.iconst 0, 1) := by decide +kernel
theorem dX9_perform_28 : decode cX9_perform 28 = .ok (.istore_n 3, 1) := by decide +kernel
theorem dX9_perform_29 : decode cX9_perform 29 = .ok (.iload_n 3, 1) := by decide +kernel
theorem dX9_perform_30 : decode cX9_perform 30 = .ok (.aload_n 2, 1) := by decide +kernel
theorem dX9_perform_31 : decode cX9_perform 31 = .ok (.getfield 293, 3) := by decide +kernel
theorem dX9_perform_34 : decode cX9_perform 34 = .ok (.if_icmp .ge 24, 3) := by decide +kernel
theorem dX9_perform_37 : decode cX9_perform 37 = .ok (.aload_n 0, 1) := by decide +kernel
theorem dX9_perform_38 : decode cX9_perform 38 = .ok (.aload_n 2, 1) := by decide +kernel
theorem dX9_perform_39 : decode cX9_perform 39 = .ok (.getfield 294, 3) := by decide +kernel
theorem dX9_perform_42 : decode cX9_perform 42 = .ok (.iload_n 3, 1) := by decide +kernel
theorem dX9_perform_43 : decode cX9_perform 43 = .ok (.aaload, 1) := by decide +kernel
theorem dX9_perform_44 : decode cX9_perform 44 = .ok (.iconst 0, 1) := by decide +kernel
theorem dX9_perform_45 : decode cX9_perform 45 = .ok (.invokevirtual 203, 3) := by decide +kernel
theorem dX9_perform_48 : decode cX9_perform 48 = .ok (.iconst (-1), 1) := by decide +kernel
theorem dX9_perform_49 : decode cX9_perform 49 = .ok (.if_icmp .eq 9, 3) := by decide +kernel
theorem dX9_perform_52 : decode cX9_perform 52 = .ok (.iinc 3 1, 3) := by decide +kernel
theorem dX9_perform_55 : decode cX9_perform 55 = .ok (.goto (-26), 3) := by decide +kernel
theorem dX9_perform_58 : decode cX9_perform 58 = .ok (.iload_n 3, 1) := by decide +kernel
theorem dX9_perform_59 : decode cX9_perform 59 = .ok (.ireturn, 1) := by decide +kernel
theorem dX9_most_0 : decode cX9_most 0 = .ok (.aload_n 0, 1) := by decide +kernel
theorem dX9_most_1 : decode cX9_most 1 = .ok (.getfield 60, 3) := by decide +kernel
theorem dX9_most_4 : decode cX9_most 4 = .ok (.getfield 120, 3) := by decide +kernel
theorem dX9_most_7 : decode cX9_most 7 = .ok (.ifCond .ne 6, 3) := by decide +kernel
theorem dX9_most_10 : decode cX9_most 10 = .ok (.ldc 210, 2) := by decide +kernel
theorem dX9_most_12 : decode cX9_most 12 = .ok (.ireturn, 1) := by decide +kernel
theorem dX9_most_13 : decode cX9_most 13 = .ok (.iload_n 1, 1) := by decide +kernel
theorem dX9_most_14 : decode cX9_most 14 = .ok (.tableswitch 106 0 6 #[42, 50, 58, 63, 82, 90, 98], 42) := by decide +kernel
theorem dX9_most_56 : decode cX9_most 56 = .ok (.aload_n 0, 1) := by decide +kernel
theorem dX9_most_57 : decode cX9_most 57 = .ok (.getfield 60, 3) := by decide +kernel
theorem dX9_most_60 : decode cX9_most 60 = .ok (.invokevirtual 314, 3) := by decide +kernel
theorem dX9_most_63 : decode cX9_most 63 = .ok (.ireturn, 1) := by decide +kernel
theorem dX9_most_64 : decode cX9_most 64 = .ok (.aload_n 0, 1) := by decide +kernel
theorem dX9_most_65 : decode cX9_most 65 = .ok (.getfield 60, 3) := by decide +kernel
theorem dX9_most_68 : decode cX9_most 68 = .ok (.invokevirtual 317, 3) := by decide +kernel
theorem dX9_most_71 : decode cX9_most 71 = .ok (.ireturn, 1) := by decide +kernel
theorem dX9_most_72 : decode cX9_most 72 = .ok (.aload_n 0, 1) := by decide +kernel
theorem dX9_most_73 : decode cX9_most 73 = .ok (.invokevirtual 320, 3) := by decide +kernel
theorem dX9_most_76 : decode cX9_most 76 = .ok (.ireturn, 1) := by decide +kernel
theorem dX9_most_77 : decode cX9_most 77 = .ok (.iconst 0, 1) := by decide +kernel
theorem dX9_most_78 : decode cX9_most 78 = .ok (.aload_n 0, 1) := by decide +kernel
theorem dX9_most_79 : decode cX9_most 79 = .ok (.invokevirtual 172, 3) := by decide +kernel
theorem dX9_most_82 : decode cX9_most 82 = .ok (.aload_n 0, 1) := by decide +kernel
theorem dX9_most_83 : decode cX9_most 83 = .ok (.invokevirtual 172, 3) := by decide +kernel
theorem dX9_most_86 : decode cX9_most 86 = .ok (.invokevirtual 178, 3) := by decide +kernel
theorem dX9_most_89 : decode cX9_most 89 = .ok (.invokevirtual 175, 3) := by decide +kernel
theorem dX9_most_92 : decode cX9_most 92 = .ok (.invokestatic 191, 3) := by decide +kernel
theorem dX9_most_95 : decode cX9_most 95 = .ok (.ireturn, 1) := by decide +kernel
theorem dX9_most_96 : decode cX9_most 96 = .ok (.aload_n 0, 1) := by decide +kernel
theorem dX9_most_97 : decode cX9_most 97 = .ok (.getfield 60, 3) := by decide +kernel
theorem dX9_most_100 : decode cX9_most 100 = .ok (.invokevirtual 323, 3) := by decide +kernel
theorem dX9_most_103 : decode cX9_most 103 = .ok (.ireturn, 1) := by decide +kernel
theorem dX9_most_104 : decode cX9_most 104 = .ok (.aload_n 0, 1) := by decide +kernel
theorem dX9_most_105 : decode cX9_most 105 = .ok (.getfield 60, 3) := by decide +kernel
theorem dX9_most_108 : decode cX9_most 108 = .ok (.invokevirtual 326, 3) := by decide +kernel
theorem dX9_most_111 : decode cX9_most 111 = .ok (.ireturn, 1) := by decide +kernel
theorem dX9_most_112 : decode cX9_most 112 = .ok (.aload_n 0, 1) := by decide +kernel
theorem dX9_most_113 : decode cX9_most 113 = .ok (.getfield 60, 3) := by decide +kernel
theorem dX9_most_116 : decode cX9_most 116 = .ok (.invokevirtual 329, 3) := by decide +kernel
theorem dX9_most_119 : decode cX9_most 119 = .ok (.ireturn, 1) := by decide +kernel
theorem dX9_most_120 : decode cX9_most 120 = .ok (.ldc 210, 2) := by decide +kernel
theorem dX9_most_122 : decode cX9_most 122 = .ok (.ireturn, 1) := by decide +kernel
theorem dX9_unlikeSigns_0 : decode cX9_unlikeSigns 0 = .ok (.iconst 0, 1) := by decide +kernel
theorem dX9_unlikeSigns_1 : decode cX9_unlikeSigns 1 = .ok (.istore_n 1, 1) := by decide +kernel
theorem dX9_unlikeSigns_2 : decode cX9_unlikeSigns 2 = .ok (.iconst 0, 1) := by decide +kernel
theorem dX9_unlikeSigns_3 : decode cX9_unlikeSigns 3 = .ok (.istore_n 2, 1) := by decide +kernel
theorem dX9_unlikeSigns_4 : decode cX9_unlikeSigns 4 = .ok (.iload_n 2, 1) := by decide +kernel
theorem dX9_unlikeSigns_5 : decode cX9_unlikeSigns 5 = .ok (.aload_n 0, 1) := by decide +kernel
theorem dX9_unlikeSigns_6 : decode cX9_unlikeSigns 6 = .ok (.getfield 60, 3) := by decide +kernel
theorem dX9_unlikeSigns_9 : decode cX9_unlikeSigns 9 = .ok (.getfield 120, 3) := by decide +kernel
theorem dX9_unlikeSigns_12 : decode cX9_unlikeSigns 12 = .ok (.if_icmp .ge 54, 3) := by decide +kernel
theorem dX9_unlikeSigns_15 : decode cX9_unlikeSigns 15 = .ok (.aload_n 0, 1) := by decide +kernel
theorem dX9_unlikeSigns_16 : decode cX9_unlikeSigns 16 = .ok (.getfield 60, 3) := by decide +kernel
theorem dX9_unlikeSigns_19 : decode cX9_unlikeSigns 19 = .ok (.getfield 140, 3) := by decide +kernel
theorem dX9_unlikeSigns_22 : decode cX9_unlikeSigns 22 = .ok (.iload_n 2, 1) := by decide +kernel
theorem dX9_unlikeSigns_23 : decode cX9_unlikeSigns 23 = .ok (.aaload, 1) := by decide +kernel
theorem dX9_unlikeSigns_24 : decode cX9_unlikeSigns 24 = .ok (.getfield 149, 3) := by decide +kernel
theorem dX9_unlikeSigns_27 : decode cX9_unlikeSigns 27 = .ok (.astore_n 3, 1) := by decide +kernel
theorem dX9_unlikeSigns_28 : decode cX9_unlikeSigns 28 = .ok (.iconst 0, 1) := by decide +kernel
theorem dX9_unlikeSigns_29 : decode cX9_unlikeSigns 29 = .ok (.istore 4, 2) := by decide +kernel
theorem dX9_unlikeSigns_31 : decode cX9_unlikeSigns 31 = .ok (.iload 4, 2) := by decide +kernel
theorem dX9_unlikeSigns_33 : decode cX9_unlikeSigns 33 = .ok (.aload_n 3, 1) := by decide +kernel
theorem dX9_unlikeSigns_34 : decode cX9_unlikeSigns 34 = .ok (.getfield 109, 3) := by decide +kernel
theorem dX9_unlikeSigns_37 : decode cX9_unlikeSigns 37 = .ok (.if_icmp .ge 23, 3) := by decide +kernel
theorem dX9_unlikeSigns_40 : decode cX9_unlikeSigns 40 = .ok (.iload_n 1, 1) := by decide +kernel
theorem dX9_unlikeSigns_41 : decode cX9_unlikeSigns 41 = .ok (.iconst 1, 1) := by decide +kernel
theorem dX9_unlikeSigns_42 : decode cX9_unlikeSigns 42 = .ok (.aload_n 3, 1) := by decide +kernel
theorem dX9_unlikeSigns_43 : decode cX9_unlikeSigns 43 = .ok (.iload 4, 2) := by decide +kernel
theorem dX9_unlikeSigns_45 : decode cX9_unlikeSigns 45 = .ok (.invokevirtual 152, 3) := by decide +kernel
theorem dX9_unlikeSigns_48 : decode cX9_unlikeSigns 48 = .ok (.invokestatic 196, 3) := by decide +kernel
theorem dX9_unlikeSigns_51 : decode cX9_unlikeSigns 51 = .ok (.ishl, 1) := by decide +kernel
theorem dX9_unlikeSigns_52 : decode cX9_unlikeSigns 52 = .ok (.ior, 1) := by decide +kernel
theorem dX9_unlikeSigns_53 : decode cX9_unlikeSigns 53 = .ok (.istore_n 1, 1) := by decide +kernel
theorem dX9_unlikeSigns_54 : decode cX9_unlikeSigns 54 = .ok (.iinc 4 1, 3) := by decide +kernel
theorem dX9_unlikeSigns_57 : decode cX9_unlikeSigns 57 = .ok (.goto (-26), 3) := by decide +kernel
theorem dX9_unlikeSigns_60 : decode cX9_unlikeSigns 60 = .ok (.iinc 2 1, 3) := by decide +kernel
theorem dX9_unlikeSigns_63 : decode cX9_unlikeSigns 63 = .ok (.goto (-59), 3) := by decide +kernel
theorem dX9_unlikeSigns_66 : decode cX9_unlikeSigns 66 = .ok (.iload_n 1, 1) := by decide +kernel
theorem dX9_unlikeSigns_67 : decode cX9_unlikeSigns 67 = .ok (.invokestatic 332, 3) := by decide +kernel
theorem dX9_unlikeSigns_70 : decode cX9_unlikeSigns 70 = .ok (.ireturn, 1) := by decide +kernel
theorem dX9_image_0 : decode cX9_image 0 = .ok (.aload_n 0, 1) := by decide +kernel
theorem dX9_image_1 : decode cX9_image 1 = .ok (.getfield 60, 3) := by decide +kernel
theorem dX9_image_4 : decode cX9_image 4 = .ok (.getfield 120, 3) := by decide +kernel
theorem dX9_image_7 : decode cX9_image 7 = .ok (.ifCond .ne 5, 3) := by decide +kernel
theorem dX9_image_10 : decode cX9_image 10 = .ok (.iconst (-1), 1) := by decide +kernel
theorem dX9_image_11 : decode cX9_image 11 = .ok (.ireturn, 1) := by decide +kernel
theorem dX9_image_12 : decode cX9_image 12 = .ok (.aload_n 0, 1) := by decide +kernel
theorem dX9_image_13 : decode cX9_image 13 = .ok (.getfield 23, 3) := by decide +kernel
theorem dX9_image_16 : decode cX9_image 16 = .ok (.aload_n 0, 1) := by decide +kernel
theorem dX9_image_17 : decode cX9_image 17 = .ok (.getfield 60, 3) := by decide +kernel
theorem dX9_image_20 : decode cX9_image 20 = .ok (.invokevirtual 106, 3) := by decide +kernel
theorem dX9_image_23 : decode cX9_image 23 = .ok (.aload_n 0, 1) := by decide +kernel
theorem dX9_image_24 : decode cX9_image 24 = .ok (.iconst 1, 1) := by decide +kernel
theorem dX9_image_25 : decode cX9_image 25 = .ok (.putfield 113, 3) := by decide +kernel
theorem dX9_image_28 : decode cX9_image 28 = .ok (.aload_n 0, 1) := by decide +kernel
theorem dX9_image_29 : decode cX9_image 29 = .ok (.getfield 60, 3) := by decide +kernel
theorem dX9_image_32 : decode cX9_image 32 = .ok (.invokevirtual 131, 3) := by decide +kernel
theorem dX9_image_35 : decode cX9_image 35 = .ok (.ireturn, 1) := by decide +kernel
theorem dX9_back_0 : decode cX9_back 0 = .ok (.aload_n 0, 1) := by decide +kernel
theorem dX9_back_1 : decode cX9_back 1 = .ok (.getfield 113, 3) := by decide +kernel
theorem dX9_back_4 : decode cX9_back 4 = .ok (.ifCond .ne 5, 3) := by decide +kernel
theorem dX9_back_7 : decode cX9_back 7 = .ok (.iconst (-1), 1) := by decide +kernel
theorem dX9_back_8 : decode cX9_back 8 = .ok (.ireturn, 1) := by decide +kernel
theorem dX9_back_9 : decode cX9_back 9 = .ok (.aload_n 0, 1) := by decide +kernel
theorem dX9_back_10 : decode cX9_back 10 = .ok (.getfield 60, 3) := by decide +kernel
theorem dX9_back_13 : decode cX9_back 13 = .ok (.aload_n 0, 1) := by decide +kernel
theorem dX9_back_14 : decode cX9_back 14 = .ok (.getfield 23, 3) := by decide +kernel
theorem dX9_back_17 : decode cX9_back 17 = .ok (.invokevirtual 106, 3) := by decide +kernel
theorem dX9_back_20 : decode cX9_back 20 = .ok (.aload_n 0, 1) := by decide +kernel
theorem dX9_back_21 : decode cX9_back 21 = .ok (.iconst 0, 1) := by decide +kernel
theorem dX9_back_22 : decode cX9_back 22 = .ok (.putfield 110, 3) := by decide +kernel
theorem dX9_back_25 : decode cX9_back 25 = .ok (.aload_n 0, 1) := by decide +kernel
theorem dX9_back_26 : decode cX9_back 26 = .ok (.invokevirtual 117, 3) := by decide +kernel
theorem dX9_back_29 : decode cX9_back 29 = .ok (.aload_n 0, 1) := by decide +kernel
theorem dX9_back_30 : decode cX9_back 30 = .ok (.getfield 60, 3) := by decide +kernel
theorem dX9_back_33 : decode cX9_back 33 = .ok (.invokevirtual 131, 3) := by decide +kernel
theorem dX9_back_36 : decode cX9_back 36 = .ok (.ireturn, 1) := by decide +kernel
theorem dX9_count_0 : decode cX9_count 0 = .ok (.iload_n 1, 1) := by decide +kernel
theorem dX9_count_1 : decode cX9_count 1 = .ok (.tableswitch 84 0 5 #[39, 47, 52, 60, 71, 76], 39) := by decide +kernel
theorem dX9_count_40 : decode cX9_count 40 = .ok (.aload_n 0, 1) := by decide +kernel
theorem dX9_count_41 : decode cX9_count 41 = .ok (.getfield 60, 3) := by decide +kernel
theorem dX9_count_44 : decode cX9_count 44 = .ok (.getfield 120, 3) := by decide +kernel
theorem dX9_count_47 : decode cX9_count 47 = .ok (.ireturn, 1) := by decide +kernel
theorem dX9_count_48 : decode cX9_count 48 = .ok (.aload_n 0, 1) := by decide +kernel
theorem dX9_count_49 : decode cX9_count 49 = .ok (.getfield 88, 3) := by decide +kernel
theorem dX9_count_52 : decode cX9_count 52 = .ok (.ireturn, 1) := by decide +kernel
theorem dX9_count_53 : decode cX9_count 53 = .ok (.aload_n 0, 1) := by decide +kernel
theorem dX9_count_54 : decode cX9_count 54 = .ok (.getfield 10, 3) := by decide +kernel
theorem dX9_count_57 : decode cX9_count 57 = .ok (.getfield 76, 3) := by decide +kernel
theorem dX9_count_60 : decode cX9_count 60 = .ok (.ireturn, 1) := by decide +kernel
theorem dX9_count_61 : decode cX9_count 61 = .ok (.aload_n 0, 1) := by decide +kernel
theorem dX9_count_62 : decode cX9_count 62 = .ok (.getfield 60, 3) := by decide +kernel
theorem dX9_count_65 : decode cX9_count 65 = .ok (.getfield 273, 3) := by decide +kernel
theorem dX9_count_68 : decode cX9_count 68 = .ok (.invokevirtual 337, 3) := by decide +kernel
theorem dX9_count_71 : decode cX9_count 71 = .ok (.ireturn, 1) := by decide +kernel
theorem dX9_count_72 : decode cX9_count 72 = .ok (.aload_n 0, 1) := by decide +kernel
theorem dX9_count_73 : decode cX9_count 73 = .ok (.getfield 110, 3) := by decide +kernel
theorem dX9_count_76 : decode cX9_count 76 = .ok (.ireturn, 1) := by decide +kernel
theorem dX9_count_77 : decode cX9_count 77 = .ok (.aload_n 0, 1) := by decide +kernel
theorem dX9_count_78 : decode cX9_count 78 = .ok (.getfield 60, 3) := by decide +kernel
theorem dX9_count_81 : decode cX9_count 81 = .ok (.getfield 339, 3) := by decide +kernel
theorem dX9_count_84 : decode cX9_count 84 = .ok (.ireturn, 1) := by decide +kernel
theorem dX9_count_85 : decode cX9_count 85 = .ok (.ldc 210, 2) := by decide +kernel
theorem dX9_count_87 : decode cX9_count 87 = .ok (.ireturn, 1) := by decide +kernel
theorem dX9_hasScript_0 : decode cX9_hasScript 0 = .ok (.iload_n 1, 1) := by decide +kernel
theorem dX9_hasScript_1 : decode cX9_hasScript 1 = .ok (.ifCond .lt 15, 3) := by decide +kernel
theorem dX9_hasScript_4 : decode cX9_hasScript 4 = .ok (.iload_n 1, 1) := by decide +kernel
theorem dX9_hasScript_5 : decode cX9_hasScript 5 = .ok (.aload_n 0, 1) := by decide +kernel
theorem dX9_hasScript_6 : decode cX9_hasScript 6 = .ok (.getfield 88, 3) := by decide +kernel
theorem dX9_hasScript_9 : decode cX9_hasScript 9 = .ok (.if_icmp .ge 7, 3) := by decide +kernel
theorem dX9_hasScript_12 : decode cX9_hasScript 12 = .ok (.iconst 1, 1) := by decide +kernel
theorem dX9_hasScript_13 : decode cX9_hasScript 13 = .ok (.goto 4, 3) := by decide +kernel
theorem dX9_hasScript_16 : decode cX9_hasScript 16 = .ok (.iconst 0, 1) := by decide +kernel
theorem dX9_hasScript_17 : decode cX9_hasScript 17 = .ok (.ireturn, 1) := by decide +kernel
theorem dX9_askWithTape_0 : decode cX9_askWithTape 0 = .ok (.aload_n 0, 1) := by decide +kernel
theorem dX9_askWithTape_1 : decode cX9_askWithTape 1 = .ok (.getfield 46, 3) := by decide +kernel
theorem dX9_askWithTape_4 : decode cX9_askWithTape 4 = .ok (.iload_n 1, 1) := by decide +kernel
theorem dX9_askWithTape_5 : decode cX9_askWithTape 5 = .ok (.iload_n 2, 1) := by decide +kernel
theorem dX9_askWithTape_6 : decode cX9_askWithTape 6 = .ok (.ldc 210, 2) := by decide +kernel
theorem dX9_askWithTape_8 : decode cX9_askWithTape 8 = .ok (.invokevirtual 211, 3) := by decide +kernel
theorem dX9_askWithTape_11 : decode cX9_askWithTape 11 = .ok (.aload_n 0, 1) := by decide +kernel
theorem dX9_askWithTape_12 : decode cX9_askWithTape 12 = .ok (.getfield 10, 3) := by decide +kernel
theorem dX9_askWithTape_15 : decode cX9_askWithTape 15 = .ok (.aload_n 0, 1) := by decide +kernel
theorem dX9_askWithTape_16 : decode cX9_askWithTape 16 = .ok (.getfield 46, 3) := by decide +kernel
theorem dX9_askWithTape_19 : decode cX9_askWithTape 19 = .ok (.getfield 215, 3) := by decide +kernel
theorem dX9_askWithTape_22 : decode cX9_askWithTape 22 = .ok (.bipush 20, 2) := by decide +kernel
theorem dX9_askWithTape_24 : decode cX9_askWithTape 24 = .ok (.invokevirtual 95, 3) := by decide +kernel
theorem dX9_askWithTape_27 : decode cX9_askWithTape 27 = .ok (.iconst (-1), 1) := by decide +kernel
theorem dX9_askWithTape_28 : decode cX9_askWithTape 28 = .ok (.if_icmp .eq 14, 3) := by decide +kernel
theorem dX9_askWithTape_31 : decode cX9_askWithTape 31 = .ok (.aload_n 0, 1) := by decide +kernel
theorem dX9_askWithTape_32 : decode cX9_askWithTape 32 = .ok (.getfield 46, 3) := by decide +kernel
theorem dX9_askWithTape_35 : decode cX9_askWithTape 35 = .ok (.getfield 215, 3) := by decide +kernel
theorem dX9_askWithTape_38 : decode cX9_askWithTape 38 = .ok (.iconst 0, 1) := by decide +kernel
theorem dX9_askWithTape_39 : decode cX9_askWithTape 39 = .ok (.putfield 109, 3) := by decide +kernel
theorem dX9_askWithTape_42 : decode cX9_askWithTape 42 = .ok (.return_, 1) := by decide +kernel
theorem dX9_spendTape_0 : decode cX9_spendTape 0 = .ok (.iload_n 1, 1) := by decide +kernel
theorem dX9_spendTape_1 : decode cX9_spendTape 1 = .ok (.iconst (-1), 1) := by decide +kernel
theorem dX9_spendTape_2 : decode cX9_spendTape 2 = .ok (.if_icmp .eq 11, 3) := by decide +kernel
theorem dX9_spendTape_5 : decode cX9_spendTape 5 = .ok (.aload_n 0, 1) := by decide +kernel
theorem dX9_spendTape_6 : decode cX9_spendTape 6 = .ok (.getfield 10, 3) := by decide +kernel
theorem dX9_spendTape_9 : decode cX9_spendTape 9 = .ok (.iconst 0, 1) := by decide +kernel
theorem dX9_spendTape_10 : decode cX9_spendTape 10 = .ok (.putfield 76, 3) := by decide +kernel
theorem dX9_spendTape_13 : decode cX9_spendTape 13 = .ok (.iload_n 1, 1) := by decide +kernel
theorem dX9_spendTape_14 : decode cX9_spendTape 14 = .ok (.ireturn, 1) := by decide +kernel
theorem dX9_attempt_0 : decode cX9_attempt 0 = .ok (.aload_n 0, 1) := by decide +kernel
theorem dX9_attempt_1 : decode cX9_attempt 1 = .ok (.getfield 60, 3) := by decide +kernel
theorem dX9_attempt_4 : decode cX9_attempt 4 = .ok (.aload_n 1, 1) := by decide +kernel
theorem dX9_attempt_5 : decode cX9_attempt 5 = .ok (.invokevirtual 307, 3) := by decide +kernel
theorem dX9_attempt_8 : decode cX9_attempt 8 = .ok (.istore_n 3, 1) := by decide +kernel
theorem dX9_attempt_9 : decode cX9_attempt 9 = .ok (.iload_n 3, 1) := by decide +kernel
theorem dX9_attempt_10 : decode cX9_attempt 10 = .ok (.iconst (-1), 1) := by decide +kernel
theorem dX9_attempt_11 : decode cX9_attempt 11 = .ok (.if_icmp .eq 19, 3) := by decide +kernel
theorem dX9_attempt_14 : decode cX9_attempt 14 = .ok (.iload_n 2, 1) := by decide +kernel
theorem dX9_attempt_15 : decode cX9_attempt 15 = .ok (.ifCond .eq 13, 3) := by decide +kernel
theorem dX9_attempt_18 : decode cX9_attempt 18 = .ok (.aload_n 0, 1) := by decide +kernel
theorem dX9_attempt_19 : decode cX9_attempt 19 = .ok (.getfield 56, 3) := by decide +kernel
theorem dX9_attempt_22 : decode cX9_attempt 22 = .ok (.iload_n 3, 1) := by decide +kernel
theorem dX9_attempt_23 : decode cX9_attempt 23 = .ok (.dup2, 1) := by decide +kernel
theorem dX9_attempt_24 : decode cX9_attempt 24 = .ok (.iaload, 1) := by decide +kernel
theorem dX9_attempt_25 : decode cX9_attempt 25 = .ok (.iconst 1, 1) := by decide +kernel
theorem dX9_attempt_26 : decode cX9_attempt 26 = .ok (.iadd, 1) := by decide +kernel
theorem dX9_attempt_27 : decode cX9_attempt 27 = .ok (.iastore, 1) := by decide +kernel
theorem dX9_attempt_28 : decode cX9_attempt 28 = .ok (.iconst (-1), 1) := by decide +kernel
theorem dX9_attempt_29 : decode cX9_attempt 29 = .ok (.ireturn, 1) := by decide +kernel
theorem dX9_attempt_30 : decode cX9_attempt 30 = .ok (.aload_n 0, 1) := by decide +kernel
theorem dX9_attempt_31 : decode cX9_attempt 31 = .ok (.getfield 26, 3) := by decide +kernel
theorem dX9_attempt_34 : decode cX9_attempt 34 = .ok (.aload_n 0, 1) := by decide +kernel
theorem dX9_attempt_35 : decode cX9_attempt 35 = .ok (.getfield 270, 3) := by decide +kernel
theorem dX9_attempt_38 : decode cX9_attempt 38 = .ok (.aaload, 1) := by decide +kernel
theorem dX9_attempt_39 : decode cX9_attempt 39 = .ok (.aload_n 0, 1) := by decide +kernel
theorem dX9_attempt_40 : decode cX9_attempt 40 = .ok (.getfield 60, 3) := by decide +kernel
theorem dX9_attempt_43 : decode cX9_attempt 43 = .ok (.invokevirtual 106, 3) := by decide +kernel
theorem dX9_attempt_46 : decode cX9_attempt 46 = .ok (.aload_n 0, 1) := by decide +kernel
theorem dX9_attempt_47 : decode cX9_attempt 47 = .ok (.aload_n 0, 1) := by decide +kernel
theorem dX9_attempt_48 : decode cX9_attempt 48 = .ok (.getfield 270, 3) := by decide +kernel
theorem dX9_attempt_51 : decode cX9_attempt 51 = .ok (.iconst 1, 1) := by decide +kernel
theorem dX9_attempt_52 : decode cX9_attempt 52 = .ok (.iadd, 1) := by decide +kernel
theorem dX9_attempt_53 : decode cX9_attempt 53 = .ok (.bipush 40, 2) := by decide +kernel
theorem dX9_attempt_55 : decode cX9_attempt 55 = .ok (.if_icmp .ne 7, 3) := by decide +kernel
theorem dX9_attempt_58 : decode cX9_attempt 58 = .ok (.iconst 0, 1) := by decide +kernel
theorem dX9_attempt_59 : decode cX9_attempt 59 = .ok (.goto 9, 3) := by decide +kernel
theorem dX9_attempt_62 : decode cX9_attempt 62 = .ok (.aload_n 0, 1) := by decide +kernel
theorem dX9_attempt_63 : decode cX9_attempt 63 = .ok (.getfield 270, 3) := by decide +kernel
theorem dX9_attempt_66 : decode cX9_attempt 66 = .ok (.iconst 1, 1) := by decide +kernel
theorem dX9_attempt_67 : decode cX9_attempt 67 = .ok (.iadd, 1) := by decide +kernel
theorem dX9_attempt_68 : decode cX9_attempt 68 = .ok (.putfield 270, 3) := by decide +kernel
theorem dX9_attempt_71 : decode cX9_attempt 71 = .ok (.aload_n 0, 1) := by decide +kernel
theorem dX9_attempt_72 : decode cX9_attempt 72 = .ok (.bipush 40, 2) := by decide +kernel
theorem dX9_attempt_74 : decode cX9_attempt 74 = .ok (.aload_n 0, 1) := by decide +kernel
theorem dX9_attempt_75 : decode cX9_attempt 75 = .ok (.getfield 110, 3) := by decide +kernel
theorem dX9_attempt_78 : decode cX9_attempt 78 = .ok (.iconst 1, 1) := by decide +kernel
theorem dX9_attempt_79 : decode cX9_attempt 79 = .ok (.iadd, 1) := by decide +kernel
theorem dX9_attempt_80 : decode cX9_attempt 80 = .ok (.invokestatic 282, 3) := by decide +kernel
theorem dX9_attempt_83 : decode cX9_attempt 83 = .ok (.putfield 110, 3) := by decide +kernel
theorem dX9_attempt_86 : decode cX9_attempt 86 = .ok (.aload_n 0, 1) := by decide +kernel
theorem dX9_attempt_87 : decode cX9_attempt 87 = .ok (.invokevirtual 117, 3) := by decide +kernel
theorem dX9_attempt_90 : decode cX9_attempt 90 = .ok (.aload_n 0, 1) := by decide +kernel
theorem dX9_attempt_91 : decode cX9_attempt 91 = .ok (.getfield 60, 3) := by decide +kernel
theorem dX9_attempt_94 : decode cX9_attempt 94 = .ok (.aload_n 1, 1) := by decide +kernel
theorem dX9_attempt_95 : decode cX9_attempt 95 = .ok (.invokevirtual 342, 3) := by decide +kernel
theorem dX9_attempt_98 : decode cX9_attempt 98 = .ok (.istore 4, 2) := by decide +kernel
theorem dX9_attempt_100 : decode cX9_attempt 100 = .ok (.aload_n 0, 1) := by decide +kernel
theorem dX9_attempt_101 : decode cX9_attempt 101 = .ok (.getfield 60, 3) := by decide +kernel
theorem dX9_attempt_104 : decode cX9_attempt 104 = .ok (.aload_n 1, 1) := by decide +kernel
theorem dX9_attempt_105 : decode cX9_attempt 105 = .ok (.invokevirtual 311, 3) := by decide +kernel
theorem dX9_attempt_108 : decode cX9_attempt 108 = .ok (.istore 5, 2) := by decide +kernel
theorem dX9_attempt_110 : decode cX9_attempt 110 = .ok (.aload_n 0, 1) := by decide +kernel
theorem dX9_attempt_111 : decode cX9_attempt 111 = .ok (.getfield 60, 3) := by decide +kernel
theorem dX9_attempt_114 : decode cX9_attempt 114 = .ok (.getfield 273, 3) := by decide +kernel
theorem dX9_attempt_117 : decode cX9_attempt 117 = .ok (.aload_n 1, 1) := by decide +kernel
theorem dX9_attempt_118 : decode cX9_attempt 118 = .ok (.getfield 298, 3) := by decide +kernel
theorem dX9_attempt_121 : decode cX9_attempt 121 = .ok (.iload 4, 2) := by decide +kernel
theorem dX9_attempt_123 : decode cX9_attempt 123 = .ok (.aload_n 0, 1) := by decide +kernel
theorem dX9_attempt_124 : decode cX9_attempt 124 = .ok (.getfield 60, 3) := by decide +kernel
theorem dX9_attempt_127 : decode cX9_attempt 127 = .ok (.invokevirtual 131, 3) := by decide +kernel
theorem dX9_attempt_130 : decode cX9_attempt 130 = .ok (.invokevirtual 345, 3) := by decide +kernel
theorem dX9_attempt_133 : decode cX9_attempt 133 = .ok (.iload 5, 2) := by decide +kernel
theorem dX9_attempt_135 : decode cX9_attempt 135 = .ok (.ireturn, 1) := by decide +kernel
theorem dX9_forgetRankings_0 : decode cX9_forgetRankings 0 = .ok (.aload_n 0, 1) := by decide +kernel
theorem dX9_forgetRankings_1 : decode cX9_forgetRankings 1 = .ok (.getfield 68, 3) := by decide +kernel
theorem dX9_forgetRankings_4 : decode cX9_forgetRankings 4 = .ok (.iconst 0, 1) := by decide +kernel
theorem dX9_forgetRankings_5 : decode cX9_forgetRankings 5 = .ok (.putfield 347, 3) := by decide +kernel
theorem dX9_forgetRankings_8 : decode cX9_forgetRankings 8 = .ok (.aload_n 0, 1) := by decide +kernel
theorem dX9_forgetRankings_9 : decode cX9_forgetRankings 9 = .ok (.getfield 72, 3) := by decide +kernel
theorem dX9_forgetRankings_12 : decode cX9_forgetRankings 12 = .ok (.iconst 0, 1) := by decide +kernel
theorem dX9_forgetRankings_13 : decode cX9_forgetRankings 13 = .ok (.putfield 347, 3) := by decide +kernel
theorem dX9_forgetRankings_16 : decode cX9_forgetRankings 16 = .ok (.return_, 1) := by decide +kernel
theorem dX9_rankedHits_0 : decode cX9_rankedHits 0 = .ok (.aload_n 0, 1) := by decide +kernel
theorem dX9_rankedHits_1 : decode cX9_rankedHits 1 = .ok (.getfield 68, 3) := by decide +kernel
theorem dX9_rankedHits_4 : decode cX9_rankedHits 4 = .ok (.getfield 347, 3) := by decide +kernel
theorem dX9_rankedHits_7 : decode cX9_rankedHits 7 = .ok (.ifCond .ne 40, 3) := by decide +kernel
theorem dX9_rankedHits_10 : decode cX9_rankedHits 10 = .ok (.aload_n 0, 1) := by decide +kernel
theorem dX9_rankedHits_11 : decode cX9_rankedHits 11 = .ok (.getfield 68, 3) := by decide +kernel
theorem dX9_rankedHits_14 : decode cX9_rankedHits 14 = .ok (.iconst 0, 1) := by decide +kernel
theorem dX9_rankedHits_15 : decode cX9_rankedHits 15 = .ok (.putfield 130, 3) := by decide +kernel
theorem dX9_rankedHits_18 : decode cX9_rankedHits 18 = .ok (.aload_n 0, 1) := by decide +kernel
theorem dX9_rankedHits_19 : decode cX9_rankedHits 19 = .ok (.getfield 33, 3) := by decide +kernel
theorem dX9_rankedHits_22 : decode cX9_rankedHits 22 = .ok (.getfield 109, 3) := by decide +kernel
theorem dX9_rankedHits_25 : decode cX9_rankedHits 25 = .ok (.ifCond .le 14, 3) := by decide +kernel
theorem dX9_rankedHits_28 : decode cX9_rankedHits 28 = .ok (.aload_n 0, 1) := by decide +kernel
theorem dX9_rankedHits_29 : decode cX9_rankedHits 29 = .ok (.getfield 68, 3) := by decide +kernel
theorem dX9_rankedHits_32 : decode cX9_rankedHits 32 = .ok (.aload_n 0, 1) := by decide +kernel
theorem dX9_rankedHits_33 : decode cX9_rankedHits 33 = .ok (.getfield 33, 3) := by decide +kernel
theorem dX9_rankedHits_36 : decode cX9_rankedHits 36 = .ok (.invokevirtual 350, 3) := by decide +kernel
theorem dX9_rankedHits_39 : decode cX9_rankedHits 39 = .ok (.aload_n 0, 1) := by decide +kernel
theorem dX9_rankedHits_40 : decode cX9_rankedHits 40 = .ok (.getfield 68, 3) := by decide +kernel
theorem dX9_rankedHits_43 : decode cX9_rankedHits 43 = .ok (.iconst 1, 1) := by decide +kernel
theorem dX9_rankedHits_44 : decode cX9_rankedHits 44 = .ok (.putfield 347, 3) := by decide +kernel
theorem dX9_rankedHits_47 : decode cX9_rankedHits 47 = .ok (.aload_n 0, 1) := by decide +kernel
theorem dX9_rankedHits_48 : decode cX9_rankedHits 48 = .ok (.getfield 68, 3) := by decide +kernel
theorem dX9_rankedHits_51 : decode cX9_rankedHits 51 = .ok (.areturn, 1) := by decide +kernel
theorem dX9_rankedPlaces_0 : decode cX9_rankedPlaces 0 = .ok (.aload_n 0, 1) := by decide +kernel
theorem dX9_rankedPlaces_1 : decode cX9_rankedPlaces 1 = .ok (.getfield 72, 3) := by decide +kernel
theorem dX9_rankedPlaces_4 : decode cX9_rankedPlaces 4 = .ok (.getfield 347, 3) := by decide +kernel
theorem dX9_rankedPlaces_7 : decode cX9_rankedPlaces 7 = .ok (.ifCond .ne 30, 3) := by decide +kernel
theorem dX9_rankedPlaces_10 : decode cX9_rankedPlaces 10 = .ok (.aload_n 0, 1) := by decide +kernel
theorem dX9_rankedPlaces_11 : decode cX9_rankedPlaces 11 = .ok (.getfield 72, 3) := by decide +kernel
theorem dX9_rankedPlaces_14 : decode cX9_rankedPlaces 14 = .ok (.iconst 0, 1) := by decide +kernel
theorem dX9_rankedPlaces_15 : decode cX9_rankedPlaces 15 = .ok (.putfield 130, 3) := by decide +kernel
theorem dX9_rankedPlaces_18 : decode cX9_rankedPlaces 18 = .ok (.aload_n 0, 1) := by decide +kernel
theorem dX9_rankedPlaces_19 : decode cX9_rankedPlaces 19 = .ok (.getfield 72, 3) := by decide +kernel
theorem dX9_rankedPlaces_22 : decode cX9_rankedPlaces 22 = .ok (.aload_n 0, 1) := by decide +kernel
theorem dX9_rankedPlaces_23 : decode cX9_rankedPlaces 23 = .ok (.getfield 37, 3) := by decide +kernel
theorem dX9_rankedPlaces_26 : decode cX9_rankedPlaces 26 = .ok (.invokevirtual 350, 3) := by decide +kernel
theorem dX9_rankedPlaces_29 : decode cX9_rankedPlaces 29 = .ok (.aload_n 0, 1) := by decide +kernel
theorem dX9_rankedPlaces_30 : decode cX9_rankedPlaces 30 = .ok (.getfield 72, 3) := by decide +kernel
theorem dX9_rankedPlaces_33 : decode cX9_rankedPlaces 33 = .ok (.iconst 1, 1) := by decide +kernel
theorem dX9_rankedPlaces_34 : decode cX9_rankedPlaces 34 = .ok (.putfield 347, 3) := by decide +kernel
theorem dX9_rankedPlaces_37 : decode cX9_rankedPlaces 37 = .ok (.aload_n 0, 1) := by decide +kernel
theorem dX9_rankedPlaces_38 : decode cX9_rankedPlaces 38 = .ok (.getfield 72, 3) := by decide +kernel
theorem dX9_rankedPlaces_41 : decode cX9_rankedPlaces 41 = .ok (.areturn, 1) := by decide +kernel

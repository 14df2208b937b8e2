theorem dX0_init_0 : decode cX0_init 0 = .ok (.aload_n 0, 1) := by decide +kernel
theorem dX0_init_1 : decode cX0_init 1 = .ok (.invokespecial 3, 3) := by decide +kernel
theorem dX0_init_4 : decode cX0_init 4 = .ok (.aload_n 0, 1) := by decide +kernel
theorem dX0_init_5 : decode cX0_init 5 = .ok (.new 9, 3) := by decide +kernel
theorem dX0_init_8 : decode cX0_init 8 = .ok (.dup, 1) := by decide +kernel
theorem dX0_init_9 : decode cX0_init 9 = .ok (.invokespecial 11, 3) := by decide +kernel
theorem dX0_init_12 : decode cX0_init 12 = .ok (.putfield 12, 3) := by decide +kernel
theorem dX0_init_15 : decode cX0_init 15 = .ok (.aload_n 0, 1) := by decide +kernel
theorem dX0_init_16 : decode cX0_init 16 = .ok (.new 18, 3) := by decide +kernel
theorem dX0_init_19 : decode cX0_init 19 = .ok (.dup, 1) := by decide +kernel
theorem dX0_init_20 : decode cX0_init 20 = .ok (.invokespecial 20, 3) := by decide +kernel
theorem dX0_init_23 : decode cX0_init 23 = .ok (.putfield 21, 3) := by decide +kernel
theorem dX0_init_26 : decode cX0_init 26 = .ok (.aload_n 0, 1) := by decide +kernel
theorem dX0_init_27 : decode cX0_init 27 = .ok (.bipush 9, 2) := by decide +kernel
theorem dX0_init_29 : decode cX0_init 29 = .ok (.newarray .int, 2) := by decide +kernel
theorem dX0_init_31 : decode cX0_init 31 = .ok (.putfield 25, 3) := by decide +kernel
theorem dX0_init_34 : decode cX0_init 34 = .ok (.aload_n 0, 1) := by decide +kernel
theorem dX0_init_35 : decode cX0_init 35 = .ok (.bipush 9, 2) := by decide +kernel
theorem dX0_init_37 : decode cX0_init 37 = .ok (.newarray .int, 2) := by decide +kernel
theorem dX0_init_39 : decode cX0_init 39 = .ok (.putfield 29, 3) := by decide +kernel
theorem dX0_init_42 : decode cX0_init 42 = .ok (.return_, 1) := by decide +kernel
theorem dX0_copyFrom_0 : decode cX0_copyFrom 0 = .ok (.aload_n 0, 1) := by decide +kernel
theorem dX0_copyFrom_1 : decode cX0_copyFrom 1 = .ok (.getfield 12, 3) := by decide +kernel
theorem dX0_copyFrom_4 : decode cX0_copyFrom 4 = .ok (.aload_n 1, 1) := by decide +kernel
theorem dX0_copyFrom_5 : decode cX0_copyFrom 5 = .ok (.getfield 12, 3) := by decide +kernel
theorem dX0_copyFrom_8 : decode cX0_copyFrom 8 = .ok (.invokevirtual 32, 3) := by decide +kernel
theorem dX0_copyFrom_11 : decode cX0_copyFrom 11 = .ok (.aload_n 0, 1) := by decide +kernel
theorem dX0_copyFrom_12 : decode cX0_copyFrom 12 = .ok (.aload_n 1, 1) := by decide +kernel
theorem dX0_copyFrom_13 : decode cX0_copyFrom 13 = .ok (.getfield 36, 3) := by decide +kernel
theorem dX0_copyFrom_16 : decode cX0_copyFrom 16 = .ok (.putfield 36, 3) := by decide +kernel
theorem dX0_copyFrom_19 : decode cX0_copyFrom 19 = .ok (.aload_n 0, 1) := by decide +kernel
theorem dX0_copyFrom_20 : decode cX0_copyFrom 20 = .ok (.aload_n 1, 1) := by decide +kernel
theorem dX0_copyFrom_21 : decode cX0_copyFrom 21 = .ok (.getfield 40, 3) := by decide +kernel
theorem dX0_copyFrom_24 : decode cX0_copyFrom 24 = .ok (.putfield 40, 3) := by decide +kernel
theorem dX0_copyFrom_27 : decode cX0_copyFrom 27 = .ok (.aload_n 0, 1) := by decide +kernel
theorem dX0_copyFrom_28 : decode cX0_copyFrom 28 = .ok (.getfield 21, 3) := by decide +kernel
theorem dX0_copyFrom_31 : decode cX0_copyFrom 31 = .ok (.aload_n 1, 1) := by decide +kernel
theorem dX0_copyFrom_32 : decode cX0_copyFrom 32 = .ok (.getfield 21, 3) := by decide +kernel
theorem dX0_copyFrom_35 : decode cX0_copyFrom 35 = .ok (.invokevirtual 44, 3) := by decide +kernel
theorem dX0_copyFrom_38 : decode cX0_copyFrom 38 = .ok (.aload_n 0, 1) := by decide +kernel
theorem dX0_copyFrom_39 : decode cX0_copyFrom 39 = .ok (.aload_n 1, 1) := by decide +kernel
theorem dX0_copyFrom_40 : decode cX0_copyFrom 40 = .ok (.getfield 47, 3) := by decide +kernel
theorem dX0_copyFrom_43 : decode cX0_copyFrom 43 = .ok (.putfield 47, 3) := by decide +kernel
theorem dX0_copyFrom_46 : decode cX0_copyFrom 46 = .ok (.aload_n 0, 1) := by decide +kernel
theorem dX0_copyFrom_47 : decode cX0_copyFrom 47 = .ok (.aload_n 1, 1) := by decide +kernel
theorem dX0_copyFrom_48 : decode cX0_copyFrom 48 = .ok (.getfield 50, 3) := by decide +kernel
theorem dX0_copyFrom_51 : decode cX0_copyFrom 51 = .ok (.putfield 50, 3) := by decide +kernel
theorem dX0_copyFrom_54 : decode cX0_copyFrom 54 = .ok (.aload_n 0, 1) := by decide +kernel
theorem dX0_copyFrom_55 : decode cX0_copyFrom 55 = .ok (.aload_n 1, 1) := by decide +kernel
theorem dX0_copyFrom_56 : decode cX0_copyFrom 56 = .ok (.getfield 53, 3) := by decide +kernel
theorem dX0_copyFrom_59 : decode cX0_copyFrom 59 = .ok (.putfield 53, 3) := by decide +kernel
theorem dX0_copyFrom_62 : decode cX0_copyFrom 62 = .ok (.aload_n 1, 1) := by decide +kernel
theorem dX0_copyFrom_63 : decode cX0_copyFrom 63 = .ok (.getfield 25, 3) := by decide +kernel
theorem dX0_copyFrom_66 : decode cX0_copyFrom 66 = .ok (.iconst 0, 1) := by decide +kernel
theorem dX0_copyFrom_67 : decode cX0_copyFrom 67 = .ok (.aload_n 0, 1) := by decide +kernel
theorem dX0_copyFrom_68 : decode cX0_copyFrom 68 = .ok (.getfield 25, 3) := by decide +kernel
theorem dX0_copyFrom_71 : decode cX0_copyFrom 71 = .ok (.iconst 0, 1) := by decide +kernel
theorem dX0_copyFrom_72 : decode cX0_copyFrom 72 = .ok (.bipush 9, 2) := by decide +kernel
theorem dX0_copyFrom_74 : decode cX0_copyFrom 74 = .ok (.invokestatic 56, 3) := by decide +kernel
theorem dX0_copyFrom_77 : decode cX0_copyFrom 77 = .ok (.aload_n 1, 1) := by decide +kernel
theorem dX0_copyFrom_78 : decode cX0_copyFrom 78 = .ok (.getfield 29, 3) := by decide +kernel
theorem dX0_copyFrom_81 : decode cX0_copyFrom 81 = .ok (.iconst 0, 1) := by decide +kernel
theorem dX0_copyFrom_82 : decode cX0_copyFrom 82 = .ok (.aload_n 0, 1) := by decide +kernel
theorem dX0_copyFrom_83 : decode cX0_copyFrom 83 = .ok (.getfield 29, 3) := by decide +kernel
theorem dX0_copyFrom_86 : decode cX0_copyFrom 86 = .ok (.iconst 0, 1) := by decide +kernel
theorem dX0_copyFrom_87 : decode cX0_copyFrom 87 = .ok (.bipush 9, 2) := by decide +kernel
theorem dX0_copyFrom_89 : decode cX0_copyFrom 89 = .ok (.invokestatic 56, 3) := by decide +kernel
theorem dX0_copyFrom_92 : decode cX0_copyFrom 92 = .ok (.return_, 1) := by decide +kernel
theorem dX0_unmark_0 : decode cX0_unmark 0 = .ok (.aload_n 0, 1) := by decide +kernel
theorem dX0_unmark_1 : decode cX0_unmark 1 = .ok (.iconst 0, 1) := by decide +kernel
theorem dX0_unmark_2 : decode cX0_unmark 2 = .ok (.putfield 40, 3) := by decide +kernel
theorem dX0_unmark_5 : decode cX0_unmark 5 = .ok (.aload_n 0, 1) := by decide +kernel
theorem dX0_unmark_6 : decode cX0_unmark 6 = .ok (.iconst 0, 1) := by decide +kernel
theorem dX0_unmark_7 : decode cX0_unmark 7 = .ok (.putfield 50, 3) := by decide +kernel
theorem dX0_unmark_10 : decode cX0_unmark 10 = .ok (.aload_n 0, 1) := by decide +kernel
theorem dX0_unmark_11 : decode cX0_unmark 11 = .ok (.iconst 0, 1) := by decide +kernel
theorem dX0_unmark_12 : decode cX0_unmark 12 = .ok (.putfield 53, 3) := by decide +kernel
theorem dX0_unmark_15 : decode cX0_unmark 15 = .ok (.return_, 1) := by decide +kernel
theorem dX0_tell_0 : decode cX0_tell 0 = .ok (.aload_n 0, 1) := by decide +kernel
theorem dX0_tell_1 : decode cX0_tell 1 = .ok (.iconst 1, 1) := by decide +kernel
theorem dX0_tell_2 : decode cX0_tell 2 = .ok (.putfield 40, 3) := by decide +kernel
theorem dX0_tell_5 : decode cX0_tell 5 = .ok (.aload_n 0, 1) := by decide +kernel
theorem dX0_tell_6 : decode cX0_tell 6 = .ok (.getfield 21, 3) := by decide +kernel
theorem dX0_tell_9 : decode cX0_tell 9 = .ok (.getfield 62, 3) := by decide +kernel
theorem dX0_tell_12 : decode cX0_tell 12 = .ok (.aload_n 1, 1) := by decide +kernel
theorem dX0_tell_13 : decode cX0_tell 13 = .ok (.getfield 62, 3) := by decide +kernel
theorem dX0_tell_16 : decode cX0_tell 16 = .ok (.invokevirtual 32, 3) := by decide +kernel
theorem dX0_tell_19 : decode cX0_tell 19 = .ok (.aload_n 0, 1) := by decide +kernel
theorem dX0_tell_20 : decode cX0_tell 20 = .ok (.getfield 21, 3) := by decide +kernel
theorem dX0_tell_23 : decode cX0_tell 23 = .ok (.aload_n 1, 1) := by decide +kernel
theorem dX0_tell_24 : decode cX0_tell 24 = .ok (.getfield 65, 3) := by decide +kernel
theorem dX0_tell_27 : decode cX0_tell 27 = .ok (.putfield 65, 3) := by decide +kernel
theorem dX0_tell_30 : decode cX0_tell 30 = .ok (.aload_n 0, 1) := by decide +kernel
theorem dX0_tell_31 : decode cX0_tell 31 = .ok (.iload_n 2, 1) := by decide +kernel
theorem dX0_tell_32 : decode cX0_tell 32 = .ok (.putfield 47, 3) := by decide +kernel
theorem dX0_tell_35 : decode cX0_tell 35 = .ok (.aload_n 0, 1) := by decide +kernel
theorem dX0_tell_36 : decode cX0_tell 36 = .ok (.getfield 50, 3) := by decide +kernel
theorem dX0_tell_39 : decode cX0_tell 39 = .ok (.bipush 9, 2) := by decide +kernel
theorem dX0_tell_41 : decode cX0_tell 41 = .ok (.if_icmp .ge 46, 3) := by decide +kernel
theorem dX0_tell_44 : decode cX0_tell 44 = .ok (.aload_n 0, 1) := by decide +kernel
theorem dX0_tell_45 : decode cX0_tell 45 = .ok (.getfield 25, 3) := by decide +kernel
theorem dX0_tell_48 : decode cX0_tell 48 = .ok (.aload_n 0, 1) := by decide +kernel
theorem dX0_tell_49 : decode cX0_tell 49 = .ok (.getfield 50, 3) := by decide +kernel
theorem dX0_tell_52 : decode cX0_tell 52 = .ok (.aload_n 1, 1) := by decide +kernel
theorem dX0_tell_53 : decode cX0_tell 53 = .ok (.getfield 65, 3) := by decide +kernel
theorem dX0_tell_56 : decode cX0_tell 56 = .ok (.iastore, 1) := by decide +kernel
theorem dX0_tell_57 : decode cX0_tell 57 = .ok (.aload_n 0, 1) := by decide +kernel
theorem dX0_tell_58 : decode cX0_tell 58 = .ok (.getfield 29, 3) := by decide +kernel
theorem dX0_tell_61 : decode cX0_tell 61 = .ok (.aload_n 0, 1) := by decide +kernel
theorem dX0_tell_62 : decode cX0_tell 62 = .ok (.getfield 50, 3) := by decide +kernel
theorem dX0_tell_65 : decode cX0_tell 65 = .ok (.iload_n 2, 1) := by decide +kernel
theorem dX0_tell_66 : decode cX0_tell 66 = .ok (.iastore, 1) := by decide +kernel
theorem dX0_tell_67 : decode cX0_tell 67 = .ok (.aload_n 0, 1) := by decide +kernel
theorem dX0_tell_68 : decode cX0_tell 68 = .ok (.dup, 1) := by decide +kernel
theorem dX0_tell_69 : decode cX0_tell 69 = .ok (.getfield 50, 3) := by decide +kernel
theorem dX0_tell_72 : decode cX0_tell 72 = .ok (.iconst 1, 1) := by decide +kernel
theorem dX0_tell_73 : decode cX0_tell 73 = .ok (.iadd, 1) := by decide +kernel
theorem dX0_tell_74 : decode cX0_tell 74 = .ok (.putfield 50, 3) := by decide +kernel
theorem dX0_tell_77 : decode cX0_tell 77 = .ok (.aload_n 0, 1) := by decide +kernel
theorem dX0_tell_78 : decode cX0_tell 78 = .ok (.dup, 1) := by decide +kernel
theorem dX0_tell_79 : decode cX0_tell 79 = .ok (.getfield 53, 3) := by decide +kernel
theorem dX0_tell_82 : decode cX0_tell 82 = .ok (.iconst 1, 1) := by decide +kernel
theorem dX0_tell_83 : decode cX0_tell 83 = .ok (.iadd, 1) := by decide +kernel
theorem dX0_tell_84 : decode cX0_tell 84 = .ok (.putfield 53, 3) := by decide +kernel
theorem dX0_tell_87 : decode cX0_tell 87 = .ok (.return_, 1) := by decide +kernel
theorem dX0_isAhead_0 : decode cX0_isAhead 0 = .ok (.aload_n 1, 1) := by decide +kernel
theorem dX0_isAhead_1 : decode cX0_isAhead 1 = .ok (.getfield 62, 3) := by decide +kernel
theorem dX0_isAhead_4 : decode cX0_isAhead 4 = .ok (.aload_n 0, 1) := by decide +kernel
theorem dX0_isAhead_5 : decode cX0_isAhead 5 = .ok (.getfield 12, 3) := by decide +kernel
theorem dX0_isAhead_8 : decode cX0_isAhead 8 = .ok (.iload_n 2, 1) := by decide +kernel
theorem dX0_isAhead_9 : decode cX0_isAhead 9 = .ok (.invokevirtual 68, 3) := by decide +kernel
theorem dX0_isAhead_12 : decode cX0_isAhead 12 = .ok (.ifCond .eq 37, 3) := by decide +kernel
theorem dX0_isAhead_15 : decode cX0_isAhead 15 = .ok (.aload_n 0, 1) := by decide +kernel
theorem dX0_isAhead_16 : decode cX0_isAhead 16 = .ok (.getfield 40, 3) := by decide +kernel
theorem dX0_isAhead_19 : decode cX0_isAhead 19 = .ok (.ifCond .eq 26, 3) := by decide +kernel
theorem dX0_isAhead_22 : decode cX0_isAhead 22 = .ok (.aload_n 1, 1) := by decide +kernel
theorem dX0_isAhead_23 : decode cX0_isAhead 23 = .ok (.iload_n 2, 1) := by decide +kernel
theorem dX0_isAhead_24 : decode cX0_isAhead 24 = .ok (.aload_n 0, 1) := by decide +kernel
theorem dX0_isAhead_25 : decode cX0_isAhead 25 = .ok (.getfield 21, 3) := by decide +kernel
theorem dX0_isAhead_28 : decode cX0_isAhead 28 = .ok (.aload_n 0, 1) := by decide +kernel
theorem dX0_isAhead_29 : decode cX0_isAhead 29 = .ok (.getfield 47, 3) := by decide +kernel
theorem dX0_isAhead_32 : decode cX0_isAhead 32 = .ok (.aload_n 0, 1) := by decide +kernel
theorem dX0_isAhead_33 : decode cX0_isAhead 33 = .ok (.getfield 12, 3) := by decide +kernel
theorem dX0_isAhead_36 : decode cX0_isAhead 36 = .ok (.getfield 72, 3) := by decide +kernel
theorem dX0_isAhead_39 : decode cX0_isAhead 39 = .ok (.invokevirtual 73, 3) := by decide +kernel
theorem dX0_isAhead_42 : decode cX0_isAhead 42 = .ok (.ifCond .le 7, 3) := by decide +kernel
theorem dX0_isAhead_45 : decode cX0_isAhead 45 = .ok (.iconst 1, 1) := by decide +kernel
theorem dX0_isAhead_46 : decode cX0_isAhead 46 = .ok (.goto 4, 3) := by decide +kernel
theorem dX0_isAhead_49 : decode cX0_isAhead 49 = .ok (.iconst 0, 1) := by decide +kernel
theorem dX0_isAhead_50 : decode cX0_isAhead 50 = .ok (.ireturn, 1) := by decide +kernel
theorem dX1_init_0 : decode cX1_init 0 = .ok (.aload_n 0, 1) := by decide +kernel
theorem dX1_init_1 : decode cX1_init 1 = .ok (.invokespecial 3, 3) := by decide +kernel
theorem dX1_init_4 : decode cX1_init 4 = .ok (.aload_n 0, 1) := by decide +kernel
theorem dX1_init_5 : decode cX1_init 5 = .ok (.bipush 60, 2) := by decide +kernel
theorem dX1_init_7 : decode cX1_init 7 = .ok (.newarray .int, 2) := by decide +kernel
theorem dX1_init_9 : decode cX1_init 9 = .ok (.putfield 9, 3) := by decide +kernel
theorem dX1_init_12 : decode cX1_init 12 = .ok (.aload_n 0, 1) := by decide +kernel
theorem dX1_init_13 : decode cX1_init 13 = .ok (.bipush 60, 2) := by decide +kernel
theorem dX1_init_15 : decode cX1_init 15 = .ok (.newarray .int, 2) := by decide +kernel
theorem dX1_init_17 : decode cX1_init 17 = .ok (.putfield 15, 3) := by decide +kernel
theorem dX1_init_20 : decode cX1_init 20 = .ok (.aload_n 0, 1) := by decide +kernel
theorem dX1_init_21 : decode cX1_init 21 = .ok (.bipush 60, 2) := by decide +kernel
theorem dX1_init_23 : decode cX1_init 23 = .ok (.newarray .int, 2) := by decide +kernel
theorem dX1_init_25 : decode cX1_init 25 = .ok (.putfield 18, 3) := by decide +kernel
theorem dX1_init_28 : decode cX1_init 28 = .ok (.return_, 1) := by decide +kernel
theorem dX1_copyFrom_0 : decode cX1_copyFrom 0 = .ok (.aload_n 1, 1) := by decide +kernel
theorem dX1_copyFrom_1 : decode cX1_copyFrom 1 = .ok (.getfield 9, 3) := by decide +kernel
theorem dX1_copyFrom_4 : decode cX1_copyFrom 4 = .ok (.iconst 0, 1) := by decide +kernel
theorem dX1_copyFrom_5 : decode cX1_copyFrom 5 = .ok (.aload_n 0, 1) := by decide +kernel
theorem dX1_copyFrom_6 : decode cX1_copyFrom 6 = .ok (.getfield 9, 3) := by decide +kernel
theorem dX1_copyFrom_9 : decode cX1_copyFrom 9 = .ok (.iconst 0, 1) := by decide +kernel
theorem dX1_copyFrom_10 : decode cX1_copyFrom 10 = .ok (.bipush 60, 2) := by decide +kernel
theorem dX1_copyFrom_12 : decode cX1_copyFrom 12 = .ok (.invokestatic 21, 3) := by decide +kernel
theorem dX1_copyFrom_15 : decode cX1_copyFrom 15 = .ok (.aload_n 1, 1) := by decide +kernel
theorem dX1_copyFrom_16 : decode cX1_copyFrom 16 = .ok (.getfield 15, 3) := by decide +kernel
theorem dX1_copyFrom_19 : decode cX1_copyFrom 19 = .ok (.iconst 0, 1) := by decide +kernel
theorem dX1_copyFrom_20 : decode cX1_copyFrom 20 = .ok (.aload_n 0, 1) := by decide +kernel
theorem dX1_copyFrom_21 : decode cX1_copyFrom 21 = .ok (.getfield 15, 3) := by decide +kernel
theorem dX1_copyFrom_24 : decode cX1_copyFrom 24 = .ok (.iconst 0, 1) := by decide +kernel
theorem dX1_copyFrom_25 : decode cX1_copyFrom 25 = .ok (.bipush 60, 2) := by decide +kernel
theorem dX1_copyFrom_27 : decode cX1_copyFrom 27 = .ok (.invokestatic 21, 3) := by decide +kernel
theorem dX1_copyFrom_30 : decode cX1_copyFrom 30 = .ok (.aload_n 1, 1) := by decide +kernel
theorem dX1_copyFrom_31 : decode cX1_copyFrom 31 = .ok (.getfield 18, 3) := by decide +kernel
theorem dX1_copyFrom_34 : decode cX1_copyFrom 34 = .ok (.iconst 0, 1) := by decide +kernel
theorem dX1_copyFrom_35 : decode cX1_copyFrom 35 = .ok (.aload_n 0, 1) := by decide +kernel
theorem dX1_copyFrom_36 : decode cX1_copyFrom 36 = .ok (.getfield 18, 3) := by decide +kernel
theorem dX1_copyFrom_39 : decode cX1_copyFrom 39 = .ok (.iconst 0, 1) := by decide +kernel
theorem dX1_copyFrom_40 : decode cX1_copyFrom 40 = .ok (.bipush 60, 2) := by decide +kernel
theorem dX1_copyFrom_42 : decode cX1_copyFrom 42 = .ok (.invokestatic 21, 3) := by decide +kernel
theorem dX1_copyFrom_45 : decode cX1_copyFrom 45 = .ok (.aload_n 0, 1) := by decide +kernel
theorem dX1_copyFrom_46 : decode cX1_copyFrom 46 = .ok (.aload_n 1, 1) := by decide +kernel
theorem dX1_copyFrom_47 : decode cX1_copyFrom 47 = .ok (.getfield 27, 3) := by decide +kernel
theorem dX1_copyFrom_50 : decode cX1_copyFrom 50 = .ok (.putfield 27, 3) := by decide +kernel
theorem dX1_copyFrom_53 : decode cX1_copyFrom 53 = .ok (.return_, 1) := by decide +kernel
theorem dX1_size_0 : decode cX1_size 0 = .ok (.bipush 60, 2) := by decide +kernel
theorem dX1_size_2 : decode cX1_size 2 = .ok (.aload_n 0, 1) := by decide +kernel
theorem dX1_size_3 : decode cX1_size 3 = .ok (.getfield 27, 3) := by decide +kernel
theorem dX1_size_6 : decode cX1_size 6 = .ok (.invokestatic 31, 3) := by decide +kernel
theorem dX1_size_9 : decode cX1_size 9 = .ok (.ireturn, 1) := by decide +kernel
theorem dX1_add_0 : decode cX1_add 0 = .ok (.aload_n 0, 1) := by decide +kernel
theorem dX1_add_1 : decode cX1_add 1 = .ok (.getfield 27, 3) := by decide +kernel
theorem dX1_add_4 : decode cX1_add 4 = .ok (.bipush 60, 2) := by decide +kernel
theorem dX1_add_6 : decode cX1_add 6 = .ok (.irem, 1) := by decide +kernel
theorem dX1_add_7 : decode cX1_add 7 = .ok (.istore 4, 2) := by decide +kernel
theorem dX1_add_9 : decode cX1_add 9 = .ok (.aload_n 0, 1) := by decide +kernel
theorem dX1_add_10 : decode cX1_add 10 = .ok (.getfield 9, 3) := by decide +kernel
theorem dX1_add_13 : decode cX1_add 13 = .ok (.iload 4, 2) := by decide +kernel
theorem dX1_add_15 : decode cX1_add 15 = .ok (.iload_n 1, 1) := by decide +kernel
theorem dX1_add_16 : decode cX1_add 16 = .ok (.iastore, 1) := by decide +kernel
theorem dX1_add_17 : decode cX1_add 17 = .ok (.aload_n 0, 1) := by decide +kernel
theorem dX1_add_18 : decode cX1_add 18 = .ok (.getfield 15, 3) := by decide +kernel
theorem dX1_add_21 : decode cX1_add 21 = .ok (.iload 4, 2) := by decide +kernel
theorem dX1_add_23 : decode cX1_add 23 = .ok (.iload_n 2, 1) := by decide +kernel
theorem dX1_add_24 : decode cX1_add 24 = .ok (.iastore, 1) := by decide +kernel
theorem dX1_add_25 : decode cX1_add 25 = .ok (.aload_n 0, 1) := by decide +kernel
theorem dX1_add_26 : decode cX1_add 26 = .ok (.getfield 18, 3) := by decide +kernel
theorem dX1_add_29 : decode cX1_add 29 = .ok (.iload 4, 2) := by decide +kernel
theorem dX1_add_31 : decode cX1_add 31 = .ok (.iload_n 3, 1) := by decide +kernel
theorem dX1_add_32 : decode cX1_add 32 = .ok (.iastore, 1) := by decide +kernel
theorem dX1_add_33 : decode cX1_add 33 = .ok (.aload_n 0, 1) := by decide +kernel
theorem dX1_add_34 : decode cX1_add 34 = .ok (.aload_n 0, 1) := by decide +kernel
theorem dX1_add_35 : decode cX1_add 35 = .ok (.getfield 27, 3) := by decide +kernel
theorem dX1_add_38 : decode cX1_add 38 = .ok (.iconst 1, 1) := by decide +kernel
theorem dX1_add_39 : decode cX1_add 39 = .ok (.iadd, 1) := by decide +kernel
theorem dX1_add_40 : decode cX1_add 40 = .ok (.bipush 120, 2) := by decide +kernel
theorem dX1_add_42 : decode cX1_add 42 = .ok (.if_icmp .ne 8, 3) := by decide +kernel
theorem dX1_add_45 : decode cX1_add 45 = .ok (.bipush 60, 2) := by decide +kernel
theorem dX1_add_47 : decode cX1_add 47 = .ok (.goto 9, 3) := by decide +kernel
theorem dX1_add_50 : decode cX1_add 50 = .ok (.aload_n 0, 1) := by decide +kernel
theorem dX1_add_51 : decode cX1_add 51 = .ok (.getfield 27, 3) := by decide +kernel
theorem dX1_add_54 : decode cX1_add 54 = .ok (.iconst 1, 1) := by decide +kernel
theorem dX1_add_55 : decode cX1_add 55 = .ok (.iadd, 1) := by decide +kernel
theorem dX1_add_56 : decode cX1_add 56 = .ok (.putfield 27, 3) := by decide +kernel
theorem dX1_add_59 : decode cX1_add 59 = .ok (.return_, 1) := by decide +kernel
theorem dX1_entry_0 : decode cX1_entry 0 = .ok (.iload_n 1, 1) := by decide +kernel
theorem dX1_entry_1 : decode cX1_entry 1 = .ok (.ifCond .lt 11, 3) := by decide +kernel
theorem dX1_entry_4 : decode cX1_entry 4 = .ok (.iload_n 1, 1) := by decide +kernel
theorem dX1_entry_5 : decode cX1_entry 5 = .ok (.aload_n 0, 1) := by decide +kernel
theorem dX1_entry_6 : decode cX1_entry 6 = .ok (.invokevirtual 37, 3) := by decide +kernel
theorem dX1_entry_9 : decode cX1_entry 9 = .ok (.if_icmp .lt 6, 3) := by decide +kernel
theorem dX1_entry_12 : decode cX1_entry 12 = .ok (.ldc 41, 2) := by decide +kernel
theorem dX1_entry_14 : decode cX1_entry 14 = .ok (.ireturn, 1) := by decide +kernel
theorem dX1_entry_15 : decode cX1_entry 15 = .ok (.aload_n 0, 1) := by decide +kernel
theorem dX1_entry_16 : decode cX1_entry 16 = .ok (.getfield 27, 3) := by decide +kernel
theorem dX1_entry_19 : decode cX1_entry 19 = .ok (.iconst 1, 1) := by decide +kernel
theorem dX1_entry_20 : decode cX1_entry 20 = .ok (.isub, 1) := by decide +kernel
theorem dX1_entry_21 : decode cX1_entry 21 = .ok (.iload_n 1, 1) := by decide +kernel
theorem dX1_entry_22 : decode cX1_entry 22 = .ok (.isub, 1) := by decide +kernel
theorem dX1_entry_23 : decode cX1_entry 23 = .ok (.bipush 60, 2) := by decide +kernel
theorem dX1_entry_25 : decode cX1_entry 25 = .ok (.irem, 1) := by decide +kernel
theorem dX1_entry_26 : decode cX1_entry 26 = .ok (.istore_n 3, 1) := by decide +kernel
theorem dX1_entry_27 : decode cX1_entry 27 = .ok (.iload_n 2, 1) := by decide +kernel
theorem dX1_entry_28 : decode cX1_entry 28 = .ok (.tableswitch 49 0 2 #[28, 35, 42], 28) := by decide +kernel
theorem dX1_entry_56 : decode cX1_entry 56 = .ok (.aload_n 0, 1) := by decide +kernel
theorem dX1_entry_57 : decode cX1_entry 57 = .ok (.getfield 9, 3) := by decide +kernel
theorem dX1_entry_60 : decode cX1_entry 60 = .ok (.iload_n 3, 1) := by decide +kernel
theorem dX1_entry_61 : decode cX1_entry 61 = .ok (.iaload, 1) := by decide +kernel
theorem dX1_entry_62 : decode cX1_entry 62 = .ok (.ireturn, 1) := by decide +kernel
theorem dX1_entry_63 : decode cX1_entry 63 = .ok (.aload_n 0, 1) := by decide +kernel
theorem dX1_entry_64 : decode cX1_entry 64 = .ok (.getfield 15, 3) := by decide +kernel
theorem dX1_entry_67 : decode cX1_entry 67 = .ok (.iload_n 3, 1) := by decide +kernel
theorem dX1_entry_68 : decode cX1_entry 68 = .ok (.iaload, 1) := by decide +kernel
theorem dX1_entry_69 : decode cX1_entry 69 = .ok (.ireturn, 1) := by decide +kernel
theorem dX1_entry_70 : decode cX1_entry 70 = .ok (.aload_n 0, 1) := by decide +kernel
theorem dX1_entry_71 : decode cX1_entry 71 = .ok (.getfield 18, 3) := by decide +kernel
theorem dX1_entry_74 : decode cX1_entry 74 = .ok (.iload_n 3, 1) := by decide +kernel
theorem dX1_entry_75 : decode cX1_entry 75 = .ok (.iaload, 1) := by decide +kernel
theorem dX1_entry_76 : decode cX1_entry 76 = .ok (.ireturn, 1) := by decide +kernel
theorem dX1_entry_77 : decode cX1_entry 77 = .ok (.ldc 41, 2) := by decide +kernel
theorem dX1_entry_79 : decode cX1_entry 79 = .ok (.ireturn, 1) := by decide +kernel
theorem dX2_init_0 : decode cX2_init 0 = .ok (.aload_n 0, 1) := by decide +kernel
theorem dX2_init_1 : decode cX2_init 1 = .ok (.invokespecial 1, 3) := by decide +kernel
theorem dX2_init_4 : decode cX2_init 4 = .ok (.aload_n 0, 1) := by decide +kernel
theorem dX2_init_5 : decode cX2_init 5 = .ok (.new 7, 3) := by decide +kernel
theorem dX2_init_8 : decode cX2_init 8 = .ok (.dup, 1) := by decide +kernel
theorem dX2_init_9 : decode cX2_init 9 = .ok (.invokespecial 9, 3) := by decide +kernel
theorem dX2_init_12 : decode cX2_init 12 = .ok (.putfield 10, 3) := by decide +kernel
theorem dX2_init_15 : decode cX2_init 15 = .ok (.return_, 1) := by decide +kernel
theorem dX2_copyFrom_0 : decode cX2_copyFrom 0 = .ok (.aload_n 0, 1) := by decide +kernel
theorem dX2_copyFrom_1 : decode cX2_copyFrom 1 = .ok (.getfield 10, 3) := by decide +kernel
theorem dX2_copyFrom_4 : decode cX2_copyFrom 4 = .ok (.aload_n 1, 1) := by decide +kernel
theorem dX2_copyFrom_5 : decode cX2_copyFrom 5 = .ok (.getfield 10, 3) := by decide +kernel
theorem dX2_copyFrom_8 : decode cX2_copyFrom 8 = .ok (.invokevirtual 16, 3) := by decide +kernel
theorem dX2_copyFrom_11 : decode cX2_copyFrom 11 = .ok (.aload_n 0, 1) := by decide +kernel
theorem dX2_copyFrom_12 : decode cX2_copyFrom 12 = .ok (.aload_n 1, 1) := by decide +kernel
theorem dX2_copyFrom_13 : decode cX2_copyFrom 13 = .ok (.getfield 20, 3) := by decide +kernel
theorem dX2_copyFrom_16 : decode cX2_copyFrom 16 = .ok (.putfield 20, 3) := by decide +kernel
theorem dX2_copyFrom_19 : decode cX2_copyFrom 19 = .ok (.return_, 1) := by decide +kernel
theorem dX2_compare_0 : decode cX2_compare 0 = .ok (.aload_n 0, 1) := by decide +kernel
theorem dX2_compare_1 : decode cX2_compare 1 = .ok (.getfield 10, 3) := by decide +kernel
theorem dX2_compare_4 : decode cX2_compare 4 = .ok (.iload_n 1, 1) := by decide +kernel
theorem dX2_compare_5 : decode cX2_compare 5 = .ok (.iload 4, 2) := by decide +kernel
theorem dX2_compare_7 : decode cX2_compare 7 = .ok (.iadd, 1) := by decide +kernel
theorem dX2_compare_8 : decode cX2_compare 8 = .ok (.aload_n 2, 1) := by decide +kernel
theorem dX2_compare_9 : decode cX2_compare 9 = .ok (.getfield 10, 3) := by decide +kernel
theorem dX2_compare_12 : decode cX2_compare 12 = .ok (.iload_n 3, 1) := by decide +kernel
theorem dX2_compare_13 : decode cX2_compare 13 = .ok (.iload 4, 2) := by decide +kernel
theorem dX2_compare_15 : decode cX2_compare 15 = .ok (.iadd, 1) := by decide +kernel
theorem dX2_compare_16 : decode cX2_compare 16 = .ok (.iconst 1, 1) := by decide +kernel
theorem dX2_compare_17 : decode cX2_compare 17 = .ok (.invokevirtual 24, 3) := by decide +kernel
theorem dX2_compare_20 : decode cX2_compare 20 = .ok (.istore 5, 2) := by decide +kernel
theorem dX2_compare_22 : decode cX2_compare 22 = .ok (.iload 5, 2) := by decide +kernel
theorem dX2_compare_24 : decode cX2_compare 24 = .ok (.ifCond .ne 23, 3) := by decide +kernel
theorem dX2_compare_27 : decode cX2_compare 27 = .ok (.aload_n 0, 1) := by decide +kernel
theorem dX2_compare_28 : decode cX2_compare 28 = .ok (.getfield 10, 3) := by decide +kernel
theorem dX2_compare_31 : decode cX2_compare 31 = .ok (.iload_n 1, 1) := by decide +kernel
theorem dX2_compare_32 : decode cX2_compare 32 = .ok (.iconst 1, 1) := by decide +kernel
theorem dX2_compare_33 : decode cX2_compare 33 = .ok (.isub, 1) := by decide +kernel
theorem dX2_compare_34 : decode cX2_compare 34 = .ok (.aload_n 2, 1) := by decide +kernel
theorem dX2_compare_35 : decode cX2_compare 35 = .ok (.getfield 10, 3) := by decide +kernel
theorem dX2_compare_38 : decode cX2_compare 38 = .ok (.iload_n 3, 1) := by decide +kernel
theorem dX2_compare_39 : decode cX2_compare 39 = .ok (.iconst 1, 1) := by decide +kernel
theorem dX2_compare_40 : decode cX2_compare 40 = .ok (.isub, 1) := by decide +kernel
theorem dX2_compare_41 : decode cX2_compare 41 = .ok (.iconst (-1), 1) := by decide +kernel
theorem dX2_compare_42 : decode cX2_compare 42 = .ok (.invokevirtual 24, 3) := by decide +kernel
theorem dX2_compare_45 : decode cX2_compare 45 = .ok (.istore 5, 2) := by decide +kernel
theorem dX2_compare_47 : decode cX2_compare 47 = .ok (.iload 5, 2) := by decide +kernel
theorem dX2_compare_49 : decode cX2_compare 49 = .ok (.ifCond .ne 14, 3) := by decide +kernel
theorem dX2_compare_52 : decode cX2_compare 52 = .ok (.aload_n 0, 1) := by decide +kernel
theorem dX2_compare_53 : decode cX2_compare 53 = .ok (.getfield 20, 3) := by decide +kernel
theorem dX2_compare_56 : decode cX2_compare 56 = .ok (.aload_n 2, 1) := by decide +kernel
theorem dX2_compare_57 : decode cX2_compare 57 = .ok (.getfield 20, 3) := by decide +kernel
theorem dX2_compare_60 : decode cX2_compare 60 = .ok (.isub, 1) := by decide +kernel
theorem dX2_compare_61 : decode cX2_compare 61 = .ok (.istore 5, 2) := by decide +kernel
theorem dX2_compare_63 : decode cX2_compare 63 = .ok (.iload 5, 2) := by decide +kernel
theorem dX2_compare_65 : decode cX2_compare 65 = .ok (.ifCond .ne 9, 3) := by decide +kernel
theorem dX2_compare_68 : decode cX2_compare 68 = .ok (.iload_n 1, 1) := by decide +kernel
theorem dX2_compare_69 : decode cX2_compare 69 = .ok (.iload_n 3, 1) := by decide +kernel
theorem dX2_compare_70 : decode cX2_compare 70 = .ok (.isub, 1) := by decide +kernel
theorem dX2_compare_71 : decode cX2_compare 71 = .ok (.goto 5, 3) := by decide +kernel
theorem dX2_compare_74 : decode cX2_compare 74 = .ok (.iload 5, 2) := by decide +kernel
theorem dX2_compare_76 : decode cX2_compare 76 = .ok (.ireturn, 1) := by decide +kernel
theorem dX3_init_0 : decode cX3_init 0 = .ok (.aload_n 0, 1) := by decide +kernel
theorem dX3_init_1 : decode cX3_init 1 = .ok (.invokespecial 3, 3) := by decide +kernel
theorem dX3_init_4 : decode cX3_init 4 = .ok (.aload_n 0, 1) := by decide +kernel
theorem dX3_init_5 : decode cX3_init 5 = .ok (.sipush 200, 3) := by decide +kernel
theorem dX3_init_8 : decode cX3_init 8 = .ok (.newarray .int, 2) := by decide +kernel
theorem dX3_init_10 : decode cX3_init 10 = .ok (.putfield 9, 3) := by decide +kernel
theorem dX3_init_13 : decode cX3_init 13 = .ok (.aload_n 0, 1) := by decide +kernel
theorem dX3_init_14 : decode cX3_init 14 = .ok (.aload_n 1, 1) := by decide +kernel
theorem dX3_init_15 : decode cX3_init 15 = .ok (.putfield 15, 3) := by decide +kernel
theorem dX3_init_18 : decode cX3_init 18 = .ok (.return_, 1) := by decide +kernel
theorem dX3_fill_0 : decode cX3_fill 0 = .ok (.iconst 0, 1) := by decide +kernel
theorem dX3_fill_1 : decode cX3_fill 1 = .ok (.istore_n 2, 1) := by decide +kernel
theorem dX3_fill_2 : decode cX3_fill 2 = .ok (.iload_n 2, 1) := by decide +kernel
theorem dX3_fill_3 : decode cX3_fill 3 = .ok (.aload_n 0, 1) := by decide +kernel
theorem dX3_fill_4 : decode cX3_fill 4 = .ok (.getfield 15, 3) := by decide +kernel
theorem dX3_fill_7 : decode cX3_fill 7 = .ok (.getfield 19, 3) := by decide +kernel
theorem dX3_fill_10 : decode cX3_fill 10 = .ok (.if_icmp .ge 61, 3) := by decide +kernel
theorem dX3_fill_13 : decode cX3_fill 13 = .ok (.aload_n 0, 1) := by decide +kernel
theorem dX3_fill_14 : decode cX3_fill 14 = .ok (.getfield 15, 3) := by decide +kernel
theorem dX3_fill_17 : decode cX3_fill 17 = .ok (.getfield 25, 3) := by decide +kernel
theorem dX3_fill_20 : decode cX3_fill 20 = .ok (.iload_n 2, 1) := by decide +kernel
theorem dX3_fill_21 : decode cX3_fill 21 = .ok (.aaload, 1) := by decide +kernel
theorem dX3_fill_22 : decode cX3_fill 22 = .ok (.getfield 29, 3) := by decide +kernel
theorem dX3_fill_25 : decode cX3_fill 25 = .ok (.astore_n 3, 1) := by decide +kernel
theorem dX3_fill_26 : decode cX3_fill 26 = .ok (.iconst 0, 1) := by decide +kernel
theorem dX3_fill_27 : decode cX3_fill 27 = .ok (.istore 4, 2) := by decide +kernel
theorem dX3_fill_29 : decode cX3_fill 29 = .ok (.iload 4, 2) := by decide +kernel
theorem dX3_fill_31 : decode cX3_fill 31 = .ok (.aload_n 3, 1) := by decide +kernel
theorem dX3_fill_32 : decode cX3_fill 32 = .ok (.getfield 35, 3) := by decide +kernel
theorem dX3_fill_35 : decode cX3_fill 35 = .ok (.if_icmp .ge 30, 3) := by decide +kernel
theorem dX3_fill_38 : decode cX3_fill 38 = .ok (.aload_n 3, 1) := by decide +kernel
theorem dX3_fill_39 : decode cX3_fill 39 = .ok (.aload_n 1, 1) := by decide +kernel
theorem dX3_fill_40 : decode cX3_fill 40 = .ok (.iload 4, 2) := by decide +kernel
theorem dX3_fill_42 : decode cX3_fill 42 = .ok (.invokevirtual 40, 3) := by decide +kernel
theorem dX3_fill_45 : decode cX3_fill 45 = .ok (.ifCond .eq 14, 3) := by decide +kernel
theorem dX3_fill_48 : decode cX3_fill 48 = .ok (.aload_n 0, 1) := by decide +kernel
theorem dX3_fill_49 : decode cX3_fill 49 = .ok (.iload_n 2, 1) := by decide +kernel
theorem dX3_fill_50 : decode cX3_fill 50 = .ok (.iload 4, 2) := by decide +kernel
theorem dX3_fill_52 : decode cX3_fill 52 = .ok (.aload_n 1, 1) := by decide +kernel
theorem dX3_fill_53 : decode cX3_fill 53 = .ok (.getfield 35, 3) := by decide +kernel
theorem dX3_fill_56 : decode cX3_fill 56 = .ok (.invokevirtual 44, 3) := by decide +kernel
theorem dX3_fill_59 : decode cX3_fill 59 = .ok (.iinc 4 1, 3) := by decide +kernel
theorem dX3_fill_62 : decode cX3_fill 62 = .ok (.goto (-33), 3) := by decide +kernel
theorem dX3_fill_65 : decode cX3_fill 65 = .ok (.iinc 2 1, 3) := by decide +kernel
theorem dX3_fill_68 : decode cX3_fill 68 = .ok (.goto (-66), 3) := by decide +kernel
theorem dX3_fill_71 : decode cX3_fill 71 = .ok (.return_, 1) := by decide +kernel
theorem dX3_insert_0 : decode cX3_insert 0 = .ok (.aload_n 0, 1) := by decide +kernel
theorem dX3_insert_1 : decode cX3_insert 1 = .ok (.getfield 48, 3) := by decide +kernel
theorem dX3_insert_4 : decode cX3_insert 4 = .ok (.aload_n 0, 1) := by decide +kernel
theorem dX3_insert_5 : decode cX3_insert 5 = .ok (.getfield 9, 3) := by decide +kernel
theorem dX3_insert_8 : decode cX3_insert 8 = .ok (.arraylength, 1) := by decide +kernel
theorem dX3_insert_9 : decode cX3_insert 9 = .ok (.if_icmp .lt 4, 3) := by decide +kernel
theorem dX3_insert_12 : decode cX3_insert 12 = .ok (.return_, 1) := by decide +kernel
theorem dX3_insert_13 : decode cX3_insert 13 = .ok (.iconst 0, 1) := by decide +kernel
theorem dX3_insert_14 : decode cX3_insert 14 = .ok (.istore 4, 2) := by decide +kernel
theorem dX3_insert_16 : decode cX3_insert 16 = .ok (.aload_n 0, 1) := by decide +kernel
theorem dX3_insert_17 : decode cX3_insert 17 = .ok (.getfield 48, 3) := by decide +kernel
theorem dX3_insert_20 : decode cX3_insert 20 = .ok (.istore 5, 2) := by decide +kernel
theorem dX3_insert_22 : decode cX3_insert 22 = .ok (.iconst 0, 1) := by decide +kernel
theorem dX3_insert_23 : decode cX3_insert 23 = .ok (.istore 6, 2) := by decide +kernel
theorem dX3_insert_25 : decode cX3_insert 25 = .ok (.iload 6, 2) := by decide +kernel
theorem dX3_insert_27 : decode cX3_insert 27 = .ok (.aload_n 0, 1) := by decide +kernel
theorem dX3_insert_28 : decode cX3_insert 28 = .ok (.getfield 9, 3) := by decide +kernel
theorem dX3_insert_31 : decode cX3_insert 31 = .ok (.arraylength, 1) := by decide +kernel
theorem dX3_insert_32 : decode cX3_insert 32 = .ok (.if_icmp .ge 79, 3) := by decide +kernel
theorem dX3_insert_35 : decode cX3_insert 35 = .ok (.iload 4, 2) := by decide +kernel
theorem dX3_insert_37 : decode cX3_insert 37 = .ok (.iload 5, 2) := by decide +kernel
theorem dX3_insert_39 : decode cX3_insert 39 = .ok (.if_icmp .ge 72, 3) := by decide +kernel
theorem dX3_insert_42 : decode cX3_insert 42 = .ok (.iload 4, 2) := by decide +kernel
theorem dX3_insert_44 : decode cX3_insert 44 = .ok (.iload 5, 2) := by decide +kernel
theorem dX3_insert_46 : decode cX3_insert 46 = .ok (.iadd, 1) := by decide +kernel
theorem dX3_insert_47 : decode cX3_insert 47 = .ok (.iconst 2, 1) := by decide +kernel
theorem dX3_insert_48 : decode cX3_insert 48 = .ok (.idiv, 1) := by decide +kernel
theorem dX3_insert_49 : decode cX3_insert 49 = .ok (.istore 7, 2) := by decide +kernel
theorem dX3_insert_51 : decode cX3_insert 51 = .ok (.aload_n 0, 1) := by decide +kernel
theorem dX3_insert_52 : decode cX3_insert 52 = .ok (.getfield 15, 3) := by decide +kernel
theorem dX3_insert_55 : decode cX3_insert 55 = .ok (.getfield 25, 3) := by decide +kernel
theorem dX3_insert_58 : decode cX3_insert 58 = .ok (.aload_n 0, 1) := by decide +kernel
theorem dX3_insert_59 : decode cX3_insert 59 = .ok (.iload 7, 2) := by decide +kernel
theorem dX3_insert_61 : decode cX3_insert 61 = .ok (.invokevirtual 49, 3) := by decide +kernel
theorem dX3_insert_64 : decode cX3_insert 64 = .ok (.aaload, 1) := by decide +kernel
theorem dX3_insert_65 : decode cX3_insert 65 = .ok (.astore 8, 2) := by decide +kernel
theorem dX3_insert_67 : decode cX3_insert 67 = .ok (.aload 8, 2) := by decide +kernel
theorem dX3_insert_69 : decode cX3_insert 69 = .ok (.aload_n 0, 1) := by decide +kernel
theorem dX3_insert_70 : decode cX3_insert 70 = .ok (.iload 7, 2) := by decide +kernel
theorem dX3_insert_72 : decode cX3_insert 72 = .ok (.invokevirtual 53, 3) := by decide +kernel
theorem dX3_insert_75 : decode cX3_insert 75 = .ok (.aload_n 0, 1) := by decide +kernel
theorem dX3_insert_76 : decode cX3_insert 76 = .ok (.getfield 15, 3) := by decide +kernel
theorem dX3_insert_79 : decode cX3_insert 79 = .ok (.getfield 25, 3) := by decide +kernel
theorem dX3_insert_82 : decode cX3_insert 82 = .ok (.iload_n 1, 1) := by decide +kernel
theorem dX3_insert_83 : decode cX3_insert 83 = .ok (.aaload, 1) := by decide +kernel
theorem dX3_insert_84 : decode cX3_insert 84 = .ok (.iload_n 2, 1) := by decide +kernel
theorem dX3_insert_85 : decode cX3_insert 85 = .ok (.iload_n 3, 1) := by decide +kernel
theorem dX3_insert_86 : decode cX3_insert 86 = .ok (.invokevirtual 56, 3) := by decide +kernel
theorem dX3_insert_89 : decode cX3_insert 89 = .ok (.ifCond .ge 12, 3) := by decide +kernel
theorem dX3_insert_92 : decode cX3_insert 92 = .ok (.iload 7, 2) := by decide +kernel
theorem dX3_insert_94 : decode cX3_insert 94 = .ok (.iconst 1, 1) := by decide +kernel
theorem dX3_insert_95 : decode cX3_insert 95 = .ok (.iadd, 1) := by decide +kernel
theorem dX3_insert_96 : decode cX3_insert 96 = .ok (.istore 4, 2) := by decide +kernel
theorem dX3_insert_98 : decode cX3_insert 98 = .ok (.goto 7, 3) := by decide +kernel
theorem dX3_insert_101 : decode cX3_insert 101 = .ok (.iload 7, 2) := by decide +kernel
theorem dX3_insert_103 : decode cX3_insert 103 = .ok (.istore 5, 2) := by decide +kernel
theorem dX3_insert_105 : decode cX3_insert 105 = .ok (.iinc 6 1, 3) := by decide +kernel
theorem dX3_insert_108 : decode cX3_insert 108 = .ok (.goto (-83), 3) := by decide +kernel
theorem dX3_insert_111 : decode cX3_insert 111 = .ok (.aload_n 0, 1) := by decide +kernel
theorem dX3_insert_112 : decode cX3_insert 112 = .ok (.getfield 9, 3) := by decide +kernel
theorem dX3_insert_115 : decode cX3_insert 115 = .ok (.iload 4, 2) := by decide +kernel
theorem dX3_insert_117 : decode cX3_insert 117 = .ok (.aload_n 0, 1) := by decide +kernel
theorem dX3_insert_118 : decode cX3_insert 118 = .ok (.getfield 9, 3) := by decide +kernel
theorem dX3_insert_121 : decode cX3_insert 121 = .ok (.iload 4, 2) := by decide +kernel
theorem dX3_insert_123 : decode cX3_insert 123 = .ok (.iconst 1, 1) := by decide +kernel
theorem dX3_insert_124 : decode cX3_insert 124 = .ok (.iadd, 1) := by decide +kernel
theorem dX3_insert_125 : decode cX3_insert 125 = .ok (.aload_n 0, 1) := by decide +kernel
theorem dX3_insert_126 : decode cX3_insert 126 = .ok (.getfield 48, 3) := by decide +kernel
theorem dX3_insert_129 : decode cX3_insert 129 = .ok (.iload 4, 2) := by decide +kernel
theorem dX3_insert_131 : decode cX3_insert 131 = .ok (.isub, 1) := by decide +kernel
theorem dX3_insert_132 : decode cX3_insert 132 = .ok (.invokestatic 60, 3) := by decide +kernel
theorem dX3_insert_135 : decode cX3_insert 135 = .ok (.aload_n 0, 1) := by decide +kernel
theorem dX3_insert_136 : decode cX3_insert 136 = .ok (.getfield 9, 3) := by decide +kernel
theorem dX3_insert_139 : decode cX3_insert 139 = .ok (.iload 4, 2) := by decide +kernel
theorem dX3_insert_141 : decode cX3_insert 141 = .ok (.iload_n 1, 1) := by decide +kernel
theorem dX3_insert_142 : decode cX3_insert 142 = .ok (.bipush 20, 2) := by decide +kernel
theorem dX3_insert_144 : decode cX3_insert 144 = .ok (.imul, 1) := by decide +kernel
theorem dX3_insert_145 : decode cX3_insert 145 = .ok (.iload_n 2, 1) := by decide +kernel
theorem dX3_insert_146 : decode cX3_insert 146 = .ok (.iadd, 1) := by decide +kernel
theorem dX3_insert_147 : decode cX3_insert 147 = .ok (.iastore, 1) := by decide +kernel
theorem dX3_insert_148 : decode cX3_insert 148 = .ok (.aload_n 0, 1) := by decide +kernel
theorem dX3_insert_149 : decode cX3_insert 149 = .ok (.dup, 1) := by decide +kernel
theorem dX3_insert_150 : decode cX3_insert 150 = .ok (.getfield 48, 3) := by decide +kernel
theorem dX3_insert_153 : decode cX3_insert 153 = .ok (.iconst 1, 1) := by decide +kernel
theorem dX3_insert_154 : decode cX3_insert 154 = .ok (.iadd, 1) := by decide +kernel
theorem dX3_insert_155 : decode cX3_insert 155 = .ok (.putfield 48, 3) := by decide +kernel
theorem dX3_insert_158 : decode cX3_insert 158 = .ok (.return_, 1) := by decide +kernel
theorem dX3_has_0 : decode cX3_has 0 = .ok (.iload_n 1, 1) := by decide +kernel
theorem dX3_has_1 : decode cX3_has 1 = .ok (.ifCond .lt 15, 3) := by decide +kernel
theorem dX3_has_4 : decode cX3_has 4 = .ok (.iload_n 1, 1) := by decide +kernel
theorem dX3_has_5 : decode cX3_has 5 = .ok (.aload_n 0, 1) := by decide +kernel
theorem dX3_has_6 : decode cX3_has 6 = .ok (.getfield 48, 3) := by decide +kernel
theorem dX3_has_9 : decode cX3_has 9 = .ok (.if_icmp .ge 7, 3) := by decide +kernel
theorem dX3_has_12 : decode cX3_has 12 = .ok (.iconst 1, 1) := by decide +kernel
theorem dX3_has_13 : decode cX3_has 13 = .ok (.goto 4, 3) := by decide +kernel
theorem dX3_has_16 : decode cX3_has 16 = .ok (.iconst 0, 1) := by decide +kernel
theorem dX3_has_17 : decode cX3_has 17 = .ok (.ireturn, 1) := by decide +kernel
theorem dX3_lineOf_0 : decode cX3_lineOf 0 = .ok (.aload_n 0, 1) := by decide +kernel
theorem dX3_lineOf_1 : decode cX3_lineOf 1 = .ok (.getfield 9, 3) := by decide +kernel
theorem dX3_lineOf_4 : decode cX3_lineOf 4 = .ok (.iload_n 1, 1) := by decide +kernel
theorem dX3_lineOf_5 : decode cX3_lineOf 5 = .ok (.iaload, 1) := by decide +kernel
theorem dX3_lineOf_6 : decode cX3_lineOf 6 = .ok (.bipush 20, 2) := by decide +kernel
theorem dX3_lineOf_8 : decode cX3_lineOf 8 = .ok (.idiv, 1) := by decide +kernel
theorem dX3_lineOf_9 : decode cX3_lineOf 9 = .ok (.ireturn, 1) := by decide +kernel
theorem dX3_placeOf_0 : decode cX3_placeOf 0 = .ok (.aload_n 0, 1) := by decide +kernel
theorem dX3_placeOf_1 : decode cX3_placeOf 1 = .ok (.getfield 9, 3) := by decide +kernel
theorem dX3_placeOf_4 : decode cX3_placeOf 4 = .ok (.iload_n 1, 1) := by decide +kernel
theorem dX3_placeOf_5 : decode cX3_placeOf 5 = .ok (.iaload, 1) := by decide +kernel
theorem dX3_placeOf_6 : decode cX3_placeOf 6 = .ok (.bipush 20, 2) := by decide +kernel
theorem dX3_placeOf_8 : decode cX3_placeOf 8 = .ok (.irem, 1) := by decide +kernel
theorem dX3_placeOf_9 : decode cX3_placeOf 9 = .ok (.ireturn, 1) := by decide +kernel
theorem dX3_signsFrom_0 : decode cX3_signsFrom 0 = .ok (.aload_n 0, 1) := by decide +kernel
theorem dX3_signsFrom_1 : decode cX3_signsFrom 1 = .ok (.getfield 15, 3) := by decide +kernel
theorem dX3_signsFrom_4 : decode cX3_signsFrom 4 = .ok (.getfield 25, 3) := by decide +kernel
theorem dX3_signsFrom_7 : decode cX3_signsFrom 7 = .ok (.aload_n 0, 1) := by decide +kernel
theorem dX3_signsFrom_8 : decode cX3_signsFrom 8 = .ok (.iload_n 1, 1) := by decide +kernel
theorem dX3_signsFrom_9 : decode cX3_signsFrom 9 = .ok (.invokevirtual 49, 3) := by decide +kernel
theorem dX3_signsFrom_12 : decode cX3_signsFrom 12 = .ok (.aaload, 1) := by decide +kernel
theorem dX3_signsFrom_13 : decode cX3_signsFrom 13 = .ok (.getfield 29, 3) := by decide +kernel
theorem dX3_signsFrom_16 : decode cX3_signsFrom 16 = .ok (.getfield 35, 3) := by decide +kernel
theorem dX3_signsFrom_19 : decode cX3_signsFrom 19 = .ok (.aload_n 0, 1) := by decide +kernel
theorem dX3_signsFrom_20 : decode cX3_signsFrom 20 = .ok (.iload_n 1, 1) := by decide +kernel
theorem dX3_signsFrom_21 : decode cX3_signsFrom 21 = .ok (.invokevirtual 53, 3) := by decide +kernel
theorem dX3_signsFrom_24 : decode cX3_signsFrom 24 = .ok (.isub, 1) := by decide +kernel
theorem dX3_signsFrom_25 : decode cX3_signsFrom 25 = .ok (.ireturn, 1) := by decide +kernel
theorem dX3_find_0 : decode cX3_find 0 = .ok (.iconst 0, 1) := by decide +kernel
theorem dX3_find_1 : decode cX3_find 1 = .ok (.istore_n 3, 1) := by decide +kernel
theorem dX3_find_2 : decode cX3_find 2 = .ok (.iload_n 3, 1) := by decide +kernel
theorem dX3_find_3 : decode cX3_find 3 = .ok (.aload_n 0, 1) := by decide +kernel
theorem dX3_find_4 : decode cX3_find 4 = .ok (.getfield 48, 3) := by decide +kernel
theorem dX3_find_7 : decode cX3_find 7 = .ok (.if_icmp .ge 29, 3) := by decide +kernel
theorem dX3_find_10 : decode cX3_find 10 = .ok (.aload_n 0, 1) := by decide +kernel
theorem dX3_find_11 : decode cX3_find 11 = .ok (.iload_n 3, 1) := by decide +kernel
theorem dX3_find_12 : decode cX3_find 12 = .ok (.invokevirtual 49, 3) := by decide +kernel
theorem dX3_find_15 : decode cX3_find 15 = .ok (.iload_n 1, 1) := by decide +kernel
theorem dX3_find_16 : decode cX3_find 16 = .ok (.if_icmp .ne 14, 3) := by decide +kernel
theorem dX3_find_19 : decode cX3_find 19 = .ok (.aload_n 0, 1) := by decide +kernel
theorem dX3_find_20 : decode cX3_find 20 = .ok (.iload_n 3, 1) := by decide +kernel
theorem dX3_find_21 : decode cX3_find 21 = .ok (.invokevirtual 53, 3) := by decide +kernel
theorem dX3_find_24 : decode cX3_find 24 = .ok (.iload_n 2, 1) := by decide +kernel
theorem dX3_find_25 : decode cX3_find 25 = .ok (.if_icmp .ne 5, 3) := by decide +kernel
theorem dX3_find_28 : decode cX3_find 28 = .ok (.iload_n 3, 1) := by decide +kernel
theorem dX3_find_29 : decode cX3_find 29 = .ok (.ireturn, 1) := by decide +kernel
theorem dX3_find_30 : decode cX3_find 30 = .ok (.iinc 3 1, 3) := by decide +kernel
theorem dX3_find_33 : decode cX3_find 33 = .ok (.goto (-31), 3) := by decide +kernel
theorem dX3_find_36 : decode cX3_find 36 = .ok (.iconst (-1), 1) := by decide +kernel
theorem dX3_find_37 : decode cX3_find 37 = .ok (.ireturn, 1) := by decide +kernel
theorem dX3_shared_0 : decode cX3_shared 0 = .ok (.aload_n 0, 1) := by decide +kernel
theorem dX3_shared_1 : decode cX3_shared 1 = .ok (.iload_n 1, 1) := by decide +kernel
theorem dX3_shared_2 : decode cX3_shared 2 = .ok (.invokevirtual 66, 3) := by decide +kernel
theorem dX3_shared_5 : decode cX3_shared 5 = .ok (.ifCond .eq 13, 3) := by decide +kernel
theorem dX3_shared_8 : decode cX3_shared 8 = .ok (.aload_n 0, 1) := by decide +kernel
theorem dX3_shared_9 : decode cX3_shared 9 = .ok (.iload_n 1, 1) := by decide +kernel
theorem dX3_shared_10 : decode cX3_shared 10 = .ok (.iconst 1, 1) := by decide +kernel
theorem dX3_shared_11 : decode cX3_shared 11 = .ok (.iadd, 1) := by decide +kernel
theorem dX3_shared_12 : decode cX3_shared 12 = .ok (.invokevirtual 66, 3) := by decide +kernel
theorem dX3_shared_15 : decode cX3_shared 15 = .ok (.ifCond .ne 5, 3) := by decide +kernel
theorem dX3_shared_18 : decode cX3_shared 18 = .ok (.iconst (-1), 1) := by decide +kernel
theorem dX3_shared_19 : decode cX3_shared 19 = .ok (.ireturn, 1) := by decide +kernel
theorem dX3_shared_20 : decode cX3_shared 20 = .ok (.aload_n 0, 1) := by decide +kernel
theorem dX3_shared_21 : decode cX3_shared 21 = .ok (.getfield 15, 3) := by decide +kernel
theorem dX3_shared_24 : decode cX3_shared 24 = .ok (.getfield 25, 3) := by decide +kernel
theorem dX3_shared_27 : decode cX3_shared 27 = .ok (.aload_n 0, 1) := by decide +kernel
theorem dX3_shared_28 : decode cX3_shared 28 = .ok (.iload_n 1, 1) := by decide +kernel
theorem dX3_shared_29 : decode cX3_shared 29 = .ok (.iconst 1, 1) := by decide +kernel
theorem dX3_shared_30 : decode cX3_shared 30 = .ok (.iadd, 1) := by decide +kernel
theorem dX3_shared_31 : decode cX3_shared 31 = .ok (.invokevirtual 49, 3) := by decide +kernel
theorem dX3_shared_34 : decode cX3_shared 34 = .ok (.aaload, 1) := by decide +kernel
theorem dX3_shared_35 : decode cX3_shared 35 = .ok (.getfield 29, 3) := by decide +kernel
theorem dX3_shared_38 : decode cX3_shared 38 = .ok (.astore_n 2, 1) := by decide +kernel
theorem dX3_shared_39 : decode cX3_shared 39 = .ok (.aload_n 0, 1) := by decide +kernel
theorem dX3_shared_40 : decode cX3_shared 40 = .ok (.getfield 15, 3) := by decide +kernel
theorem dX3_shared_43 : decode cX3_shared 43 = .ok (.getfield 25, 3) := by decide +kernel
theorem dX3_shared_46 : decode cX3_shared 46 = .ok (.aload_n 0, 1) := by decide +kernel
theorem dX3_shared_47 : decode cX3_shared 47 = .ok (.iload_n 1, 1) := by decide +kernel
theorem dX3_shared_48 : decode cX3_shared 48 = .ok (.invokevirtual 49, 3) := by decide +kernel
theorem dX3_shared_51 : decode cX3_shared 51 = .ok (.aaload, 1) := by decide +kernel
theorem dX3_shared_52 : decode cX3_shared 52 = .ok (.getfield 29, 3) := by decide +kernel
theorem dX3_shared_55 : decode cX3_shared 55 = .ok (.aload_n 0, 1) := by decide +kernel
theorem dX3_shared_56 : decode cX3_shared 56 = .ok (.iload_n 1, 1) := by decide +kernel
theorem dX3_shared_57 : decode cX3_shared 57 = .ok (.invokevirtual 53, 3) := by decide +kernel
theorem dX3_shared_60 : decode cX3_shared 60 = .ok (.aload_n 2, 1) := by decide +kernel
theorem dX3_shared_61 : decode cX3_shared 61 = .ok (.aload_n 0, 1) := by decide +kernel
theorem dX3_shared_62 : decode cX3_shared 62 = .ok (.iload_n 1, 1) := by decide +kernel
theorem dX3_shared_63 : decode cX3_shared 63 = .ok (.iconst 1, 1) := by decide +kernel
theorem dX3_shared_64 : decode cX3_shared 64 = .ok (.iadd, 1) := by decide +kernel
theorem dX3_shared_65 : decode cX3_shared 65 = .ok (.invokevirtual 53, 3) := by decide +kernel
theorem dX3_shared_68 : decode cX3_shared 68 = .ok (.invokevirtual 69, 3) := by decide +kernel
theorem dX3_shared_71 : decode cX3_shared 71 = .ok (.ireturn, 1) := by decide +kernel
theorem dX3_mostShared_0 : decode cX3_mostShared 0 = .ok (.iconst (-1), 1) := by decide +kernel
theorem dX3_mostShared_1 : decode cX3_mostShared 1 = .ok (.istore_n 1, 1) := by decide +kernel
theorem dX3_mostShared_2 : decode cX3_mostShared 2 = .ok (.iconst 0, 1) := by decide +kernel
theorem dX3_mostShared_3 : decode cX3_mostShared 3 = .ok (.istore_n 2, 1) := by decide +kernel
theorem dX3_mostShared_4 : decode cX3_mostShared 4 = .ok (.iconst 0, 1) := by decide +kernel
theorem dX3_mostShared_5 : decode cX3_mostShared 5 = .ok (.istore_n 3, 1) := by decide +kernel
theorem dX3_mostShared_6 : decode cX3_mostShared 6 = .ok (.iload_n 3, 1) := by decide +kernel
theorem dX3_mostShared_7 : decode cX3_mostShared 7 = .ok (.aload_n 0, 1) := by decide +kernel
theorem dX3_mostShared_8 : decode cX3_mostShared 8 = .ok (.getfield 48, 3) := by decide +kernel
theorem dX3_mostShared_11 : decode cX3_mostShared 11 = .ok (.if_icmp .ge 27, 3) := by decide +kernel
theorem dX3_mostShared_14 : decode cX3_mostShared 14 = .ok (.aload_n 0, 1) := by decide +kernel
theorem dX3_mostShared_15 : decode cX3_mostShared 15 = .ok (.iload_n 3, 1) := by decide +kernel
theorem dX3_mostShared_16 : decode cX3_mostShared 16 = .ok (.invokevirtual 73, 3) := by decide +kernel
theorem dX3_mostShared_19 : decode cX3_mostShared 19 = .ok (.istore 4, 2) := by decide +kernel
theorem dX3_mostShared_21 : decode cX3_mostShared 21 = .ok (.iload 4, 2) := by decide +kernel
theorem dX3_mostShared_23 : decode cX3_mostShared 23 = .ok (.iload_n 2, 1) := by decide +kernel
theorem dX3_mostShared_24 : decode cX3_mostShared 24 = .ok (.if_icmp .le 8, 3) := by decide +kernel
theorem dX3_mostShared_27 : decode cX3_mostShared 27 = .ok (.iload 4, 2) := by decide +kernel
theorem dX3_mostShared_29 : decode cX3_mostShared 29 = .ok (.istore_n 2, 1) := by decide +kernel
theorem dX3_mostShared_30 : decode cX3_mostShared 30 = .ok (.iload_n 3, 1) := by decide +kernel
theorem dX3_mostShared_31 : decode cX3_mostShared 31 = .ok (.istore_n 1, 1) := by decide +kernel
theorem dX3_mostShared_32 : decode cX3_mostShared 32 = .ok (.iinc 3 1, 3) := by decide +kernel
theorem dX3_mostShared_35 : decode cX3_mostShared 35 = .ok (.goto (-29), 3) := by decide +kernel
theorem dX3_mostShared_38 : decode cX3_mostShared 38 = .ok (.iload_n 1, 1) := by decide +kernel
theorem dX3_mostShared_39 : decode cX3_mostShared 39 = .ok (.ireturn, 1) := by decide +kernel
theorem dX3_opensWord_0 : decode cX3_opensWord 0 = .ok (.aload_n 0, 1) := by decide +kernel
theorem dX3_opensWord_1 : decode cX3_opensWord 1 = .ok (.iload_n 1, 1) := by decide +kernel
theorem dX3_opensWord_2 : decode cX3_opensWord 2 = .ok (.invokevirtual 75, 3) := by decide +kernel
theorem dX3_opensWord_5 : decode cX3_opensWord 5 = .ok (.iload_n 2, 1) := by decide +kernel
theorem dX3_opensWord_6 : decode cX3_opensWord 6 = .ok (.if_icmp .lt 18, 3) := by decide +kernel
theorem dX3_opensWord_9 : decode cX3_opensWord 9 = .ok (.aload_n 0, 1) := by decide +kernel
theorem dX3_opensWord_10 : decode cX3_opensWord 10 = .ok (.iload_n 1, 1) := by decide +kernel
theorem dX3_opensWord_11 : decode cX3_opensWord 11 = .ok (.iconst 1, 1) := by decide +kernel
theorem dX3_opensWord_12 : decode cX3_opensWord 12 = .ok (.isub, 1) := by decide +kernel
theorem dX3_opensWord_13 : decode cX3_opensWord 13 = .ok (.invokevirtual 73, 3) := by decide +kernel
theorem dX3_opensWord_16 : decode cX3_opensWord 16 = .ok (.iload_n 2, 1) := by decide +kernel
theorem dX3_opensWord_17 : decode cX3_opensWord 17 = .ok (.if_icmp .ge 7, 3) := by decide +kernel
theorem dX3_opensWord_20 : decode cX3_opensWord 20 = .ok (.iconst 1, 1) := by decide +kernel
theorem dX3_opensWord_21 : decode cX3_opensWord 21 = .ok (.goto 4, 3) := by decide +kernel
theorem dX3_opensWord_24 : decode cX3_opensWord 24 = .ok (.iconst 0, 1) := by decide +kernel
theorem dX3_opensWord_25 : decode cX3_opensWord 25 = .ok (.ireturn, 1) := by decide +kernel
theorem dX3_wordHits_0 : decode cX3_wordHits 0 = .ok (.iconst 1, 1) := by decide +kernel
theorem dX3_wordHits_1 : decode cX3_wordHits 1 = .ok (.istore_n 3, 1) := by decide +kernel
theorem dX3_wordHits_2 : decode cX3_wordHits 2 = .ok (.iload_n 1, 1) := by decide +kernel
theorem dX3_wordHits_3 : decode cX3_wordHits 3 = .ok (.iload_n 3, 1) := by decide +kernel
theorem dX3_wordHits_4 : decode cX3_wordHits 4 = .ok (.iadd, 1) := by decide +kernel
theorem dX3_wordHits_5 : decode cX3_wordHits 5 = .ok (.aload_n 0, 1) := by decide +kernel
theorem dX3_wordHits_6 : decode cX3_wordHits 6 = .ok (.getfield 48, 3) := by decide +kernel
theorem dX3_wordHits_9 : decode cX3_wordHits 9 = .ok (.if_icmp .ge 22, 3) := by decide +kernel
theorem dX3_wordHits_12 : decode cX3_wordHits 12 = .ok (.aload_n 0, 1) := by decide +kernel
theorem dX3_wordHits_13 : decode cX3_wordHits 13 = .ok (.iload_n 1, 1) := by decide +kernel
theorem dX3_wordHits_14 : decode cX3_wordHits 14 = .ok (.iload_n 3, 1) := by decide +kernel
theorem dX3_wordHits_15 : decode cX3_wordHits 15 = .ok (.iadd, 1) := by decide +kernel
theorem dX3_wordHits_16 : decode cX3_wordHits 16 = .ok (.iconst 1, 1) := by decide +kernel
theorem dX3_wordHits_17 : decode cX3_wordHits 17 = .ok (.isub, 1) := by decide +kernel
theorem dX3_wordHits_18 : decode cX3_wordHits 18 = .ok (.invokevirtual 73, 3) := by decide +kernel
theorem dX3_wordHits_21 : decode cX3_wordHits 21 = .ok (.iload_n 2, 1) := by decide +kernel
theorem dX3_wordHits_22 : decode cX3_wordHits 22 = .ok (.if_icmp .lt 9, 3) := by decide +kernel
theorem dX3_wordHits_25 : decode cX3_wordHits 25 = .ok (.iinc 3 1, 3) := by decide +kernel
theorem dX3_wordHits_28 : decode cX3_wordHits 28 = .ok (.goto (-26), 3) := by decide +kernel
theorem dX3_wordHits_31 : decode cX3_wordHits 31 = .ok (.iload_n 3, 1) := by decide +kernel
theorem dX3_wordHits_32 : decode cX3_wordHits 32 = .ok (.ireturn, 1) := by decide +kernel
theorem dX3_mostFrequent_0 : decode cX3_mostFrequent 0 = .ok (.iconst (-1), 1) := by decide +kernel
theorem dX3_mostFrequent_1 : decode cX3_mostFrequent 1 = .ok (.istore_n 2, 1) := by decide +kernel
theorem dX3_mostFrequent_2 : decode cX3_mostFrequent 2 = .ok (.iconst 0, 1) := by decide +kernel
theorem dX3_mostFrequent_3 : decode cX3_mostFrequent 3 = .ok (.istore_n 3, 1) := by decide +kernel
theorem dX3_mostFrequent_4 : decode cX3_mostFrequent 4 = .ok (.iconst 0, 1) := by decide +kernel
theorem dX3_mostFrequent_5 : decode cX3_mostFrequent 5 = .ok (.istore 4, 2) := by decide +kernel
theorem dX3_mostFrequent_7 : decode cX3_mostFrequent 7 = .ok (.iload 4, 2) := by decide +kernel
theorem dX3_mostFrequent_9 : decode cX3_mostFrequent 9 = .ok (.aload_n 0, 1) := by decide +kernel
theorem dX3_mostFrequent_10 : decode cX3_mostFrequent 10 = .ok (.getfield 48, 3) := by decide +kernel
theorem dX3_mostFrequent_13 : decode cX3_mostFrequent 13 = .ok (.if_icmp .ge 44, 3) := by decide +kernel
theorem dX3_mostFrequent_16 : decode cX3_mostFrequent 16 = .ok (.aload_n 0, 1) := by decide +kernel
theorem dX3_mostFrequent_17 : decode cX3_mostFrequent 17 = .ok (.iload 4, 2) := by decide +kernel
theorem dX3_mostFrequent_19 : decode cX3_mostFrequent 19 = .ok (.iload_n 1, 1) := by decide +kernel
theorem dX3_mostFrequent_20 : decode cX3_mostFrequent 20 = .ok (.invokevirtual 78, 3) := by decide +kernel
theorem dX3_mostFrequent_23 : decode cX3_mostFrequent 23 = .ok (.ifCond .eq 13, 3) := by decide +kernel
theorem dX3_mostFrequent_26 : decode cX3_mostFrequent 26 = .ok (.aload_n 0, 1) := by decide +kernel
theorem dX3_mostFrequent_27 : decode cX3_mostFrequent 27 = .ok (.iload 4, 2) := by decide +kernel
theorem dX3_mostFrequent_29 : decode cX3_mostFrequent 29 = .ok (.iload_n 1, 1) := by decide +kernel
theorem dX3_mostFrequent_30 : decode cX3_mostFrequent 30 = .ok (.invokevirtual 82, 3) := by decide +kernel
theorem dX3_mostFrequent_33 : decode cX3_mostFrequent 33 = .ok (.goto 4, 3) := by decide +kernel
theorem dX3_mostFrequent_36 : decode cX3_mostFrequent 36 = .ok (.iconst 0, 1) := by decide +kernel
theorem dX3_mostFrequent_37 : decode cX3_mostFrequent 37 = .ok (.istore 5, 2) := by decide +kernel
theorem dX3_mostFrequent_39 : decode cX3_mostFrequent 39 = .ok (.iload 5, 2) := by decide +kernel
theorem dX3_mostFrequent_41 : decode cX3_mostFrequent 41 = .ok (.iload_n 3, 1) := by decide +kernel
theorem dX3_mostFrequent_42 : decode cX3_mostFrequent 42 = .ok (.if_icmp .le 9, 3) := by decide +kernel
theorem dX3_mostFrequent_45 : decode cX3_mostFrequent 45 = .ok (.iload 5, 2) := by decide +kernel
theorem dX3_mostFrequent_47 : decode cX3_mostFrequent 47 = .ok (.istore_n 3, 1) := by decide +kernel
theorem dX3_mostFrequent_48 : decode cX3_mostFrequent 48 = .ok (.iload 4, 2) := by decide +kernel
theorem dX3_mostFrequent_50 : decode cX3_mostFrequent 50 = .ok (.istore_n 2, 1) := by decide +kernel
theorem dX3_mostFrequent_51 : decode cX3_mostFrequent 51 = .ok (.iinc 4 1, 3) := by decide +kernel
theorem dX3_mostFrequent_54 : decode cX3_mostFrequent 54 = .ok (.goto (-47), 3) := by decide +kernel
theorem dX3_mostFrequent_57 : decode cX3_mostFrequent 57 = .ok (.iload_n 2, 1) := by decide +kernel
theorem dX3_mostFrequent_58 : decode cX3_mostFrequent 58 = .ok (.ireturn, 1) := by decide +kernel
theorem dX4_init_0 : decode cX4_init 0 = .ok (.aload_n 0, 1) := by decide +kernel
theorem dX4_init_1 : decode cX4_init 1 = .ok (.invokespecial 3, 3) := by decide +kernel
theorem dX4_init_4 : decode cX4_init 4 = .ok (.aload_n 0, 1) := by decide +kernel
theorem dX4_init_5 : decode cX4_init 5 = .ok (.bipush 12, 2) := by decide +kernel
theorem dX4_init_7 : decode cX4_init 7 = .ok (.anewarray 9, 3) := by decide +kernel
theorem dX4_init_10 : decode cX4_init 10 = .ok (.putfield 11, 3) := by decide +kernel
theorem dX4_init_13 : decode cX4_init 13 = .ok (.iconst 0, 1) := by decide +kernel
theorem dX4_init_14 : decode cX4_init 14 = .ok (.istore_n 1, 1) := by decide +kernel
theorem dX4_init_15 : decode cX4_init 15 = .ok (.iload_n 1, 1) := by decide +kernel
theorem dX4_init_16 : decode cX4_init 16 = .ok (.aload_n 0, 1) := by decide +kernel
theorem dX4_init_17 : decode cX4_init 17 = .ok (.getfield 11, 3) := by decide +kernel
theorem dX4_init_20 : decode cX4_init 20 = .ok (.arraylength, 1) := by decide +kernel
theorem dX4_init_21 : decode cX4_init 21 = .ok (.if_icmp .ge 22, 3) := by decide +kernel
theorem dX4_init_24 : decode cX4_init 24 = .ok (.aload_n 0, 1) := by decide +kernel
theorem dX4_init_25 : decode cX4_init 25 = .ok (.getfield 11, 3) := by decide +kernel
theorem dX4_init_28 : decode cX4_init 28 = .ok (.iload_n 1, 1) := by decide +kernel
theorem dX4_init_29 : decode cX4_init 29 = .ok (.new 9, 3) := by decide +kernel
theorem dX4_init_32 : decode cX4_init 32 = .ok (.dup, 1) := by decide +kernel
theorem dX4_init_33 : decode cX4_init 33 = .ok (.invokespecial 17, 3) := by decide +kernel
theorem dX4_init_36 : decode cX4_init 36 = .ok (.aastore, 1) := by decide +kernel
theorem dX4_init_37 : decode cX4_init 37 = .ok (.iinc 1 1, 3) := by decide +kernel
theorem dX4_init_40 : decode cX4_init 40 = .ok (.goto (-25), 3) := by decide +kernel
theorem dX4_init_43 : decode cX4_init 43 = .ok (.return_, 1) := by decide +kernel
theorem dX5_init_0 : decode cX5_init 0 = .ok (.aload_n 0, 1) := by decide +kernel
theorem dX5_init_1 : decode cX5_init 1 = .ok (.invokespecial 3, 3) := by decide +kernel
theorem dX5_init_4 : decode cX5_init 4 = .ok (.aload_n 0, 1) := by decide +kernel
theorem dX5_init_5 : decode cX5_init 5 = .ok (.bipush 20, 2) := by decide +kernel
theorem dX5_init_7 : decode cX5_init 7 = .ok (.newarray .int, 2) := by decide +kernel
theorem dX5_init_9 : decode cX5_init 9 = .ok (.putfield 9, 3) := by decide +kernel
theorem dX5_init_12 : decode cX5_init 12 = .ok (.return_, 1) := by decide +kernel
theorem dX5_add_0 : decode cX5_add 0 = .ok (.aload_n 0, 1) := by decide +kernel
theorem dX5_add_1 : decode cX5_add 1 = .ok (.getfield 15, 3) := by decide +kernel
theorem dX5_add_4 : decode cX5_add 4 = .ok (.aload_n 0, 1) := by decide +kernel
theorem dX5_add_5 : decode cX5_add 5 = .ok (.getfield 9, 3) := by decide +kernel
theorem dX5_add_8 : decode cX5_add 8 = .ok (.arraylength, 1) := by decide +kernel
theorem dX5_add_9 : decode cX5_add 9 = .ok (.if_icmp .ge 23, 3) := by decide +kernel
theorem dX5_add_12 : decode cX5_add 12 = .ok (.aload_n 0, 1) := by decide +kernel
theorem dX5_add_13 : decode cX5_add 13 = .ok (.getfield 9, 3) := by decide +kernel
theorem dX5_add_16 : decode cX5_add 16 = .ok (.aload_n 0, 1) := by decide +kernel
theorem dX5_add_17 : decode cX5_add 17 = .ok (.getfield 15, 3) := by decide +kernel
theorem dX5_add_20 : decode cX5_add 20 = .ok (.iload_n 1, 1) := by decide +kernel
theorem dX5_add_21 : decode cX5_add 21 = .ok (.iastore, 1) := by decide +kernel
theorem dX5_add_22 : decode cX5_add 22 = .ok (.aload_n 0, 1) := by decide +kernel
theorem dX5_add_23 : decode cX5_add 23 = .ok (.dup, 1) := by decide +kernel
theorem dX5_add_24 : decode cX5_add 24 = .ok (.getfield 15, 3) := by decide +kernel
theorem dX5_add_27 : decode cX5_add 27 = .ok (.iconst 1, 1) := by decide +kernel
theorem dX5_add_28 : decode cX5_add 28 = .ok (.iadd, 1) := by decide +kernel
theorem dX5_add_29 : decode cX5_add 29 = .ok (.putfield 15, 3) := by decide +kernel
theorem dX5_add_32 : decode cX5_add 32 = .ok (.return_, 1) := by decide +kernel
theorem dX5_at_0 : decode cX5_at 0 = .ok (.iload_n 1, 1) := by decide +kernel
theorem dX5_at_1 : decode cX5_at 1 = .ok (.ifCond .lt 11, 3) := by decide +kernel
theorem dX5_at_4 : decode cX5_at 4 = .ok (.iload_n 1, 1) := by decide +kernel
theorem dX5_at_5 : decode cX5_at 5 = .ok (.aload_n 0, 1) := by decide +kernel
theorem dX5_at_6 : decode cX5_at 6 = .ok (.getfield 15, 3) := by decide +kernel
theorem dX5_at_9 : decode cX5_at 9 = .ok (.if_icmp .lt 7, 3) := by decide +kernel
theorem dX5_at_12 : decode cX5_at 12 = .ok (.iconst (-1), 1) := by decide +kernel
theorem dX5_at_13 : decode cX5_at 13 = .ok (.goto 9, 3) := by decide +kernel
theorem dX5_at_16 : decode cX5_at 16 = .ok (.aload_n 0, 1) := by decide +kernel
theorem dX5_at_17 : decode cX5_at 17 = .ok (.getfield 9, 3) := by decide +kernel
theorem dX5_at_20 : decode cX5_at 20 = .ok (.iload_n 1, 1) := by decide +kernel
theorem dX5_at_21 : decode cX5_at 21 = .ok (.iaload, 1) := by decide +kernel
theorem dX5_at_22 : decode cX5_at 22 = .ok (.ireturn, 1) := by decide +kernel
theorem dX5_copyFrom_0 : decode cX5_copyFrom 0 = .ok (.aload_n 1, 1) := by decide +kernel
theorem dX5_copyFrom_1 : decode cX5_copyFrom 1 = .ok (.getfield 9, 3) := by decide +kernel
theorem dX5_copyFrom_4 : decode cX5_copyFrom 4 = .ok (.iconst 0, 1) := by decide +kernel
theorem dX5_copyFrom_5 : decode cX5_copyFrom 5 = .ok (.aload_n 0, 1) := by decide +kernel
theorem dX5_copyFrom_6 : decode cX5_copyFrom 6 = .ok (.getfield 9, 3) := by decide +kernel
theorem dX5_copyFrom_9 : decode cX5_copyFrom 9 = .ok (.iconst 0, 1) := by decide +kernel
theorem dX5_copyFrom_10 : decode cX5_copyFrom 10 = .ok (.aload_n 1, 1) := by decide +kernel
theorem dX5_copyFrom_11 : decode cX5_copyFrom 11 = .ok (.getfield 15, 3) := by decide +kernel
theorem dX5_copyFrom_14 : decode cX5_copyFrom 14 = .ok (.invokestatic 19, 3) := by decide +kernel
theorem dX5_copyFrom_17 : decode cX5_copyFrom 17 = .ok (.aload_n 0, 1) := by decide +kernel
theorem dX5_copyFrom_18 : decode cX5_copyFrom 18 = .ok (.aload_n 1, 1) := by decide +kernel
theorem dX5_copyFrom_19 : decode cX5_copyFrom 19 = .ok (.getfield 15, 3) := by decide +kernel
theorem dX5_copyFrom_22 : decode cX5_copyFrom 22 = .ok (.putfield 15, 3) := by decide +kernel
theorem dX5_copyFrom_25 : decode cX5_copyFrom 25 = .ok (.return_, 1) := by decide +kernel
theorem dX5_has_0 : decode cX5_has 0 = .ok (.iload_n 2, 1) := by decide +kernel
theorem dX5_has_1 : decode cX5_has 1 = .ok (.ifCond .lt 16, 3) := by decide +kernel
theorem dX5_has_4 : decode cX5_has 4 = .ok (.iload_n 2, 1) := by decide +kernel
theorem dX5_has_5 : decode cX5_has 5 = .ok (.aload_n 1, 1) := by decide +kernel
theorem dX5_has_6 : decode cX5_has 6 = .ok (.getfield 15, 3) := by decide +kernel
theorem dX5_has_9 : decode cX5_has 9 = .ok (.iadd, 1) := by decide +kernel
theorem dX5_has_10 : decode cX5_has 10 = .ok (.aload_n 0, 1) := by decide +kernel
theorem dX5_has_11 : decode cX5_has 11 = .ok (.getfield 15, 3) := by decide +kernel
theorem dX5_has_14 : decode cX5_has 14 = .ok (.if_icmp .le 5, 3) := by decide +kernel
theorem dX5_has_17 : decode cX5_has 17 = .ok (.iconst 0, 1) := by decide +kernel
theorem dX5_has_18 : decode cX5_has 18 = .ok (.ireturn, 1) := by decide +kernel
theorem dX5_has_19 : decode cX5_has 19 = .ok (.iconst 0, 1) := by decide +kernel
theorem dX5_has_20 : decode cX5_has 20 = .ok (.istore_n 3, 1) := by decide +kernel
theorem dX5_has_21 : decode cX5_has 21 = .ok (.iload_n 3, 1) := by decide +kernel
theorem dX5_has_22 : decode cX5_has 22 = .ok (.aload_n 1, 1) := by decide +kernel
theorem dX5_has_23 : decode cX5_has 23 = .ok (.getfield 15, 3) := by decide +kernel
theorem dX5_has_26 : decode cX5_has 26 = .ok (.if_icmp .ge 28, 3) := by decide +kernel
theorem dX5_has_29 : decode cX5_has 29 = .ok (.aload_n 0, 1) := by decide +kernel
theorem dX5_has_30 : decode cX5_has 30 = .ok (.getfield 9, 3) := by decide +kernel
theorem dX5_has_33 : decode cX5_has 33 = .ok (.iload_n 2, 1) := by decide +kernel
theorem dX5_has_34 : decode cX5_has 34 = .ok (.iload_n 3, 1) := by decide +kernel
theorem dX5_has_35 : decode cX5_has 35 = .ok (.iadd, 1) := by decide +kernel
theorem dX5_has_36 : decode cX5_has 36 = .ok (.iaload, 1) := by decide +kernel
theorem dX5_has_37 : decode cX5_has 37 = .ok (.aload_n 1, 1) := by decide +kernel
theorem dX5_has_38 : decode cX5_has 38 = .ok (.getfield 9, 3) := by decide +kernel
theorem dX5_has_41 : decode cX5_has 41 = .ok (.iload_n 3, 1) := by decide +kernel
theorem dX5_has_42 : decode cX5_has 42 = .ok (.iaload, 1) := by decide +kernel
theorem dX5_has_43 : decode cX5_has 43 = .ok (.if_icmp .eq 5, 3) := by decide +kernel
theorem dX5_has_46 : decode cX5_has 46 = .ok (.iconst 0, 1) := by decide +kernel
theorem dX5_has_47 : decode cX5_has 47 = .ok (.ireturn, 1) := by decide +kernel
theorem dX5_has_48 : decode cX5_has 48 = .ok (.iinc 3 1, 3) := by decide +kernel
theorem dX5_has_51 : decode cX5_has 51 = .ok (.goto (-30), 3) := by decide +kernel
theorem dX5_has_54 : decode cX5_has 54 = .ok (.iconst 1, 1) := by decide +kernel
theorem dX5_has_55 : decode cX5_has 55 = .ok (.ireturn, 1) := by decide +kernel
theorem dX5_hits_0 : decode cX5_hits 0 = .ok (.iconst 0, 1) := by decide +kernel
theorem dX5_hits_1 : decode cX5_hits 1 = .ok (.istore_n 2, 1) := by decide +kernel
theorem dX5_hits_2 : decode cX5_hits 2 = .ok (.iconst 0, 1) := by decide +kernel
theorem dX5_hits_3 : decode cX5_hits 3 = .ok (.istore_n 3, 1) := by decide +kernel
theorem dX5_hits_4 : decode cX5_hits 4 = .ok (.iload_n 3, 1) := by decide +kernel
theorem dX5_hits_5 : decode cX5_hits 5 = .ok (.aload_n 0, 1) := by decide +kernel
theorem dX5_hits_6 : decode cX5_hits 6 = .ok (.getfield 15, 3) := by decide +kernel
theorem dX5_hits_9 : decode cX5_hits 9 = .ok (.if_icmp .ge 21, 3) := by decide +kernel
theorem dX5_hits_12 : decode cX5_hits 12 = .ok (.aload_n 0, 1) := by decide +kernel
theorem dX5_hits_13 : decode cX5_hits 13 = .ok (.aload_n 1, 1) := by decide +kernel
theorem dX5_hits_14 : decode cX5_hits 14 = .ok (.iload_n 3, 1) := by decide +kernel
theorem dX5_hits_15 : decode cX5_hits 15 = .ok (.invokevirtual 25, 3) := by decide +kernel
theorem dX5_hits_18 : decode cX5_hits 18 = .ok (.ifCond .eq 6, 3) := by decide +kernel
theorem dX5_hits_21 : decode cX5_hits 21 = .ok (.iinc 2 1, 3) := by decide +kernel
theorem dX5_hits_24 : decode cX5_hits 24 = .ok (.iinc 3 1, 3) := by decide +kernel
theorem dX5_hits_27 : decode cX5_hits 27 = .ok (.goto (-23), 3) := by decide +kernel
theorem dX5_hits_30 : decode cX5_hits 30 = .ok (.iload_n 2, 1) := by decide +kernel
theorem dX5_hits_31 : decode cX5_hits 31 = .ok (.ireturn, 1) := by decide +kernel
theorem dX5_isLike_0 : decode cX5_isLike 0 = .ok (.aload_n 0, 1) := by decide +kernel
theorem dX5_isLike_1 : decode cX5_isLike 1 = .ok (.getfield 15, 3) := by decide +kernel
theorem dX5_isLike_4 : decode cX5_isLike 4 = .ok (.aload_n 1, 1) := by decide +kernel
theorem dX5_isLike_5 : decode cX5_isLike 5 = .ok (.getfield 15, 3) := by decide +kernel
theorem dX5_isLike_8 : decode cX5_isLike 8 = .ok (.if_icmp .ne 16, 3) := by decide +kernel
theorem dX5_isLike_11 : decode cX5_isLike 11 = .ok (.aload_n 0, 1) := by decide +kernel
theorem dX5_isLike_12 : decode cX5_isLike 12 = .ok (.aload_n 1, 1) := by decide +kernel
theorem dX5_isLike_13 : decode cX5_isLike 13 = .ok (.iconst 0, 1) := by decide +kernel
theorem dX5_isLike_14 : decode cX5_isLike 14 = .ok (.invokevirtual 25, 3) := by decide +kernel
theorem dX5_isLike_17 : decode cX5_isLike 17 = .ok (.ifCond .eq 7, 3) := by decide +kernel
theorem dX5_isLike_20 : decode cX5_isLike 20 = .ok (.iconst 1, 1) := by decide +kernel
theorem dX5_isLike_21 : decode cX5_isLike 21 = .ok (.goto 4, 3) := by decide +kernel
theorem dX5_isLike_24 : decode cX5_isLike 24 = .ok (.iconst 0, 1) := by decide +kernel
theorem dX5_isLike_25 : decode cX5_isLike 25 = .ok (.ireturn, 1) := by decide +kernel
theorem dX5_compare_0 : decode cX5_compare 0 = .ok (.iconst 0, 1) := by decide +kernel
theorem dX5_compare_1 : decode cX5_compare 1 = .ok (.istore 5, 2) := by decide +kernel
theorem dX5_compare_3 : decode cX5_compare 3 = .ok (.iload 5, 2) := by decide +kernel
theorem dX5_compare_5 : decode cX5_compare 5 = .ok (.bipush 20, 2) := by decide +kernel
theorem dX5_compare_7 : decode cX5_compare 7 = .ok (.if_icmp .gt 141, 3) := by decide +kernel
theorem dX5_compare_10 : decode cX5_compare 10 = .ok (.iload_n 1, 1) := by decide +kernel
theorem dX5_compare_11 : decode cX5_compare 11 = .ok (.iload 5, 2) := by decide +kernel
theorem dX5_compare_13 : decode cX5_compare 13 = .ok (.iload 4, 2) := by decide +kernel
theorem dX5_compare_15 : decode cX5_compare 15 = .ok (.imul, 1) := by decide +kernel
theorem dX5_compare_16 : decode cX5_compare 16 = .ok (.iadd, 1) := by decide +kernel
theorem dX5_compare_17 : decode cX5_compare 17 = .ok (.istore 6, 2) := by decide +kernel
theorem dX5_compare_19 : decode cX5_compare 19 = .ok (.iload_n 3, 1) := by decide +kernel
theorem dX5_compare_20 : decode cX5_compare 20 = .ok (.iload 5, 2) := by decide +kernel
theorem dX5_compare_22 : decode cX5_compare 22 = .ok (.iload 4, 2) := by decide +kernel
theorem dX5_compare_24 : decode cX5_compare 24 = .ok (.imul, 1) := by decide +kernel
theorem dX5_compare_25 : decode cX5_compare 25 = .ok (.iadd, 1) := by decide +kernel
theorem dX5_compare_26 : decode cX5_compare 26 = .ok (.istore 7, 2) := by decide +kernel
theorem dX5_compare_28 : decode cX5_compare 28 = .ok (.iload 6, 2) := by decide +kernel
theorem dX5_compare_30 : decode cX5_compare 30 = .ok (.ifCond .lt 12, 3) := by decide +kernel
theorem dX5_compare_33 : decode cX5_compare 33 = .ok (.iload 6, 2) := by decide +kernel
theorem dX5_compare_35 : decode cX5_compare 35 = .ok (.aload_n 0, 1) := by decide +kernel
theorem dX5_compare_36 : decode cX5_compare 36 = .ok (.getfield 15, 3) := by decide +kernel
theorem dX5_compare_39 : decode cX5_compare 39 = .ok (.if_icmp .lt 7, 3) := by decide +kernel
theorem dX5_compare_42 : decode cX5_compare 42 = .ok (.iconst 1, 1) := by decide +kernel
theorem dX5_compare_43 : decode cX5_compare 43 = .ok (.goto 4, 3) := by decide +kernel
theorem dX5_compare_46 : decode cX5_compare 46 = .ok (.iconst 0, 1) := by decide +kernel
theorem dX5_compare_47 : decode cX5_compare 47 = .ok (.istore 8, 2) := by decide +kernel
theorem dX5_compare_49 : decode cX5_compare 49 = .ok (.iload 7, 2) := by decide +kernel
theorem dX5_compare_51 : decode cX5_compare 51 = .ok (.ifCond .lt 12, 3) := by decide +kernel
theorem dX5_compare_54 : decode cX5_compare 54 = .ok (.iload 7, 2) := by decide +kernel
theorem dX5_compare_56 : decode cX5_compare 56 = .ok (.aload_n 2, 1) := by decide +kernel
theorem dX5_compare_57 : decode cX5_compare 57 = .ok (.getfield 15, 3) := by decide +kernel
theorem dX5_compare_60 : decode cX5_compare 60 = .ok (.if_icmp .lt 7, 3) := by decide +kernel
theorem dX5_compare_63 : decode cX5_compare 63 = .ok (.iconst 1, 1) := by decide +kernel
theorem dX5_compare_64 : decode cX5_compare 64 = .ok (.goto 4, 3) := by decide +kernel
theorem dX5_compare_67 : decode cX5_compare 67 = .ok (.iconst 0, 1) := by decide +kernel
theorem dX5_compare_68 : decode cX5_compare 68 = .ok (.istore 9, 2) := by decide +kernel
theorem dX5_compare_70 : decode cX5_compare 70 = .ok (.iload 8, 2) := by decide +kernel
theorem dX5_compare_72 : decode cX5_compare 72 = .ok (.ifCond .ne 8, 3) := by decide +kernel
theorem dX5_compare_75 : decode cX5_compare 75 = .ok (.iload 9, 2) := by decide +kernel
theorem dX5_compare_77 : decode cX5_compare 77 = .ok (.ifCond .eq 25, 3) := by decide +kernel
theorem dX5_compare_80 : decode cX5_compare 80 = .ok (.iload 8, 2) := by decide +kernel
theorem dX5_compare_82 : decode cX5_compare 82 = .ok (.iload 9, 2) := by decide +kernel
theorem dX5_compare_84 : decode cX5_compare 84 = .ok (.if_icmp .ne 7, 3) := by decide +kernel
theorem dX5_compare_87 : decode cX5_compare 87 = .ok (.iconst 0, 1) := by decide +kernel
theorem dX5_compare_88 : decode cX5_compare 88 = .ok (.goto 13, 3) := by decide +kernel
theorem dX5_compare_91 : decode cX5_compare 91 = .ok (.iload 8, 2) := by decide +kernel
theorem dX5_compare_93 : decode cX5_compare 93 = .ok (.ifCond .eq 7, 3) := by decide +kernel
theorem dX5_compare_96 : decode cX5_compare 96 = .ok (.iconst (-1), 1) := by decide +kernel
theorem dX5_compare_97 : decode cX5_compare 97 = .ok (.goto 4, 3) := by decide +kernel
theorem dX5_compare_100 : decode cX5_compare 100 = .ok (.iconst 1, 1) := by decide +kernel
theorem dX5_compare_101 : decode cX5_compare 101 = .ok (.ireturn, 1) := by decide +kernel
theorem dX5_compare_102 : decode cX5_compare 102 = .ok (.aload_n 0, 1) := by decide +kernel
theorem dX5_compare_103 : decode cX5_compare 103 = .ok (.getfield 9, 3) := by decide +kernel
theorem dX5_compare_106 : decode cX5_compare 106 = .ok (.iload 6, 2) := by decide +kernel
theorem dX5_compare_108 : decode cX5_compare 108 = .ok (.iaload, 1) := by decide +kernel
theorem dX5_compare_109 : decode cX5_compare 109 = .ok (.aload_n 2, 1) := by decide +kernel
theorem dX5_compare_110 : decode cX5_compare 110 = .ok (.getfield 9, 3) := by decide +kernel
theorem dX5_compare_113 : decode cX5_compare 113 = .ok (.iload 7, 2) := by decide +kernel
theorem dX5_compare_115 : decode cX5_compare 115 = .ok (.iaload, 1) := by decide +kernel
theorem dX5_compare_116 : decode cX5_compare 116 = .ok (.if_icmp .eq 26, 3) := by decide +kernel
theorem dX5_compare_119 : decode cX5_compare 119 = .ok (.aload_n 0, 1) := by decide +kernel
theorem dX5_compare_120 : decode cX5_compare 120 = .ok (.getfield 9, 3) := by decide +kernel
theorem dX5_compare_123 : decode cX5_compare 123 = .ok (.iload 6, 2) := by decide +kernel
theorem dX5_compare_125 : decode cX5_compare 125 = .ok (.iaload, 1) := by decide +kernel
theorem dX5_compare_126 : decode cX5_compare 126 = .ok (.aload_n 2, 1) := by decide +kernel
theorem dX5_compare_127 : decode cX5_compare 127 = .ok (.getfield 9, 3) := by decide +kernel
theorem dX5_compare_130 : decode cX5_compare 130 = .ok (.iload 7, 2) := by decide +kernel
theorem dX5_compare_132 : decode cX5_compare 132 = .ok (.iaload, 1) := by decide +kernel
theorem dX5_compare_133 : decode cX5_compare 133 = .ok (.if_icmp .ge 7, 3) := by decide +kernel
theorem dX5_compare_136 : decode cX5_compare 136 = .ok (.iconst (-1), 1) := by decide +kernel
theorem dX5_compare_137 : decode cX5_compare 137 = .ok (.goto 4, 3) := by decide +kernel
theorem dX5_compare_140 : decode cX5_compare 140 = .ok (.iconst 1, 1) := by decide +kernel
theorem dX5_compare_141 : decode cX5_compare 141 = .ok (.ireturn, 1) := by decide +kernel
theorem dX5_compare_142 : decode cX5_compare 142 = .ok (.iinc 5 1, 3) := by decide +kernel
theorem dX5_compare_145 : decode cX5_compare 145 = .ok (.goto (-142), 3) := by decide +kernel
theorem dX5_compare_148 : decode cX5_compare 148 = .ok (.iconst 0, 1) := by decide +kernel
theorem dX5_compare_149 : decode cX5_compare 149 = .ok (.ireturn, 1) := by decide +kernel
theorem dX5_shared_0 : decode cX5_shared 0 = .ok (.iconst 0, 1) := by decide +kernel
theorem dX5_shared_1 : decode cX5_shared 1 = .ok (.istore 4, 2) := by decide +kernel
theorem dX5_shared_3 : decode cX5_shared 3 = .ok (.iload 4, 2) := by decide +kernel
theorem dX5_shared_5 : decode cX5_shared 5 = .ok (.bipush 20, 2) := by decide +kernel
theorem dX5_shared_7 : decode cX5_shared 7 = .ok (.if_icmp .ge 40, 3) := by decide +kernel
theorem dX5_shared_10 : decode cX5_shared 10 = .ok (.aload_n 0, 1) := by decide +kernel
theorem dX5_shared_11 : decode cX5_shared 11 = .ok (.iload_n 1, 1) := by decide +kernel
theorem dX5_shared_12 : decode cX5_shared 12 = .ok (.iload 4, 2) := by decide +kernel
theorem dX5_shared_14 : decode cX5_shared 14 = .ok (.iadd, 1) := by decide +kernel
theorem dX5_shared_15 : decode cX5_shared 15 = .ok (.invokevirtual 29, 3) := by decide +kernel
theorem dX5_shared_18 : decode cX5_shared 18 = .ok (.iconst (-1), 1) := by decide +kernel
theorem dX5_shared_19 : decode cX5_shared 19 = .ok (.if_icmp .eq 28, 3) := by decide +kernel
theorem dX5_shared_22 : decode cX5_shared 22 = .ok (.aload_n 0, 1) := by decide +kernel
theorem dX5_shared_23 : decode cX5_shared 23 = .ok (.iload_n 1, 1) := by decide +kernel
theorem dX5_shared_24 : decode cX5_shared 24 = .ok (.iload 4, 2) := by decide +kernel
theorem dX5_shared_26 : decode cX5_shared 26 = .ok (.iadd, 1) := by decide +kernel
theorem dX5_shared_27 : decode cX5_shared 27 = .ok (.invokevirtual 29, 3) := by decide +kernel
theorem dX5_shared_30 : decode cX5_shared 30 = .ok (.aload_n 2, 1) := by decide +kernel
theorem dX5_shared_31 : decode cX5_shared 31 = .ok (.iload_n 3, 1) := by decide +kernel
theorem dX5_shared_32 : decode cX5_shared 32 = .ok (.iload 4, 2) := by decide +kernel
theorem dX5_shared_34 : decode cX5_shared 34 = .ok (.iadd, 1) := by decide +kernel
theorem dX5_shared_35 : decode cX5_shared 35 = .ok (.invokevirtual 29, 3) := by decide +kernel
theorem dX5_shared_38 : decode cX5_shared 38 = .ok (.if_icmp .ne 9, 3) := by decide +kernel
theorem dX5_shared_41 : decode cX5_shared 41 = .ok (.iinc 4 1, 3) := by decide +kernel
theorem dX5_shared_44 : decode cX5_shared 44 = .ok (.goto (-41), 3) := by decide +kernel
theorem dX5_shared_47 : decode cX5_shared 47 = .ok (.iload 4, 2) := by decide +kernel
theorem dX5_shared_49 : decode cX5_shared 49 = .ok (.ireturn, 1) := by decide +kernel
theorem dX6_init_0 : decode cX6_init 0 = .ok (.aload_n 0, 1) := by decide +kernel
theorem dX6_init_1 : decode cX6_init 1 = .ok (.invokespecial 3, 3) := by decide +kernel
theorem dX6_init_4 : decode cX6_init 4 = .ok (.aload_n 0, 1) := by decide +kernel
theorem dX6_init_5 : decode cX6_init 5 = .ok (.bipush 10, 2) := by decide +kernel
theorem dX6_init_7 : decode cX6_init 7 = .ok (.anewarray 9, 3) := by decide +kernel
theorem dX6_init_10 : decode cX6_init 10 = .ok (.putfield 11, 3) := by decide +kernel
theorem dX6_init_13 : decode cX6_init 13 = .ok (.aload_n 0, 1) := by decide +kernel
theorem dX6_init_14 : decode cX6_init 14 = .ok (.iconst 3, 1) := by decide +kernel
theorem dX6_init_15 : decode cX6_init 15 = .ok (.anewarray 17, 3) := by decide +kernel
theorem dX6_init_18 : decode cX6_init 18 = .ok (.putfield 19, 3) := by decide +kernel
theorem dX6_init_21 : decode cX6_init 21 = .ok (.aload_n 0, 1) := by decide +kernel
theorem dX6_init_22 : decode cX6_init 22 = .ok (.new 23, 3) := by decide +kernel
theorem dX6_init_25 : decode cX6_init 25 = .ok (.dup, 1) := by decide +kernel
theorem dX6_init_26 : decode cX6_init 26 = .ok (.invokespecial 25, 3) := by decide +kernel
theorem dX6_init_29 : decode cX6_init 29 = .ok (.putfield 26, 3) := by decide +kernel
theorem dX6_init_32 : decode cX6_init 32 = .ok (.aload_n 0, 1) := by decide +kernel
theorem dX6_init_33 : decode cX6_init 33 = .ok (.bipush 9, 2) := by decide +kernel
theorem dX6_init_35 : decode cX6_init 35 = .ok (.newarray .int, 2) := by decide +kernel
theorem dX6_init_37 : decode cX6_init 37 = .ok (.putfield 30, 3) := by decide +kernel
theorem dX6_init_40 : decode cX6_init 40 = .ok (.iconst 0, 1) := by decide +kernel
theorem dX6_init_41 : decode cX6_init 41 = .ok (.istore_n 1, 1) := by decide +kernel
theorem dX6_init_42 : decode cX6_init 42 = .ok (.iload_n 1, 1) := by decide +kernel
theorem dX6_init_43 : decode cX6_init 43 = .ok (.aload_n 0, 1) := by decide +kernel
theorem dX6_init_44 : decode cX6_init 44 = .ok (.getfield 11, 3) := by decide +kernel
theorem dX6_init_47 : decode cX6_init 47 = .ok (.arraylength, 1) := by decide +kernel
theorem dX6_init_48 : decode cX6_init 48 = .ok (.if_icmp .ge 22, 3) := by decide +kernel
theorem dX6_init_51 : decode cX6_init 51 = .ok (.aload_n 0, 1) := by decide +kernel
theorem dX6_init_52 : decode cX6_init 52 = .ok (.getfield 11, 3) := by decide +kernel
theorem dX6_init_55 : decode cX6_init 55 = .ok (.iload_n 1, 1) := by decide +kernel
theorem dX6_init_56 : decode cX6_init 56 = .ok (.new 9, 3) := by decide +kernel
theorem dX6_init_59 : decode cX6_init 59 = .ok (.dup, 1) := by decide +kernel
theorem dX6_init_60 : decode cX6_init 60 = .ok (.invokespecial 34, 3) := by decide +kernel
theorem dX6_init_63 : decode cX6_init 63 = .ok (.aastore, 1) := by decide +kernel
theorem dX6_init_64 : decode cX6_init 64 = .ok (.iinc 1 1, 3) := by decide +kernel
theorem dX6_init_67 : decode cX6_init 67 = .ok (.goto (-25), 3) := by decide +kernel
theorem dX6_init_70 : decode cX6_init 70 = .ok (.iconst 0, 1) := by decide +kernel
theorem dX6_init_71 : decode cX6_init 71 = .ok (.istore_n 1, 1) := by decide +kernel
theorem dX6_init_72 : decode cX6_init 72 = .ok (.iload_n 1, 1) := by decide +kernel
theorem dX6_init_73 : decode cX6_init 73 = .ok (.aload_n 0, 1) := by decide +kernel
theorem dX6_init_74 : decode cX6_init 74 = .ok (.getfield 19, 3) := by decide +kernel
theorem dX6_init_77 : decode cX6_init 77 = .ok (.arraylength, 1) := by decide +kernel
theorem dX6_init_78 : decode cX6_init 78 = .ok (.if_icmp .ge 22, 3) := by decide +kernel
theorem dX6_init_81 : decode cX6_init 81 = .ok (.aload_n 0, 1) := by decide +kernel
theorem dX6_init_82 : decode cX6_init 82 = .ok (.getfield 19, 3) := by decide +kernel
theorem dX6_init_85 : decode cX6_init 85 = .ok (.iload_n 1, 1) := by decide +kernel
theorem dX6_init_86 : decode cX6_init 86 = .ok (.new 17, 3) := by decide +kernel
theorem dX6_init_89 : decode cX6_init 89 = .ok (.dup, 1) := by decide +kernel
theorem dX6_init_90 : decode cX6_init 90 = .ok (.invokespecial 35, 3) := by decide +kernel
theorem dX6_init_93 : decode cX6_init 93 = .ok (.aastore, 1) := by decide +kernel
theorem dX6_init_94 : decode cX6_init 94 = .ok (.iinc 1 1, 3) := by decide +kernel
theorem dX6_init_97 : decode cX6_init 97 = .ok (.goto (-25), 3) := by decide +kernel
theorem dX6_init_100 : decode cX6_init 100 = .ok (.return_, 1) := by decide +kernel
theorem dX6_copyFrom_0 : decode cX6_copyFrom 0 = .ok (.iconst 0, 1) := by decide +kernel
theorem dX6_copyFrom_1 : decode cX6_copyFrom 1 = .ok (.istore_n 2, 1) := by decide +kernel
theorem dX6_copyFrom_2 : decode cX6_copyFrom 2 = .ok (.iload_n 2, 1) := by decide +kernel
theorem dX6_copyFrom_3 : decode cX6_copyFrom 3 = .ok (.aload_n 1, 1) := by decide +kernel
theorem dX6_copyFrom_4 : decode cX6_copyFrom 4 = .ok (.getfield 36, 3) := by decide +kernel
theorem dX6_copyFrom_7 : decode cX6_copyFrom 7 = .ok (.if_icmp .ge 24, 3) := by decide +kernel
theorem dX6_copyFrom_10 : decode cX6_copyFrom 10 = .ok (.aload_n 0, 1) := by decide +kernel
theorem dX6_copyFrom_11 : decode cX6_copyFrom 11 = .ok (.getfield 11, 3) := by decide +kernel
theorem dX6_copyFrom_14 : decode cX6_copyFrom 14 = .ok (.iload_n 2, 1) := by decide +kernel
theorem dX6_copyFrom_15 : decode cX6_copyFrom 15 = .ok (.aaload, 1) := by decide +kernel
theorem dX6_copyFrom_16 : decode cX6_copyFrom 16 = .ok (.aload_n 1, 1) := by decide +kernel
theorem dX6_copyFrom_17 : decode cX6_copyFrom 17 = .ok (.getfield 11, 3) := by decide +kernel
theorem dX6_copyFrom_20 : decode cX6_copyFrom 20 = .ok (.iload_n 2, 1) := by decide +kernel
theorem dX6_copyFrom_21 : decode cX6_copyFrom 21 = .ok (.aaload, 1) := by decide +kernel
theorem dX6_copyFrom_22 : decode cX6_copyFrom 22 = .ok (.invokevirtual 40, 3) := by decide +kernel
theorem dX6_copyFrom_25 : decode cX6_copyFrom 25 = .ok (.iinc 2 1, 3) := by decide +kernel
theorem dX6_copyFrom_28 : decode cX6_copyFrom 28 = .ok (.goto (-26), 3) := by decide +kernel
theorem dX6_copyFrom_31 : decode cX6_copyFrom 31 = .ok (.aload_n 0, 1) := by decide +kernel
theorem dX6_copyFrom_32 : decode cX6_copyFrom 32 = .ok (.aload_n 1, 1) := by decide +kernel
theorem dX6_copyFrom_33 : decode cX6_copyFrom 33 = .ok (.getfield 36, 3) := by decide +kernel
theorem dX6_copyFrom_36 : decode cX6_copyFrom 36 = .ok (.putfield 36, 3) := by decide +kernel
theorem dX6_copyFrom_39 : decode cX6_copyFrom 39 = .ok (.aload_n 0, 1) := by decide +kernel
theorem dX6_copyFrom_40 : decode cX6_copyFrom 40 = .ok (.aload_n 1, 1) := by decide +kernel
theorem dX6_copyFrom_41 : decode cX6_copyFrom 41 = .ok (.getfield 44, 3) := by decide +kernel
theorem dX6_copyFrom_44 : decode cX6_copyFrom 44 = .ok (.putfield 44, 3) := by decide +kernel
theorem dX6_copyFrom_47 : decode cX6_copyFrom 47 = .ok (.iconst 0, 1) := by decide +kernel
theorem dX6_copyFrom_48 : decode cX6_copyFrom 48 = .ok (.istore_n 2, 1) := by decide +kernel
theorem dX6_copyFrom_49 : decode cX6_copyFrom 49 = .ok (.iload_n 2, 1) := by decide +kernel
theorem dX6_copyFrom_50 : decode cX6_copyFrom 50 = .ok (.aload_n 0, 1) := by decide +kernel
theorem dX6_copyFrom_51 : decode cX6_copyFrom 51 = .ok (.getfield 19, 3) := by decide +kernel
theorem dX6_copyFrom_54 : decode cX6_copyFrom 54 = .ok (.arraylength, 1) := by decide +kernel
theorem dX6_copyFrom_55 : decode cX6_copyFrom 55 = .ok (.if_icmp .ge 24, 3) := by decide +kernel
theorem dX6_copyFrom_58 : decode cX6_copyFrom 58 = .ok (.aload_n 0, 1) := by decide +kernel
theorem dX6_copyFrom_59 : decode cX6_copyFrom 59 = .ok (.getfield 19, 3) := by decide +kernel
theorem dX6_copyFrom_62 : decode cX6_copyFrom 62 = .ok (.iload_n 2, 1) := by decide +kernel
theorem dX6_copyFrom_63 : decode cX6_copyFrom 63 = .ok (.aaload, 1) := by decide +kernel
theorem dX6_copyFrom_64 : decode cX6_copyFrom 64 = .ok (.aload_n 1, 1) := by decide +kernel
theorem dX6_copyFrom_65 : decode cX6_copyFrom 65 = .ok (.getfield 19, 3) := by decide +kernel
theorem dX6_copyFrom_68 : decode cX6_copyFrom 68 = .ok (.iload_n 2, 1) := by decide +kernel
theorem dX6_copyFrom_69 : decode cX6_copyFrom 69 = .ok (.aaload, 1) := by decide +kernel
theorem dX6_copyFrom_70 : decode cX6_copyFrom 70 = .ok (.invokevirtual 47, 3) := by decide +kernel
theorem dX6_copyFrom_73 : decode cX6_copyFrom 73 = .ok (.iinc 2 1, 3) := by decide +kernel
theorem dX6_copyFrom_76 : decode cX6_copyFrom 76 = .ok (.goto (-27), 3) := by decide +kernel
theorem dX6_copyFrom_79 : decode cX6_copyFrom 79 = .ok (.aload_n 0, 1) := by decide +kernel
theorem dX6_copyFrom_80 : decode cX6_copyFrom 80 = .ok (.getfield 26, 3) := by decide +kernel
theorem dX6_copyFrom_83 : decode cX6_copyFrom 83 = .ok (.aload_n 1, 1) := by decide +kernel
theorem dX6_copyFrom_84 : decode cX6_copyFrom 84 = .ok (.getfield 26, 3) := by decide +kernel
theorem dX6_copyFrom_87 : decode cX6_copyFrom 87 = .ok (.invokevirtual 50, 3) := by decide +kernel
theorem dX6_copyFrom_90 : decode cX6_copyFrom 90 = .ok (.return_, 1) := by decide +kernel
theorem dX6_empty_0 : decode cX6_empty 0 = .ok (.aload_n 0, 1) := by decide +kernel
theorem dX6_empty_1 : decode cX6_empty 1 = .ok (.iconst 0, 1) := by decide +kernel
theorem dX6_empty_2 : decode cX6_empty 2 = .ok (.putfield 36, 3) := by decide +kernel
theorem dX6_empty_5 : decode cX6_empty 5 = .ok (.aload_n 0, 1) := by decide +kernel
theorem dX6_empty_6 : decode cX6_empty 6 = .ok (.iconst 0, 1) := by decide +kernel
theorem dX6_empty_7 : decode cX6_empty 7 = .ok (.putfield 44, 3) := by decide +kernel
theorem dX6_empty_10 : decode cX6_empty 10 = .ok (.iconst 0, 1) := by decide +kernel
theorem dX6_empty_11 : decode cX6_empty 11 = .ok (.istore_n 1, 1) := by decide +kernel
theorem dX6_empty_12 : decode cX6_empty 12 = .ok (.iload_n 1, 1) := by decide +kernel
theorem dX6_empty_13 : decode cX6_empty 13 = .ok (.aload_n 0, 1) := by decide +kernel
theorem dX6_empty_14 : decode cX6_empty 14 = .ok (.getfield 19, 3) := by decide +kernel
theorem dX6_empty_17 : decode cX6_empty 17 = .ok (.arraylength, 1) := by decide +kernel
theorem dX6_empty_18 : decode cX6_empty 18 = .ok (.if_icmp .ge 28, 3) := by decide +kernel
theorem dX6_empty_21 : decode cX6_empty 21 = .ok (.aload_n 0, 1) := by decide +kernel
theorem dX6_empty_22 : decode cX6_empty 22 = .ok (.getfield 19, 3) := by decide +kernel
theorem dX6_empty_25 : decode cX6_empty 25 = .ok (.iload_n 1, 1) := by decide +kernel
theorem dX6_empty_26 : decode cX6_empty 26 = .ok (.aaload, 1) := by decide +kernel
theorem dX6_empty_27 : decode cX6_empty 27 = .ok (.iconst 0, 1) := by decide +kernel
theorem dX6_empty_28 : decode cX6_empty 28 = .ok (.putfield 53, 3) := by decide +kernel
theorem dX6_empty_31 : decode cX6_empty 31 = .ok (.aload_n 0, 1) := by decide +kernel
theorem dX6_empty_32 : decode cX6_empty 32 = .ok (.getfield 19, 3) := by decide +kernel
theorem dX6_empty_35 : decode cX6_empty 35 = .ok (.iload_n 1, 1) := by decide +kernel
theorem dX6_empty_36 : decode cX6_empty 36 = .ok (.aaload, 1) := by decide +kernel
theorem dX6_empty_37 : decode cX6_empty 37 = .ok (.invokevirtual 56, 3) := by decide +kernel
theorem dX6_empty_40 : decode cX6_empty 40 = .ok (.iinc 1 1, 3) := by decide +kernel
theorem dX6_empty_43 : decode cX6_empty 43 = .ok (.goto (-31), 3) := by decide +kernel
theorem dX6_empty_46 : decode cX6_empty 46 = .ok (.aload_n 0, 1) := by decide +kernel
theorem dX6_empty_47 : decode cX6_empty 47 = .ok (.getfield 26, 3) := by decide +kernel
theorem dX6_empty_50 : decode cX6_empty 50 = .ok (.iconst 0, 1) := by decide +kernel
theorem dX6_empty_51 : decode cX6_empty 51 = .ok (.putfield 59, 3) := by decide +kernel
theorem dX6_empty_54 : decode cX6_empty 54 = .ok (.return_, 1) := by decide +kernel
theorem dX6_hasLine_0 : decode cX6_hasLine 0 = .ok (.iload_n 1, 1) := by decide +kernel
theorem dX6_hasLine_1 : decode cX6_hasLine 1 = .ok (.ifCond .lt 15, 3) := by decide +kernel
theorem dX6_hasLine_4 : decode cX6_hasLine 4 = .ok (.iload_n 1, 1) := by decide +kernel
theorem dX6_hasLine_5 : decode cX6_hasLine 5 = .ok (.aload_n 0, 1) := by decide +kernel
theorem dX6_hasLine_6 : decode cX6_hasLine 6 = .ok (.getfield 36, 3) := by decide +kernel
theorem dX6_hasLine_9 : decode cX6_hasLine 9 = .ok (.if_icmp .ge 7, 3) := by decide +kernel
theorem dX6_hasLine_12 : decode cX6_hasLine 12 = .ok (.iconst 1, 1) := by decide +kernel
theorem dX6_hasLine_13 : decode cX6_hasLine 13 = .ok (.goto 4, 3) := by decide +kernel
theorem dX6_hasLine_16 : decode cX6_hasLine 16 = .ok (.iconst 0, 1) := by decide +kernel
theorem dX6_hasLine_17 : decode cX6_hasLine 17 = .ok (.ireturn, 1) := by decide +kernel
theorem dX6_hasCursor_0 : decode cX6_hasCursor 0 = .ok (.iload_n 1, 1) := by decide +kernel
theorem dX6_hasCursor_1 : decode cX6_hasCursor 1 = .ok (.ifCond .lt 28, 3) := by decide +kernel
theorem dX6_hasCursor_4 : decode cX6_hasCursor 4 = .ok (.iload_n 1, 1) := by decide +kernel
theorem dX6_hasCursor_5 : decode cX6_hasCursor 5 = .ok (.aload_n 0, 1) := by decide +kernel
theorem dX6_hasCursor_6 : decode cX6_hasCursor 6 = .ok (.getfield 19, 3) := by decide +kernel
theorem dX6_hasCursor_9 : decode cX6_hasCursor 9 = .ok (.arraylength, 1) := by decide +kernel
theorem dX6_hasCursor_10 : decode cX6_hasCursor 10 = .ok (.if_icmp .ge 19, 3) := by decide +kernel
theorem dX6_hasCursor_13 : decode cX6_hasCursor 13 = .ok (.aload_n 0, 1) := by decide +kernel
theorem dX6_hasCursor_14 : decode cX6_hasCursor 14 = .ok (.getfield 19, 3) := by decide +kernel
theorem dX6_hasCursor_17 : decode cX6_hasCursor 17 = .ok (.iload_n 1, 1) := by decide +kernel
theorem dX6_hasCursor_18 : decode cX6_hasCursor 18 = .ok (.aaload, 1) := by decide +kernel
theorem dX6_hasCursor_19 : decode cX6_hasCursor 19 = .ok (.getfield 53, 3) := by decide +kernel
theorem dX6_hasCursor_22 : decode cX6_hasCursor 22 = .ok (.ifCond .le 7, 3) := by decide +kernel
theorem dX6_hasCursor_25 : decode cX6_hasCursor 25 = .ok (.iconst 1, 1) := by decide +kernel
theorem dX6_hasCursor_26 : decode cX6_hasCursor 26 = .ok (.goto 4, 3) := by decide +kernel
theorem dX6_hasCursor_29 : decode cX6_hasCursor 29 = .ok (.iconst 0, 1) := by decide +kernel
theorem dX6_hasCursor_30 : decode cX6_hasCursor 30 = .ok (.ireturn, 1) := by decide +kernel
theorem dX6_allSigns_0 : decode cX6_allSigns 0 = .ok (.iconst 0, 1) := by decide +kernel
theorem dX6_allSigns_1 : decode cX6_allSigns 1 = .ok (.istore_n 1, 1) := by decide +kernel
theorem dX6_allSigns_2 : decode cX6_allSigns 2 = .ok (.iconst 0, 1) := by decide +kernel
theorem dX6_allSigns_3 : decode cX6_allSigns 3 = .ok (.istore_n 2, 1) := by decide +kernel
theorem dX6_allSigns_4 : decode cX6_allSigns 4 = .ok (.iload_n 2, 1) := by decide +kernel
theorem dX6_allSigns_5 : decode cX6_allSigns 5 = .ok (.aload_n 0, 1) := by decide +kernel
theorem dX6_allSigns_6 : decode cX6_allSigns 6 = .ok (.getfield 36, 3) := by decide +kernel
theorem dX6_allSigns_9 : decode cX6_allSigns 9 = .ok (.if_icmp .ge 24, 3) := by decide +kernel
theorem dX6_allSigns_12 : decode cX6_allSigns 12 = .ok (.iload_n 1, 1) := by decide +kernel
theorem dX6_allSigns_13 : decode cX6_allSigns 13 = .ok (.aload_n 0, 1) := by decide +kernel
theorem dX6_allSigns_14 : decode cX6_allSigns 14 = .ok (.getfield 11, 3) := by decide +kernel
theorem dX6_allSigns_17 : decode cX6_allSigns 17 = .ok (.iload_n 2, 1) := by decide +kernel
theorem dX6_allSigns_18 : decode cX6_allSigns 18 = .ok (.aaload, 1) := by decide +kernel
theorem dX6_allSigns_19 : decode cX6_allSigns 19 = .ok (.getfield 62, 3) := by decide +kernel
theorem dX6_allSigns_22 : decode cX6_allSigns 22 = .ok (.getfield 66, 3) := by decide +kernel
theorem dX6_allSigns_25 : decode cX6_allSigns 25 = .ok (.iadd, 1) := by decide +kernel
theorem dX6_allSigns_26 : decode cX6_allSigns 26 = .ok (.istore_n 1, 1) := by decide +kernel
theorem dX6_allSigns_27 : decode cX6_allSigns 27 = .ok (.iinc 2 1, 3) := by decide +kernel
theorem dX6_allSigns_30 : decode cX6_allSigns 30 = .ok (.goto (-26), 3) := by decide +kernel
theorem dX6_allSigns_33 : decode cX6_allSigns 33 = .ok (.iload_n 1, 1) := by decide +kernel
theorem dX6_allSigns_34 : decode cX6_allSigns 34 = .ok (.ireturn, 1) := by decide +kernel
theorem dX6_hits_0 : decode cX6_hits 0 = .ok (.iconst 0, 1) := by decide +kernel
theorem dX6_hits_1 : decode cX6_hits 1 = .ok (.istore_n 2, 1) := by decide +kernel
theorem dX6_hits_2 : decode cX6_hits 2 = .ok (.iconst 0, 1) := by decide +kernel
theorem dX6_hits_3 : decode cX6_hits 3 = .ok (.istore_n 3, 1) := by decide +kernel
theorem dX6_hits_4 : decode cX6_hits 4 = .ok (.iload_n 3, 1) := by decide +kernel
theorem dX6_hits_5 : decode cX6_hits 5 = .ok (.aload_n 0, 1) := by decide +kernel
theorem dX6_hits_6 : decode cX6_hits 6 = .ok (.getfield 36, 3) := by decide +kernel
theorem dX6_hits_9 : decode cX6_hits 9 = .ok (.if_icmp .ge 25, 3) := by decide +kernel
theorem dX6_hits_12 : decode cX6_hits 12 = .ok (.iload_n 2, 1) := by decide +kernel
theorem dX6_hits_13 : decode cX6_hits 13 = .ok (.aload_n 0, 1) := by decide +kernel
theorem dX6_hits_14 : decode cX6_hits 14 = .ok (.getfield 11, 3) := by decide +kernel
theorem dX6_hits_17 : decode cX6_hits 17 = .ok (.iload_n 3, 1) := by decide +kernel
theorem dX6_hits_18 : decode cX6_hits 18 = .ok (.aaload, 1) := by decide +kernel
theorem dX6_hits_19 : decode cX6_hits 19 = .ok (.getfield 62, 3) := by decide +kernel
theorem dX6_hits_22 : decode cX6_hits 22 = .ok (.aload_n 1, 1) := by decide +kernel
theorem dX6_hits_23 : decode cX6_hits 23 = .ok (.invokevirtual 69, 3) := by decide +kernel
theorem dX6_hits_26 : decode cX6_hits 26 = .ok (.iadd, 1) := by decide +kernel
theorem dX6_hits_27 : decode cX6_hits 27 = .ok (.istore_n 2, 1) := by decide +kernel
theorem dX6_hits_28 : decode cX6_hits 28 = .ok (.iinc 3 1, 3) := by decide +kernel
theorem dX6_hits_31 : decode cX6_hits 31 = .ok (.goto (-27), 3) := by decide +kernel
theorem dX6_hits_34 : decode cX6_hits 34 = .ok (.iload_n 2, 1) := by decide +kernel
theorem dX6_hits_35 : decode cX6_hits 35 = .ok (.ireturn, 1) := by decide +kernel
theorem dX6_left_0 : decode cX6_left 0 = .ok (.iconst 0, 1) := by decide +kernel
theorem dX6_left_1 : decode cX6_left 1 = .ok (.istore_n 2, 1) := by decide +kernel
theorem dX6_left_2 : decode cX6_left 2 = .ok (.iconst 0, 1) := by decide +kernel
theorem dX6_left_3 : decode cX6_left 3 = .ok (.istore_n 3, 1) := by decide +kernel
theorem dX6_left_4 : decode cX6_left 4 = .ok (.iload_n 3, 1) := by decide +kernel
theorem dX6_left_5 : decode cX6_left 5 = .ok (.aload_n 0, 1) := by decide +kernel
theorem dX6_left_6 : decode cX6_left 6 = .ok (.getfield 36, 3) := by decide +kernel
theorem dX6_left_9 : decode cX6_left 9 = .ok (.if_icmp .ge 53, 3) := by decide +kernel
theorem dX6_left_12 : decode cX6_left 12 = .ok (.iconst 0, 1) := by decide +kernel
theorem dX6_left_13 : decode cX6_left 13 = .ok (.istore 4, 2) := by decide +kernel
theorem dX6_left_15 : decode cX6_left 15 = .ok (.iload 4, 2) := by decide +kernel
theorem dX6_left_17 : decode cX6_left 17 = .ok (.aload_n 0, 1) := by decide +kernel
theorem dX6_left_18 : decode cX6_left 18 = .ok (.getfield 11, 3) := by decide +kernel
theorem dX6_left_21 : decode cX6_left 21 = .ok (.iload_n 3, 1) := by decide +kernel
theorem dX6_left_22 : decode cX6_left 22 = .ok (.aaload, 1) := by decide +kernel
theorem dX6_left_23 : decode cX6_left 23 = .ok (.getfield 62, 3) := by decide +kernel
theorem dX6_left_26 : decode cX6_left 26 = .ok (.getfield 66, 3) := by decide +kernel
theorem dX6_left_29 : decode cX6_left 29 = .ok (.if_icmp .ge 27, 3) := by decide +kernel
theorem dX6_left_32 : decode cX6_left 32 = .ok (.aload_n 1, 1) := by decide +kernel
theorem dX6_left_33 : decode cX6_left 33 = .ok (.aload_n 0, 1) := by decide +kernel
theorem dX6_left_34 : decode cX6_left 34 = .ok (.getfield 11, 3) := by decide +kernel
theorem dX6_left_37 : decode cX6_left 37 = .ok (.iload_n 3, 1) := by decide +kernel
theorem dX6_left_38 : decode cX6_left 38 = .ok (.aaload, 1) := by decide +kernel
theorem dX6_left_39 : decode cX6_left 39 = .ok (.iload 4, 2) := by decide +kernel
theorem dX6_left_41 : decode cX6_left 41 = .ok (.invokevirtual 73, 3) := by decide +kernel
theorem dX6_left_44 : decode cX6_left 44 = .ok (.ifCond .eq 6, 3) := by decide +kernel
theorem dX6_left_47 : decode cX6_left 47 = .ok (.iinc 2 1, 3) := by decide +kernel
theorem dX6_left_50 : decode cX6_left 50 = .ok (.iinc 4 1, 3) := by decide +kernel
theorem dX6_left_53 : decode cX6_left 53 = .ok (.goto (-38), 3) := by decide +kernel
theorem dX6_left_56 : decode cX6_left 56 = .ok (.iinc 3 1, 3) := by decide +kernel
theorem dX6_left_59 : decode cX6_left 59 = .ok (.goto (-55), 3) := by decide +kernel
theorem dX6_left_62 : decode cX6_left 62 = .ok (.iload_n 2, 1) := by decide +kernel
theorem dX6_left_63 : decode cX6_left 63 = .ok (.ireturn, 1) := by decide +kernel
theorem dX6_refusal_0 : decode cX6_refusal 0 = .ok (.aload_n 1, 1) := by decide +kernel
theorem dX6_refusal_1 : decode cX6_refusal 1 = .ok (.getfield 77, 3) := by decide +kernel
theorem dX6_refusal_4 : decode cX6_refusal 4 = .ok (.istore_n 2, 1) := by decide +kernel
theorem dX6_refusal_5 : decode cX6_refusal 5 = .ok (.aload_n 1, 1) := by decide +kernel
theorem dX6_refusal_6 : decode cX6_refusal 6 = .ok (.getfield 82, 3) := by decide +kernel
theorem dX6_refusal_9 : decode cX6_refusal 9 = .ok (.tableswitch 221 0 8 #[51, 98, 146, 170, 221, 221, 221, 205, 215], 51) := by decide +kernel
theorem dX6_refusal_60 : decode cX6_refusal 60 = .ok (.aload_n 0, 1) := by decide +kernel
theorem dX6_refusal_61 : decode cX6_refusal 61 = .ok (.iload_n 2, 1) := by decide +kernel
theorem dX6_refusal_62 : decode cX6_refusal 62 = .ok (.invokevirtual 85, 3) := by decide +kernel
theorem dX6_refusal_65 : decode cX6_refusal 65 = .ok (.ifCond .ne 5, 3) := by decide +kernel
theorem dX6_refusal_68 : decode cX6_refusal 68 = .ok (.iconst 0, 1) := by decide +kernel
theorem dX6_refusal_69 : decode cX6_refusal 69 = .ok (.ireturn, 1) := by decide +kernel
theorem dX6_refusal_70 : decode cX6_refusal 70 = .ok (.aload_n 1, 1) := by decide +kernel
theorem dX6_refusal_71 : decode cX6_refusal 71 = .ok (.getfield 89, 3) := by decide +kernel
theorem dX6_refusal_74 : decode cX6_refusal 74 = .ok (.getfield 66, 3) := by decide +kernel
theorem dX6_refusal_77 : decode cX6_refusal 77 = .ok (.ifCond .ne 5, 3) := by decide +kernel
theorem dX6_refusal_80 : decode cX6_refusal 80 = .ok (.iconst 1, 1) := by decide +kernel
theorem dX6_refusal_81 : decode cX6_refusal 81 = .ok (.ireturn, 1) := by decide +kernel
theorem dX6_refusal_82 : decode cX6_refusal 82 = .ok (.aload_n 0, 1) := by decide +kernel
theorem dX6_refusal_83 : decode cX6_refusal 83 = .ok (.getfield 11, 3) := by decide +kernel
theorem dX6_refusal_86 : decode cX6_refusal 86 = .ok (.iload_n 2, 1) := by decide +kernel
theorem dX6_refusal_87 : decode cX6_refusal 87 = .ok (.aaload, 1) := by decide +kernel
theorem dX6_refusal_88 : decode cX6_refusal 88 = .ok (.getfield 62, 3) := by decide +kernel
theorem dX6_refusal_91 : decode cX6_refusal 91 = .ok (.aload_n 1, 1) := by decide +kernel
theorem dX6_refusal_92 : decode cX6_refusal 92 = .ok (.getfield 89, 3) := by decide +kernel
theorem dX6_refusal_95 : decode cX6_refusal 95 = .ok (.invokevirtual 90, 3) := by decide +kernel
theorem dX6_refusal_98 : decode cX6_refusal 98 = .ok (.ifCond .eq 7, 3) := by decide +kernel
theorem dX6_refusal_101 : decode cX6_refusal 101 = .ok (.iconst 2, 1) := by decide +kernel
theorem dX6_refusal_102 : decode cX6_refusal 102 = .ok (.goto 4, 3) := by decide +kernel
theorem dX6_refusal_105 : decode cX6_refusal 105 = .ok (.iconst (-1), 1) := by decide +kernel
theorem dX6_refusal_106 : decode cX6_refusal 106 = .ok (.ireturn, 1) := by decide +kernel
theorem dX6_refusal_107 : decode cX6_refusal 107 = .ok (.aload_n 0, 1) := by decide +kernel
theorem dX6_refusal_108 : decode cX6_refusal 108 = .ok (.getfield 36, 3) := by decide +kernel
theorem dX6_refusal_111 : decode cX6_refusal 111 = .ok (.ifCond .eq 15, 3) := by decide +kernel
theorem dX6_refusal_114 : decode cX6_refusal 114 = .ok (.iload_n 2, 1) := by decide +kernel
theorem dX6_refusal_115 : decode cX6_refusal 115 = .ok (.ifCond .lt 11, 3) := by decide +kernel
theorem dX6_refusal_118 : decode cX6_refusal 118 = .ok (.iload_n 2, 1) := by decide +kernel
theorem dX6_refusal_119 : decode cX6_refusal 119 = .ok (.aload_n 0, 1) := by decide +kernel
theorem dX6_refusal_120 : decode cX6_refusal 120 = .ok (.getfield 36, 3) := by decide +kernel
theorem dX6_refusal_123 : decode cX6_refusal 123 = .ok (.if_icmp .le 5, 3) := by decide +kernel
theorem dX6_refusal_126 : decode cX6_refusal 126 = .ok (.iconst 0, 1) := by decide +kernel
theorem dX6_refusal_127 : decode cX6_refusal 127 = .ok (.ireturn, 1) := by decide +kernel
theorem dX6_refusal_128 : decode cX6_refusal 128 = .ok (.aload_n 1, 1) := by decide +kernel
theorem dX6_refusal_129 : decode cX6_refusal 129 = .ok (.getfield 89, 3) := by decide +kernel
theorem dX6_refusal_132 : decode cX6_refusal 132 = .ok (.getfield 66, 3) := by decide +kernel
theorem dX6_refusal_135 : decode cX6_refusal 135 = .ok (.ifCond .ne 5, 3) := by decide +kernel
theorem dX6_refusal_138 : decode cX6_refusal 138 = .ok (.iconst 1, 1) := by decide +kernel
theorem dX6_refusal_139 : decode cX6_refusal 139 = .ok (.ireturn, 1) := by decide +kernel
theorem dX6_refusal_140 : decode cX6_refusal 140 = .ok (.aload_n 0, 1) := by decide +kernel
theorem dX6_refusal_141 : decode cX6_refusal 141 = .ok (.getfield 36, 3) := by decide +kernel
theorem dX6_refusal_144 : decode cX6_refusal 144 = .ok (.bipush 10, 2) := by decide +kernel
theorem dX6_refusal_146 : decode cX6_refusal 146 = .ok (.if_icmp .ne 7, 3) := by decide +kernel
theorem dX6_refusal_149 : decode cX6_refusal 149 = .ok (.iconst 3, 1) := by decide +kernel
theorem dX6_refusal_150 : decode cX6_refusal 150 = .ok (.goto 4, 3) := by decide +kernel
theorem dX6_refusal_153 : decode cX6_refusal 153 = .ok (.iconst (-1), 1) := by decide +kernel
theorem dX6_refusal_154 : decode cX6_refusal 154 = .ok (.ireturn, 1) := by decide +kernel
theorem dX6_refusal_155 : decode cX6_refusal 155 = .ok (.aload_n 0, 1) := by decide +kernel
theorem dX6_refusal_156 : decode cX6_refusal 156 = .ok (.iload_n 2, 1) := by decide +kernel
theorem dX6_refusal_157 : decode cX6_refusal 157 = .ok (.invokevirtual 85, 3) := by decide +kernel
theorem dX6_refusal_160 : decode cX6_refusal 160 = .ok (.ifCond .ne 5, 3) := by decide +kernel
theorem dX6_refusal_163 : decode cX6_refusal 163 = .ok (.iconst 0, 1) := by decide +kernel
theorem dX6_refusal_164 : decode cX6_refusal 164 = .ok (.ireturn, 1) := by decide +kernel
theorem dX6_refusal_165 : decode cX6_refusal 165 = .ok (.aload_n 0, 1) := by decide +kernel
theorem dX6_refusal_166 : decode cX6_refusal 166 = .ok (.getfield 36, 3) := by decide +kernel
theorem dX6_refusal_169 : decode cX6_refusal 169 = .ok (.iconst 1, 1) := by decide +kernel
theorem dX6_refusal_170 : decode cX6_refusal 170 = .ok (.if_icmp .ne 7, 3) := by decide +kernel
theorem dX6_refusal_173 : decode cX6_refusal 173 = .ok (.iconst 2, 1) := by decide +kernel
theorem dX6_refusal_174 : decode cX6_refusal 174 = .ok (.goto 4, 3) := by decide +kernel
theorem dX6_refusal_177 : decode cX6_refusal 177 = .ok (.iconst (-1), 1) := by decide +kernel
theorem dX6_refusal_178 : decode cX6_refusal 178 = .ok (.ireturn, 1) := by decide +kernel
theorem dX6_refusal_179 : decode cX6_refusal 179 = .ok (.aload_n 0, 1) := by decide +kernel
theorem dX6_refusal_180 : decode cX6_refusal 180 = .ok (.iload_n 2, 1) := by decide +kernel
theorem dX6_refusal_181 : decode cX6_refusal 181 = .ok (.invokevirtual 85, 3) := by decide +kernel
theorem dX6_refusal_184 : decode cX6_refusal 184 = .ok (.ifCond .eq 14, 3) := by decide +kernel
theorem dX6_refusal_187 : decode cX6_refusal 187 = .ok (.aload_n 0, 1) := by decide +kernel
theorem dX6_refusal_188 : decode cX6_refusal 188 = .ok (.aload_n 1, 1) := by decide +kernel
theorem dX6_refusal_189 : decode cX6_refusal 189 = .ok (.getfield 94, 3) := by decide +kernel
theorem dX6_refusal_192 : decode cX6_refusal 192 = .ok (.invokevirtual 85, 3) := by decide +kernel
theorem dX6_refusal_195 : decode cX6_refusal 195 = .ok (.ifCond .ne 5, 3) := by decide +kernel
theorem dX6_refusal_198 : decode cX6_refusal 198 = .ok (.iconst 0, 1) := by decide +kernel
theorem dX6_refusal_199 : decode cX6_refusal 199 = .ok (.ireturn, 1) := by decide +kernel
theorem dX6_refusal_200 : decode cX6_refusal 200 = .ok (.iload_n 2, 1) := by decide +kernel
theorem dX6_refusal_201 : decode cX6_refusal 201 = .ok (.aload_n 1, 1) := by decide +kernel
theorem dX6_refusal_202 : decode cX6_refusal 202 = .ok (.getfield 94, 3) := by decide +kernel
theorem dX6_refusal_205 : decode cX6_refusal 205 = .ok (.if_icmp .ne 7, 3) := by decide +kernel
theorem dX6_refusal_208 : decode cX6_refusal 208 = .ok (.iconst 2, 1) := by decide +kernel
theorem dX6_refusal_209 : decode cX6_refusal 209 = .ok (.goto 4, 3) := by decide +kernel
theorem dX6_refusal_212 : decode cX6_refusal 212 = .ok (.iconst (-1), 1) := by decide +kernel
theorem dX6_refusal_213 : decode cX6_refusal 213 = .ok (.ireturn, 1) := by decide +kernel
theorem dX6_refusal_214 : decode cX6_refusal 214 = .ok (.aload_n 0, 1) := by decide +kernel
theorem dX6_refusal_215 : decode cX6_refusal 215 = .ok (.iload_n 2, 1) := by decide +kernel
theorem dX6_refusal_216 : decode cX6_refusal 216 = .ok (.aload_n 1, 1) := by decide +kernel
theorem dX6_refusal_217 : decode cX6_refusal 217 = .ok (.getfield 94, 3) := by decide +kernel
theorem dX6_refusal_220 : decode cX6_refusal 220 = .ok (.invokevirtual 97, 3) := by decide +kernel
theorem dX6_refusal_223 : decode cX6_refusal 223 = .ok (.ireturn, 1) := by decide +kernel
theorem dX6_refusal_224 : decode cX6_refusal 224 = .ok (.aload_n 0, 1) := by decide +kernel
theorem dX6_refusal_225 : decode cX6_refusal 225 = .ok (.iload_n 2, 1) := by decide +kernel
theorem dX6_refusal_226 : decode cX6_refusal 226 = .ok (.invokevirtual 101, 3) := by decide +kernel
theorem dX6_refusal_229 : decode cX6_refusal 229 = .ok (.ireturn, 1) := by decide +kernel
theorem dX6_refusal_230 : decode cX6_refusal 230 = .ok (.aload_n 0, 1) := by decide +kernel
theorem dX6_refusal_231 : decode cX6_refusal 231 = .ok (.aload_n 1, 1) := by decide +kernel
theorem dX6_refusal_232 : decode cX6_refusal 232 = .ok (.invokevirtual 105, 3) := by decide +kernel
theorem dX6_refusal_235 : decode cX6_refusal 235 = .ok (.ireturn, 1) := by decide +kernel
theorem dX6_splitRefusal_0 : decode cX6_splitRefusal 0 = .ok (.aload_n 0, 1) := by decide +kernel
theorem dX6_splitRefusal_1 : decode cX6_splitRefusal 1 = .ok (.iload_n 1, 1) := by decide +kernel
theorem dX6_splitRefusal_2 : decode cX6_splitRefusal 2 = .ok (.invokevirtual 85, 3) := by decide +kernel
theorem dX6_splitRefusal_5 : decode cX6_splitRefusal 5 = .ok (.ifCond .ne 5, 3) := by decide +kernel
theorem dX6_splitRefusal_8 : decode cX6_splitRefusal 8 = .ok (.iconst 0, 1) := by decide +kernel
theorem dX6_splitRefusal_9 : decode cX6_splitRefusal 9 = .ok (.ireturn, 1) := by decide +kernel
theorem dX6_splitRefusal_10 : decode cX6_splitRefusal 10 = .ok (.iload_n 2, 1) := by decide +kernel
theorem dX6_splitRefusal_11 : decode cX6_splitRefusal 11 = .ok (.iconst 1, 1) := by decide +kernel
theorem dX6_splitRefusal_12 : decode cX6_splitRefusal 12 = .ok (.if_icmp .lt 19, 3) := by decide +kernel
theorem dX6_splitRefusal_15 : decode cX6_splitRefusal 15 = .ok (.iload_n 2, 1) := by decide +kernel
theorem dX6_splitRefusal_16 : decode cX6_splitRefusal 16 = .ok (.aload_n 0, 1) := by decide +kernel
theorem dX6_splitRefusal_17 : decode cX6_splitRefusal 17 = .ok (.getfield 11, 3) := by decide +kernel
theorem dX6_splitRefusal_20 : decode cX6_splitRefusal 20 = .ok (.iload_n 1, 1) := by decide +kernel
theorem dX6_splitRefusal_21 : decode cX6_splitRefusal 21 = .ok (.aaload, 1) := by decide +kernel
theorem dX6_splitRefusal_22 : decode cX6_splitRefusal 22 = .ok (.getfield 62, 3) := by decide +kernel
theorem dX6_splitRefusal_25 : decode cX6_splitRefusal 25 = .ok (.getfield 66, 3) := by decide +kernel
theorem dX6_splitRefusal_28 : decode cX6_splitRefusal 28 = .ok (.if_icmp .lt 5, 3) := by decide +kernel
theorem dX6_splitRefusal_31 : decode cX6_splitRefusal 31 = .ok (.iconst 1, 1) := by decide +kernel
theorem dX6_splitRefusal_32 : decode cX6_splitRefusal 32 = .ok (.ireturn, 1) := by decide +kernel
theorem dX6_splitRefusal_33 : decode cX6_splitRefusal 33 = .ok (.aload_n 0, 1) := by decide +kernel
theorem dX6_splitRefusal_34 : decode cX6_splitRefusal 34 = .ok (.getfield 36, 3) := by decide +kernel
theorem dX6_splitRefusal_37 : decode cX6_splitRefusal 37 = .ok (.bipush 10, 2) := by decide +kernel
theorem dX6_splitRefusal_39 : decode cX6_splitRefusal 39 = .ok (.if_icmp .ne 7, 3) := by decide +kernel
theorem dX6_splitRefusal_42 : decode cX6_splitRefusal 42 = .ok (.iconst 3, 1) := by decide +kernel
theorem dX6_splitRefusal_43 : decode cX6_splitRefusal 43 = .ok (.goto 4, 3) := by decide +kernel
theorem dX6_splitRefusal_46 : decode cX6_splitRefusal 46 = .ok (.iconst (-1), 1) := by decide +kernel
theorem dX6_splitRefusal_47 : decode cX6_splitRefusal 47 = .ok (.ireturn, 1) := by decide +kernel
theorem dX6_joinRefusal_0 : decode cX6_joinRefusal 0 = .ok (.iload_n 1, 1) := by decide +kernel
theorem dX6_joinRefusal_1 : decode cX6_joinRefusal 1 = .ok (.ifCond .lt 13, 3) := by decide +kernel
theorem dX6_joinRefusal_4 : decode cX6_joinRefusal 4 = .ok (.iload_n 1, 1) := by decide +kernel
theorem dX6_joinRefusal_5 : decode cX6_joinRefusal 5 = .ok (.aload_n 0, 1) := by decide +kernel
theorem dX6_joinRefusal_6 : decode cX6_joinRefusal 6 = .ok (.getfield 36, 3) := by decide +kernel
theorem dX6_joinRefusal_9 : decode cX6_joinRefusal 9 = .ok (.iconst 1, 1) := by decide +kernel
theorem dX6_joinRefusal_10 : decode cX6_joinRefusal 10 = .ok (.isub, 1) := by decide +kernel
theorem dX6_joinRefusal_11 : decode cX6_joinRefusal 11 = .ok (.if_icmp .lt 5, 3) := by decide +kernel
theorem dX6_joinRefusal_14 : decode cX6_joinRefusal 14 = .ok (.iconst 0, 1) := by decide +kernel
theorem dX6_joinRefusal_15 : decode cX6_joinRefusal 15 = .ok (.ireturn, 1) := by decide +kernel
theorem dX6_joinRefusal_16 : decode cX6_joinRefusal 16 = .ok (.aload_n 0, 1) := by decide +kernel
theorem dX6_joinRefusal_17 : decode cX6_joinRefusal 17 = .ok (.getfield 11, 3) := by decide +kernel
theorem dX6_joinRefusal_20 : decode cX6_joinRefusal 20 = .ok (.iload_n 1, 1) := by decide +kernel
theorem dX6_joinRefusal_21 : decode cX6_joinRefusal 21 = .ok (.aaload, 1) := by decide +kernel
theorem dX6_joinRefusal_22 : decode cX6_joinRefusal 22 = .ok (.getfield 62, 3) := by decide +kernel
theorem dX6_joinRefusal_25 : decode cX6_joinRefusal 25 = .ok (.getfield 66, 3) := by decide +kernel
theorem dX6_joinRefusal_28 : decode cX6_joinRefusal 28 = .ok (.aload_n 0, 1) := by decide +kernel
theorem dX6_joinRefusal_29 : decode cX6_joinRefusal 29 = .ok (.getfield 11, 3) := by decide +kernel
theorem dX6_joinRefusal_32 : decode cX6_joinRefusal 32 = .ok (.iload_n 1, 1) := by decide +kernel
theorem dX6_joinRefusal_33 : decode cX6_joinRefusal 33 = .ok (.iconst 1, 1) := by decide +kernel
theorem dX6_joinRefusal_34 : decode cX6_joinRefusal 34 = .ok (.iadd, 1) := by decide +kernel
theorem dX6_joinRefusal_35 : decode cX6_joinRefusal 35 = .ok (.aaload, 1) := by decide +kernel
theorem dX6_joinRefusal_36 : decode cX6_joinRefusal 36 = .ok (.getfield 62, 3) := by decide +kernel
theorem dX6_joinRefusal_39 : decode cX6_joinRefusal 39 = .ok (.getfield 66, 3) := by decide +kernel
theorem dX6_joinRefusal_42 : decode cX6_joinRefusal 42 = .ok (.iadd, 1) := by decide +kernel
theorem dX6_joinRefusal_43 : decode cX6_joinRefusal 43 = .ok (.bipush 20, 2) := by decide +kernel
theorem dX6_joinRefusal_45 : decode cX6_joinRefusal 45 = .ok (.if_icmp .le 7, 3) := by decide +kernel
theorem dX6_joinRefusal_48 : decode cX6_joinRefusal 48 = .ok (.iconst 3, 1) := by decide +kernel
theorem dX6_joinRefusal_49 : decode cX6_joinRefusal 49 = .ok (.goto 4, 3) := by decide +kernel
theorem dX6_joinRefusal_52 : decode cX6_joinRefusal 52 = .ok (.iconst (-1), 1) := by decide +kernel
theorem dX6_joinRefusal_53 : decode cX6_joinRefusal 53 = .ok (.ireturn, 1) := by decide +kernel
theorem dX6_cursorRefusal_0 : decode cX6_cursorRefusal 0 = .ok (.aload_n 1, 1) := by decide +kernel
theorem dX6_cursorRefusal_1 : decode cX6_cursorRefusal 1 = .ok (.getfield 77, 3) := by decide +kernel
theorem dX6_cursorRefusal_4 : decode cX6_cursorRefusal 4 = .ok (.istore_n 2, 1) := by decide +kernel
theorem dX6_cursorRefusal_5 : decode cX6_cursorRefusal 5 = .ok (.aload_n 1, 1) := by decide +kernel
theorem dX6_cursorRefusal_6 : decode cX6_cursorRefusal 6 = .ok (.getfield 82, 3) := by decide +kernel
theorem dX6_cursorRefusal_9 : decode cX6_cursorRefusal 9 = .ok (.iconst 4, 1) := by decide +kernel
theorem dX6_cursorRefusal_10 : decode cX6_cursorRefusal 10 = .ok (.if_icmp .ne 58, 3) := by decide +kernel
theorem dX6_cursorRefusal_13 : decode cX6_cursorRefusal 13 = .ok (.iload_n 2, 1) := by decide +kernel
theorem dX6_cursorRefusal_14 : decode cX6_cursorRefusal 14 = .ok (.ifCond .lt 19, 3) := by decide +kernel
theorem dX6_cursorRefusal_17 : decode cX6_cursorRefusal 17 = .ok (.iload_n 2, 1) := by decide +kernel
theorem dX6_cursorRefusal_18 : decode cX6_cursorRefusal 18 = .ok (.aload_n 0, 1) := by decide +kernel
theorem dX6_cursorRefusal_19 : decode cX6_cursorRefusal 19 = .ok (.getfield 19, 3) := by decide +kernel
theorem dX6_cursorRefusal_22 : decode cX6_cursorRefusal 22 = .ok (.arraylength, 1) := by decide +kernel
theorem dX6_cursorRefusal_23 : decode cX6_cursorRefusal 23 = .ok (.if_icmp .ge 10, 3) := by decide +kernel
theorem dX6_cursorRefusal_26 : decode cX6_cursorRefusal 26 = .ok (.aload_n 0, 1) := by decide +kernel
theorem dX6_cursorRefusal_27 : decode cX6_cursorRefusal 27 = .ok (.getfield 36, 3) := by decide +kernel
theorem dX6_cursorRefusal_30 : decode cX6_cursorRefusal 30 = .ok (.ifCond .ne 5, 3) := by decide +kernel
theorem dX6_cursorRefusal_33 : decode cX6_cursorRefusal 33 = .ok (.iconst 0, 1) := by decide +kernel
theorem dX6_cursorRefusal_34 : decode cX6_cursorRefusal 34 = .ok (.ireturn, 1) := by decide +kernel
theorem dX6_cursorRefusal_35 : decode cX6_cursorRefusal 35 = .ok (.aload_n 1, 1) := by decide +kernel
theorem dX6_cursorRefusal_36 : decode cX6_cursorRefusal 36 = .ok (.getfield 94, 3) := by decide +kernel
theorem dX6_cursorRefusal_39 : decode cX6_cursorRefusal 39 = .ok (.iconst 1, 1) := by decide +kernel
theorem dX6_cursorRefusal_40 : decode cX6_cursorRefusal 40 = .ok (.if_icmp .lt 22, 3) := by decide +kernel
theorem dX6_cursorRefusal_43 : decode cX6_cursorRefusal 43 = .ok (.aload_n 1, 1) := by decide +kernel
theorem dX6_cursorRefusal_44 : decode cX6_cursorRefusal 44 = .ok (.getfield 94, 3) := by decide +kernel
theorem dX6_cursorRefusal_47 : decode cX6_cursorRefusal 47 = .ok (.bipush 9, 2) := by decide +kernel
theorem dX6_cursorRefusal_49 : decode cX6_cursorRefusal 49 = .ok (.if_icmp .gt 13, 3) := by decide +kernel
theorem dX6_cursorRefusal_52 : decode cX6_cursorRefusal 52 = .ok (.aload_n 1, 1) := by decide +kernel
theorem dX6_cursorRefusal_53 : decode cX6_cursorRefusal 53 = .ok (.getfield 89, 3) := by decide +kernel
theorem dX6_cursorRefusal_56 : decode cX6_cursorRefusal 56 = .ok (.getfield 66, 3) := by decide +kernel
theorem dX6_cursorRefusal_59 : decode cX6_cursorRefusal 59 = .ok (.ifCond .ne 7, 3) := by decide +kernel
theorem dX6_cursorRefusal_62 : decode cX6_cursorRefusal 62 = .ok (.iconst 1, 1) := by decide +kernel
theorem dX6_cursorRefusal_63 : decode cX6_cursorRefusal 63 = .ok (.goto 4, 3) := by decide +kernel
theorem dX6_cursorRefusal_66 : decode cX6_cursorRefusal 66 = .ok (.iconst (-1), 1) := by decide +kernel
theorem dX6_cursorRefusal_67 : decode cX6_cursorRefusal 67 = .ok (.ireturn, 1) := by decide +kernel
theorem dX6_cursorRefusal_68 : decode cX6_cursorRefusal 68 = .ok (.aload_n 0, 1) := by decide +kernel
theorem dX6_cursorRefusal_69 : decode cX6_cursorRefusal 69 = .ok (.iload_n 2, 1) := by decide +kernel
theorem dX6_cursorRefusal_70 : decode cX6_cursorRefusal 70 = .ok (.invokevirtual 109, 3) := by decide +kernel
theorem dX6_cursorRefusal_73 : decode cX6_cursorRefusal 73 = .ok (.ifCond .ne 5, 3) := by decide +kernel
theorem dX6_cursorRefusal_76 : decode cX6_cursorRefusal 76 = .ok (.iconst 0, 1) := by decide +kernel
theorem dX6_cursorRefusal_77 : decode cX6_cursorRefusal 77 = .ok (.ireturn, 1) := by decide +kernel
theorem dX6_cursorRefusal_78 : decode cX6_cursorRefusal 78 = .ok (.aload_n 1, 1) := by decide +kernel
theorem dX6_cursorRefusal_79 : decode cX6_cursorRefusal 79 = .ok (.getfield 82, 3) := by decide +kernel
theorem dX6_cursorRefusal_82 : decode cX6_cursorRefusal 82 = .ok (.bipush 6, 2) := by decide +kernel
theorem dX6_cursorRefusal_84 : decode cX6_cursorRefusal 84 = .ok (.if_icmp .ne 19, 3) := by decide +kernel
theorem dX6_cursorRefusal_87 : decode cX6_cursorRefusal 87 = .ok (.aload_n 0, 1) := by decide +kernel
theorem dX6_cursorRefusal_88 : decode cX6_cursorRefusal 88 = .ok (.getfield 19, 3) := by decide +kernel
theorem dX6_cursorRefusal_91 : decode cX6_cursorRefusal 91 = .ok (.iload_n 2, 1) := by decide +kernel
theorem dX6_cursorRefusal_92 : decode cX6_cursorRefusal 92 = .ok (.aaload, 1) := by decide +kernel
theorem dX6_cursorRefusal_93 : decode cX6_cursorRefusal 93 = .ok (.getfield 112, 3) := by decide +kernel
theorem dX6_cursorRefusal_96 : decode cX6_cursorRefusal 96 = .ok (.ifCond .ne 7, 3) := by decide +kernel
theorem dX6_cursorRefusal_99 : decode cX6_cursorRefusal 99 = .ok (.iconst 2, 1) := by decide +kernel
theorem dX6_cursorRefusal_100 : decode cX6_cursorRefusal 100 = .ok (.goto 4, 3) := by decide +kernel
theorem dX6_cursorRefusal_103 : decode cX6_cursorRefusal 103 = .ok (.iconst (-1), 1) := by decide +kernel
theorem dX6_cursorRefusal_104 : decode cX6_cursorRefusal 104 = .ok (.ireturn, 1) := by decide +kernel
theorem dX6_subject_0 : decode cX6_subject 0 = .ok (.aload_n 1, 1) := by decide +kernel
theorem dX6_subject_1 : decode cX6_subject 1 = .ok (.getfield 82, 3) := by decide +kernel
theorem dX6_subject_4 : decode cX6_subject 4 = .ok (.tableswitch 50 1 6 #[40, 50, 50, 45, 45, 45], 40) := by decide +kernel
theorem dX6_subject_44 : decode cX6_subject 44 = .ok (.aload_n 0, 1) := by decide +kernel
theorem dX6_subject_45 : decode cX6_subject 45 = .ok (.getfield 44, 3) := by decide +kernel
theorem dX6_subject_48 : decode cX6_subject 48 = .ok (.ireturn, 1) := by decide +kernel
theorem dX6_subject_49 : decode cX6_subject 49 = .ok (.aload_n 1, 1) := by decide +kernel
theorem dX6_subject_50 : decode cX6_subject 50 = .ok (.getfield 77, 3) := by decide +kernel
theorem dX6_subject_53 : decode cX6_subject 53 = .ok (.ireturn, 1) := by decide +kernel
theorem dX6_subject_54 : decode cX6_subject 54 = .ok (.aload_n 0, 1) := by decide +kernel
theorem dX6_subject_55 : decode cX6_subject 55 = .ok (.aload_n 1, 1) := by decide +kernel
theorem dX6_subject_56 : decode cX6_subject 56 = .ok (.getfield 77, 3) := by decide +kernel
theorem dX6_subject_59 : decode cX6_subject 59 = .ok (.invokevirtual 85, 3) := by decide +kernel
theorem dX6_subject_62 : decode cX6_subject 62 = .ok (.ifCond .eq 18, 3) := by decide +kernel
theorem dX6_subject_65 : decode cX6_subject 65 = .ok (.aload_n 0, 1) := by decide +kernel
theorem dX6_subject_66 : decode cX6_subject 66 = .ok (.getfield 11, 3) := by decide +kernel
theorem dX6_subject_69 : decode cX6_subject 69 = .ok (.aload_n 1, 1) := by decide +kernel
theorem dX6_subject_70 : decode cX6_subject 70 = .ok (.getfield 77, 3) := by decide +kernel
theorem dX6_subject_73 : decode cX6_subject 73 = .ok (.aaload, 1) := by decide +kernel
theorem dX6_subject_74 : decode cX6_subject 74 = .ok (.getfield 116, 3) := by decide +kernel
theorem dX6_subject_77 : decode cX6_subject 77 = .ok (.goto 4, 3) := by decide +kernel
theorem dX6_subject_80 : decode cX6_subject 80 = .ok (.iconst (-1), 1) := by decide +kernel
theorem dX6_subject_81 : decode cX6_subject 81 = .ok (.ireturn, 1) := by decide +kernel
theorem dX6_carryOut_0 : decode cX6_carryOut 0 = .ok (.aload_n 1, 1) := by decide +kernel
theorem dX6_carryOut_1 : decode cX6_carryOut 1 = .ok (.getfield 77, 3) := by decide +kernel
theorem dX6_carryOut_4 : decode cX6_carryOut 4 = .ok (.istore_n 2, 1) := by decide +kernel
theorem dX6_carryOut_5 : decode cX6_carryOut 5 = .ok (.aload_n 1, 1) := by decide +kernel
theorem dX6_carryOut_6 : decode cX6_carryOut 6 = .ok (.getfield 82, 3) := by decide +kernel
theorem dX6_carryOut_9 : decode cX6_carryOut 9 = .ok (.tableswitch 182 0 7 #[47, 73, 98, 119, 129, 141, 152, 172], 47) := by decide +kernel
theorem dX6_carryOut_56 : decode cX6_carryOut 56 = .ok (.aload_n 0, 1) := by decide +kernel
theorem dX6_carryOut_57 : decode cX6_carryOut 57 = .ok (.getfield 11, 3) := by decide +kernel
theorem dX6_carryOut_60 : decode cX6_carryOut 60 = .ok (.iload_n 2, 1) := by decide +kernel
theorem dX6_carryOut_61 : decode cX6_carryOut 61 = .ok (.aaload, 1) := by decide +kernel
theorem dX6_carryOut_62 : decode cX6_carryOut 62 = .ok (.getfield 62, 3) := by decide +kernel
theorem dX6_carryOut_65 : decode cX6_carryOut 65 = .ok (.aload_n 1, 1) := by decide +kernel
theorem dX6_carryOut_66 : decode cX6_carryOut 66 = .ok (.getfield 89, 3) := by decide +kernel
theorem dX6_carryOut_69 : decode cX6_carryOut 69 = .ok (.invokevirtual 119, 3) := by decide +kernel
theorem dX6_carryOut_72 : decode cX6_carryOut 72 = .ok (.aload_n 0, 1) := by decide +kernel
theorem dX6_carryOut_73 : decode cX6_carryOut 73 = .ok (.getfield 11, 3) := by decide +kernel
theorem dX6_carryOut_76 : decode cX6_carryOut 76 = .ok (.iload_n 2, 1) := by decide +kernel
theorem dX6_carryOut_77 : decode cX6_carryOut 77 = .ok (.aaload, 1) := by decide +kernel
theorem dX6_carryOut_78 : decode cX6_carryOut 78 = .ok (.getfield 116, 3) := by decide +kernel
theorem dX6_carryOut_81 : decode cX6_carryOut 81 = .ok (.ireturn, 1) := by decide +kernel
theorem dX6_carryOut_82 : decode cX6_carryOut 82 = .ok (.aload_n 0, 1) := by decide +kernel
theorem dX6_carryOut_83 : decode cX6_carryOut 83 = .ok (.iload_n 2, 1) := by decide +kernel
theorem dX6_carryOut_84 : decode cX6_carryOut 84 = .ok (.invokevirtual 122, 3) := by decide +kernel
theorem dX6_carryOut_87 : decode cX6_carryOut 87 = .ok (.getfield 62, 3) := by decide +kernel
theorem dX6_carryOut_90 : decode cX6_carryOut 90 = .ok (.aload_n 1, 1) := by decide +kernel
theorem dX6_carryOut_91 : decode cX6_carryOut 91 = .ok (.getfield 89, 3) := by decide +kernel
theorem dX6_carryOut_94 : decode cX6_carryOut 94 = .ok (.invokevirtual 119, 3) := by decide +kernel
theorem dX6_carryOut_97 : decode cX6_carryOut 97 = .ok (.aload_n 0, 1) := by decide +kernel
theorem dX6_carryOut_98 : decode cX6_carryOut 98 = .ok (.getfield 11, 3) := by decide +kernel
theorem dX6_carryOut_101 : decode cX6_carryOut 101 = .ok (.iload_n 2, 1) := by decide +kernel
theorem dX6_carryOut_102 : decode cX6_carryOut 102 = .ok (.aaload, 1) := by decide +kernel
theorem dX6_carryOut_103 : decode cX6_carryOut 103 = .ok (.getfield 116, 3) := by decide +kernel
theorem dX6_carryOut_106 : decode cX6_carryOut 106 = .ok (.ireturn, 1) := by decide +kernel
theorem dX6_carryOut_107 : decode cX6_carryOut 107 = .ok (.aload_n 0, 1) := by decide +kernel
theorem dX6_carryOut_108 : decode cX6_carryOut 108 = .ok (.iload_n 2, 1) := by decide +kernel
theorem dX6_carryOut_109 : decode cX6_carryOut 109 = .ok (.invokevirtual 126, 3) := by decide +kernel
theorem dX6_carryOut_112 : decode cX6_carryOut 112 = .ok (.aload_n 0, 1) := by decide +kernel
theorem dX6_carryOut_113 : decode cX6_carryOut 113 = .ok (.getfield 11, 3) := by decide +kernel
theorem dX6_carryOut_116 : decode cX6_carryOut 116 = .ok (.aload_n 0, 1) := by decide +kernel
theorem dX6_carryOut_117 : decode cX6_carryOut 117 = .ok (.getfield 36, 3) := by decide +kernel
theorem dX6_carryOut_120 : decode cX6_carryOut 120 = .ok (.aaload, 1) := by decide +kernel
theorem dX6_carryOut_121 : decode cX6_carryOut 121 = .ok (.getfield 62, 3) := by decide +kernel
theorem dX6_carryOut_124 : decode cX6_carryOut 124 = .ok (.getfield 66, 3) := by decide +kernel
theorem dX6_carryOut_127 : decode cX6_carryOut 127 = .ok (.ireturn, 1) := by decide +kernel
theorem dX6_carryOut_128 : decode cX6_carryOut 128 = .ok (.aload_n 0, 1) := by decide +kernel
theorem dX6_carryOut_129 : decode cX6_carryOut 129 = .ok (.iload_n 2, 1) := by decide +kernel
theorem dX6_carryOut_130 : decode cX6_carryOut 130 = .ok (.aload_n 1, 1) := by decide +kernel
theorem dX6_carryOut_131 : decode cX6_carryOut 131 = .ok (.getfield 94, 3) := by decide +kernel
theorem dX6_carryOut_134 : decode cX6_carryOut 134 = .ok (.invokevirtual 130, 3) := by decide +kernel
theorem dX6_carryOut_137 : decode cX6_carryOut 137 = .ok (.ireturn, 1) := by decide +kernel
theorem dX6_carryOut_138 : decode cX6_carryOut 138 = .ok (.aload_n 0, 1) := by decide +kernel
theorem dX6_carryOut_139 : decode cX6_carryOut 139 = .ok (.aload_n 0, 1) := by decide +kernel
theorem dX6_carryOut_140 : decode cX6_carryOut 140 = .ok (.getfield 19, 3) := by decide +kernel
theorem dX6_carryOut_143 : decode cX6_carryOut 143 = .ok (.iload_n 2, 1) := by decide +kernel
theorem dX6_carryOut_144 : decode cX6_carryOut 144 = .ok (.aaload, 1) := by decide +kernel
theorem dX6_carryOut_145 : decode cX6_carryOut 145 = .ok (.aload_n 1, 1) := by decide +kernel
theorem dX6_carryOut_146 : decode cX6_carryOut 146 = .ok (.invokevirtual 133, 3) := by decide +kernel
theorem dX6_carryOut_149 : decode cX6_carryOut 149 = .ok (.ireturn, 1) := by decide +kernel
theorem dX6_carryOut_150 : decode cX6_carryOut 150 = .ok (.aload_n 0, 1) := by decide +kernel
theorem dX6_carryOut_151 : decode cX6_carryOut 151 = .ok (.aload_n 0, 1) := by decide +kernel
theorem dX6_carryOut_152 : decode cX6_carryOut 152 = .ok (.getfield 19, 3) := by decide +kernel
theorem dX6_carryOut_155 : decode cX6_carryOut 155 = .ok (.iload_n 2, 1) := by decide +kernel
theorem dX6_carryOut_156 : decode cX6_carryOut 156 = .ok (.aaload, 1) := by decide +kernel
theorem dX6_carryOut_157 : decode cX6_carryOut 157 = .ok (.invokevirtual 137, 3) := by decide +kernel
theorem dX6_carryOut_160 : decode cX6_carryOut 160 = .ok (.ireturn, 1) := by decide +kernel
theorem dX6_carryOut_161 : decode cX6_carryOut 161 = .ok (.aload_n 0, 1) := by decide +kernel
theorem dX6_carryOut_162 : decode cX6_carryOut 162 = .ok (.getfield 19, 3) := by decide +kernel
theorem dX6_carryOut_165 : decode cX6_carryOut 165 = .ok (.iload_n 2, 1) := by decide +kernel
theorem dX6_carryOut_166 : decode cX6_carryOut 166 = .ok (.aaload, 1) := by decide +kernel
theorem dX6_carryOut_167 : decode cX6_carryOut 167 = .ok (.invokevirtual 56, 3) := by decide +kernel
theorem dX6_carryOut_170 : decode cX6_carryOut 170 = .ok (.aload_n 0, 1) := by decide +kernel
theorem dX6_carryOut_171 : decode cX6_carryOut 171 = .ok (.aload_n 0, 1) := by decide +kernel
theorem dX6_carryOut_172 : decode cX6_carryOut 172 = .ok (.getfield 19, 3) := by decide +kernel
theorem dX6_carryOut_175 : decode cX6_carryOut 175 = .ok (.iload_n 2, 1) := by decide +kernel
theorem dX6_carryOut_176 : decode cX6_carryOut 176 = .ok (.aaload, 1) := by decide +kernel
theorem dX6_carryOut_177 : decode cX6_carryOut 177 = .ok (.invokevirtual 141, 3) := by decide +kernel
theorem dX6_carryOut_180 : decode cX6_carryOut 180 = .ok (.ireturn, 1) := by decide +kernel
theorem dX6_carryOut_181 : decode cX6_carryOut 181 = .ok (.aload_n 0, 1) := by decide +kernel
theorem dX6_carryOut_182 : decode cX6_carryOut 182 = .ok (.iload_n 2, 1) := by decide +kernel
theorem dX6_carryOut_183 : decode cX6_carryOut 183 = .ok (.aload_n 1, 1) := by decide +kernel
theorem dX6_carryOut_184 : decode cX6_carryOut 184 = .ok (.getfield 94, 3) := by decide +kernel
theorem dX6_carryOut_187 : decode cX6_carryOut 187 = .ok (.invokevirtual 144, 3) := by decide +kernel
theorem dX6_carryOut_190 : decode cX6_carryOut 190 = .ok (.ireturn, 1) := by decide +kernel
theorem dX6_carryOut_191 : decode cX6_carryOut 191 = .ok (.aload_n 0, 1) := by decide +kernel
theorem dX6_carryOut_192 : decode cX6_carryOut 192 = .ok (.iload_n 2, 1) := by decide +kernel
theorem dX6_carryOut_193 : decode cX6_carryOut 193 = .ok (.invokevirtual 147, 3) := by decide +kernel
theorem dX6_carryOut_196 : decode cX6_carryOut 196 = .ok (.ireturn, 1) := by decide +kernel
theorem dX6_open_0 : decode cX6_open 0 = .ok (.aload_n 0, 1) := by decide +kernel
theorem dX6_open_1 : decode cX6_open 1 = .ok (.getfield 11, 3) := by decide +kernel
theorem dX6_open_4 : decode cX6_open 4 = .ok (.aload_n 0, 1) := by decide +kernel
theorem dX6_open_5 : decode cX6_open 5 = .ok (.getfield 36, 3) := by decide +kernel
theorem dX6_open_8 : decode cX6_open 8 = .ok (.aaload, 1) := by decide +kernel
theorem dX6_open_9 : decode cX6_open 9 = .ok (.astore_n 2, 1) := by decide +kernel
theorem dX6_open_10 : decode cX6_open 10 = .ok (.aload_n 0, 1) := by decide +kernel
theorem dX6_open_11 : decode cX6_open 11 = .ok (.getfield 36, 3) := by decide +kernel
theorem dX6_open_14 : decode cX6_open 14 = .ok (.istore_n 3, 1) := by decide +kernel
theorem dX6_open_15 : decode cX6_open 15 = .ok (.iload_n 3, 1) := by decide +kernel
theorem dX6_open_16 : decode cX6_open 16 = .ok (.iload_n 1, 1) := by decide +kernel
theorem dX6_open_17 : decode cX6_open 17 = .ok (.if_icmp .le 23, 3) := by decide +kernel
theorem dX6_open_20 : decode cX6_open 20 = .ok (.aload_n 0, 1) := by decide +kernel
theorem dX6_open_21 : decode cX6_open 21 = .ok (.getfield 11, 3) := by decide +kernel
theorem dX6_open_24 : decode cX6_open 24 = .ok (.iload_n 3, 1) := by decide +kernel
theorem dX6_open_25 : decode cX6_open 25 = .ok (.aload_n 0, 1) := by decide +kernel
theorem dX6_open_26 : decode cX6_open 26 = .ok (.getfield 11, 3) := by decide +kernel
theorem dX6_open_29 : decode cX6_open 29 = .ok (.iload_n 3, 1) := by decide +kernel
theorem dX6_open_30 : decode cX6_open 30 = .ok (.iconst 1, 1) := by decide +kernel
theorem dX6_open_31 : decode cX6_open 31 = .ok (.isub, 1) := by decide +kernel
theorem dX6_open_32 : decode cX6_open 32 = .ok (.aaload, 1) := by decide +kernel
theorem dX6_open_33 : decode cX6_open 33 = .ok (.aastore, 1) := by decide +kernel
theorem dX6_open_34 : decode cX6_open 34 = .ok (.iinc 3 (-1), 3) := by decide +kernel
theorem dX6_open_37 : decode cX6_open 37 = .ok (.goto (-22), 3) := by decide +kernel
theorem dX6_open_40 : decode cX6_open 40 = .ok (.aload_n 0, 1) := by decide +kernel
theorem dX6_open_41 : decode cX6_open 41 = .ok (.getfield 11, 3) := by decide +kernel
theorem dX6_open_44 : decode cX6_open 44 = .ok (.iload_n 1, 1) := by decide +kernel
theorem dX6_open_45 : decode cX6_open 45 = .ok (.aload_n 2, 1) := by decide +kernel
theorem dX6_open_46 : decode cX6_open 46 = .ok (.aastore, 1) := by decide +kernel
theorem dX6_open_47 : decode cX6_open 47 = .ok (.aload_n 2, 1) := by decide +kernel
theorem dX6_open_48 : decode cX6_open 48 = .ok (.aload_n 0, 1) := by decide +kernel
theorem dX6_open_49 : decode cX6_open 49 = .ok (.getfield 44, 3) := by decide +kernel
theorem dX6_open_52 : decode cX6_open 52 = .ok (.putfield 116, 3) := by decide +kernel
theorem dX6_open_55 : decode cX6_open 55 = .ok (.aload_n 0, 1) := by decide +kernel
theorem dX6_open_56 : decode cX6_open 56 = .ok (.dup, 1) := by decide +kernel
theorem dX6_open_57 : decode cX6_open 57 = .ok (.getfield 44, 3) := by decide +kernel
theorem dX6_open_60 : decode cX6_open 60 = .ok (.iconst 1, 1) := by decide +kernel
theorem dX6_open_61 : decode cX6_open 61 = .ok (.iadd, 1) := by decide +kernel
theorem dX6_open_62 : decode cX6_open 62 = .ok (.putfield 44, 3) := by decide +kernel
theorem dX6_open_65 : decode cX6_open 65 = .ok (.aload_n 0, 1) := by decide +kernel
theorem dX6_open_66 : decode cX6_open 66 = .ok (.dup, 1) := by decide +kernel
theorem dX6_open_67 : decode cX6_open 67 = .ok (.getfield 36, 3) := by decide +kernel
theorem dX6_open_70 : decode cX6_open 70 = .ok (.iconst 1, 1) := by decide +kernel
theorem dX6_open_71 : decode cX6_open 71 = .ok (.iadd, 1) := by decide +kernel
theorem dX6_open_72 : decode cX6_open 72 = .ok (.putfield 36, 3) := by decide +kernel
theorem dX6_open_75 : decode cX6_open 75 = .ok (.aload_n 2, 1) := by decide +kernel
theorem dX6_open_76 : decode cX6_open 76 = .ok (.areturn, 1) := by decide +kernel
theorem dX6_close_0 : decode cX6_close 0 = .ok (.aload_n 0, 1) := by decide +kernel
theorem dX6_close_1 : decode cX6_close 1 = .ok (.getfield 11, 3) := by decide +kernel
theorem dX6_close_4 : decode cX6_close 4 = .ok (.iload_n 1, 1) := by decide +kernel
theorem dX6_close_5 : decode cX6_close 5 = .ok (.aaload, 1) := by decide +kernel
theorem dX6_close_6 : decode cX6_close 6 = .ok (.astore_n 2, 1) := by decide +kernel
theorem dX6_close_7 : decode cX6_close 7 = .ok (.iload_n 1, 1) := by decide +kernel
theorem dX6_close_8 : decode cX6_close 8 = .ok (.istore_n 3, 1) := by decide +kernel
theorem dX6_close_9 : decode cX6_close 9 = .ok (.iload_n 3, 1) := by decide +kernel
theorem dX6_close_10 : decode cX6_close 10 = .ok (.aload_n 0, 1) := by decide +kernel
theorem dX6_close_11 : decode cX6_close 11 = .ok (.getfield 36, 3) := by decide +kernel
theorem dX6_close_14 : decode cX6_close 14 = .ok (.iconst 1, 1) := by decide +kernel
theorem dX6_close_15 : decode cX6_close 15 = .ok (.isub, 1) := by decide +kernel
theorem dX6_close_16 : decode cX6_close 16 = .ok (.if_icmp .ge 23, 3) := by decide +kernel
theorem dX6_close_19 : decode cX6_close 19 = .ok (.aload_n 0, 1) := by decide +kernel
theorem dX6_close_20 : decode cX6_close 20 = .ok (.getfield 11, 3) := by decide +kernel
theorem dX6_close_23 : decode cX6_close 23 = .ok (.iload_n 3, 1) := by decide +kernel
theorem dX6_close_24 : decode cX6_close 24 = .ok (.aload_n 0, 1) := by decide +kernel
theorem dX6_close_25 : decode cX6_close 25 = .ok (.getfield 11, 3) := by decide +kernel
theorem dX6_close_28 : decode cX6_close 28 = .ok (.iload_n 3, 1) := by decide +kernel
theorem dX6_close_29 : decode cX6_close 29 = .ok (.iconst 1, 1) := by decide +kernel
theorem dX6_close_30 : decode cX6_close 30 = .ok (.iadd, 1) := by decide +kernel
theorem dX6_close_31 : decode cX6_close 31 = .ok (.aaload, 1) := by decide +kernel
theorem dX6_close_32 : decode cX6_close 32 = .ok (.aastore, 1) := by decide +kernel
theorem dX6_close_33 : decode cX6_close 33 = .ok (.iinc 3 1, 3) := by decide +kernel
theorem dX6_close_36 : decode cX6_close 36 = .ok (.goto (-27), 3) := by decide +kernel
theorem dX6_close_39 : decode cX6_close 39 = .ok (.aload_n 0, 1) := by decide +kernel
theorem dX6_close_40 : decode cX6_close 40 = .ok (.dup, 1) := by decide +kernel
theorem dX6_close_41 : decode cX6_close 41 = .ok (.getfield 36, 3) := by decide +kernel
theorem dX6_close_44 : decode cX6_close 44 = .ok (.iconst 1, 1) := by decide +kernel
theorem dX6_close_45 : decode cX6_close 45 = .ok (.isub, 1) := by decide +kernel
theorem dX6_close_46 : decode cX6_close 46 = .ok (.putfield 36, 3) := by decide +kernel
theorem dX6_close_49 : decode cX6_close 49 = .ok (.aload_n 0, 1) := by decide +kernel
theorem dX6_close_50 : decode cX6_close 50 = .ok (.getfield 11, 3) := by decide +kernel
theorem dX6_close_53 : decode cX6_close 53 = .ok (.aload_n 0, 1) := by decide +kernel
theorem dX6_close_54 : decode cX6_close 54 = .ok (.getfield 36, 3) := by decide +kernel
theorem dX6_close_57 : decode cX6_close 57 = .ok (.aload_n 2, 1) := by decide +kernel
theorem dX6_close_58 : decode cX6_close 58 = .ok (.aastore, 1) := by decide +kernel
theorem dX6_close_59 : decode cX6_close 59 = .ok (.return_, 1) := by decide +kernel
theorem dX6_change_0 : decode cX6_change 0 = .ok (.aload_n 0, 1) := by decide +kernel
theorem dX6_change_1 : decode cX6_change 1 = .ok (.getfield 11, 3) := by decide +kernel
theorem dX6_change_4 : decode cX6_change 4 = .ok (.iload_n 1, 1) := by decide +kernel
theorem dX6_change_5 : decode cX6_change 5 = .ok (.aaload, 1) := by decide +kernel
theorem dX6_change_6 : decode cX6_change 6 = .ok (.astore_n 3, 1) := by decide +kernel
theorem dX6_change_7 : decode cX6_change 7 = .ok (.aload_n 0, 1) := by decide +kernel
theorem dX6_change_8 : decode cX6_change 8 = .ok (.getfield 11, 3) := by decide +kernel
theorem dX6_change_11 : decode cX6_change 11 = .ok (.iload_n 1, 1) := by decide +kernel
theorem dX6_change_12 : decode cX6_change 12 = .ok (.aload_n 0, 1) := by decide +kernel
theorem dX6_change_13 : decode cX6_change 13 = .ok (.getfield 11, 3) := by decide +kernel
theorem dX6_change_16 : decode cX6_change 16 = .ok (.iload_n 2, 1) := by decide +kernel
theorem dX6_change_17 : decode cX6_change 17 = .ok (.aaload, 1) := by decide +kernel
theorem dX6_change_18 : decode cX6_change 18 = .ok (.aastore, 1) := by decide +kernel
theorem dX6_change_19 : decode cX6_change 19 = .ok (.aload_n 0, 1) := by decide +kernel
theorem dX6_change_20 : decode cX6_change 20 = .ok (.getfield 11, 3) := by decide +kernel
theorem dX6_change_23 : decode cX6_change 23 = .ok (.iload_n 2, 1) := by decide +kernel
theorem dX6_change_24 : decode cX6_change 24 = .ok (.aload_n 3, 1) := by decide +kernel
theorem dX6_change_25 : decode cX6_change 25 = .ok (.aastore, 1) := by decide +kernel
theorem dX6_change_26 : decode cX6_change 26 = .ok (.aload_n 0, 1) := by decide +kernel
theorem dX6_change_27 : decode cX6_change 27 = .ok (.getfield 11, 3) := by decide +kernel
theorem dX6_change_30 : decode cX6_change 30 = .ok (.iload_n 1, 1) := by decide +kernel
theorem dX6_change_31 : decode cX6_change 31 = .ok (.aaload, 1) := by decide +kernel
theorem dX6_change_32 : decode cX6_change 32 = .ok (.getfield 116, 3) := by decide +kernel
theorem dX6_change_35 : decode cX6_change 35 = .ok (.ireturn, 1) := by decide +kernel
theorem dX6_start_0 : decode cX6_start 0 = .ok (.aload_n 1, 1) := by decide +kernel
theorem dX6_start_1 : decode cX6_start 1 = .ok (.getfield 150, 3) := by decide +kernel
theorem dX6_start_4 : decode cX6_start 4 = .ok (.aload_n 2, 1) := by decide +kernel
theorem dX6_start_5 : decode cX6_start 5 = .ok (.getfield 89, 3) := by decide +kernel
theorem dX6_start_8 : decode cX6_start 8 = .ok (.invokevirtual 119, 3) := by decide +kernel
theorem dX6_start_11 : decode cX6_start 11 = .ok (.aload_n 1, 1) := by decide +kernel
theorem dX6_start_12 : decode cX6_start 12 = .ok (.aload_n 2, 1) := by decide +kernel
theorem dX6_start_13 : decode cX6_start 13 = .ok (.getfield 94, 3) := by decide +kernel
theorem dX6_start_16 : decode cX6_start 16 = .ok (.putfield 53, 3) := by decide +kernel
theorem dX6_start_19 : decode cX6_start 19 = .ok (.aload_n 1, 1) := by decide +kernel
theorem dX6_start_20 : decode cX6_start 20 = .ok (.invokevirtual 56, 3) := by decide +kernel
theorem dX6_start_23 : decode cX6_start 23 = .ok (.aload_n 0, 1) := by decide +kernel
theorem dX6_start_24 : decode cX6_start 24 = .ok (.aload_n 1, 1) := by decide +kernel
theorem dX6_start_25 : decode cX6_start 25 = .ok (.getfield 150, 3) := by decide +kernel
theorem dX6_start_28 : decode cX6_start 28 = .ok (.invokevirtual 153, 3) := by decide +kernel
theorem dX6_start_31 : decode cX6_start 31 = .ok (.ireturn, 1) := by decide +kernel
theorem dX6_turn_0 : decode cX6_turn 0 = .ok (.iconst 0, 1) := by decide +kernel
theorem dX6_turn_1 : decode cX6_turn 1 = .ok (.istore_n 2, 1) := by decide +kernel
theorem dX6_turn_2 : decode cX6_turn 2 = .ok (.iconst 0, 1) := by decide +kernel
theorem dX6_turn_3 : decode cX6_turn 3 = .ok (.istore_n 3, 1) := by decide +kernel
theorem dX6_turn_4 : decode cX6_turn 4 = .ok (.iload_n 3, 1) := by decide +kernel
theorem dX6_turn_5 : decode cX6_turn 5 = .ok (.aload_n 0, 1) := by decide +kernel
theorem dX6_turn_6 : decode cX6_turn 6 = .ok (.getfield 36, 3) := by decide +kernel
theorem dX6_turn_9 : decode cX6_turn 9 = .ok (.if_icmp .ge 60, 3) := by decide +kernel
theorem dX6_turn_12 : decode cX6_turn 12 = .ok (.iconst 0, 1) := by decide +kernel
theorem dX6_turn_13 : decode cX6_turn 13 = .ok (.istore 4, 2) := by decide +kernel
theorem dX6_turn_15 : decode cX6_turn 15 = .ok (.iload 4, 2) := by decide +kernel
theorem dX6_turn_17 : decode cX6_turn 17 = .ok (.aload_n 0, 1) := by decide +kernel
theorem dX6_turn_18 : decode cX6_turn 18 = .ok (.getfield 11, 3) := by decide +kernel
theorem dX6_turn_21 : decode cX6_turn 21 = .ok (.iload_n 3, 1) := by decide +kernel
theorem dX6_turn_22 : decode cX6_turn 22 = .ok (.aaload, 1) := by decide +kernel
theorem dX6_turn_23 : decode cX6_turn 23 = .ok (.getfield 62, 3) := by decide +kernel
theorem dX6_turn_26 : decode cX6_turn 26 = .ok (.getfield 66, 3) := by decide +kernel
theorem dX6_turn_29 : decode cX6_turn 29 = .ok (.if_icmp .ge 34, 3) := by decide +kernel
theorem dX6_turn_32 : decode cX6_turn 32 = .ok (.aload_n 1, 1) := by decide +kernel
theorem dX6_turn_33 : decode cX6_turn 33 = .ok (.aload_n 0, 1) := by decide +kernel
theorem dX6_turn_34 : decode cX6_turn 34 = .ok (.getfield 11, 3) := by decide +kernel
theorem dX6_turn_37 : decode cX6_turn 37 = .ok (.iload_n 3, 1) := by decide +kernel
theorem dX6_turn_38 : decode cX6_turn 38 = .ok (.aaload, 1) := by decide +kernel
theorem dX6_turn_39 : decode cX6_turn 39 = .ok (.iload 4, 2) := by decide +kernel
theorem dX6_turn_41 : decode cX6_turn 41 = .ok (.invokevirtual 73, 3) := by decide +kernel
theorem dX6_turn_44 : decode cX6_turn 44 = .ok (.ifCond .eq 13, 3) := by decide +kernel
theorem dX6_turn_47 : decode cX6_turn 47 = .ok (.aload_n 0, 1) := by decide +kernel
theorem dX6_turn_48 : decode cX6_turn 48 = .ok (.aload_n 1, 1) := by decide +kernel
theorem dX6_turn_49 : decode cX6_turn 49 = .ok (.iload_n 2, 1) := by decide +kernel
theorem dX6_turn_50 : decode cX6_turn 50 = .ok (.iload_n 3, 1) := by decide +kernel
theorem dX6_turn_51 : decode cX6_turn 51 = .ok (.iload 4, 2) := by decide +kernel
theorem dX6_turn_53 : decode cX6_turn 53 = .ok (.invokevirtual 154, 3) := by decide +kernel
theorem dX6_turn_56 : decode cX6_turn 56 = .ok (.istore_n 2, 1) := by decide +kernel
theorem dX6_turn_57 : decode cX6_turn 57 = .ok (.iinc 4 1, 3) := by decide +kernel
theorem dX6_turn_60 : decode cX6_turn 60 = .ok (.goto (-45), 3) := by decide +kernel
theorem dX6_turn_63 : decode cX6_turn 63 = .ok (.iinc 3 1, 3) := by decide +kernel
theorem dX6_turn_66 : decode cX6_turn 66 = .ok (.goto (-62), 3) := by decide +kernel
theorem dX6_turn_69 : decode cX6_turn 69 = .ok (.aload_n 1, 1) := by decide +kernel
theorem dX6_turn_70 : decode cX6_turn 70 = .ok (.iconst 0, 1) := by decide +kernel
theorem dX6_turn_71 : decode cX6_turn 71 = .ok (.putfield 158, 3) := by decide +kernel
theorem dX6_turn_74 : decode cX6_turn 74 = .ok (.iconst 0, 1) := by decide +kernel
theorem dX6_turn_75 : decode cX6_turn 75 = .ok (.istore_n 3, 1) := by decide +kernel
theorem dX6_turn_76 : decode cX6_turn 76 = .ok (.iload_n 3, 1) := by decide +kernel
theorem dX6_turn_77 : decode cX6_turn 77 = .ok (.iload_n 2, 1) := by decide +kernel
theorem dX6_turn_78 : decode cX6_turn 78 = .ok (.if_icmp .ge 36, 3) := by decide +kernel
theorem dX6_turn_81 : decode cX6_turn 81 = .ok (.aload_n 1, 1) := by decide +kernel
theorem dX6_turn_82 : decode cX6_turn 82 = .ok (.aload_n 0, 1) := by decide +kernel
theorem dX6_turn_83 : decode cX6_turn 83 = .ok (.getfield 11, 3) := by decide +kernel
theorem dX6_turn_86 : decode cX6_turn 86 = .ok (.aload_n 0, 1) := by decide +kernel
theorem dX6_turn_87 : decode cX6_turn 87 = .ok (.getfield 30, 3) := by decide +kernel
theorem dX6_turn_90 : decode cX6_turn 90 = .ok (.iload_n 3, 1) := by decide +kernel
theorem dX6_turn_91 : decode cX6_turn 91 = .ok (.iaload, 1) := by decide +kernel
theorem dX6_turn_92 : decode cX6_turn 92 = .ok (.bipush 20, 2) := by decide +kernel
theorem dX6_turn_94 : decode cX6_turn 94 = .ok (.idiv, 1) := by decide +kernel
theorem dX6_turn_95 : decode cX6_turn 95 = .ok (.aaload, 1) := by decide +kernel
theorem dX6_turn_96 : decode cX6_turn 96 = .ok (.aload_n 0, 1) := by decide +kernel
theorem dX6_turn_97 : decode cX6_turn 97 = .ok (.getfield 30, 3) := by decide +kernel
theorem dX6_turn_100 : decode cX6_turn 100 = .ok (.iload_n 3, 1) := by decide +kernel
theorem dX6_turn_101 : decode cX6_turn 101 = .ok (.iaload, 1) := by decide +kernel
theorem dX6_turn_102 : decode cX6_turn 102 = .ok (.bipush 20, 2) := by decide +kernel
theorem dX6_turn_104 : decode cX6_turn 104 = .ok (.irem, 1) := by decide +kernel
theorem dX6_turn_105 : decode cX6_turn 105 = .ok (.invokevirtual 161, 3) := by decide +kernel
theorem dX6_turn_108 : decode cX6_turn 108 = .ok (.iinc 3 1, 3) := by decide +kernel
theorem dX6_turn_111 : decode cX6_turn 111 = .ok (.goto (-35), 3) := by decide +kernel
theorem dX6_turn_114 : decode cX6_turn 114 = .ok (.iload_n 2, 1) := by decide +kernel
theorem dX6_turn_115 : decode cX6_turn 115 = .ok (.ireturn, 1) := by decide +kernel
theorem dX6_offer_0 : decode cX6_offer 0 = .ok (.iload_n 2, 1) := by decide +kernel
theorem dX6_offer_1 : decode cX6_offer 1 = .ok (.istore 5, 2) := by decide +kernel
theorem dX6_offer_3 : decode cX6_offer 3 = .ok (.iload 5, 2) := by decide +kernel
theorem dX6_offer_5 : decode cX6_offer 5 = .ok (.ifCond .le 59, 3) := by decide +kernel
theorem dX6_offer_8 : decode cX6_offer 8 = .ok (.aload_n 0, 1) := by decide +kernel
theorem dX6_offer_9 : decode cX6_offer 9 = .ok (.getfield 11, 3) := by decide +kernel
theorem dX6_offer_12 : decode cX6_offer 12 = .ok (.iload_n 3, 1) := by decide +kernel
theorem dX6_offer_13 : decode cX6_offer 13 = .ok (.aaload, 1) := by decide +kernel
theorem dX6_offer_14 : decode cX6_offer 14 = .ok (.iload 4, 2) := by decide +kernel
theorem dX6_offer_16 : decode cX6_offer 16 = .ok (.aload_n 0, 1) := by decide +kernel
theorem dX6_offer_17 : decode cX6_offer 17 = .ok (.getfield 11, 3) := by decide +kernel
theorem dX6_offer_20 : decode cX6_offer 20 = .ok (.aload_n 0, 1) := by decide +kernel
theorem dX6_offer_21 : decode cX6_offer 21 = .ok (.getfield 30, 3) := by decide +kernel
theorem dX6_offer_24 : decode cX6_offer 24 = .ok (.iload 5, 2) := by decide +kernel
theorem dX6_offer_26 : decode cX6_offer 26 = .ok (.iconst 1, 1) := by decide +kernel
theorem dX6_offer_27 : decode cX6_offer 27 = .ok (.isub, 1) := by decide +kernel
theorem dX6_offer_28 : decode cX6_offer 28 = .ok (.iaload, 1) := by decide +kernel
theorem dX6_offer_29 : decode cX6_offer 29 = .ok (.bipush 20, 2) := by decide +kernel
theorem dX6_offer_31 : decode cX6_offer 31 = .ok (.idiv, 1) := by decide +kernel
theorem dX6_offer_32 : decode cX6_offer 32 = .ok (.aaload, 1) := by decide +kernel
theorem dX6_offer_33 : decode cX6_offer 33 = .ok (.aload_n 0, 1) := by decide +kernel
theorem dX6_offer_34 : decode cX6_offer 34 = .ok (.getfield 30, 3) := by decide +kernel
theorem dX6_offer_37 : decode cX6_offer 37 = .ok (.iload 5, 2) := by decide +kernel
theorem dX6_offer_39 : decode cX6_offer 39 = .ok (.iconst 1, 1) := by decide +kernel
theorem dX6_offer_40 : decode cX6_offer 40 = .ok (.isub, 1) := by decide +kernel
theorem dX6_offer_41 : decode cX6_offer 41 = .ok (.iaload, 1) := by decide +kernel
theorem dX6_offer_42 : decode cX6_offer 42 = .ok (.bipush 20, 2) := by decide +kernel
theorem dX6_offer_44 : decode cX6_offer 44 = .ok (.irem, 1) := by decide +kernel
theorem dX6_offer_45 : decode cX6_offer 45 = .ok (.aload_n 1, 1) := by decide +kernel
theorem dX6_offer_46 : decode cX6_offer 46 = .ok (.getfield 150, 3) := by decide +kernel
theorem dX6_offer_49 : decode cX6_offer 49 = .ok (.getfield 66, 3) := by decide +kernel
theorem dX6_offer_52 : decode cX6_offer 52 = .ok (.invokevirtual 165, 3) := by decide +kernel
theorem dX6_offer_55 : decode cX6_offer 55 = .ok (.ifCond .ge 9, 3) := by decide +kernel
theorem dX6_offer_58 : decode cX6_offer 58 = .ok (.iinc 5 (-1), 3) := by decide +kernel
theorem dX6_offer_61 : decode cX6_offer 61 = .ok (.goto (-58), 3) := by decide +kernel
theorem dX6_offer_64 : decode cX6_offer 64 = .ok (.iload 5, 2) := by decide +kernel
theorem dX6_offer_66 : decode cX6_offer 66 = .ok (.aload_n 1, 1) := by decide +kernel
theorem dX6_offer_67 : decode cX6_offer 67 = .ok (.getfield 53, 3) := by decide +kernel
theorem dX6_offer_70 : decode cX6_offer 70 = .ok (.if_icmp .ge 13, 3) := by decide +kernel
theorem dX6_offer_73 : decode cX6_offer 73 = .ok (.iload 5, 2) := by decide +kernel
theorem dX6_offer_75 : decode cX6_offer 75 = .ok (.aload_n 0, 1) := by decide +kernel
theorem dX6_offer_76 : decode cX6_offer 76 = .ok (.getfield 30, 3) := by decide +kernel
theorem dX6_offer_79 : decode cX6_offer 79 = .ok (.arraylength, 1) := by decide +kernel
theorem dX6_offer_80 : decode cX6_offer 80 = .ok (.if_icmp .lt 5, 3) := by decide +kernel
theorem dX6_offer_83 : decode cX6_offer 83 = .ok (.iload_n 2, 1) := by decide +kernel
theorem dX6_offer_84 : decode cX6_offer 84 = .ok (.ireturn, 1) := by decide +kernel
theorem dX6_offer_85 : decode cX6_offer 85 = .ok (.iload_n 2, 1) := by decide +kernel
theorem dX6_offer_86 : decode cX6_offer 86 = .ok (.aload_n 1, 1) := by decide +kernel
theorem dX6_offer_87 : decode cX6_offer 87 = .ok (.getfield 53, 3) := by decide +kernel
theorem dX6_offer_90 : decode cX6_offer 90 = .ok (.iconst 1, 1) := by decide +kernel
theorem dX6_offer_91 : decode cX6_offer 91 = .ok (.isub, 1) := by decide +kernel
theorem dX6_offer_92 : decode cX6_offer 92 = .ok (.invokestatic 169, 3) := by decide +kernel
theorem dX6_offer_95 : decode cX6_offer 95 = .ok (.istore 6, 2) := by decide +kernel
theorem dX6_offer_97 : decode cX6_offer 97 = .ok (.iload 6, 2) := by decide +kernel
theorem dX6_offer_99 : decode cX6_offer 99 = .ok (.istore 7, 2) := by decide +kernel
theorem dX6_offer_101 : decode cX6_offer 101 = .ok (.iload 7, 2) := by decide +kernel
theorem dX6_offer_103 : decode cX6_offer 103 = .ok (.iload 5, 2) := by decide +kernel
theorem dX6_offer_105 : decode cX6_offer 105 = .ok (.if_icmp .le 25, 3) := by decide +kernel
theorem dX6_offer_108 : decode cX6_offer 108 = .ok (.aload_n 0, 1) := by decide +kernel
theorem dX6_offer_109 : decode cX6_offer 109 = .ok (.getfield 30, 3) := by decide +kernel
theorem dX6_offer_112 : decode cX6_offer 112 = .ok (.iload 7, 2) := by decide +kernel
theorem dX6_offer_114 : decode cX6_offer 114 = .ok (.aload_n 0, 1) := by decide +kernel
theorem dX6_offer_115 : decode cX6_offer 115 = .ok (.getfield 30, 3) := by decide +kernel
theorem dX6_offer_118 : decode cX6_offer 118 = .ok (.iload 7, 2) := by decide +kernel
theorem dX6_offer_120 : decode cX6_offer 120 = .ok (.iconst 1, 1) := by decide +kernel
theorem dX6_offer_121 : decode cX6_offer 121 = .ok (.isub, 1) := by decide +kernel
theorem dX6_offer_122 : decode cX6_offer 122 = .ok (.iaload, 1) := by decide +kernel
theorem dX6_offer_123 : decode cX6_offer 123 = .ok (.iastore, 1) := by decide +kernel
theorem dX6_offer_124 : decode cX6_offer 124 = .ok (.iinc 7 (-1), 3) := by decide +kernel
theorem dX6_offer_127 : decode cX6_offer 127 = .ok (.goto (-26), 3) := by decide +kernel
theorem dX6_offer_130 : decode cX6_offer 130 = .ok (.aload_n 0, 1) := by decide +kernel
theorem dX6_offer_131 : decode cX6_offer 131 = .ok (.getfield 30, 3) := by decide +kernel
theorem dX6_offer_134 : decode cX6_offer 134 = .ok (.iload 5, 2) := by decide +kernel
theorem dX6_offer_136 : decode cX6_offer 136 = .ok (.iload_n 3, 1) := by decide +kernel
theorem dX6_offer_137 : decode cX6_offer 137 = .ok (.bipush 20, 2) := by decide +kernel
theorem dX6_offer_139 : decode cX6_offer 139 = .ok (.imul, 1) := by decide +kernel
theorem dX6_offer_140 : decode cX6_offer 140 = .ok (.iload 4, 2) := by decide +kernel
theorem dX6_offer_142 : decode cX6_offer 142 = .ok (.iadd, 1) := by decide +kernel
theorem dX6_offer_143 : decode cX6_offer 143 = .ok (.iastore, 1) := by decide +kernel
theorem dX6_offer_144 : decode cX6_offer 144 = .ok (.iload 6, 2) := by decide +kernel
theorem dX6_offer_146 : decode cX6_offer 146 = .ok (.iconst 1, 1) := by decide +kernel
theorem dX6_offer_147 : decode cX6_offer 147 = .ok (.iadd, 1) := by decide +kernel
theorem dX6_offer_148 : decode cX6_offer 148 = .ok (.ireturn, 1) := by decide +kernel
theorem dX6_cut_0 : decode cX6_cut 0 = .ok (.aload_n 0, 1) := by decide +kernel
theorem dX6_cut_1 : decode cX6_cut 1 = .ok (.getfield 11, 3) := by decide +kernel
theorem dX6_cut_4 : decode cX6_cut 4 = .ok (.iload_n 1, 1) := by decide +kernel
theorem dX6_cut_5 : decode cX6_cut 5 = .ok (.aaload, 1) := by decide +kernel
theorem dX6_cut_6 : decode cX6_cut 6 = .ok (.getfield 62, 3) := by decide +kernel
theorem dX6_cut_9 : decode cX6_cut 9 = .ok (.astore_n 3, 1) := by decide +kernel
theorem dX6_cut_10 : decode cX6_cut 10 = .ok (.aload_n 0, 1) := by decide +kernel
theorem dX6_cut_11 : decode cX6_cut 11 = .ok (.iload_n 1, 1) := by decide +kernel
theorem dX6_cut_12 : decode cX6_cut 12 = .ok (.iconst 1, 1) := by decide +kernel
theorem dX6_cut_13 : decode cX6_cut 13 = .ok (.iadd, 1) := by decide +kernel
theorem dX6_cut_14 : decode cX6_cut 14 = .ok (.invokevirtual 122, 3) := by decide +kernel
theorem dX6_cut_17 : decode cX6_cut 17 = .ok (.astore 4, 2) := by decide +kernel
theorem dX6_cut_19 : decode cX6_cut 19 = .ok (.aload 4, 2) := by decide +kernel
theorem dX6_cut_21 : decode cX6_cut 21 = .ok (.getfield 62, 3) := by decide +kernel
theorem dX6_cut_24 : decode cX6_cut 24 = .ok (.iconst 0, 1) := by decide +kernel
theorem dX6_cut_25 : decode cX6_cut 25 = .ok (.putfield 66, 3) := by decide +kernel
theorem dX6_cut_28 : decode cX6_cut 28 = .ok (.iload_n 2, 1) := by decide +kernel
theorem dX6_cut_29 : decode cX6_cut 29 = .ok (.istore 5, 2) := by decide +kernel
theorem dX6_cut_31 : decode cX6_cut 31 = .ok (.iload 5, 2) := by decide +kernel
theorem dX6_cut_33 : decode cX6_cut 33 = .ok (.aload_n 3, 1) := by decide +kernel
theorem dX6_cut_34 : decode cX6_cut 34 = .ok (.getfield 66, 3) := by decide +kernel
theorem dX6_cut_37 : decode cX6_cut 37 = .ok (.if_icmp .ge 23, 3) := by decide +kernel
theorem dX6_cut_40 : decode cX6_cut 40 = .ok (.aload 4, 2) := by decide +kernel
theorem dX6_cut_42 : decode cX6_cut 42 = .ok (.getfield 62, 3) := by decide +kernel
theorem dX6_cut_45 : decode cX6_cut 45 = .ok (.aload_n 3, 1) := by decide +kernel
theorem dX6_cut_46 : decode cX6_cut 46 = .ok (.iload 5, 2) := by decide +kernel
theorem dX6_cut_48 : decode cX6_cut 48 = .ok (.invokevirtual 174, 3) := by decide +kernel
theorem dX6_cut_51 : decode cX6_cut 51 = .ok (.invokevirtual 177, 3) := by decide +kernel
theorem dX6_cut_54 : decode cX6_cut 54 = .ok (.iinc 5 1, 3) := by decide +kernel
theorem dX6_cut_57 : decode cX6_cut 57 = .ok (.goto (-26), 3) := by decide +kernel
theorem dX6_cut_60 : decode cX6_cut 60 = .ok (.aload_n 3, 1) := by decide +kernel
theorem dX6_cut_61 : decode cX6_cut 61 = .ok (.iload_n 2, 1) := by decide +kernel
theorem dX6_cut_62 : decode cX6_cut 62 = .ok (.putfield 66, 3) := by decide +kernel
theorem dX6_cut_65 : decode cX6_cut 65 = .ok (.aload 4, 2) := by decide +kernel
theorem dX6_cut_67 : decode cX6_cut 67 = .ok (.getfield 116, 3) := by decide +kernel
theorem dX6_cut_70 : decode cX6_cut 70 = .ok (.ireturn, 1) := by decide +kernel
theorem dX6_unite_0 : decode cX6_unite 0 = .ok (.aload_n 0, 1) := by decide +kernel
theorem dX6_unite_1 : decode cX6_unite 1 = .ok (.getfield 11, 3) := by decide +kernel
theorem dX6_unite_4 : decode cX6_unite 4 = .ok (.iload_n 1, 1) := by decide +kernel
theorem dX6_unite_5 : decode cX6_unite 5 = .ok (.aaload, 1) := by decide +kernel
theorem dX6_unite_6 : decode cX6_unite 6 = .ok (.getfield 62, 3) := by decide +kernel
theorem dX6_unite_9 : decode cX6_unite 9 = .ok (.astore_n 2, 1) := by decide +kernel
theorem dX6_unite_10 : decode cX6_unite 10 = .ok (.aload_n 0, 1) := by decide +kernel
theorem dX6_unite_11 : decode cX6_unite 11 = .ok (.getfield 11, 3) := by decide +kernel
theorem dX6_unite_14 : decode cX6_unite 14 = .ok (.iload_n 1, 1) := by decide +kernel
theorem dX6_unite_15 : decode cX6_unite 15 = .ok (.iconst 1, 1) := by decide +kernel
theorem dX6_unite_16 : decode cX6_unite 16 = .ok (.iadd, 1) := by decide +kernel
theorem dX6_unite_17 : decode cX6_unite 17 = .ok (.aaload, 1) := by decide +kernel
theorem dX6_unite_18 : decode cX6_unite 18 = .ok (.getfield 62, 3) := by decide +kernel
theorem dX6_unite_21 : decode cX6_unite 21 = .ok (.astore_n 3, 1) := by decide +kernel
theorem dX6_unite_22 : decode cX6_unite 22 = .ok (.iconst 0, 1) := by decide +kernel
theorem dX6_unite_23 : decode cX6_unite 23 = .ok (.istore 4, 2) := by decide +kernel
theorem dX6_unite_25 : decode cX6_unite 25 = .ok (.iload 4, 2) := by decide +kernel
theorem dX6_unite_27 : decode cX6_unite 27 = .ok (.aload_n 3, 1) := by decide +kernel
theorem dX6_unite_28 : decode cX6_unite 28 = .ok (.getfield 66, 3) := by decide +kernel
theorem dX6_unite_31 : decode cX6_unite 31 = .ok (.if_icmp .ge 19, 3) := by decide +kernel
theorem dX6_unite_34 : decode cX6_unite 34 = .ok (.aload_n 2, 1) := by decide +kernel
theorem dX6_unite_35 : decode cX6_unite 35 = .ok (.aload_n 3, 1) := by decide +kernel
theorem dX6_unite_36 : decode cX6_unite 36 = .ok (.iload 4, 2) := by decide +kernel
theorem dX6_unite_38 : decode cX6_unite 38 = .ok (.invokevirtual 174, 3) := by decide +kernel
theorem dX6_unite_41 : decode cX6_unite 41 = .ok (.invokevirtual 177, 3) := by decide +kernel
theorem dX6_unite_44 : decode cX6_unite 44 = .ok (.iinc 4 1, 3) := by decide +kernel
theorem dX6_unite_47 : decode cX6_unite 47 = .ok (.goto (-22), 3) := by decide +kernel
theorem dX6_unite_50 : decode cX6_unite 50 = .ok (.aload_n 0, 1) := by decide +kernel
theorem dX6_unite_51 : decode cX6_unite 51 = .ok (.iload_n 1, 1) := by decide +kernel
theorem dX6_unite_52 : decode cX6_unite 52 = .ok (.iconst 1, 1) := by decide +kernel
theorem dX6_unite_53 : decode cX6_unite 53 = .ok (.iadd, 1) := by decide +kernel
theorem dX6_unite_54 : decode cX6_unite 54 = .ok (.invokevirtual 126, 3) := by decide +kernel
theorem dX6_unite_57 : decode cX6_unite 57 = .ok (.aload_n 2, 1) := by decide +kernel
theorem dX6_unite_58 : decode cX6_unite 58 = .ok (.getfield 66, 3) := by decide +kernel
theorem dX6_unite_61 : decode cX6_unite 61 = .ok (.ireturn, 1) := by decide +kernel
theorem dX6_longestLine_0 : decode cX6_longestLine 0 = .ok (.iconst 0, 1) := by decide +kernel
theorem dX6_longestLine_1 : decode cX6_longestLine 1 = .ok (.istore_n 1, 1) := by decide +kernel
theorem dX6_longestLine_2 : decode cX6_longestLine 2 = .ok (.iconst 1, 1) := by decide +kernel
theorem dX6_longestLine_3 : decode cX6_longestLine 3 = .ok (.istore_n 2, 1) := by decide +kernel
theorem dX6_longestLine_4 : decode cX6_longestLine 4 = .ok (.iload_n 2, 1) := by decide +kernel
theorem dX6_longestLine_5 : decode cX6_longestLine 5 = .ok (.aload_n 0, 1) := by decide +kernel
theorem dX6_longestLine_6 : decode cX6_longestLine 6 = .ok (.getfield 36, 3) := by decide +kernel
theorem dX6_longestLine_9 : decode cX6_longestLine 9 = .ok (.if_icmp .ge 38, 3) := by decide +kernel
theorem dX6_longestLine_12 : decode cX6_longestLine 12 = .ok (.aload_n 0, 1) := by decide +kernel
theorem dX6_longestLine_13 : decode cX6_longestLine 13 = .ok (.getfield 11, 3) := by decide +kernel
theorem dX6_longestLine_16 : decode cX6_longestLine 16 = .ok (.iload_n 2, 1) := by decide +kernel
theorem dX6_longestLine_17 : decode cX6_longestLine 17 = .ok (.aaload, 1) := by decide +kernel
theorem dX6_longestLine_18 : decode cX6_longestLine 18 = .ok (.getfield 62, 3) := by decide +kernel
theorem dX6_longestLine_21 : decode cX6_longestLine 21 = .ok (.getfield 66, 3) := by decide +kernel
theorem dX6_longestLine_24 : decode cX6_longestLine 24 = .ok (.aload_n 0, 1) := by decide +kernel
theorem dX6_longestLine_25 : decode cX6_longestLine 25 = .ok (.getfield 11, 3) := by decide +kernel
theorem dX6_longestLine_28 : decode cX6_longestLine 28 = .ok (.iload_n 1, 1) := by decide +kernel
theorem dX6_longestLine_29 : decode cX6_longestLine 29 = .ok (.aaload, 1) := by decide +kernel
theorem dX6_longestLine_30 : decode cX6_longestLine 30 = .ok (.getfield 62, 3) := by decide +kernel
theorem dX6_longestLine_33 : decode cX6_longestLine 33 = .ok (.getfield 66, 3) := by decide +kernel
theorem dX6_longestLine_36 : decode cX6_longestLine 36 = .ok (.if_icmp .le 5, 3) := by decide +kernel
theorem dX6_longestLine_39 : decode cX6_longestLine 39 = .ok (.iload_n 2, 1) := by decide +kernel
theorem dX6_longestLine_40 : decode cX6_longestLine 40 = .ok (.istore_n 1, 1) := by decide +kernel
theorem dX6_longestLine_41 : decode cX6_longestLine 41 = .ok (.iinc 2 1, 3) := by decide +kernel
theorem dX6_longestLine_44 : decode cX6_longestLine 44 = .ok (.goto (-40), 3) := by decide +kernel
theorem dX6_longestLine_47 : decode cX6_longestLine 47 = .ok (.iload_n 1, 1) := by decide +kernel
theorem dX6_longestLine_48 : decode cX6_longestLine 48 = .ok (.ireturn, 1) := by decide +kernel
theorem dX6_shortestLine_0 : decode cX6_shortestLine 0 = .ok (.iconst 0, 1) := by decide +kernel
theorem dX6_shortestLine_1 : decode cX6_shortestLine 1 = .ok (.istore_n 1, 1) := by decide +kernel
theorem dX6_shortestLine_2 : decode cX6_shortestLine 2 = .ok (.iconst 1, 1) := by decide +kernel
theorem dX6_shortestLine_3 : decode cX6_shortestLine 3 = .ok (.istore_n 2, 1) := by decide +kernel
theorem dX6_shortestLine_4 : decode cX6_shortestLine 4 = .ok (.iload_n 2, 1) := by decide +kernel
theorem dX6_shortestLine_5 : decode cX6_shortestLine 5 = .ok (.aload_n 0, 1) := by decide +kernel
theorem dX6_shortestLine_6 : decode cX6_shortestLine 6 = .ok (.getfield 36, 3) := by decide +kernel
theorem dX6_shortestLine_9 : decode cX6_shortestLine 9 = .ok (.if_icmp .ge 38, 3) := by decide +kernel
theorem dX6_shortestLine_12 : decode cX6_shortestLine 12 = .ok (.aload_n 0, 1) := by decide +kernel
theorem dX6_shortestLine_13 : decode cX6_shortestLine 13 = .ok (.getfield 11, 3) := by decide +kernel
theorem dX6_shortestLine_16 : decode cX6_shortestLine 16 = .ok (.iload_n 2, 1) := by decide +kernel
theorem dX6_shortestLine_17 : decode cX6_shortestLine 17 = .ok (.aaload, 1) := by decide +kernel
theorem dX6_shortestLine_18 : decode cX6_shortestLine 18 = .ok (.getfield 62, 3) := by decide +kernel
theorem dX6_shortestLine_21 : decode cX6_shortestLine 21 = .ok (.getfield 66, 3) := by decide +kernel
theorem dX6_shortestLine_24 : decode cX6_shortestLine 24 = .ok (.aload_n 0, 1) := by decide +kernel
theorem dX6_shortestLine_25 : decode cX6_shortestLine 25 = .ok (.getfield 11, 3) := by decide +kernel
theorem dX6_shortestLine_28 : decode cX6_shortestLine 28 = .ok (.iload_n 1, 1) := by decide +kernel
theorem dX6_shortestLine_29 : decode cX6_shortestLine 29 = .ok (.aaload, 1) := by decide +kernel
theorem dX6_shortestLine_30 : decode cX6_shortestLine 30 = .ok (.getfield 62, 3) := by decide +kernel
theorem dX6_shortestLine_33 : decode cX6_shortestLine 33 = .ok (.getfield 66, 3) := by decide +kernel
theorem dX6_shortestLine_36 : decode cX6_shortestLine 36 = .ok (.if_icmp .ge 5, 3) := by decide +kernel
theorem dX6_shortestLine_39 : decode cX6_shortestLine 39 = .ok (.iload_n 2, 1) := by decide +kernel
theorem dX6_shortestLine_40 : decode cX6_shortestLine 40 = .ok (.istore_n 1, 1) := by decide +kernel
theorem dX6_shortestLine_41 : decode cX6_shortestLine 41 = .ok (.iinc 2 1, 3) := by decide +kernel
theorem dX6_shortestLine_44 : decode cX6_shortestLine 44 = .ok (.goto (-40), 3) := by decide +kernel
theorem dX6_shortestLine_47 : decode cX6_shortestLine 47 = .ok (.iload_n 1, 1) := by decide +kernel
theorem dX6_shortestLine_48 : decode cX6_shortestLine 48 = .ok (.ireturn, 1) := by decide +kernel
theorem dX6_risingLines_0 : decode cX6_risingLines 0 = .ok (.iconst 1, 1) := by decide +kernel
theorem dX6_risingLines_1 : decode cX6_risingLines 1 = .ok (.istore_n 1, 1) := by decide +kernel
theorem dX6_risingLines_2 : decode cX6_risingLines 2 = .ok (.iload_n 1, 1) := by decide +kernel
theorem dX6_risingLines_3 : decode cX6_risingLines 3 = .ok (.aload_n 0, 1) := by decide +kernel
theorem dX6_risingLines_4 : decode cX6_risingLines 4 = .ok (.getfield 36, 3) := by decide +kernel
theorem dX6_risingLines_7 : decode cX6_risingLines 7 = .ok (.if_icmp .ge 32, 3) := by decide +kernel
theorem dX6_risingLines_10 : decode cX6_risingLines 10 = .ok (.aload_n 0, 1) := by decide +kernel
theorem dX6_risingLines_11 : decode cX6_risingLines 11 = .ok (.getfield 11, 3) := by decide +kernel
theorem dX6_risingLines_14 : decode cX6_risingLines 14 = .ok (.iload_n 1, 1) := by decide +kernel
theorem dX6_risingLines_15 : decode cX6_risingLines 15 = .ok (.aaload, 1) := by decide +kernel
theorem dX6_risingLines_16 : decode cX6_risingLines 16 = .ok (.getfield 116, 3) := by decide +kernel
theorem dX6_risingLines_19 : decode cX6_risingLines 19 = .ok (.aload_n 0, 1) := by decide +kernel
theorem dX6_risingLines_20 : decode cX6_risingLines 20 = .ok (.getfield 11, 3) := by decide +kernel
theorem dX6_risingLines_23 : decode cX6_risingLines 23 = .ok (.iload_n 1, 1) := by decide +kernel
theorem dX6_risingLines_24 : decode cX6_risingLines 24 = .ok (.iconst 1, 1) := by decide +kernel
theorem dX6_risingLines_25 : decode cX6_risingLines 25 = .ok (.isub, 1) := by decide +kernel
theorem dX6_risingLines_26 : decode cX6_risingLines 26 = .ok (.aaload, 1) := by decide +kernel
theorem dX6_risingLines_27 : decode cX6_risingLines 27 = .ok (.getfield 116, 3) := by decide +kernel
theorem dX6_risingLines_30 : decode cX6_risingLines 30 = .ok (.if_icmp .le 9, 3) := by decide +kernel
theorem dX6_risingLines_33 : decode cX6_risingLines 33 = .ok (.iinc 1 1, 3) := by decide +kernel
theorem dX6_risingLines_36 : decode cX6_risingLines 36 = .ok (.goto (-34), 3) := by decide +kernel
theorem dX6_risingLines_39 : decode cX6_risingLines 39 = .ok (.iload_n 1, 1) := by decide +kernel
theorem dX6_risingLines_40 : decode cX6_risingLines 40 = .ok (.ireturn, 1) := by decide +kernel
theorem dX6_laidBits_0 : decode cX6_laidBits 0 = .ok (.iconst 0, 1) := by decide +kernel
theorem dX6_laidBits_1 : decode cX6_laidBits 1 = .ok (.istore_n 1, 1) := by decide +kernel
theorem dX6_laidBits_2 : decode cX6_laidBits 2 = .ok (.iconst 0, 1) := by decide +kernel
theorem dX6_laidBits_3 : decode cX6_laidBits 3 = .ok (.istore_n 2, 1) := by decide +kernel
theorem dX6_laidBits_4 : decode cX6_laidBits 4 = .ok (.iload_n 2, 1) := by decide +kernel
theorem dX6_laidBits_5 : decode cX6_laidBits 5 = .ok (.aload_n 0, 1) := by decide +kernel
theorem dX6_laidBits_6 : decode cX6_laidBits 6 = .ok (.getfield 19, 3) := by decide +kernel
theorem dX6_laidBits_9 : decode cX6_laidBits 9 = .ok (.arraylength, 1) := by decide +kernel
theorem dX6_laidBits_10 : decode cX6_laidBits 10 = .ok (.if_icmp .ge 23, 3) := by decide +kernel
theorem dX6_laidBits_13 : decode cX6_laidBits 13 = .ok (.aload_n 0, 1) := by decide +kernel
theorem dX6_laidBits_14 : decode cX6_laidBits 14 = .ok (.iload_n 2, 1) := by decide +kernel
theorem dX6_laidBits_15 : decode cX6_laidBits 15 = .ok (.invokevirtual 109, 3) := by decide +kernel
theorem dX6_laidBits_18 : decode cX6_laidBits 18 = .ok (.ifCond .eq 9, 3) := by decide +kernel
theorem dX6_laidBits_21 : decode cX6_laidBits 21 = .ok (.iload_n 1, 1) := by decide +kernel
theorem dX6_laidBits_22 : decode cX6_laidBits 22 = .ok (.iconst 1, 1) := by decide +kernel
theorem dX6_laidBits_23 : decode cX6_laidBits 23 = .ok (.iload_n 2, 1) := by decide +kernel
theorem dX6_laidBits_24 : decode cX6_laidBits 24 = .ok (.ishl, 1) := by decide +kernel
theorem dX6_laidBits_25 : decode cX6_laidBits 25 = .ok (.ior, 1) := by decide +kernel
theorem dX6_laidBits_26 : decode cX6_laidBits 26 = .ok (.istore_n 1, 1) := by decide +kernel
theorem dX6_laidBits_27 : decode cX6_laidBits 27 = .ok (.iinc 2 1, 3) := by decide +kernel
theorem dX6_laidBits_30 : decode cX6_laidBits 30 = .ok (.goto (-26), 3) := by decide +kernel
theorem dX6_laidBits_33 : decode cX6_laidBits 33 = .ok (.iload_n 1, 1) := by decide +kernel
theorem dX6_laidBits_34 : decode cX6_laidBits 34 = .ok (.ireturn, 1) := by decide +kernel
theorem dX6_withinBits_0 : decode cX6_withinBits 0 = .ok (.iconst 0, 1) := by decide +kernel
theorem dX6_withinBits_1 : decode cX6_withinBits 1 = .ok (.istore_n 1, 1) := by decide +kernel
theorem dX6_withinBits_2 : decode cX6_withinBits 2 = .ok (.iconst 0, 1) := by decide +kernel
theorem dX6_withinBits_3 : decode cX6_withinBits 3 = .ok (.istore_n 2, 1) := by decide +kernel
theorem dX6_withinBits_4 : decode cX6_withinBits 4 = .ok (.iload_n 2, 1) := by decide +kernel
theorem dX6_withinBits_5 : decode cX6_withinBits 5 = .ok (.aload_n 0, 1) := by decide +kernel
theorem dX6_withinBits_6 : decode cX6_withinBits 6 = .ok (.getfield 36, 3) := by decide +kernel
theorem dX6_withinBits_9 : decode cX6_withinBits 9 = .ok (.if_icmp .ge 60, 3) := by decide +kernel
theorem dX6_withinBits_12 : decode cX6_withinBits 12 = .ok (.iconst 0, 1) := by decide +kernel
theorem dX6_withinBits_13 : decode cX6_withinBits 13 = .ok (.istore_n 3, 1) := by decide +kernel
theorem dX6_withinBits_14 : decode cX6_withinBits 14 = .ok (.iload_n 3, 1) := by decide +kernel
theorem dX6_withinBits_15 : decode cX6_withinBits 15 = .ok (.aload_n 0, 1) := by decide +kernel
theorem dX6_withinBits_16 : decode cX6_withinBits 16 = .ok (.getfield 36, 3) := by decide +kernel
theorem dX6_withinBits_19 : decode cX6_withinBits 19 = .ok (.if_icmp .ge 44, 3) := by decide +kernel
theorem dX6_withinBits_22 : decode cX6_withinBits 22 = .ok (.iload_n 3, 1) := by decide +kernel
theorem dX6_withinBits_23 : decode cX6_withinBits 23 = .ok (.iload_n 2, 1) := by decide +kernel
theorem dX6_withinBits_24 : decode cX6_withinBits 24 = .ok (.if_icmp .eq 33, 3) := by decide +kernel
theorem dX6_withinBits_27 : decode cX6_withinBits 27 = .ok (.aload_n 0, 1) := by decide +kernel
theorem dX6_withinBits_28 : decode cX6_withinBits 28 = .ok (.getfield 11, 3) := by decide +kernel
theorem dX6_withinBits_31 : decode cX6_withinBits 31 = .ok (.iload_n 3, 1) := by decide +kernel
theorem dX6_withinBits_32 : decode cX6_withinBits 32 = .ok (.aaload, 1) := by decide +kernel
theorem dX6_withinBits_33 : decode cX6_withinBits 33 = .ok (.getfield 62, 3) := by decide +kernel
theorem dX6_withinBits_36 : decode cX6_withinBits 36 = .ok (.aload_n 0, 1) := by decide +kernel
theorem dX6_withinBits_37 : decode cX6_withinBits 37 = .ok (.getfield 11, 3) := by decide +kernel
theorem dX6_withinBits_40 : decode cX6_withinBits 40 = .ok (.iload_n 2, 1) := by decide +kernel
theorem dX6_withinBits_41 : decode cX6_withinBits 41 = .ok (.aaload, 1) := by decide +kernel
theorem dX6_withinBits_42 : decode cX6_withinBits 42 = .ok (.getfield 62, 3) := by decide +kernel
theorem dX6_withinBits_45 : decode cX6_withinBits 45 = .ok (.invokevirtual 69, 3) := by decide +kernel
theorem dX6_withinBits_48 : decode cX6_withinBits 48 = .ok (.ifCond .le 9, 3) := by decide +kernel
theorem dX6_withinBits_51 : decode cX6_withinBits 51 = .ok (.iload_n 1, 1) := by decide +kernel
theorem dX6_withinBits_52 : decode cX6_withinBits 52 = .ok (.iconst 1, 1) := by decide +kernel
theorem dX6_withinBits_53 : decode cX6_withinBits 53 = .ok (.iload_n 2, 1) := by decide +kernel
theorem dX6_withinBits_54 : decode cX6_withinBits 54 = .ok (.ishl, 1) := by decide +kernel
theorem dX6_withinBits_55 : decode cX6_withinBits 55 = .ok (.ior, 1) := by decide +kernel
theorem dX6_withinBits_56 : decode cX6_withinBits 56 = .ok (.istore_n 1, 1) := by decide +kernel
theorem dX6_withinBits_57 : decode cX6_withinBits 57 = .ok (.iinc 3 1, 3) := by decide +kernel
theorem dX6_withinBits_60 : decode cX6_withinBits 60 = .ok (.goto (-46), 3) := by decide +kernel
theorem dX6_withinBits_63 : decode cX6_withinBits 63 = .ok (.iinc 2 1, 3) := by decide +kernel
theorem dX6_withinBits_66 : decode cX6_withinBits 66 = .ok (.goto (-62), 3) := by decide +kernel
theorem dX6_withinBits_69 : decode cX6_withinBits 69 = .ok (.iload_n 1, 1) := by decide +kernel
theorem dX6_withinBits_70 : decode cX6_withinBits 70 = .ok (.ireturn, 1) := by decide +kernel
theorem dX7_init_0 : decode cX7_init 0 = .ok (.aload_n 0, 1) := by decide +kernel
theorem dX7_init_1 : decode cX7_init 1 = .ok (.invokespecial 1, 3) := by decide +kernel
theorem dX7_init_4 : decode cX7_init 4 = .ok (.aload_n 0, 1) := by decide +kernel
theorem dX7_init_5 : decode cX7_init 5 = .ok (.new 7, 3) := by decide +kernel
theorem dX7_init_8 : decode cX7_init 8 = .ok (.dup, 1) := by decide +kernel
theorem dX7_init_9 : decode cX7_init 9 = .ok (.invokespecial 9, 3) := by decide +kernel
theorem dX7_init_12 : decode cX7_init 12 = .ok (.putfield 10, 3) := by decide +kernel
theorem dX7_init_15 : decode cX7_init 15 = .ok (.return_, 1) := by decide +kernel
theorem dX7_tell_0 : decode cX7_tell 0 = .ok (.aload_n 0, 1) := by decide +kernel
theorem dX7_tell_1 : decode cX7_tell 1 = .ok (.iload_n 1, 1) := by decide +kernel
theorem dX7_tell_2 : decode cX7_tell 2 = .ok (.putfield 16, 3) := by decide +kernel
theorem dX7_tell_5 : decode cX7_tell 5 = .ok (.aload_n 0, 1) := by decide +kernel
theorem dX7_tell_6 : decode cX7_tell 6 = .ok (.iload_n 2, 1) := by decide +kernel
theorem dX7_tell_7 : decode cX7_tell 7 = .ok (.putfield 20, 3) := by decide +kernel
theorem dX7_tell_10 : decode cX7_tell 10 = .ok (.aload_n 0, 1) := by decide +kernel
theorem dX7_tell_11 : decode cX7_tell 11 = .ok (.iload_n 3, 1) := by decide +kernel
theorem dX7_tell_12 : decode cX7_tell 12 = .ok (.putfield 23, 3) := by decide +kernel
theorem dX7_tell_15 : decode cX7_tell 15 = .ok (.aload_n 0, 1) := by decide +kernel
theorem dX7_tell_16 : decode cX7_tell 16 = .ok (.getfield 10, 3) := by decide +kernel
theorem dX7_tell_19 : decode cX7_tell 19 = .ok (.iconst 0, 1) := by decide +kernel
theorem dX7_tell_20 : decode cX7_tell 20 = .ok (.putfield 26, 3) := by decide +kernel
theorem dX7_tell_23 : decode cX7_tell 23 = .ok (.return_, 1) := by decide +kernel
theorem dX8_init_0 : decode cX8_init 0 = .ok (.aload_n 0, 1) := by decide +kernel
theorem dX8_init_1 : decode cX8_init 1 = .ok (.invokespecial 3, 3) := by decide +kernel
theorem dX8_init_4 : decode cX8_init 4 = .ok (.aload_n 0, 1) := by decide +kernel
theorem dX8_init_5 : decode cX8_init 5 = .ok (.sipush 240, 3) := by decide +kernel
theorem dX8_init_8 : decode cX8_init 8 = .ok (.newarray .int, 2) := by decide +kernel
theorem dX8_init_10 : decode cX8_init 10 = .ok (.putfield 9, 3) := by decide +kernel
theorem dX8_init_13 : decode cX8_init 13 = .ok (.return_, 1) := by decide +kernel
theorem dX8_append_0 : decode cX8_append 0 = .ok (.bipush 24, 2) := by decide +kernel
theorem dX8_append_2 : decode cX8_append 2 = .ok (.istore_n 2, 1) := by decide +kernel
theorem dX8_append_3 : decode cX8_append 3 = .ok (.iload_n 2, 1) := by decide +kernel
theorem dX8_append_4 : decode cX8_append 4 = .ok (.ifCond .lt 55, 3) := by decide +kernel
theorem dX8_append_7 : decode cX8_append 7 = .ok (.iload_n 1, 1) := by decide +kernel
theorem dX8_append_8 : decode cX8_append 8 = .ok (.iload_n 2, 1) := by decide +kernel
theorem dX8_append_9 : decode cX8_append 9 = .ok (.iushr, 1) := by decide +kernel
theorem dX8_append_10 : decode cX8_append 10 = .ok (.sipush 255, 3) := by decide +kernel
theorem dX8_append_13 : decode cX8_append 13 = .ok (.iand, 1) := by decide +kernel
theorem dX8_append_14 : decode cX8_append 14 = .ok (.istore_n 3, 1) := by decide +kernel
theorem dX8_append_15 : decode cX8_append 15 = .ok (.iload_n 3, 1) := by decide +kernel
theorem dX8_append_16 : decode cX8_append 16 = .ok (.ifCond .eq 37, 3) := by decide +kernel
theorem dX8_append_19 : decode cX8_append 19 = .ok (.aload_n 0, 1) := by decide +kernel
theorem dX8_append_20 : decode cX8_append 20 = .ok (.getfield 15, 3) := by decide +kernel
theorem dX8_append_23 : decode cX8_append 23 = .ok (.aload_n 0, 1) := by decide +kernel
theorem dX8_append_24 : decode cX8_append 24 = .ok (.getfield 9, 3) := by decide +kernel
theorem dX8_append_27 : decode cX8_append 27 = .ok (.arraylength, 1) := by decide +kernel
theorem dX8_append_28 : decode cX8_append 28 = .ok (.if_icmp .lt 5, 3) := by decide +kernel
theorem dX8_append_31 : decode cX8_append 31 = .ok (.iconst 0, 1) := by decide +kernel
theorem dX8_append_32 : decode cX8_append 32 = .ok (.ireturn, 1) := by decide +kernel
theorem dX8_append_33 : decode cX8_append 33 = .ok (.aload_n 0, 1) := by decide +kernel
theorem dX8_append_34 : decode cX8_append 34 = .ok (.getfield 9, 3) := by decide +kernel
theorem dX8_append_37 : decode cX8_append 37 = .ok (.aload_n 0, 1) := by decide +kernel
theorem dX8_append_38 : decode cX8_append 38 = .ok (.getfield 15, 3) := by decide +kernel
theorem dX8_append_41 : decode cX8_append 41 = .ok (.iload_n 3, 1) := by decide +kernel
theorem dX8_append_42 : decode cX8_append 42 = .ok (.iastore, 1) := by decide +kernel
theorem dX8_append_43 : decode cX8_append 43 = .ok (.aload_n 0, 1) := by decide +kernel
theorem dX8_append_44 : decode cX8_append 44 = .ok (.dup, 1) := by decide +kernel
theorem dX8_append_45 : decode cX8_append 45 = .ok (.getfield 15, 3) := by decide +kernel
theorem dX8_append_48 : decode cX8_append 48 = .ok (.iconst 1, 1) := by decide +kernel
theorem dX8_append_49 : decode cX8_append 49 = .ok (.iadd, 1) := by decide +kernel
theorem dX8_append_50 : decode cX8_append 50 = .ok (.putfield 15, 3) := by decide +kernel
theorem dX8_append_53 : decode cX8_append 53 = .ok (.iinc 2 (-8), 3) := by decide +kernel
theorem dX8_append_56 : decode cX8_append 56 = .ok (.goto (-53), 3) := by decide +kernel
theorem dX8_append_59 : decode cX8_append 59 = .ok (.iconst 1, 1) := by decide +kernel
theorem dX8_append_60 : decode cX8_append 60 = .ok (.ireturn, 1) := by decide +kernel
theorem dX8_rowFault_0 : decode cX8_rowFault 0 = .ok (.aload_n 0, 1) := by decide +kernel
theorem dX8_rowFault_1 : decode cX8_rowFault 1 = .ok (.iconst 0, 1) := by decide +kernel
theorem dX8_rowFault_2 : decode cX8_rowFault 2 = .ok (.putfield 19, 3) := by decide +kernel
theorem dX8_rowFault_5 : decode cX8_rowFault 5 = .ok (.aload_n 0, 1) := by decide +kernel
theorem dX8_rowFault_6 : decode cX8_rowFault 6 = .ok (.aload_n 1, 1) := by decide +kernel
theorem dX8_rowFault_7 : decode cX8_rowFault 7 = .ok (.iload_n 2, 1) := by decide +kernel
theorem dX8_rowFault_8 : decode cX8_rowFault 8 = .ok (.invokevirtual 22, 3) := by decide +kernel
theorem dX8_rowFault_11 : decode cX8_rowFault 11 = .ok (.ifCond .eq 15, 3) := by decide +kernel
theorem dX8_rowFault_14 : decode cX8_rowFault 14 = .ok (.aload_n 0, 1) := by decide +kernel
theorem dX8_rowFault_15 : decode cX8_rowFault 15 = .ok (.invokevirtual 26, 3) := by decide +kernel
theorem dX8_rowFault_18 : decode cX8_rowFault 18 = .ok (.iconst (-1), 1) := by decide +kernel
theorem dX8_rowFault_19 : decode cX8_rowFault 19 = .ok (.if_icmp .ne 7, 3) := by decide +kernel
theorem dX8_rowFault_22 : decode cX8_rowFault 22 = .ok (.iconst (-1), 1) := by decide +kernel
theorem dX8_rowFault_23 : decode cX8_rowFault 23 = .ok (.goto 7, 3) := by decide +kernel
theorem dX8_rowFault_26 : decode cX8_rowFault 26 = .ok (.aload_n 0, 1) := by decide +kernel
theorem dX8_rowFault_27 : decode cX8_rowFault 27 = .ok (.getfield 19, 3) := by decide +kernel
theorem dX8_rowFault_30 : decode cX8_rowFault 30 = .ok (.ireturn, 1) := by decide +kernel
theorem dX8_storeFault_0 : decode cX8_storeFault 0 = .ok (.aload_n 0, 1) := by decide +kernel
theorem dX8_storeFault_1 : decode cX8_storeFault 1 = .ok (.iconst 0, 1) := by decide +kernel
theorem dX8_storeFault_2 : decode cX8_storeFault 2 = .ok (.putfield 19, 3) := by decide +kernel
theorem dX8_storeFault_5 : decode cX8_storeFault 5 = .ok (.aload_n 1, 1) := by decide +kernel
theorem dX8_storeFault_6 : decode cX8_storeFault 6 = .ok (.invokevirtual 30, 3) := by decide +kernel
theorem dX8_storeFault_9 : decode cX8_storeFault 9 = .ok (.iconst 0, 1) := by decide +kernel
theorem dX8_storeFault_10 : decode cX8_storeFault 10 = .ok (.istore_n 2, 1) := by decide +kernel
theorem dX8_storeFault_11 : decode cX8_storeFault 11 = .ok (.iload_n 2, 1) := by decide +kernel
theorem dX8_storeFault_12 : decode cX8_storeFault 12 = .ok (.bipush 8, 2) := by decide +kernel
theorem dX8_storeFault_14 : decode cX8_storeFault 14 = .ok (.if_icmp .ge 63, 3) := by decide +kernel
theorem dX8_storeFault_17 : decode cX8_storeFault 17 = .ok (.aload_n 0, 1) := by decide +kernel
theorem dX8_storeFault_18 : decode cX8_storeFault 18 = .ok (.aload_n 1, 1) := by decide +kernel
theorem dX8_storeFault_19 : decode cX8_storeFault 19 = .ok (.iload_n 2, 1) := by decide +kernel
theorem dX8_storeFault_20 : decode cX8_storeFault 20 = .ok (.invokevirtual 35, 3) := by decide +kernel
theorem dX8_storeFault_23 : decode cX8_storeFault 23 = .ok (.getfield 39, 3) := by decide +kernel
theorem dX8_storeFault_26 : decode cX8_storeFault 26 = .ok (.bipush 20, 2) := by decide +kernel
theorem dX8_storeFault_28 : decode cX8_storeFault 28 = .ok (.invokevirtual 22, 3) := by decide +kernel
theorem dX8_storeFault_31 : decode cX8_storeFault 31 = .ok (.ifCond .ne 8, 3) := by decide +kernel
theorem dX8_storeFault_34 : decode cX8_storeFault 34 = .ok (.aload_n 0, 1) := by decide +kernel
theorem dX8_storeFault_35 : decode cX8_storeFault 35 = .ok (.getfield 19, 3) := by decide +kernel
theorem dX8_storeFault_38 : decode cX8_storeFault 38 = .ok (.ireturn, 1) := by decide +kernel
theorem dX8_storeFault_39 : decode cX8_storeFault 39 = .ok (.aload_n 0, 1) := by decide +kernel
theorem dX8_storeFault_40 : decode cX8_storeFault 40 = .ok (.invokevirtual 26, 3) := by decide +kernel
theorem dX8_storeFault_43 : decode cX8_storeFault 43 = .ok (.iconst (-1), 1) := by decide +kernel
theorem dX8_storeFault_44 : decode cX8_storeFault 44 = .ok (.if_icmp .ne 5, 3) := by decide +kernel
theorem dX8_storeFault_47 : decode cX8_storeFault 47 = .ok (.iconst (-1), 1) := by decide +kernel
theorem dX8_storeFault_48 : decode cX8_storeFault 48 = .ok (.ireturn, 1) := by decide +kernel
theorem dX8_storeFault_49 : decode cX8_storeFault 49 = .ok (.iload_n 2, 1) := by decide +kernel
theorem dX8_storeFault_50 : decode cX8_storeFault 50 = .ok (.iconst 1, 1) := by decide +kernel
theorem dX8_storeFault_51 : decode cX8_storeFault 51 = .ok (.iadd, 1) := by decide +kernel
theorem dX8_storeFault_52 : decode cX8_storeFault 52 = .ok (.bipush 8, 2) := by decide +kernel
theorem dX8_storeFault_54 : decode cX8_storeFault 54 = .ok (.if_icmp .eq 12, 3) := by decide +kernel
theorem dX8_storeFault_57 : decode cX8_storeFault 57 = .ok (.aload_n 0, 1) := by decide +kernel
theorem dX8_storeFault_58 : decode cX8_storeFault 58 = .ok (.bipush 59, 2) := by decide +kernel
theorem dX8_storeFault_60 : decode cX8_storeFault 60 = .ok (.invokevirtual 45, 3) := by decide +kernel
theorem dX8_storeFault_63 : decode cX8_storeFault 63 = .ok (.ifCond .ne 8, 3) := by decide +kernel
theorem dX8_storeFault_66 : decode cX8_storeFault 66 = .ok (.aload_n 0, 1) := by decide +kernel
theorem dX8_storeFault_67 : decode cX8_storeFault 67 = .ok (.getfield 19, 3) := by decide +kernel
theorem dX8_storeFault_70 : decode cX8_storeFault 70 = .ok (.ireturn, 1) := by decide +kernel
theorem dX8_storeFault_71 : decode cX8_storeFault 71 = .ok (.iinc 2 1, 3) := by decide +kernel
theorem dX8_storeFault_74 : decode cX8_storeFault 74 = .ok (.goto (-63), 3) := by decide +kernel
theorem dX8_storeFault_77 : decode cX8_storeFault 77 = .ok (.aload_n 0, 1) := by decide +kernel
theorem dX8_storeFault_78 : decode cX8_storeFault 78 = .ok (.getfield 19, 3) := by decide +kernel
theorem dX8_storeFault_81 : decode cX8_storeFault 81 = .ok (.ireturn, 1) := by decide +kernel
theorem dX8_scriptFault_0 : decode cX8_scriptFault 0 = .ok (.aload_n 0, 1) := by decide +kernel
theorem dX8_scriptFault_1 : decode cX8_scriptFault 1 = .ok (.iconst 0, 1) := by decide +kernel
theorem dX8_scriptFault_2 : decode cX8_scriptFault 2 = .ok (.putfield 19, 3) := by decide +kernel
theorem dX8_scriptFault_5 : decode cX8_scriptFault 5 = .ok (.iconst 0, 1) := by decide +kernel
theorem dX8_scriptFault_6 : decode cX8_scriptFault 6 = .ok (.istore_n 2, 1) := by decide +kernel
theorem dX8_scriptFault_7 : decode cX8_scriptFault 7 = .ok (.iload_n 2, 1) := by decide +kernel
theorem dX8_scriptFault_8 : decode cX8_scriptFault 8 = .ok (.bipush 12, 2) := by decide +kernel
theorem dX8_scriptFault_10 : decode cX8_scriptFault 10 = .ok (.if_icmp .ge 66, 3) := by decide +kernel
theorem dX8_scriptFault_13 : decode cX8_scriptFault 13 = .ok (.aload_n 0, 1) := by decide +kernel
theorem dX8_scriptFault_14 : decode cX8_scriptFault 14 = .ok (.aload_n 1, 1) := by decide +kernel
theorem dX8_scriptFault_15 : decode cX8_scriptFault 15 = .ok (.getfield 49, 3) := by decide +kernel
theorem dX8_scriptFault_18 : decode cX8_scriptFault 18 = .ok (.iload_n 2, 1) := by decide +kernel
theorem dX8_scriptFault_19 : decode cX8_scriptFault 19 = .ok (.aaload, 1) := by decide +kernel
theorem dX8_scriptFault_20 : decode cX8_scriptFault 20 = .ok (.invokevirtual 55, 3) := by decide +kernel
theorem dX8_scriptFault_23 : decode cX8_scriptFault 23 = .ok (.ifCond .ne 8, 3) := by decide +kernel
theorem dX8_scriptFault_26 : decode cX8_scriptFault 26 = .ok (.aload_n 0, 1) := by decide +kernel
theorem dX8_scriptFault_27 : decode cX8_scriptFault 27 = .ok (.getfield 19, 3) := by decide +kernel
theorem dX8_scriptFault_30 : decode cX8_scriptFault 30 = .ok (.ireturn, 1) := by decide +kernel
theorem dX8_scriptFault_31 : decode cX8_scriptFault 31 = .ok (.aload_n 0, 1) := by decide +kernel
theorem dX8_scriptFault_32 : decode cX8_scriptFault 32 = .ok (.invokevirtual 26, 3) := by decide +kernel
theorem dX8_scriptFault_35 : decode cX8_scriptFault 35 = .ok (.iconst (-1), 1) := by decide +kernel
theorem dX8_scriptFault_36 : decode cX8_scriptFault 36 = .ok (.if_icmp .ne 12, 3) := by decide +kernel
theorem dX8_scriptFault_39 : decode cX8_scriptFault 39 = .ok (.aload_n 1, 1) := by decide +kernel
theorem dX8_scriptFault_40 : decode cX8_scriptFault 40 = .ok (.iload_n 2, 1) := by decide +kernel
theorem dX8_scriptFault_41 : decode cX8_scriptFault 41 = .ok (.iconst 1, 1) := by decide +kernel
theorem dX8_scriptFault_42 : decode cX8_scriptFault 42 = .ok (.iadd, 1) := by decide +kernel
theorem dX8_scriptFault_43 : decode cX8_scriptFault 43 = .ok (.putfield 59, 3) := by decide +kernel
theorem dX8_scriptFault_46 : decode cX8_scriptFault 46 = .ok (.iconst (-1), 1) := by decide +kernel
theorem dX8_scriptFault_47 : decode cX8_scriptFault 47 = .ok (.ireturn, 1) := by decide +kernel
theorem dX8_scriptFault_48 : decode cX8_scriptFault 48 = .ok (.iload_n 2, 1) := by decide +kernel
theorem dX8_scriptFault_49 : decode cX8_scriptFault 49 = .ok (.iconst 1, 1) := by decide +kernel
theorem dX8_scriptFault_50 : decode cX8_scriptFault 50 = .ok (.iadd, 1) := by decide +kernel
theorem dX8_scriptFault_51 : decode cX8_scriptFault 51 = .ok (.bipush 12, 2) := by decide +kernel
theorem dX8_scriptFault_53 : decode cX8_scriptFault 53 = .ok (.if_icmp .eq 12, 3) := by decide +kernel
theorem dX8_scriptFault_56 : decode cX8_scriptFault 56 = .ok (.aload_n 0, 1) := by decide +kernel
theorem dX8_scriptFault_57 : decode cX8_scriptFault 57 = .ok (.bipush 59, 2) := by decide +kernel
theorem dX8_scriptFault_59 : decode cX8_scriptFault 59 = .ok (.invokevirtual 45, 3) := by decide +kernel
theorem dX8_scriptFault_62 : decode cX8_scriptFault 62 = .ok (.ifCond .ne 8, 3) := by decide +kernel
theorem dX8_scriptFault_65 : decode cX8_scriptFault 65 = .ok (.aload_n 0, 1) := by decide +kernel
theorem dX8_scriptFault_66 : decode cX8_scriptFault 66 = .ok (.getfield 19, 3) := by decide +kernel
theorem dX8_scriptFault_69 : decode cX8_scriptFault 69 = .ok (.ireturn, 1) := by decide +kernel
theorem dX8_scriptFault_70 : decode cX8_scriptFault 70 = .ok (.iinc 2 1, 3) := by decide +kernel
theorem dX8_scriptFault_73 : decode cX8_scriptFault 73 = .ok (.goto (-66), 3) := by decide +kernel
theorem dX8_scriptFault_76 : decode cX8_scriptFault 76 = .ok (.aload_n 0, 1) := by decide +kernel
theorem dX8_scriptFault_77 : decode cX8_scriptFault 77 = .ok (.getfield 19, 3) := by decide +kernel
theorem dX8_scriptFault_80 : decode cX8_scriptFault 80 = .ok (.ireturn, 1) := by decide +kernel
theorem dX8_readStep_0 : decode cX8_readStep 0 = .ok (.aload_n 0, 1) := by decide +kernel
theorem dX8_readStep_1 : decode cX8_readStep 1 = .ok (.invokevirtual 26, 3) := by decide +kernel
theorem dX8_readStep_4 : decode cX8_readStep 4 = .ok (.invokestatic 60, 3) := by decide +kernel
theorem dX8_readStep_7 : decode cX8_readStep 7 = .ok (.istore_n 2, 1) := by decide +kernel
theorem dX8_readStep_8 : decode cX8_readStep 8 = .ok (.iload_n 2, 1) := by decide +kernel
theorem dX8_readStep_9 : decode cX8_readStep 9 = .ok (.iconst (-1), 1) := by decide +kernel
theorem dX8_readStep_10 : decode cX8_readStep 10 = .ok (.if_icmp .ne 5, 3) := by decide +kernel
theorem dX8_readStep_13 : decode cX8_readStep 13 = .ok (.iconst 0, 1) := by decide +kernel
theorem dX8_readStep_14 : decode cX8_readStep 14 = .ok (.ireturn, 1) := by decide +kernel
theorem dX8_readStep_15 : decode cX8_readStep 15 = .ok (.aload_n 0, 1) := by decide +kernel
theorem dX8_readStep_16 : decode cX8_readStep 16 = .ok (.dup, 1) := by decide +kernel
theorem dX8_readStep_17 : decode cX8_readStep 17 = .ok (.getfield 19, 3) := by decide +kernel
theorem dX8_readStep_20 : decode cX8_readStep 20 = .ok (.iconst 1, 1) := by decide +kernel
theorem dX8_readStep_21 : decode cX8_readStep 21 = .ok (.iadd, 1) := by decide +kernel
theorem dX8_readStep_22 : decode cX8_readStep 22 = .ok (.putfield 19, 3) := by decide +kernel
theorem dX8_readStep_25 : decode cX8_readStep 25 = .ok (.aload_n 1, 1) := by decide +kernel
theorem dX8_readStep_26 : decode cX8_readStep 26 = .ok (.iload_n 2, 1) := by decide +kernel
theorem dX8_readStep_27 : decode cX8_readStep 27 = .ok (.ldc 64, 2) := by decide +kernel
theorem dX8_readStep_29 : decode cX8_readStep 29 = .ok (.ldc 64, 2) := by decide +kernel
theorem dX8_readStep_31 : decode cX8_readStep 31 = .ok (.invokevirtual 65, 3) := by decide +kernel
theorem dX8_readStep_34 : decode cX8_readStep 34 = .ok (.aload_n 0, 1) := by decide +kernel
theorem dX8_readStep_35 : decode cX8_readStep 35 = .ok (.invokevirtual 71, 3) := by decide +kernel
theorem dX8_readStep_38 : decode cX8_readStep 38 = .ok (.ifCond .ne 5, 3) := by decide +kernel
theorem dX8_readStep_41 : decode cX8_readStep 41 = .ok (.iconst 0, 1) := by decide +kernel
theorem dX8_readStep_42 : decode cX8_readStep 42 = .ok (.ireturn, 1) := by decide +kernel
theorem dX8_readStep_43 : decode cX8_readStep 43 = .ok (.aload_n 1, 1) := by decide +kernel
theorem dX8_readStep_44 : decode cX8_readStep 44 = .ok (.aload_n 0, 1) := by decide +kernel
theorem dX8_readStep_45 : decode cX8_readStep 45 = .ok (.invokevirtual 75, 3) := by decide +kernel
theorem dX8_readStep_48 : decode cX8_readStep 48 = .ok (.putfield 78, 3) := by decide +kernel
theorem dX8_readStep_51 : decode cX8_readStep 51 = .ok (.iload_n 2, 1) := by decide +kernel
theorem dX8_readStep_52 : decode cX8_readStep 52 = .ok (.iconst 3, 1) := by decide +kernel
theorem dX8_readStep_53 : decode cX8_readStep 53 = .ok (.if_icmp .eq 14, 3) := by decide +kernel
theorem dX8_readStep_56 : decode cX8_readStep 56 = .ok (.iload_n 2, 1) := by decide +kernel
theorem dX8_readStep_57 : decode cX8_readStep 57 = .ok (.iconst 4, 1) := by decide +kernel
theorem dX8_readStep_58 : decode cX8_readStep 58 = .ok (.if_icmp .eq 9, 3) := by decide +kernel
theorem dX8_readStep_61 : decode cX8_readStep 61 = .ok (.iload_n 2, 1) := by decide +kernel
theorem dX8_readStep_62 : decode cX8_readStep 62 = .ok (.bipush 7, 2) := by decide +kernel
theorem dX8_readStep_64 : decode cX8_readStep 64 = .ok (.if_icmp .ne 29, 3) := by decide +kernel
theorem dX8_readStep_67 : decode cX8_readStep 67 = .ok (.aload_n 0, 1) := by decide +kernel
theorem dX8_readStep_68 : decode cX8_readStep 68 = .ok (.bipush 44, 2) := by decide +kernel
theorem dX8_readStep_70 : decode cX8_readStep 70 = .ok (.invokevirtual 45, 3) := by decide +kernel
theorem dX8_readStep_73 : decode cX8_readStep 73 = .ok (.ifCond .eq 10, 3) := by decide +kernel
theorem dX8_readStep_76 : decode cX8_readStep 76 = .ok (.aload_n 0, 1) := by decide +kernel
theorem dX8_readStep_77 : decode cX8_readStep 77 = .ok (.invokevirtual 71, 3) := by decide +kernel
theorem dX8_readStep_80 : decode cX8_readStep 80 = .ok (.ifCond .ne 5, 3) := by decide +kernel
theorem dX8_readStep_83 : decode cX8_readStep 83 = .ok (.iconst 0, 1) := by decide +kernel
theorem dX8_readStep_84 : decode cX8_readStep 84 = .ok (.ireturn, 1) := by decide +kernel
theorem dX8_readStep_85 : decode cX8_readStep 85 = .ok (.aload_n 1, 1) := by decide +kernel
theorem dX8_readStep_86 : decode cX8_readStep 86 = .ok (.aload_n 0, 1) := by decide +kernel
theorem dX8_readStep_87 : decode cX8_readStep 87 = .ok (.invokevirtual 75, 3) := by decide +kernel
theorem dX8_readStep_90 : decode cX8_readStep 90 = .ok (.putfield 81, 3) := by decide +kernel
theorem dX8_readStep_93 : decode cX8_readStep 93 = .ok (.iload_n 2, 1) := by decide +kernel
theorem dX8_readStep_94 : decode cX8_readStep 94 = .ok (.ifCond .eq 13, 3) := by decide +kernel
theorem dX8_readStep_97 : decode cX8_readStep 97 = .ok (.iload_n 2, 1) := by decide +kernel
theorem dX8_readStep_98 : decode cX8_readStep 98 = .ok (.iconst 1, 1) := by decide +kernel
theorem dX8_readStep_99 : decode cX8_readStep 99 = .ok (.if_icmp .eq 8, 3) := by decide +kernel
theorem dX8_readStep_102 : decode cX8_readStep 102 = .ok (.iload_n 2, 1) := by decide +kernel
theorem dX8_readStep_103 : decode cX8_readStep 103 = .ok (.iconst 4, 1) := by decide +kernel
theorem dX8_readStep_104 : decode cX8_readStep 104 = .ok (.if_icmp .ne 41, 3) := by decide +kernel
theorem dX8_readStep_107 : decode cX8_readStep 107 = .ok (.aload_n 0, 1) := by decide +kernel
theorem dX8_readStep_108 : decode cX8_readStep 108 = .ok (.bipush 58, 2) := by decide +kernel
theorem dX8_readStep_110 : decode cX8_readStep 110 = .ok (.invokevirtual 45, 3) := by decide +kernel
theorem dX8_readStep_113 : decode cX8_readStep 113 = .ok (.ifCond .eq 30, 3) := by decide +kernel
theorem dX8_readStep_116 : decode cX8_readStep 116 = .ok (.aload_n 0, 1) := by decide +kernel
theorem dX8_readStep_117 : decode cX8_readStep 117 = .ok (.aload_n 1, 1) := by decide +kernel
theorem dX8_readStep_118 : decode cX8_readStep 118 = .ok (.getfield 84, 3) := by decide +kernel
theorem dX8_readStep_121 : decode cX8_readStep 121 = .ok (.iload_n 2, 1) := by decide +kernel
theorem dX8_readStep_122 : decode cX8_readStep 122 = .ok (.iconst 4, 1) := by decide +kernel
theorem dX8_readStep_123 : decode cX8_readStep 123 = .ok (.if_icmp .ne 8, 3) := by decide +kernel
theorem dX8_readStep_126 : decode cX8_readStep 126 = .ok (.bipush 6, 2) := by decide +kernel
theorem dX8_readStep_128 : decode cX8_readStep 128 = .ok (.goto 5, 3) := by decide +kernel
theorem dX8_readStep_131 : decode cX8_readStep 131 = .ok (.bipush 20, 2) := by decide +kernel
theorem dX8_readStep_133 : decode cX8_readStep 133 = .ok (.invokevirtual 22, 3) := by decide +kernel
theorem dX8_readStep_136 : decode cX8_readStep 136 = .ok (.ifCond .eq 7, 3) := by decide +kernel
theorem dX8_readStep_139 : decode cX8_readStep 139 = .ok (.iconst 1, 1) := by decide +kernel
theorem dX8_readStep_140 : decode cX8_readStep 140 = .ok (.goto 4, 3) := by decide +kernel
theorem dX8_readStep_143 : decode cX8_readStep 143 = .ok (.iconst 0, 1) := by decide +kernel
theorem dX8_readStep_144 : decode cX8_readStep 144 = .ok (.ireturn, 1) := by decide +kernel
theorem dX8_readStep_145 : decode cX8_readStep 145 = .ok (.iconst 1, 1) := by decide +kernel
theorem dX8_readStep_146 : decode cX8_readStep 146 = .ok (.ireturn, 1) := by decide +kernel
theorem dX8_sortOf_0 : decode cX8_sortOf 0 = .ok (.iload_n 0, 1) := by decide +kernel
theorem dX8_sortOf_1 : decode cX8_sortOf 1 = .ok (.tableswitch 124 98 119 #[118, 111, 107, 124, 124, 124, 124, 105, 121, 124, 124, 124, 124, 124, 113, 124, 103, 109, 124, 124, 124, 115], 103) := by decide +kernel
theorem dX8_sortOf_104 : decode cX8_sortOf 104 = .ok (.iconst 0, 1) := by decide +kernel
theorem dX8_sortOf_105 : decode cX8_sortOf 105 = .ok (.ireturn, 1) := by decide +kernel
theorem dX8_sortOf_106 : decode cX8_sortOf 106 = .ok (.iconst 1, 1) := by decide +kernel
theorem dX8_sortOf_107 : decode cX8_sortOf 107 = .ok (.ireturn, 1) := by decide +kernel
theorem dX8_sortOf_108 : decode cX8_sortOf 108 = .ok (.iconst 2, 1) := by decide +kernel
theorem dX8_sortOf_109 : decode cX8_sortOf 109 = .ok (.ireturn, 1) := by decide +kernel
theorem dX8_sortOf_110 : decode cX8_sortOf 110 = .ok (.iconst 3, 1) := by decide +kernel
theorem dX8_sortOf_111 : decode cX8_sortOf 111 = .ok (.ireturn, 1) := by decide +kernel
theorem dX8_sortOf_112 : decode cX8_sortOf 112 = .ok (.iconst 4, 1) := by decide +kernel
theorem dX8_sortOf_113 : decode cX8_sortOf 113 = .ok (.ireturn, 1) := by decide +kernel
theorem dX8_sortOf_114 : decode cX8_sortOf 114 = .ok (.iconst 5, 1) := by decide +kernel
theorem dX8_sortOf_115 : decode cX8_sortOf 115 = .ok (.ireturn, 1) := by decide +kernel
theorem dX8_sortOf_116 : decode cX8_sortOf 116 = .ok (.bipush 6, 2) := by decide +kernel
theorem dX8_sortOf_118 : decode cX8_sortOf 118 = .ok (.ireturn, 1) := by decide +kernel
theorem dX8_sortOf_119 : decode cX8_sortOf 119 = .ok (.bipush 7, 2) := by decide +kernel
theorem dX8_sortOf_121 : decode cX8_sortOf 121 = .ok (.ireturn, 1) := by decide +kernel
theorem dX8_sortOf_122 : decode cX8_sortOf 122 = .ok (.bipush 8, 2) := by decide +kernel
theorem dX8_sortOf_124 : decode cX8_sortOf 124 = .ok (.ireturn, 1) := by decide +kernel
theorem dX8_sortOf_125 : decode cX8_sortOf 125 = .ok (.iconst (-1), 1) := by decide +kernel
theorem dX8_sortOf_126 : decode cX8_sortOf 126 = .ok (.ireturn, 1) := by decide +kernel
theorem dX8_readSigns_0 : decode cX8_readSigns 0 = .ok (.aload_n 1, 1) := by decide +kernel
theorem dX8_readSigns_1 : decode cX8_readSigns 1 = .ok (.iconst 0, 1) := by decide +kernel
theorem dX8_readSigns_2 : decode cX8_readSigns 2 = .ok (.putfield 85, 3) := by decide +kernel
theorem dX8_readSigns_5 : decode cX8_readSigns 5 = .ok (.iconst 0, 1) := by decide +kernel
theorem dX8_readSigns_6 : decode cX8_readSigns 6 = .ok (.istore_n 3, 1) := by decide +kernel
theorem dX8_readSigns_7 : decode cX8_readSigns 7 = .ok (.iload_n 3, 1) := by decide +kernel
theorem dX8_readSigns_8 : decode cX8_readSigns 8 = .ok (.iload_n 2, 1) := by decide +kernel
theorem dX8_readSigns_9 : decode cX8_readSigns 9 = .ok (.if_icmp .ge 37, 3) := by decide +kernel
theorem dX8_readSigns_12 : decode cX8_readSigns 12 = .ok (.aload_n 0, 1) := by decide +kernel
theorem dX8_readSigns_13 : decode cX8_readSigns 13 = .ok (.invokevirtual 26, 3) := by decide +kernel
theorem dX8_readSigns_16 : decode cX8_readSigns 16 = .ok (.invokestatic 88, 3) := by decide +kernel
theorem dX8_readSigns_19 : decode cX8_readSigns 19 = .ok (.ifCond .eq 27, 3) := by decide +kernel
theorem dX8_readSigns_22 : decode cX8_readSigns 22 = .ok (.aload_n 1, 1) := by decide +kernel
theorem dX8_readSigns_23 : decode cX8_readSigns 23 = .ok (.aload_n 0, 1) := by decide +kernel
theorem dX8_readSigns_24 : decode cX8_readSigns 24 = .ok (.invokevirtual 26, 3) := by decide +kernel
theorem dX8_readSigns_27 : decode cX8_readSigns 27 = .ok (.invokevirtual 91, 3) := by decide +kernel
theorem dX8_readSigns_30 : decode cX8_readSigns 30 = .ok (.aload_n 0, 1) := by decide +kernel
theorem dX8_readSigns_31 : decode cX8_readSigns 31 = .ok (.dup, 1) := by decide +kernel
theorem dX8_readSigns_32 : decode cX8_readSigns 32 = .ok (.getfield 19, 3) := by decide +kernel
theorem dX8_readSigns_35 : decode cX8_readSigns 35 = .ok (.iconst 1, 1) := by decide +kernel
theorem dX8_readSigns_36 : decode cX8_readSigns 36 = .ok (.iadd, 1) := by decide +kernel
theorem dX8_readSigns_37 : decode cX8_readSigns 37 = .ok (.putfield 19, 3) := by decide +kernel
theorem dX8_readSigns_40 : decode cX8_readSigns 40 = .ok (.iinc 3 1, 3) := by decide +kernel
theorem dX8_readSigns_43 : decode cX8_readSigns 43 = .ok (.goto (-36), 3) := by decide +kernel
theorem dX8_readSigns_46 : decode cX8_readSigns 46 = .ok (.aload_n 1, 1) := by decide +kernel
theorem dX8_readSigns_47 : decode cX8_readSigns 47 = .ok (.getfield 85, 3) := by decide +kernel
theorem dX8_readSigns_50 : decode cX8_readSigns 50 = .ok (.ifCond .le 7, 3) := by decide +kernel
theorem dX8_readSigns_53 : decode cX8_readSigns 53 = .ok (.iconst 1, 1) := by decide +kernel
theorem dX8_readSigns_54 : decode cX8_readSigns 54 = .ok (.goto 4, 3) := by decide +kernel
theorem dX8_readSigns_57 : decode cX8_readSigns 57 = .ok (.iconst 0, 1) := by decide +kernel
theorem dX8_readSigns_58 : decode cX8_readSigns 58 = .ok (.ireturn, 1) := by decide +kernel
theorem dX8_isSign_0 : decode cX8_isSign 0 = .ok (.iload_n 0, 1) := by decide +kernel
theorem dX8_isSign_1 : decode cX8_isSign 1 = .ok (.bipush 95, 2) := by decide +kernel
theorem dX8_isSign_3 : decode cX8_isSign 3 = .ok (.if_icmp .eq 15, 3) := by decide +kernel
theorem dX8_isSign_6 : decode cX8_isSign 6 = .ok (.iload_n 0, 1) := by decide +kernel
theorem dX8_isSign_7 : decode cX8_isSign 7 = .ok (.bipush 97, 2) := by decide +kernel
theorem dX8_isSign_9 : decode cX8_isSign 9 = .ok (.if_icmp .lt 13, 3) := by decide +kernel
theorem dX8_isSign_12 : decode cX8_isSign 12 = .ok (.iload_n 0, 1) := by decide +kernel
theorem dX8_isSign_13 : decode cX8_isSign 13 = .ok (.bipush 122, 2) := by decide +kernel
theorem dX8_isSign_15 : decode cX8_isSign 15 = .ok (.if_icmp .gt 7, 3) := by decide +kernel
theorem dX8_isSign_18 : decode cX8_isSign 18 = .ok (.iconst 1, 1) := by decide +kernel
theorem dX8_isSign_19 : decode cX8_isSign 19 = .ok (.goto 4, 3) := by decide +kernel
theorem dX8_isSign_22 : decode cX8_isSign 22 = .ok (.iconst 0, 1) := by decide +kernel
theorem dX8_isSign_23 : decode cX8_isSign 23 = .ok (.ireturn, 1) := by decide +kernel
theorem dX8_peekDigit_0 : decode cX8_peekDigit 0 = .ok (.aload_n 0, 1) := by decide +kernel
theorem dX8_peekDigit_1 : decode cX8_peekDigit 1 = .ok (.invokevirtual 26, 3) := by decide +kernel
theorem dX8_peekDigit_4 : decode cX8_peekDigit 4 = .ok (.bipush 48, 2) := by decide +kernel
theorem dX8_peekDigit_6 : decode cX8_peekDigit 6 = .ok (.if_icmp .lt 16, 3) := by decide +kernel
theorem dX8_peekDigit_9 : decode cX8_peekDigit 9 = .ok (.aload_n 0, 1) := by decide +kernel
theorem dX8_peekDigit_10 : decode cX8_peekDigit 10 = .ok (.invokevirtual 26, 3) := by decide +kernel
theorem dX8_peekDigit_13 : decode cX8_peekDigit 13 = .ok (.bipush 57, 2) := by decide +kernel
theorem dX8_peekDigit_15 : decode cX8_peekDigit 15 = .ok (.if_icmp .gt 7, 3) := by decide +kernel
theorem dX8_peekDigit_18 : decode cX8_peekDigit 18 = .ok (.iconst 1, 1) := by decide +kernel
theorem dX8_peekDigit_19 : decode cX8_peekDigit 19 = .ok (.goto 4, 3) := by decide +kernel
theorem dX8_peekDigit_22 : decode cX8_peekDigit 22 = .ok (.iconst 0, 1) := by decide +kernel
theorem dX8_peekDigit_23 : decode cX8_peekDigit 23 = .ok (.ireturn, 1) := by decide +kernel
theorem dX8_readDigit_0 : decode cX8_readDigit 0 = .ok (.aload_n 0, 1) := by decide +kernel
theorem dX8_readDigit_1 : decode cX8_readDigit 1 = .ok (.invokevirtual 26, 3) := by decide +kernel
theorem dX8_readDigit_4 : decode cX8_readDigit 4 = .ok (.bipush 48, 2) := by decide +kernel
theorem dX8_readDigit_6 : decode cX8_readDigit 6 = .ok (.isub, 1) := by decide +kernel
theorem dX8_readDigit_7 : decode cX8_readDigit 7 = .ok (.istore_n 1, 1) := by decide +kernel
theorem dX8_readDigit_8 : decode cX8_readDigit 8 = .ok (.aload_n 0, 1) := by decide +kernel
theorem dX8_readDigit_9 : decode cX8_readDigit 9 = .ok (.dup, 1) := by decide +kernel
theorem dX8_readDigit_10 : decode cX8_readDigit 10 = .ok (.getfield 19, 3) := by decide +kernel
theorem dX8_readDigit_13 : decode cX8_readDigit 13 = .ok (.iconst 1, 1) := by decide +kernel
theorem dX8_readDigit_14 : decode cX8_readDigit 14 = .ok (.iadd, 1) := by decide +kernel
theorem dX8_readDigit_15 : decode cX8_readDigit 15 = .ok (.putfield 19, 3) := by decide +kernel
theorem dX8_readDigit_18 : decode cX8_readDigit 18 = .ok (.iload_n 1, 1) := by decide +kernel
theorem dX8_readDigit_19 : decode cX8_readDigit 19 = .ok (.ireturn, 1) := by decide +kernel
theorem dX8_skip_0 : decode cX8_skip 0 = .ok (.aload_n 0, 1) := by decide +kernel
theorem dX8_skip_1 : decode cX8_skip 1 = .ok (.invokevirtual 26, 3) := by decide +kernel
theorem dX8_skip_4 : decode cX8_skip 4 = .ok (.iload_n 1, 1) := by decide +kernel
theorem dX8_skip_5 : decode cX8_skip 5 = .ok (.if_icmp .eq 5, 3) := by decide +kernel
theorem dX8_skip_8 : decode cX8_skip 8 = .ok (.iconst 0, 1) := by decide +kernel
theorem dX8_skip_9 : decode cX8_skip 9 = .ok (.ireturn, 1) := by decide +kernel
theorem dX8_skip_10 : decode cX8_skip 10 = .ok (.aload_n 0, 1) := by decide +kernel
theorem dX8_skip_11 : decode cX8_skip 11 = .ok (.dup, 1) := by decide +kernel
theorem dX8_skip_12 : decode cX8_skip 12 = .ok (.getfield 19, 3) := by decide +kernel
theorem dX8_skip_15 : decode cX8_skip 15 = .ok (.iconst 1, 1) := by decide +kernel
theorem dX8_skip_16 : decode cX8_skip 16 = .ok (.iadd, 1) := by decide +kernel
theorem dX8_skip_17 : decode cX8_skip 17 = .ok (.putfield 19, 3) := by decide +kernel
theorem dX8_skip_20 : decode cX8_skip 20 = .ok (.iconst 1, 1) := by decide +kernel
theorem dX8_skip_21 : decode cX8_skip 21 = .ok (.ireturn, 1) := by decide +kernel
theorem dX8_peek_0 : decode cX8_peek 0 = .ok (.aload_n 0, 1) := by decide +kernel
theorem dX8_peek_1 : decode cX8_peek 1 = .ok (.getfield 19, 3) := by decide +kernel
theorem dX8_peek_4 : decode cX8_peek 4 = .ok (.aload_n 0, 1) := by decide +kernel
theorem dX8_peek_5 : decode cX8_peek 5 = .ok (.getfield 15, 3) := by decide +kernel
theorem dX8_peek_8 : decode cX8_peek 8 = .ok (.if_icmp .ge 30, 3) := by decide +kernel
theorem dX8_peek_11 : decode cX8_peek 11 = .ok (.aload_n 0, 1) := by decide +kernel
theorem dX8_peek_12 : decode cX8_peek 12 = .ok (.getfield 9, 3) := by decide +kernel
theorem dX8_peek_15 : decode cX8_peek 15 = .ok (.aload_n 0, 1) := by decide +kernel
theorem dX8_peek_16 : decode cX8_peek 16 = .ok (.getfield 19, 3) := by decide +kernel
theorem dX8_peek_19 : decode cX8_peek 19 = .ok (.iaload, 1) := by decide +kernel
theorem dX8_peek_20 : decode cX8_peek 20 = .ok (.bipush 32, 2) := by decide +kernel
theorem dX8_peek_22 : decode cX8_peek 22 = .ok (.if_icmp .ne 16, 3) := by decide +kernel
theorem dX8_peek_25 : decode cX8_peek 25 = .ok (.aload_n 0, 1) := by decide +kernel
theorem dX8_peek_26 : decode cX8_peek 26 = .ok (.dup, 1) := by decide +kernel
theorem dX8_peek_27 : decode cX8_peek 27 = .ok (.getfield 19, 3) := by decide +kernel
theorem dX8_peek_30 : decode cX8_peek 30 = .ok (.iconst 1, 1) := by decide +kernel
theorem dX8_peek_31 : decode cX8_peek 31 = .ok (.iadd, 1) := by decide +kernel
theorem dX8_peek_32 : decode cX8_peek 32 = .ok (.putfield 19, 3) := by decide +kernel
theorem dX8_peek_35 : decode cX8_peek 35 = .ok (.goto (-35), 3) := by decide +kernel
theorem dX8_peek_38 : decode cX8_peek 38 = .ok (.aload_n 0, 1) := by decide +kernel
theorem dX8_peek_39 : decode cX8_peek 39 = .ok (.getfield 19, 3) := by decide +kernel
theorem dX8_peek_42 : decode cX8_peek 42 = .ok (.aload_n 0, 1) := by decide +kernel
theorem dX8_peek_43 : decode cX8_peek 43 = .ok (.getfield 15, 3) := by decide +kernel
theorem dX8_peek_46 : decode cX8_peek 46 = .ok (.if_icmp .ge 15, 3) := by decide +kernel
theorem dX8_peek_49 : decode cX8_peek 49 = .ok (.aload_n 0, 1) := by decide +kernel
theorem dX8_peek_50 : decode cX8_peek 50 = .ok (.getfield 9, 3) := by decide +kernel
theorem dX8_peek_53 : decode cX8_peek 53 = .ok (.aload_n 0, 1) := by decide +kernel
theorem dX8_peek_54 : decode cX8_peek 54 = .ok (.getfield 19, 3) := by decide +kernel
theorem dX8_peek_57 : decode cX8_peek 57 = .ok (.iaload, 1) := by decide +kernel
theorem dX8_peek_58 : decode cX8_peek 58 = .ok (.goto 4, 3) := by decide +kernel
theorem dX8_peek_61 : decode cX8_peek 61 = .ok (.iconst (-1), 1) := by decide +kernel
theorem dX8_peek_62 : decode cX8_peek 62 = .ok (.ireturn, 1) := by decide +kernel

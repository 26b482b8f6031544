theorem dX5_init_0 : decode cX5_init 0 = .ok (.aload_n 0, 1) := by decide +kernel
theorem dX5_init_1 : decode cX5_init 1 = .ok (.invokespecial 1, 3) := by decide +kernel
theorem dX5_init_4 : decode cX5_init 4 = .ok (.aload_n 0, 1) := by decide +kernel
theorem dX5_init_5 : decode cX5_init 5 = .ok (.sipush 486, 3) := by decide +kernel
theorem dX5_init_8 : decode cX5_init 8 = .ok (.newarray .int, 2) := by decide +kernel
theorem dX5_init_10 : decode cX5_init 10 = .ok (.putfield 7, 3) := by decide +kernel
theorem dX5_init_13 : decode cX5_init 13 = .ok (.aload_n 0, 1) := by decide +kernel
theorem dX5_init_14 : decode cX5_init 14 = .ok (.sipush 486, 3) := by decide +kernel
theorem dX5_init_17 : decode cX5_init 17 = .ok (.newarray .int, 2) := by decide +kernel
theorem dX5_init_19 : decode cX5_init 19 = .ok (.putfield 13, 3) := by decide +kernel
theorem dX5_init_22 : decode cX5_init 22 = .ok (.aload_n 0, 1) := by decide +kernel
theorem dX5_init_23 : decode cX5_init 23 = .ok (.sipush 486, 3) := by decide +kernel
theorem dX5_init_26 : decode cX5_init 26 = .ok (.newarray .int, 2) := by decide +kernel
theorem dX5_init_28 : decode cX5_init 28 = .ok (.putfield 16, 3) := by decide +kernel
theorem dX5_init_31 : decode cX5_init 31 = .ok (.aload_n 0, 1) := by decide +kernel
theorem dX5_init_32 : decode cX5_init 32 = .ok (.sipush 3888, 3) := by decide +kernel
theorem dX5_init_35 : decode cX5_init 35 = .ok (.newarray .int, 2) := by decide +kernel
theorem dX5_init_37 : decode cX5_init 37 = .ok (.putfield 19, 3) := by decide +kernel
theorem dX5_init_40 : decode cX5_init 40 = .ok (.aload_n 0, 1) := by decide +kernel
theorem dX5_init_41 : decode cX5_init 41 = .ok (.bipush 60, 2) := by decide +kernel
theorem dX5_init_43 : decode cX5_init 43 = .ok (.newarray .int, 2) := by decide +kernel
theorem dX5_init_45 : decode cX5_init 45 = .ok (.putfield 22, 3) := by decide +kernel
theorem dX5_init_48 : decode cX5_init 48 = .ok (.aload_n 0, 1) := by decide +kernel
theorem dX5_init_49 : decode cX5_init 49 = .ok (.sipush 300, 3) := by decide +kernel
theorem dX5_init_52 : decode cX5_init 52 = .ok (.newarray .int, 2) := by decide +kernel
theorem dX5_init_54 : decode cX5_init 54 = .ok (.putfield 25, 3) := by decide +kernel
theorem dX5_init_57 : decode cX5_init 57 = .ok (.aload_n 0, 1) := by decide +kernel
theorem dX5_init_58 : decode cX5_init 58 = .ok (.sipush 240, 3) := by decide +kernel
theorem dX5_init_61 : decode cX5_init 61 = .ok (.newarray .int, 2) := by decide +kernel
theorem dX5_init_63 : decode cX5_init 63 = .ok (.putfield 28, 3) := by decide +kernel
theorem dX5_init_66 : decode cX5_init 66 = .ok (.aload_n 0, 1) := by decide +kernel
theorem dX5_init_67 : decode cX5_init 67 = .ok (.iconst (-1), 1) := by decide +kernel
theorem dX5_init_68 : decode cX5_init 68 = .ok (.putfield 31, 3) := by decide +kernel
theorem dX5_init_71 : decode cX5_init 71 = .ok (.aload_n 0, 1) := by decide +kernel
theorem dX5_init_72 : decode cX5_init 72 = .ok (.iconst (-1), 1) := by decide +kernel
theorem dX5_init_73 : decode cX5_init 73 = .ok (.putfield 35, 3) := by decide +kernel
theorem dX5_init_76 : decode cX5_init 76 = .ok (.return_, 1) := by decide +kernel
theorem dX5_thrown_0 : decode cX5_thrown 0 = .ok (.aload_n 0, 1) := by decide +kernel
theorem dX5_thrown_1 : decode cX5_thrown 1 = .ok (.getfield 38, 3) := by decide +kernel
theorem dX5_thrown_4 : decode cX5_thrown 4 = .ok (.ireturn, 1) := by decide +kernel
theorem dX5_fails_0 : decode cX5_fails 0 = .ok (.aload_n 0, 1) := by decide +kernel
theorem dX5_fails_1 : decode cX5_fails 1 = .ok (.iload_n 1, 1) := by decide +kernel
theorem dX5_fails_2 : decode cX5_fails 2 = .ok (.putfield 38, 3) := by decide +kernel
theorem dX5_fails_5 : decode cX5_fails 5 = .ok (.iconst 0, 1) := by decide +kernel
theorem dX5_fails_6 : decode cX5_fails 6 = .ok (.ireturn, 1) := by decide +kernel
theorem dX5_in_0 : decode cX5_in 0 = .ok (.iload_n 0, 1) := by decide +kernel
theorem dX5_in_1 : decode cX5_in 1 = .ok (.iload_n 1, 1) := by decide +kernel
theorem dX5_in_2 : decode cX5_in 2 = .ok (.if_icmp .lt 12, 3) := by decide +kernel
theorem dX5_in_5 : decode cX5_in 5 = .ok (.iload_n 0, 1) := by decide +kernel
theorem dX5_in_6 : decode cX5_in 6 = .ok (.iload_n 2, 1) := by decide +kernel
theorem dX5_in_7 : decode cX5_in 7 = .ok (.if_icmp .gt 7, 3) := by decide +kernel
theorem dX5_in_10 : decode cX5_in 10 = .ok (.iconst 1, 1) := by decide +kernel
theorem dX5_in_11 : decode cX5_in 11 = .ok (.goto 4, 3) := by decide +kernel
theorem dX5_in_14 : decode cX5_in 14 = .ok (.iconst 0, 1) := by decide +kernel
theorem dX5_in_15 : decode cX5_in 15 = .ok (.ireturn, 1) := by decide +kernel
theorem dX5_remembers_0 : decode cX5_remembers 0 = .ok (.aload_n 0, 1) := by decide +kernel
theorem dX5_remembers_1 : decode cX5_remembers 1 = .ok (.iconst 0, 1) := by decide +kernel
theorem dX5_remembers_2 : decode cX5_remembers 2 = .ok (.putfield 38, 3) := by decide +kernel
theorem dX5_remembers_5 : decode cX5_remembers 5 = .ok (.iconst 0, 1) := by decide +kernel
theorem dX5_remembers_6 : decode cX5_remembers 6 = .ok (.istore_n 1, 1) := by decide +kernel
theorem dX5_remembers_7 : decode cX5_remembers 7 = .ok (.iload_n 1, 1) := by decide +kernel
theorem dX5_remembers_8 : decode cX5_remembers 8 = .ok (.sipush 486, 3) := by decide +kernel
theorem dX5_remembers_11 : decode cX5_remembers 11 = .ok (.if_icmp .ge 21, 3) := by decide +kernel
theorem dX5_remembers_14 : decode cX5_remembers 14 = .ok (.aload_n 0, 1) := by decide +kernel
theorem dX5_remembers_15 : decode cX5_remembers 15 = .ok (.getfield 13, 3) := by decide +kernel
theorem dX5_remembers_18 : decode cX5_remembers 18 = .ok (.iload_n 1, 1) := by decide +kernel
theorem dX5_remembers_19 : decode cX5_remembers 19 = .ok (.aload_n 0, 1) := by decide +kernel
theorem dX5_remembers_20 : decode cX5_remembers 20 = .ok (.getfield 7, 3) := by decide +kernel
theorem dX5_remembers_23 : decode cX5_remembers 23 = .ok (.iload_n 1, 1) := by decide +kernel
theorem dX5_remembers_24 : decode cX5_remembers 24 = .ok (.iaload, 1) := by decide +kernel
theorem dX5_remembers_25 : decode cX5_remembers 25 = .ok (.iastore, 1) := by decide +kernel
theorem dX5_remembers_26 : decode cX5_remembers 26 = .ok (.iinc 1 1, 3) := by decide +kernel
theorem dX5_remembers_29 : decode cX5_remembers 29 = .ok (.goto (-22), 3) := by decide +kernel
theorem dX5_remembers_32 : decode cX5_remembers 32 = .ok (.return_, 1) := by decide +kernel
theorem dX5_changed_0 : decode cX5_changed 0 = .ok (.aload_n 0, 1) := by decide +kernel
theorem dX5_changed_1 : decode cX5_changed 1 = .ok (.getfield 41, 3) := by decide +kernel
theorem dX5_changed_4 : decode cX5_changed 4 = .ok (.bipush 8, 2) := by decide +kernel
theorem dX5_changed_6 : decode cX5_changed 6 = .ok (.if_icmp .ne 37, 3) := by decide +kernel
theorem dX5_changed_9 : decode cX5_changed 9 = .ok (.iconst 0, 1) := by decide +kernel
theorem dX5_changed_10 : decode cX5_changed 10 = .ok (.istore_n 2, 1) := by decide +kernel
theorem dX5_changed_11 : decode cX5_changed 11 = .ok (.iload_n 2, 1) := by decide +kernel
theorem dX5_changed_12 : decode cX5_changed 12 = .ok (.sipush 3402, 3) := by decide +kernel
theorem dX5_changed_15 : decode cX5_changed 15 = .ok (.if_icmp .ge 25, 3) := by decide +kernel
theorem dX5_changed_18 : decode cX5_changed 18 = .ok (.aload_n 0, 1) := by decide +kernel
theorem dX5_changed_19 : decode cX5_changed 19 = .ok (.getfield 19, 3) := by decide +kernel
theorem dX5_changed_22 : decode cX5_changed 22 = .ok (.iload_n 2, 1) := by decide +kernel
theorem dX5_changed_23 : decode cX5_changed 23 = .ok (.aload_n 0, 1) := by decide +kernel
theorem dX5_changed_24 : decode cX5_changed 24 = .ok (.getfield 19, 3) := by decide +kernel
theorem dX5_changed_27 : decode cX5_changed 27 = .ok (.iload_n 2, 1) := by decide +kernel
theorem dX5_changed_28 : decode cX5_changed 28 = .ok (.sipush 486, 3) := by decide +kernel
theorem dX5_changed_31 : decode cX5_changed 31 = .ok (.iadd, 1) := by decide +kernel
theorem dX5_changed_32 : decode cX5_changed 32 = .ok (.iaload, 1) := by decide +kernel
theorem dX5_changed_33 : decode cX5_changed 33 = .ok (.iastore, 1) := by decide +kernel
theorem dX5_changed_34 : decode cX5_changed 34 = .ok (.iinc 2 1, 3) := by decide +kernel
theorem dX5_changed_37 : decode cX5_changed 37 = .ok (.goto (-26), 3) := by decide +kernel
theorem dX5_changed_40 : decode cX5_changed 40 = .ok (.goto 13, 3) := by decide +kernel
theorem dX5_changed_43 : decode cX5_changed 43 = .ok (.aload_n 0, 1) := by decide +kernel
theorem dX5_changed_44 : decode cX5_changed 44 = .ok (.dup, 1) := by decide +kernel
theorem dX5_changed_45 : decode cX5_changed 45 = .ok (.getfield 41, 3) := by decide +kernel
theorem dX5_changed_48 : decode cX5_changed 48 = .ok (.iconst 1, 1) := by decide +kernel
theorem dX5_changed_49 : decode cX5_changed 49 = .ok (.iadd, 1) := by decide +kernel
theorem dX5_changed_50 : decode cX5_changed 50 = .ok (.putfield 41, 3) := by decide +kernel
theorem dX5_changed_53 : decode cX5_changed 53 = .ok (.iconst 0, 1) := by decide +kernel
theorem dX5_changed_54 : decode cX5_changed 54 = .ok (.istore_n 2, 1) := by decide +kernel
theorem dX5_changed_55 : decode cX5_changed 55 = .ok (.iload_n 2, 1) := by decide +kernel
theorem dX5_changed_56 : decode cX5_changed 56 = .ok (.sipush 486, 3) := by decide +kernel
theorem dX5_changed_59 : decode cX5_changed 59 = .ok (.if_icmp .ge 32, 3) := by decide +kernel
theorem dX5_changed_62 : decode cX5_changed 62 = .ok (.aload_n 0, 1) := by decide +kernel
theorem dX5_changed_63 : decode cX5_changed 63 = .ok (.getfield 19, 3) := by decide +kernel
theorem dX5_changed_66 : decode cX5_changed 66 = .ok (.sipush 486, 3) := by decide +kernel
theorem dX5_changed_69 : decode cX5_changed 69 = .ok (.aload_n 0, 1) := by decide +kernel
theorem dX5_changed_70 : decode cX5_changed 70 = .ok (.getfield 41, 3) := by decide +kernel
theorem dX5_changed_73 : decode cX5_changed 73 = .ok (.iconst 1, 1) := by decide +kernel
theorem dX5_changed_74 : decode cX5_changed 74 = .ok (.isub, 1) := by decide +kernel
theorem dX5_changed_75 : decode cX5_changed 75 = .ok (.imul, 1) := by decide +kernel
theorem dX5_changed_76 : decode cX5_changed 76 = .ok (.iload_n 2, 1) := by decide +kernel
theorem dX5_changed_77 : decode cX5_changed 77 = .ok (.iadd, 1) := by decide +kernel
theorem dX5_changed_78 : decode cX5_changed 78 = .ok (.aload_n 0, 1) := by decide +kernel
theorem dX5_changed_79 : decode cX5_changed 79 = .ok (.getfield 13, 3) := by decide +kernel
theorem dX5_changed_82 : decode cX5_changed 82 = .ok (.iload_n 2, 1) := by decide +kernel
theorem dX5_changed_83 : decode cX5_changed 83 = .ok (.iaload, 1) := by decide +kernel
theorem dX5_changed_84 : decode cX5_changed 84 = .ok (.iastore, 1) := by decide +kernel
theorem dX5_changed_85 : decode cX5_changed 85 = .ok (.iinc 2 1, 3) := by decide +kernel
theorem dX5_changed_88 : decode cX5_changed 88 = .ok (.goto (-33), 3) := by decide +kernel
theorem dX5_changed_91 : decode cX5_changed 91 = .ok (.iload_n 1, 1) := by decide +kernel
theorem dX5_changed_92 : decode cX5_changed 92 = .ok (.ireturn, 1) := by decide +kernel
theorem dX5_done_0 : decode cX5_done 0 = .ok (.aload_n 0, 1) := by decide +kernel
theorem dX5_done_1 : decode cX5_done 1 = .ok (.iload_n 1, 1) := by decide +kernel
theorem dX5_done_2 : decode cX5_done 2 = .ok (.putfield 44, 3) := by decide +kernel
theorem dX5_done_5 : decode cX5_done 5 = .ok (.iconst 0, 1) := by decide +kernel
theorem dX5_done_6 : decode cX5_done 6 = .ok (.ireturn, 1) := by decide +kernel
theorem dX5_ends_0 : decode cX5_ends 0 = .ok (.iload_n 1, 1) := by decide +kernel
theorem dX5_ends_1 : decode cX5_ends 1 = .ok (.ifCond .ne 14, 3) := by decide +kernel
theorem dX5_ends_4 : decode cX5_ends 4 = .ok (.aload_n 0, 1) := by decide +kernel
theorem dX5_ends_5 : decode cX5_ends 5 = .ok (.aload_n 0, 1) := by decide +kernel
theorem dX5_ends_6 : decode cX5_ends 6 = .ok (.getfield 44, 3) := by decide +kernel
theorem dX5_ends_9 : decode cX5_ends 9 = .ok (.invokevirtual 47, 3) := by decide +kernel
theorem dX5_ends_12 : decode cX5_ends 12 = .ok (.goto 8, 3) := by decide +kernel
theorem dX5_ends_15 : decode cX5_ends 15 = .ok (.aload_n 0, 1) := by decide +kernel
theorem dX5_ends_16 : decode cX5_ends 16 = .ok (.iload_n 1, 1) := by decide +kernel
theorem dX5_ends_17 : decode cX5_ends 17 = .ok (.invokevirtual 51, 3) := by decide +kernel
theorem dX5_ends_20 : decode cX5_ends 20 = .ok (.ireturn, 1) := by decide +kernel
theorem dX5_isReel_0 : decode cX5_isReel 0 = .ok (.iload_n 0, 1) := by decide +kernel
theorem dX5_isReel_1 : decode cX5_isReel 1 = .ok (.iconst 0, 1) := by decide +kernel
theorem dX5_isReel_2 : decode cX5_isReel 2 = .ok (.iconst 3, 1) := by decide +kernel
theorem dX5_isReel_3 : decode cX5_isReel 3 = .ok (.invokestatic 54, 3) := by decide +kernel
theorem dX5_isReel_6 : decode cX5_isReel 6 = .ok (.ireturn, 1) := by decide +kernel
theorem dX5_isLength_0 : decode cX5_isLength 0 = .ok (.iload_n 0, 1) := by decide +kernel
theorem dX5_isLength_1 : decode cX5_isLength 1 = .ok (.iconst 1, 1) := by decide +kernel
theorem dX5_isLength_2 : decode cX5_isLength 2 = .ok (.bipush 99, 2) := by decide +kernel
theorem dX5_isLength_4 : decode cX5_isLength 4 = .ok (.invokestatic 54, 3) := by decide +kernel
theorem dX5_isLength_7 : decode cX5_isLength 7 = .ok (.ireturn, 1) := by decide +kernel
theorem dX5_isColour_0 : decode cX5_isColour 0 = .ok (.iload_n 0, 1) := by decide +kernel
theorem dX5_isColour_1 : decode cX5_isColour 1 = .ok (.iconst 0, 1) := by decide +kernel
theorem dX5_isColour_2 : decode cX5_isColour 2 = .ok (.bipush 7, 2) := by decide +kernel
theorem dX5_isColour_4 : decode cX5_isColour 4 = .ok (.invokestatic 54, 3) := by decide +kernel
theorem dX5_isColour_7 : decode cX5_isColour 7 = .ok (.ireturn, 1) := by decide +kernel
theorem dX5_many_0 : decode cX5_many 0 = .ok (.aload_n 0, 1) := by decide +kernel
theorem dX5_many_1 : decode cX5_many 1 = .ok (.getfield 7, 3) := by decide +kernel
theorem dX5_many_4 : decode cX5_many 4 = .ok (.iconst 2, 1) := by decide +kernel
theorem dX5_many_5 : decode cX5_many 5 = .ok (.bipush 121, 2) := by decide +kernel
theorem dX5_many_7 : decode cX5_many 7 = .ok (.iload_n 1, 1) := by decide +kernel
theorem dX5_many_8 : decode cX5_many 8 = .ok (.imul, 1) := by decide +kernel
theorem dX5_many_9 : decode cX5_many 9 = .ok (.iadd, 1) := by decide +kernel
theorem dX5_many_10 : decode cX5_many 10 = .ok (.iaload, 1) := by decide +kernel
theorem dX5_many_11 : decode cX5_many 11 = .ok (.ireturn, 1) := by decide +kernel
theorem dX5_counts_0 : decode cX5_counts 0 = .ok (.aload_n 0, 1) := by decide +kernel
theorem dX5_counts_1 : decode cX5_counts 1 = .ok (.getfield 7, 3) := by decide +kernel
theorem dX5_counts_4 : decode cX5_counts 4 = .ok (.iconst 2, 1) := by decide +kernel
theorem dX5_counts_5 : decode cX5_counts 5 = .ok (.bipush 121, 2) := by decide +kernel
theorem dX5_counts_7 : decode cX5_counts 7 = .ok (.iload_n 1, 1) := by decide +kernel
theorem dX5_counts_8 : decode cX5_counts 8 = .ok (.imul, 1) := by decide +kernel
theorem dX5_counts_9 : decode cX5_counts 9 = .ok (.iadd, 1) := by decide +kernel
theorem dX5_counts_10 : decode cX5_counts 10 = .ok (.iload_n 2, 1) := by decide +kernel
theorem dX5_counts_11 : decode cX5_counts 11 = .ok (.iastore, 1) := by decide +kernel
theorem dX5_counts_12 : decode cX5_counts 12 = .ok (.return_, 1) := by decide +kernel
theorem dX5_at_0 : decode cX5_at 0 = .ok (.aload_n 0, 1) := by decide +kernel
theorem dX5_at_1 : decode cX5_at 1 = .ok (.getfield 7, 3) := by decide +kernel
theorem dX5_at_4 : decode cX5_at 4 = .ok (.iconst 2, 1) := by decide +kernel
theorem dX5_at_5 : decode cX5_at 5 = .ok (.bipush 121, 2) := by decide +kernel
theorem dX5_at_7 : decode cX5_at 7 = .ok (.iload_n 1, 1) := by decide +kernel
theorem dX5_at_8 : decode cX5_at 8 = .ok (.imul, 1) := by decide +kernel
theorem dX5_at_9 : decode cX5_at 9 = .ok (.iadd, 1) := by decide +kernel
theorem dX5_at_10 : decode cX5_at 10 = .ok (.iconst 1, 1) := by decide +kernel
theorem dX5_at_11 : decode cX5_at 11 = .ok (.iadd, 1) := by decide +kernel
theorem dX5_at_12 : decode cX5_at 12 = .ok (.iconst 2, 1) := by decide +kernel
theorem dX5_at_13 : decode cX5_at 13 = .ok (.iload_n 2, 1) := by decide +kernel
theorem dX5_at_14 : decode cX5_at 14 = .ok (.imul, 1) := by decide +kernel
theorem dX5_at_15 : decode cX5_at 15 = .ok (.iadd, 1) := by decide +kernel
theorem dX5_at_16 : decode cX5_at 16 = .ok (.iload_n 3, 1) := by decide +kernel
theorem dX5_at_17 : decode cX5_at 17 = .ok (.iadd, 1) := by decide +kernel
theorem dX5_at_18 : decode cX5_at 18 = .ok (.iaload, 1) := by decide +kernel
theorem dX5_at_19 : decode cX5_at 19 = .ok (.ireturn, 1) := by decide +kernel
theorem dX5_sets_0 : decode cX5_sets 0 = .ok (.aload_n 0, 1) := by decide +kernel
theorem dX5_sets_1 : decode cX5_sets 1 = .ok (.getfield 7, 3) := by decide +kernel
theorem dX5_sets_4 : decode cX5_sets 4 = .ok (.iconst 2, 1) := by decide +kernel
theorem dX5_sets_5 : decode cX5_sets 5 = .ok (.bipush 121, 2) := by decide +kernel
theorem dX5_sets_7 : decode cX5_sets 7 = .ok (.iload_n 1, 1) := by decide +kernel
theorem dX5_sets_8 : decode cX5_sets 8 = .ok (.imul, 1) := by decide +kernel
theorem dX5_sets_9 : decode cX5_sets 9 = .ok (.iadd, 1) := by decide +kernel
theorem dX5_sets_10 : decode cX5_sets 10 = .ok (.iconst 1, 1) := by decide +kernel
theorem dX5_sets_11 : decode cX5_sets 11 = .ok (.iadd, 1) := by decide +kernel
theorem dX5_sets_12 : decode cX5_sets 12 = .ok (.iconst 2, 1) := by decide +kernel
theorem dX5_sets_13 : decode cX5_sets 13 = .ok (.iload_n 2, 1) := by decide +kernel
theorem dX5_sets_14 : decode cX5_sets 14 = .ok (.imul, 1) := by decide +kernel
theorem dX5_sets_15 : decode cX5_sets 15 = .ok (.iadd, 1) := by decide +kernel
theorem dX5_sets_16 : decode cX5_sets 16 = .ok (.iload_n 3, 1) := by decide +kernel
theorem dX5_sets_17 : decode cX5_sets 17 = .ok (.iastore, 1) := by decide +kernel
theorem dX5_sets_18 : decode cX5_sets 18 = .ok (.aload_n 0, 1) := by decide +kernel
theorem dX5_sets_19 : decode cX5_sets 19 = .ok (.getfield 7, 3) := by decide +kernel
theorem dX5_sets_22 : decode cX5_sets 22 = .ok (.iconst 2, 1) := by decide +kernel
theorem dX5_sets_23 : decode cX5_sets 23 = .ok (.bipush 121, 2) := by decide +kernel
theorem dX5_sets_25 : decode cX5_sets 25 = .ok (.iload_n 1, 1) := by decide +kernel
theorem dX5_sets_26 : decode cX5_sets 26 = .ok (.imul, 1) := by decide +kernel
theorem dX5_sets_27 : decode cX5_sets 27 = .ok (.iadd, 1) := by decide +kernel
theorem dX5_sets_28 : decode cX5_sets 28 = .ok (.iconst 2, 1) := by decide +kernel
theorem dX5_sets_29 : decode cX5_sets 29 = .ok (.iadd, 1) := by decide +kernel
theorem dX5_sets_30 : decode cX5_sets 30 = .ok (.iconst 2, 1) := by decide +kernel
theorem dX5_sets_31 : decode cX5_sets 31 = .ok (.iload_n 2, 1) := by decide +kernel
theorem dX5_sets_32 : decode cX5_sets 32 = .ok (.imul, 1) := by decide +kernel
theorem dX5_sets_33 : decode cX5_sets 33 = .ok (.iadd, 1) := by decide +kernel
theorem dX5_sets_34 : decode cX5_sets 34 = .ok (.iload 4, 2) := by decide +kernel
theorem dX5_sets_36 : decode cX5_sets 36 = .ok (.iastore, 1) := by decide +kernel
theorem dX5_sets_37 : decode cX5_sets 37 = .ok (.return_, 1) := by decide +kernel
theorem dX5_isSegment_0 : decode cX5_isSegment 0 = .ok (.iload_n 1, 1) := by decide +kernel
theorem dX5_isSegment_1 : decode cX5_isSegment 1 = .ok (.invokestatic 58, 3) := by decide +kernel
theorem dX5_isSegment_4 : decode cX5_isSegment 4 = .ok (.ifCond .eq 22, 3) := by decide +kernel
theorem dX5_isSegment_7 : decode cX5_isSegment 7 = .ok (.iload_n 2, 1) := by decide +kernel
theorem dX5_isSegment_8 : decode cX5_isSegment 8 = .ok (.iconst 0, 1) := by decide +kernel
theorem dX5_isSegment_9 : decode cX5_isSegment 9 = .ok (.aload_n 0, 1) := by decide +kernel
theorem dX5_isSegment_10 : decode cX5_isSegment 10 = .ok (.iload_n 1, 1) := by decide +kernel
theorem dX5_isSegment_11 : decode cX5_isSegment 11 = .ok (.invokevirtual 62, 3) := by decide +kernel
theorem dX5_isSegment_14 : decode cX5_isSegment 14 = .ok (.iconst 1, 1) := by decide +kernel
theorem dX5_isSegment_15 : decode cX5_isSegment 15 = .ok (.isub, 1) := by decide +kernel
theorem dX5_isSegment_16 : decode cX5_isSegment 16 = .ok (.invokestatic 54, 3) := by decide +kernel
theorem dX5_isSegment_19 : decode cX5_isSegment 19 = .ok (.ifCond .eq 7, 3) := by decide +kernel
theorem dX5_isSegment_22 : decode cX5_isSegment 22 = .ok (.iconst 1, 1) := by decide +kernel
theorem dX5_isSegment_23 : decode cX5_isSegment 23 = .ok (.goto 4, 3) := by decide +kernel
theorem dX5_isSegment_26 : decode cX5_isSegment 26 = .ok (.iconst 0, 1) := by decide +kernel
theorem dX5_isSegment_27 : decode cX5_isSegment 27 = .ok (.ireturn, 1) := by decide +kernel
theorem dX5_isBefore_0 : decode cX5_isBefore 0 = .ok (.iload_n 1, 1) := by decide +kernel
theorem dX5_isBefore_1 : decode cX5_isBefore 1 = .ok (.invokestatic 58, 3) := by decide +kernel
theorem dX5_isBefore_4 : decode cX5_isBefore 4 = .ok (.ifCond .eq 20, 3) := by decide +kernel
theorem dX5_isBefore_7 : decode cX5_isBefore 7 = .ok (.iload_n 2, 1) := by decide +kernel
theorem dX5_isBefore_8 : decode cX5_isBefore 8 = .ok (.iconst 0, 1) := by decide +kernel
theorem dX5_isBefore_9 : decode cX5_isBefore 9 = .ok (.aload_n 0, 1) := by decide +kernel
theorem dX5_isBefore_10 : decode cX5_isBefore 10 = .ok (.iload_n 1, 1) := by decide +kernel
theorem dX5_isBefore_11 : decode cX5_isBefore 11 = .ok (.invokevirtual 62, 3) := by decide +kernel
theorem dX5_isBefore_14 : decode cX5_isBefore 14 = .ok (.invokestatic 54, 3) := by decide +kernel
theorem dX5_isBefore_17 : decode cX5_isBefore 17 = .ok (.ifCond .eq 7, 3) := by decide +kernel
theorem dX5_isBefore_20 : decode cX5_isBefore 20 = .ok (.iconst 1, 1) := by decide +kernel
theorem dX5_isBefore_21 : decode cX5_isBefore 21 = .ok (.goto 4, 3) := by decide +kernel
theorem dX5_isBefore_24 : decode cX5_isBefore 24 = .ok (.iconst 0, 1) := by decide +kernel
theorem dX5_isBefore_25 : decode cX5_isBefore 25 = .ok (.ireturn, 1) := by decide +kernel
theorem dX5_puts_0 : decode cX5_puts 0 = .ok (.aload_n 0, 1) := by decide +kernel
theorem dX5_puts_1 : decode cX5_puts 1 = .ok (.iload_n 1, 1) := by decide +kernel
theorem dX5_puts_2 : decode cX5_puts 2 = .ok (.iload_n 2, 1) := by decide +kernel
theorem dX5_puts_3 : decode cX5_puts 3 = .ok (.invokevirtual 65, 3) := by decide +kernel
theorem dX5_puts_6 : decode cX5_puts 6 = .ok (.ifCond .ne 5, 3) := by decide +kernel
theorem dX5_puts_9 : decode cX5_puts 9 = .ok (.iconst 1, 1) := by decide +kernel
theorem dX5_puts_10 : decode cX5_puts 10 = .ok (.ireturn, 1) := by decide +kernel
theorem dX5_puts_11 : decode cX5_puts 11 = .ok (.iload_n 3, 1) := by decide +kernel
theorem dX5_puts_12 : decode cX5_puts 12 = .ok (.invokestatic 69, 3) := by decide +kernel
theorem dX5_puts_15 : decode cX5_puts 15 = .ok (.ifCond .eq 11, 3) := by decide +kernel
theorem dX5_puts_18 : decode cX5_puts 18 = .ok (.iload 4, 2) := by decide +kernel
theorem dX5_puts_20 : decode cX5_puts 20 = .ok (.invokestatic 72, 3) := by decide +kernel
theorem dX5_puts_23 : decode cX5_puts 23 = .ok (.ifCond .ne 5, 3) := by decide +kernel
theorem dX5_puts_26 : decode cX5_puts 26 = .ok (.iconst 2, 1) := by decide +kernel
theorem dX5_puts_27 : decode cX5_puts 27 = .ok (.ireturn, 1) := by decide +kernel
theorem dX5_puts_28 : decode cX5_puts 28 = .ok (.aload_n 0, 1) := by decide +kernel
theorem dX5_puts_29 : decode cX5_puts 29 = .ok (.iload_n 1, 1) := by decide +kernel
theorem dX5_puts_30 : decode cX5_puts 30 = .ok (.invokevirtual 62, 3) := by decide +kernel
theorem dX5_puts_33 : decode cX5_puts 33 = .ok (.istore 5, 2) := by decide +kernel
theorem dX5_puts_35 : decode cX5_puts 35 = .ok (.iload 5, 2) := by decide +kernel
theorem dX5_puts_37 : decode cX5_puts 37 = .ok (.bipush 60, 2) := by decide +kernel
theorem dX5_puts_39 : decode cX5_puts 39 = .ok (.if_icmp .ne 5, 3) := by decide +kernel
theorem dX5_puts_42 : decode cX5_puts 42 = .ok (.iconst 3, 1) := by decide +kernel
theorem dX5_puts_43 : decode cX5_puts 43 = .ok (.ireturn, 1) := by decide +kernel
theorem dX5_puts_44 : decode cX5_puts 44 = .ok (.iload 5, 2) := by decide +kernel
theorem dX5_puts_46 : decode cX5_puts 46 = .ok (.istore 6, 2) := by decide +kernel
theorem dX5_puts_48 : decode cX5_puts 48 = .ok (.iload 6, 2) := by decide +kernel
theorem dX5_puts_50 : decode cX5_puts 50 = .ok (.iload_n 2, 1) := by decide +kernel
theorem dX5_puts_51 : decode cX5_puts 51 = .ok (.if_icmp .le 36, 3) := by decide +kernel
theorem dX5_puts_54 : decode cX5_puts 54 = .ok (.aload_n 0, 1) := by decide +kernel
theorem dX5_puts_55 : decode cX5_puts 55 = .ok (.iload_n 1, 1) := by decide +kernel
theorem dX5_puts_56 : decode cX5_puts 56 = .ok (.iload 6, 2) := by decide +kernel
theorem dX5_puts_58 : decode cX5_puts 58 = .ok (.aload_n 0, 1) := by decide +kernel
theorem dX5_puts_59 : decode cX5_puts 59 = .ok (.iload_n 1, 1) := by decide +kernel
theorem dX5_puts_60 : decode cX5_puts 60 = .ok (.iload 6, 2) := by decide +kernel
theorem dX5_puts_62 : decode cX5_puts 62 = .ok (.iconst 1, 1) := by decide +kernel
theorem dX5_puts_63 : decode cX5_puts 63 = .ok (.isub, 1) := by decide +kernel
theorem dX5_puts_64 : decode cX5_puts 64 = .ok (.iconst 0, 1) := by decide +kernel
theorem dX5_puts_65 : decode cX5_puts 65 = .ok (.invokevirtual 75, 3) := by decide +kernel
theorem dX5_puts_68 : decode cX5_puts 68 = .ok (.aload_n 0, 1) := by decide +kernel
theorem dX5_puts_69 : decode cX5_puts 69 = .ok (.iload_n 1, 1) := by decide +kernel
theorem dX5_puts_70 : decode cX5_puts 70 = .ok (.iload 6, 2) := by decide +kernel
theorem dX5_puts_72 : decode cX5_puts 72 = .ok (.iconst 1, 1) := by decide +kernel
theorem dX5_puts_73 : decode cX5_puts 73 = .ok (.isub, 1) := by decide +kernel
theorem dX5_puts_74 : decode cX5_puts 74 = .ok (.iconst 1, 1) := by decide +kernel
theorem dX5_puts_75 : decode cX5_puts 75 = .ok (.invokevirtual 75, 3) := by decide +kernel
theorem dX5_puts_78 : decode cX5_puts 78 = .ok (.invokevirtual 79, 3) := by decide +kernel
theorem dX5_puts_81 : decode cX5_puts 81 = .ok (.iinc 6 (-1), 3) := by decide +kernel
theorem dX5_puts_84 : decode cX5_puts 84 = .ok (.goto (-36), 3) := by decide +kernel
theorem dX5_puts_87 : decode cX5_puts 87 = .ok (.aload_n 0, 1) := by decide +kernel
theorem dX5_puts_88 : decode cX5_puts 88 = .ok (.iload_n 1, 1) := by decide +kernel
theorem dX5_puts_89 : decode cX5_puts 89 = .ok (.iload_n 2, 1) := by decide +kernel
theorem dX5_puts_90 : decode cX5_puts 90 = .ok (.iload_n 3, 1) := by decide +kernel
theorem dX5_puts_91 : decode cX5_puts 91 = .ok (.iload 4, 2) := by decide +kernel
theorem dX5_puts_93 : decode cX5_puts 93 = .ok (.invokevirtual 79, 3) := by decide +kernel
theorem dX5_puts_96 : decode cX5_puts 96 = .ok (.aload_n 0, 1) := by decide +kernel
theorem dX5_puts_97 : decode cX5_puts 97 = .ok (.iload_n 1, 1) := by decide +kernel
theorem dX5_puts_98 : decode cX5_puts 98 = .ok (.iload 5, 2) := by decide +kernel
theorem dX5_puts_100 : decode cX5_puts 100 = .ok (.iconst 1, 1) := by decide +kernel
theorem dX5_puts_101 : decode cX5_puts 101 = .ok (.iadd, 1) := by decide +kernel
theorem dX5_puts_102 : decode cX5_puts 102 = .ok (.invokevirtual 83, 3) := by decide +kernel
theorem dX5_puts_105 : decode cX5_puts 105 = .ok (.aload_n 0, 1) := by decide +kernel
theorem dX5_puts_106 : decode cX5_puts 106 = .ok (.iload 5, 2) := by decide +kernel
theorem dX5_puts_108 : decode cX5_puts 108 = .ok (.iconst 1, 1) := by decide +kernel
theorem dX5_puts_109 : decode cX5_puts 109 = .ok (.iadd, 1) := by decide +kernel
theorem dX5_puts_110 : decode cX5_puts 110 = .ok (.invokevirtual 87, 3) := by decide +kernel
theorem dX5_puts_113 : decode cX5_puts 113 = .ok (.ireturn, 1) := by decide +kernel
theorem dX5_takes_0 : decode cX5_takes 0 = .ok (.aload_n 0, 1) := by decide +kernel
theorem dX5_takes_1 : decode cX5_takes 1 = .ok (.iload_n 1, 1) := by decide +kernel
theorem dX5_takes_2 : decode cX5_takes 2 = .ok (.iload_n 2, 1) := by decide +kernel
theorem dX5_takes_3 : decode cX5_takes 3 = .ok (.invokevirtual 90, 3) := by decide +kernel
theorem dX5_takes_6 : decode cX5_takes 6 = .ok (.ifCond .ne 5, 3) := by decide +kernel
theorem dX5_takes_9 : decode cX5_takes 9 = .ok (.iconst 1, 1) := by decide +kernel
theorem dX5_takes_10 : decode cX5_takes 10 = .ok (.ireturn, 1) := by decide +kernel
theorem dX5_takes_11 : decode cX5_takes 11 = .ok (.aload_n 0, 1) := by decide +kernel
theorem dX5_takes_12 : decode cX5_takes 12 = .ok (.iload_n 1, 1) := by decide +kernel
theorem dX5_takes_13 : decode cX5_takes 13 = .ok (.iload_n 2, 1) := by decide +kernel
theorem dX5_takes_14 : decode cX5_takes 14 = .ok (.iconst 0, 1) := by decide +kernel
theorem dX5_takes_15 : decode cX5_takes 15 = .ok (.invokevirtual 75, 3) := by decide +kernel
theorem dX5_takes_18 : decode cX5_takes 18 = .ok (.istore_n 3, 1) := by decide +kernel
theorem dX5_takes_19 : decode cX5_takes 19 = .ok (.aload_n 0, 1) := by decide +kernel
theorem dX5_takes_20 : decode cX5_takes 20 = .ok (.iload_n 1, 1) := by decide +kernel
theorem dX5_takes_21 : decode cX5_takes 21 = .ok (.invokevirtual 62, 3) := by decide +kernel
theorem dX5_takes_24 : decode cX5_takes 24 = .ok (.iconst 1, 1) := by decide +kernel
theorem dX5_takes_25 : decode cX5_takes 25 = .ok (.isub, 1) := by decide +kernel
theorem dX5_takes_26 : decode cX5_takes 26 = .ok (.istore 4, 2) := by decide +kernel
theorem dX5_takes_28 : decode cX5_takes 28 = .ok (.iload_n 2, 1) := by decide +kernel
theorem dX5_takes_29 : decode cX5_takes 29 = .ok (.istore 5, 2) := by decide +kernel
theorem dX5_takes_31 : decode cX5_takes 31 = .ok (.iload 5, 2) := by decide +kernel
theorem dX5_takes_33 : decode cX5_takes 33 = .ok (.iload 4, 2) := by decide +kernel
theorem dX5_takes_35 : decode cX5_takes 35 = .ok (.if_icmp .ge 36, 3) := by decide +kernel
theorem dX5_takes_38 : decode cX5_takes 38 = .ok (.aload_n 0, 1) := by decide +kernel
theorem dX5_takes_39 : decode cX5_takes 39 = .ok (.iload_n 1, 1) := by decide +kernel
theorem dX5_takes_40 : decode cX5_takes 40 = .ok (.iload 5, 2) := by decide +kernel
theorem dX5_takes_42 : decode cX5_takes 42 = .ok (.aload_n 0, 1) := by decide +kernel
theorem dX5_takes_43 : decode cX5_takes 43 = .ok (.iload_n 1, 1) := by decide +kernel
theorem dX5_takes_44 : decode cX5_takes 44 = .ok (.iload 5, 2) := by decide +kernel
theorem dX5_takes_46 : decode cX5_takes 46 = .ok (.iconst 1, 1) := by decide +kernel
theorem dX5_takes_47 : decode cX5_takes 47 = .ok (.iadd, 1) := by decide +kernel
theorem dX5_takes_48 : decode cX5_takes 48 = .ok (.iconst 0, 1) := by decide +kernel
theorem dX5_takes_49 : decode cX5_takes 49 = .ok (.invokevirtual 75, 3) := by decide +kernel
theorem dX5_takes_52 : decode cX5_takes 52 = .ok (.aload_n 0, 1) := by decide +kernel
theorem dX5_takes_53 : decode cX5_takes 53 = .ok (.iload_n 1, 1) := by decide +kernel
theorem dX5_takes_54 : decode cX5_takes 54 = .ok (.iload 5, 2) := by decide +kernel
theorem dX5_takes_56 : decode cX5_takes 56 = .ok (.iconst 1, 1) := by decide +kernel
theorem dX5_takes_57 : decode cX5_takes 57 = .ok (.iadd, 1) := by decide +kernel
theorem dX5_takes_58 : decode cX5_takes 58 = .ok (.iconst 1, 1) := by decide +kernel
theorem dX5_takes_59 : decode cX5_takes 59 = .ok (.invokevirtual 75, 3) := by decide +kernel
theorem dX5_takes_62 : decode cX5_takes 62 = .ok (.invokevirtual 79, 3) := by decide +kernel
theorem dX5_takes_65 : decode cX5_takes 65 = .ok (.iinc 5 1, 3) := by decide +kernel
theorem dX5_takes_68 : decode cX5_takes 68 = .ok (.goto (-37), 3) := by decide +kernel
theorem dX5_takes_71 : decode cX5_takes 71 = .ok (.aload_n 0, 1) := by decide +kernel
theorem dX5_takes_72 : decode cX5_takes 72 = .ok (.iload_n 1, 1) := by decide +kernel
theorem dX5_takes_73 : decode cX5_takes 73 = .ok (.iload 4, 2) := by decide +kernel
theorem dX5_takes_75 : decode cX5_takes 75 = .ok (.iconst 0, 1) := by decide +kernel
theorem dX5_takes_76 : decode cX5_takes 76 = .ok (.iconst 0, 1) := by decide +kernel
theorem dX5_takes_77 : decode cX5_takes 77 = .ok (.invokevirtual 79, 3) := by decide +kernel
theorem dX5_takes_80 : decode cX5_takes 80 = .ok (.aload_n 0, 1) := by decide +kernel
theorem dX5_takes_81 : decode cX5_takes 81 = .ok (.iload_n 1, 1) := by decide +kernel
theorem dX5_takes_82 : decode cX5_takes 82 = .ok (.iload 4, 2) := by decide +kernel
theorem dX5_takes_84 : decode cX5_takes 84 = .ok (.invokevirtual 83, 3) := by decide +kernel
theorem dX5_takes_87 : decode cX5_takes 87 = .ok (.aload_n 0, 1) := by decide +kernel
theorem dX5_takes_88 : decode cX5_takes 88 = .ok (.iload_n 3, 1) := by decide +kernel
theorem dX5_takes_89 : decode cX5_takes 89 = .ok (.invokevirtual 87, 3) := by decide +kernel
theorem dX5_takes_92 : decode cX5_takes 92 = .ok (.ireturn, 1) := by decide +kernel
theorem dX5_ties_0 : decode cX5_ties 0 = .ok (.aload_n 0, 1) := by decide +kernel
theorem dX5_ties_1 : decode cX5_ties 1 = .ok (.iload_n 1, 1) := by decide +kernel
theorem dX5_ties_2 : decode cX5_ties 2 = .ok (.iload_n 2, 1) := by decide +kernel
theorem dX5_ties_3 : decode cX5_ties 3 = .ok (.invokevirtual 90, 3) := by decide +kernel
theorem dX5_ties_6 : decode cX5_ties 6 = .ok (.ifCond .ne 5, 3) := by decide +kernel
theorem dX5_ties_9 : decode cX5_ties 9 = .ok (.iconst 1, 1) := by decide +kernel
theorem dX5_ties_10 : decode cX5_ties 10 = .ok (.ireturn, 1) := by decide +kernel
theorem dX5_ties_11 : decode cX5_ties 11 = .ok (.iload_n 3, 1) := by decide +kernel
theorem dX5_ties_12 : decode cX5_ties 12 = .ok (.invokestatic 69, 3) := by decide +kernel
theorem dX5_ties_15 : decode cX5_ties 15 = .ok (.ifCond .ne 5, 3) := by decide +kernel
theorem dX5_ties_18 : decode cX5_ties 18 = .ok (.iconst 2, 1) := by decide +kernel
theorem dX5_ties_19 : decode cX5_ties 19 = .ok (.ireturn, 1) := by decide +kernel
theorem dX5_ties_20 : decode cX5_ties 20 = .ok (.aload_n 0, 1) := by decide +kernel
theorem dX5_ties_21 : decode cX5_ties 21 = .ok (.iload_n 1, 1) := by decide +kernel
theorem dX5_ties_22 : decode cX5_ties 22 = .ok (.iload_n 2, 1) := by decide +kernel
theorem dX5_ties_23 : decode cX5_ties 23 = .ok (.iconst 0, 1) := by decide +kernel
theorem dX5_ties_24 : decode cX5_ties 24 = .ok (.invokevirtual 75, 3) := by decide +kernel
theorem dX5_ties_27 : decode cX5_ties 27 = .ok (.istore 4, 2) := by decide +kernel
theorem dX5_ties_29 : decode cX5_ties 29 = .ok (.aload_n 0, 1) := by decide +kernel
theorem dX5_ties_30 : decode cX5_ties 30 = .ok (.iload_n 1, 1) := by decide +kernel
theorem dX5_ties_31 : decode cX5_ties 31 = .ok (.iload_n 2, 1) := by decide +kernel
theorem dX5_ties_32 : decode cX5_ties 32 = .ok (.iload_n 3, 1) := by decide +kernel
theorem dX5_ties_33 : decode cX5_ties 33 = .ok (.aload_n 0, 1) := by decide +kernel
theorem dX5_ties_34 : decode cX5_ties 34 = .ok (.iload_n 1, 1) := by decide +kernel
theorem dX5_ties_35 : decode cX5_ties 35 = .ok (.iload_n 2, 1) := by decide +kernel
theorem dX5_ties_36 : decode cX5_ties 36 = .ok (.iconst 1, 1) := by decide +kernel
theorem dX5_ties_37 : decode cX5_ties 37 = .ok (.invokevirtual 75, 3) := by decide +kernel
theorem dX5_ties_40 : decode cX5_ties 40 = .ok (.invokevirtual 79, 3) := by decide +kernel
theorem dX5_ties_43 : decode cX5_ties 43 = .ok (.aload_n 0, 1) := by decide +kernel
theorem dX5_ties_44 : decode cX5_ties 44 = .ok (.iload 4, 2) := by decide +kernel
theorem dX5_ties_46 : decode cX5_ties 46 = .ok (.invokevirtual 87, 3) := by decide +kernel
theorem dX5_ties_49 : decode cX5_ties 49 = .ok (.ireturn, 1) := by decide +kernel
theorem dX5_moves_0 : decode cX5_moves 0 = .ok (.aload_n 0, 1) := by decide +kernel
theorem dX5_moves_1 : decode cX5_moves 1 = .ok (.iload_n 1, 1) := by decide +kernel
theorem dX5_moves_2 : decode cX5_moves 2 = .ok (.invokevirtual 62, 3) := by decide +kernel
theorem dX5_moves_5 : decode cX5_moves 5 = .ok (.istore 4, 2) := by decide +kernel
theorem dX5_moves_7 : decode cX5_moves 7 = .ok (.iload_n 2, 1) := by decide +kernel
theorem dX5_moves_8 : decode cX5_moves 8 = .ok (.istore 5, 2) := by decide +kernel
theorem dX5_moves_10 : decode cX5_moves 10 = .ok (.iload 5, 2) := by decide +kernel
theorem dX5_moves_12 : decode cX5_moves 12 = .ok (.iload 4, 2) := by decide +kernel
theorem dX5_moves_14 : decode cX5_moves 14 = .ok (.if_icmp .ge 56, 3) := by decide +kernel
theorem dX5_moves_17 : decode cX5_moves 17 = .ok (.aload_n 0, 1) := by decide +kernel
theorem dX5_moves_18 : decode cX5_moves 18 = .ok (.iload_n 3, 1) := by decide +kernel
theorem dX5_moves_19 : decode cX5_moves 19 = .ok (.aload_n 0, 1) := by decide +kernel
theorem dX5_moves_20 : decode cX5_moves 20 = .ok (.iload_n 3, 1) := by decide +kernel
theorem dX5_moves_21 : decode cX5_moves 21 = .ok (.invokevirtual 62, 3) := by decide +kernel
theorem dX5_moves_24 : decode cX5_moves 24 = .ok (.aload_n 0, 1) := by decide +kernel
theorem dX5_moves_25 : decode cX5_moves 25 = .ok (.iload_n 1, 1) := by decide +kernel
theorem dX5_moves_26 : decode cX5_moves 26 = .ok (.iload 5, 2) := by decide +kernel
theorem dX5_moves_28 : decode cX5_moves 28 = .ok (.iconst 0, 1) := by decide +kernel
theorem dX5_moves_29 : decode cX5_moves 29 = .ok (.invokevirtual 75, 3) := by decide +kernel
theorem dX5_moves_32 : decode cX5_moves 32 = .ok (.aload_n 0, 1) := by decide +kernel
theorem dX5_moves_33 : decode cX5_moves 33 = .ok (.iload_n 1, 1) := by decide +kernel
theorem dX5_moves_34 : decode cX5_moves 34 = .ok (.iload 5, 2) := by decide +kernel
theorem dX5_moves_36 : decode cX5_moves 36 = .ok (.iconst 1, 1) := by decide +kernel
theorem dX5_moves_37 : decode cX5_moves 37 = .ok (.invokevirtual 75, 3) := by decide +kernel
theorem dX5_moves_40 : decode cX5_moves 40 = .ok (.invokevirtual 79, 3) := by decide +kernel
theorem dX5_moves_43 : decode cX5_moves 43 = .ok (.aload_n 0, 1) := by decide +kernel
theorem dX5_moves_44 : decode cX5_moves 44 = .ok (.iload_n 3, 1) := by decide +kernel
theorem dX5_moves_45 : decode cX5_moves 45 = .ok (.aload_n 0, 1) := by decide +kernel
theorem dX5_moves_46 : decode cX5_moves 46 = .ok (.iload_n 3, 1) := by decide +kernel
theorem dX5_moves_47 : decode cX5_moves 47 = .ok (.invokevirtual 62, 3) := by decide +kernel
theorem dX5_moves_50 : decode cX5_moves 50 = .ok (.iconst 1, 1) := by decide +kernel
theorem dX5_moves_51 : decode cX5_moves 51 = .ok (.iadd, 1) := by decide +kernel
theorem dX5_moves_52 : decode cX5_moves 52 = .ok (.invokevirtual 83, 3) := by decide +kernel
theorem dX5_moves_55 : decode cX5_moves 55 = .ok (.aload_n 0, 1) := by decide +kernel
theorem dX5_moves_56 : decode cX5_moves 56 = .ok (.iload_n 1, 1) := by decide +kernel
theorem dX5_moves_57 : decode cX5_moves 57 = .ok (.iload 5, 2) := by decide +kernel
theorem dX5_moves_59 : decode cX5_moves 59 = .ok (.iconst 0, 1) := by decide +kernel
theorem dX5_moves_60 : decode cX5_moves 60 = .ok (.iconst 0, 1) := by decide +kernel
theorem dX5_moves_61 : decode cX5_moves 61 = .ok (.invokevirtual 79, 3) := by decide +kernel
theorem dX5_moves_64 : decode cX5_moves 64 = .ok (.iinc 5 1, 3) := by decide +kernel
theorem dX5_moves_67 : decode cX5_moves 67 = .ok (.goto (-57), 3) := by decide +kernel
theorem dX5_moves_70 : decode cX5_moves 70 = .ok (.aload_n 0, 1) := by decide +kernel
theorem dX5_moves_71 : decode cX5_moves 71 = .ok (.iload_n 1, 1) := by decide +kernel
theorem dX5_moves_72 : decode cX5_moves 72 = .ok (.iload_n 2, 1) := by decide +kernel
theorem dX5_moves_73 : decode cX5_moves 73 = .ok (.invokevirtual 83, 3) := by decide +kernel
theorem dX5_moves_76 : decode cX5_moves 76 = .ok (.iload 4, 2) := by decide +kernel
theorem dX5_moves_78 : decode cX5_moves 78 = .ok (.iload_n 2, 1) := by decide +kernel
theorem dX5_moves_79 : decode cX5_moves 79 = .ok (.isub, 1) := by decide +kernel
theorem dX5_moves_80 : decode cX5_moves 80 = .ok (.ireturn, 1) := by decide +kernel
theorem dX5_cuts_0 : decode cX5_cuts 0 = .ok (.aload_n 0, 1) := by decide +kernel
theorem dX5_cuts_1 : decode cX5_cuts 1 = .ok (.iload_n 1, 1) := by decide +kernel
theorem dX5_cuts_2 : decode cX5_cuts 2 = .ok (.iload_n 2, 1) := by decide +kernel
theorem dX5_cuts_3 : decode cX5_cuts 3 = .ok (.invokevirtual 65, 3) := by decide +kernel
theorem dX5_cuts_6 : decode cX5_cuts 6 = .ok (.ifCond .eq 10, 3) := by decide +kernel
theorem dX5_cuts_9 : decode cX5_cuts 9 = .ok (.iload_n 3, 1) := by decide +kernel
theorem dX5_cuts_10 : decode cX5_cuts 10 = .ok (.invokestatic 58, 3) := by decide +kernel
theorem dX5_cuts_13 : decode cX5_cuts 13 = .ok (.ifCond .ne 5, 3) := by decide +kernel
theorem dX5_cuts_16 : decode cX5_cuts 16 = .ok (.iconst 1, 1) := by decide +kernel
theorem dX5_cuts_17 : decode cX5_cuts 17 = .ok (.ireturn, 1) := by decide +kernel
theorem dX5_cuts_18 : decode cX5_cuts 18 = .ok (.iload_n 1, 1) := by decide +kernel
theorem dX5_cuts_19 : decode cX5_cuts 19 = .ok (.iload_n 3, 1) := by decide +kernel
theorem dX5_cuts_20 : decode cX5_cuts 20 = .ok (.if_icmp .ne 5, 3) := by decide +kernel
theorem dX5_cuts_23 : decode cX5_cuts 23 = .ok (.iconst 2, 1) := by decide +kernel
theorem dX5_cuts_24 : decode cX5_cuts 24 = .ok (.ireturn, 1) := by decide +kernel
theorem dX5_cuts_25 : decode cX5_cuts 25 = .ok (.aload_n 0, 1) := by decide +kernel
theorem dX5_cuts_26 : decode cX5_cuts 26 = .ok (.iload_n 3, 1) := by decide +kernel
theorem dX5_cuts_27 : decode cX5_cuts 27 = .ok (.invokevirtual 62, 3) := by decide +kernel
theorem dX5_cuts_30 : decode cX5_cuts 30 = .ok (.ifCond .le 5, 3) := by decide +kernel
theorem dX5_cuts_33 : decode cX5_cuts 33 = .ok (.iconst 3, 1) := by decide +kernel
theorem dX5_cuts_34 : decode cX5_cuts 34 = .ok (.ireturn, 1) := by decide +kernel
theorem dX5_cuts_35 : decode cX5_cuts 35 = .ok (.aload_n 0, 1) := by decide +kernel
theorem dX5_cuts_36 : decode cX5_cuts 36 = .ok (.getfield 7, 3) := by decide +kernel
theorem dX5_cuts_39 : decode cX5_cuts 39 = .ok (.iconst 0, 1) := by decide +kernel
theorem dX5_cuts_40 : decode cX5_cuts 40 = .ok (.dup2, 1) := by decide +kernel
theorem dX5_cuts_41 : decode cX5_cuts 41 = .ok (.iaload, 1) := by decide +kernel
theorem dX5_cuts_42 : decode cX5_cuts 42 = .ok (.iconst 1, 1) := by decide +kernel
theorem dX5_cuts_43 : decode cX5_cuts 43 = .ok (.iadd, 1) := by decide +kernel
theorem dX5_cuts_44 : decode cX5_cuts 44 = .ok (.iastore, 1) := by decide +kernel
theorem dX5_cuts_45 : decode cX5_cuts 45 = .ok (.aload_n 0, 1) := by decide +kernel
theorem dX5_cuts_46 : decode cX5_cuts 46 = .ok (.aload_n 0, 1) := by decide +kernel
theorem dX5_cuts_47 : decode cX5_cuts 47 = .ok (.iload_n 1, 1) := by decide +kernel
theorem dX5_cuts_48 : decode cX5_cuts 48 = .ok (.iload_n 2, 1) := by decide +kernel
theorem dX5_cuts_49 : decode cX5_cuts 49 = .ok (.iload_n 3, 1) := by decide +kernel
theorem dX5_cuts_50 : decode cX5_cuts 50 = .ok (.invokevirtual 93, 3) := by decide +kernel
theorem dX5_cuts_53 : decode cX5_cuts 53 = .ok (.invokevirtual 87, 3) := by decide +kernel
theorem dX5_cuts_56 : decode cX5_cuts 56 = .ok (.ireturn, 1) := by decide +kernel
theorem dX5_joins_0 : decode cX5_joins 0 = .ok (.iload_n 1, 1) := by decide +kernel
theorem dX5_joins_1 : decode cX5_joins 1 = .ok (.invokestatic 58, 3) := by decide +kernel
theorem dX5_joins_4 : decode cX5_joins 4 = .ok (.ifCond .eq 10, 3) := by decide +kernel
theorem dX5_joins_7 : decode cX5_joins 7 = .ok (.iload_n 2, 1) := by decide +kernel
theorem dX5_joins_8 : decode cX5_joins 8 = .ok (.invokestatic 58, 3) := by decide +kernel
theorem dX5_joins_11 : decode cX5_joins 11 = .ok (.ifCond .ne 5, 3) := by decide +kernel
theorem dX5_joins_14 : decode cX5_joins 14 = .ok (.iconst 1, 1) := by decide +kernel
theorem dX5_joins_15 : decode cX5_joins 15 = .ok (.ireturn, 1) := by decide +kernel
theorem dX5_joins_16 : decode cX5_joins 16 = .ok (.iload_n 1, 1) := by decide +kernel
theorem dX5_joins_17 : decode cX5_joins 17 = .ok (.iload_n 2, 1) := by decide +kernel
theorem dX5_joins_18 : decode cX5_joins 18 = .ok (.if_icmp .ne 5, 3) := by decide +kernel
theorem dX5_joins_21 : decode cX5_joins 21 = .ok (.iconst 2, 1) := by decide +kernel
theorem dX5_joins_22 : decode cX5_joins 22 = .ok (.ireturn, 1) := by decide +kernel
theorem dX5_joins_23 : decode cX5_joins 23 = .ok (.aload_n 0, 1) := by decide +kernel
theorem dX5_joins_24 : decode cX5_joins 24 = .ok (.iload_n 1, 1) := by decide +kernel
theorem dX5_joins_25 : decode cX5_joins 25 = .ok (.invokevirtual 62, 3) := by decide +kernel
theorem dX5_joins_28 : decode cX5_joins 28 = .ok (.aload_n 0, 1) := by decide +kernel
theorem dX5_joins_29 : decode cX5_joins 29 = .ok (.iload_n 2, 1) := by decide +kernel
theorem dX5_joins_30 : decode cX5_joins 30 = .ok (.invokevirtual 62, 3) := by decide +kernel
theorem dX5_joins_33 : decode cX5_joins 33 = .ok (.iadd, 1) := by decide +kernel
theorem dX5_joins_34 : decode cX5_joins 34 = .ok (.bipush 60, 2) := by decide +kernel
theorem dX5_joins_36 : decode cX5_joins 36 = .ok (.if_icmp .le 5, 3) := by decide +kernel
theorem dX5_joins_39 : decode cX5_joins 39 = .ok (.iconst 3, 1) := by decide +kernel
theorem dX5_joins_40 : decode cX5_joins 40 = .ok (.ireturn, 1) := by decide +kernel
theorem dX5_joins_41 : decode cX5_joins 41 = .ok (.aload_n 0, 1) := by decide +kernel
theorem dX5_joins_42 : decode cX5_joins 42 = .ok (.iload_n 2, 1) := by decide +kernel
theorem dX5_joins_43 : decode cX5_joins 43 = .ok (.iconst 0, 1) := by decide +kernel
theorem dX5_joins_44 : decode cX5_joins 44 = .ok (.iload_n 1, 1) := by decide +kernel
theorem dX5_joins_45 : decode cX5_joins 45 = .ok (.invokevirtual 93, 3) := by decide +kernel
theorem dX5_joins_48 : decode cX5_joins 48 = .ok (.istore_n 3, 1) := by decide +kernel
theorem dX5_joins_49 : decode cX5_joins 49 = .ok (.aload_n 0, 1) := by decide +kernel
theorem dX5_joins_50 : decode cX5_joins 50 = .ok (.getfield 7, 3) := by decide +kernel
theorem dX5_joins_53 : decode cX5_joins 53 = .ok (.iconst 1, 1) := by decide +kernel
theorem dX5_joins_54 : decode cX5_joins 54 = .ok (.dup2, 1) := by decide +kernel
theorem dX5_joins_55 : decode cX5_joins 55 = .ok (.iaload, 1) := by decide +kernel
theorem dX5_joins_56 : decode cX5_joins 56 = .ok (.iconst 1, 1) := by decide +kernel
theorem dX5_joins_57 : decode cX5_joins 57 = .ok (.iadd, 1) := by decide +kernel
theorem dX5_joins_58 : decode cX5_joins 58 = .ok (.iastore, 1) := by decide +kernel
theorem dX5_joins_59 : decode cX5_joins 59 = .ok (.aload_n 0, 1) := by decide +kernel
theorem dX5_joins_60 : decode cX5_joins 60 = .ok (.aload_n 0, 1) := by decide +kernel
theorem dX5_joins_61 : decode cX5_joins 61 = .ok (.iload_n 1, 1) := by decide +kernel
theorem dX5_joins_62 : decode cX5_joins 62 = .ok (.invokevirtual 62, 3) := by decide +kernel
theorem dX5_joins_65 : decode cX5_joins 65 = .ok (.invokevirtual 87, 3) := by decide +kernel
theorem dX5_joins_68 : decode cX5_joins 68 = .ok (.ireturn, 1) := by decide +kernel
theorem dX5_swaps_0 : decode cX5_swaps 0 = .ok (.iload_n 1, 1) := by decide +kernel
theorem dX5_swaps_1 : decode cX5_swaps 1 = .ok (.invokestatic 58, 3) := by decide +kernel
theorem dX5_swaps_4 : decode cX5_swaps 4 = .ok (.ifCond .eq 10, 3) := by decide +kernel
theorem dX5_swaps_7 : decode cX5_swaps 7 = .ok (.iload_n 2, 1) := by decide +kernel
theorem dX5_swaps_8 : decode cX5_swaps 8 = .ok (.invokestatic 58, 3) := by decide +kernel
theorem dX5_swaps_11 : decode cX5_swaps 11 = .ok (.ifCond .ne 5, 3) := by decide +kernel
theorem dX5_swaps_14 : decode cX5_swaps 14 = .ok (.iconst 1, 1) := by decide +kernel
theorem dX5_swaps_15 : decode cX5_swaps 15 = .ok (.ireturn, 1) := by decide +kernel
theorem dX5_swaps_16 : decode cX5_swaps 16 = .ok (.iconst 0, 1) := by decide +kernel
theorem dX5_swaps_17 : decode cX5_swaps 17 = .ok (.istore_n 3, 1) := by decide +kernel
theorem dX5_swaps_18 : decode cX5_swaps 18 = .ok (.iload_n 3, 1) := by decide +kernel
theorem dX5_swaps_19 : decode cX5_swaps 19 = .ok (.bipush 121, 2) := by decide +kernel
theorem dX5_swaps_21 : decode cX5_swaps 21 = .ok (.if_icmp .ge 65, 3) := by decide +kernel
theorem dX5_swaps_24 : decode cX5_swaps 24 = .ok (.aload_n 0, 1) := by decide +kernel
theorem dX5_swaps_25 : decode cX5_swaps 25 = .ok (.getfield 7, 3) := by decide +kernel
theorem dX5_swaps_28 : decode cX5_swaps 28 = .ok (.iconst 2, 1) := by decide +kernel
theorem dX5_swaps_29 : decode cX5_swaps 29 = .ok (.bipush 121, 2) := by decide +kernel
theorem dX5_swaps_31 : decode cX5_swaps 31 = .ok (.iload_n 1, 1) := by decide +kernel
theorem dX5_swaps_32 : decode cX5_swaps 32 = .ok (.imul, 1) := by decide +kernel
theorem dX5_swaps_33 : decode cX5_swaps 33 = .ok (.iadd, 1) := by decide +kernel
theorem dX5_swaps_34 : decode cX5_swaps 34 = .ok (.iload_n 3, 1) := by decide +kernel
theorem dX5_swaps_35 : decode cX5_swaps 35 = .ok (.iadd, 1) := by decide +kernel
theorem dX5_swaps_36 : decode cX5_swaps 36 = .ok (.iaload, 1) := by decide +kernel
theorem dX5_swaps_37 : decode cX5_swaps 37 = .ok (.istore 4, 2) := by decide +kernel
theorem dX5_swaps_39 : decode cX5_swaps 39 = .ok (.aload_n 0, 1) := by decide +kernel
theorem dX5_swaps_40 : decode cX5_swaps 40 = .ok (.getfield 7, 3) := by decide +kernel
theorem dX5_swaps_43 : decode cX5_swaps 43 = .ok (.iconst 2, 1) := by decide +kernel
theorem dX5_swaps_44 : decode cX5_swaps 44 = .ok (.bipush 121, 2) := by decide +kernel
theorem dX5_swaps_46 : decode cX5_swaps 46 = .ok (.iload_n 1, 1) := by decide +kernel
theorem dX5_swaps_47 : decode cX5_swaps 47 = .ok (.imul, 1) := by decide +kernel
theorem dX5_swaps_48 : decode cX5_swaps 48 = .ok (.iadd, 1) := by decide +kernel
theorem dX5_swaps_49 : decode cX5_swaps 49 = .ok (.iload_n 3, 1) := by decide +kernel
theorem dX5_swaps_50 : decode cX5_swaps 50 = .ok (.iadd, 1) := by decide +kernel
theorem dX5_swaps_51 : decode cX5_swaps 51 = .ok (.aload_n 0, 1) := by decide +kernel
theorem dX5_swaps_52 : decode cX5_swaps 52 = .ok (.getfield 7, 3) := by decide +kernel
theorem dX5_swaps_55 : decode cX5_swaps 55 = .ok (.iconst 2, 1) := by decide +kernel
theorem dX5_swaps_56 : decode cX5_swaps 56 = .ok (.bipush 121, 2) := by decide +kernel
theorem dX5_swaps_58 : decode cX5_swaps 58 = .ok (.iload_n 2, 1) := by decide +kernel
theorem dX5_swaps_59 : decode cX5_swaps 59 = .ok (.imul, 1) := by decide +kernel
theorem dX5_swaps_60 : decode cX5_swaps 60 = .ok (.iadd, 1) := by decide +kernel
theorem dX5_swaps_61 : decode cX5_swaps 61 = .ok (.iload_n 3, 1) := by decide +kernel
theorem dX5_swaps_62 : decode cX5_swaps 62 = .ok (.iadd, 1) := by decide +kernel
theorem dX5_swaps_63 : decode cX5_swaps 63 = .ok (.iaload, 1) := by decide +kernel
theorem dX5_swaps_64 : decode cX5_swaps 64 = .ok (.iastore, 1) := by decide +kernel
theorem dX5_swaps_65 : decode cX5_swaps 65 = .ok (.aload_n 0, 1) := by decide +kernel
theorem dX5_swaps_66 : decode cX5_swaps 66 = .ok (.getfield 7, 3) := by decide +kernel
theorem dX5_swaps_69 : decode cX5_swaps 69 = .ok (.iconst 2, 1) := by decide +kernel
theorem dX5_swaps_70 : decode cX5_swaps 70 = .ok (.bipush 121, 2) := by decide +kernel
theorem dX5_swaps_72 : decode cX5_swaps 72 = .ok (.iload_n 2, 1) := by decide +kernel
theorem dX5_swaps_73 : decode cX5_swaps 73 = .ok (.imul, 1) := by decide +kernel
theorem dX5_swaps_74 : decode cX5_swaps 74 = .ok (.iadd, 1) := by decide +kernel
theorem dX5_swaps_75 : decode cX5_swaps 75 = .ok (.iload_n 3, 1) := by decide +kernel
theorem dX5_swaps_76 : decode cX5_swaps 76 = .ok (.iadd, 1) := by decide +kernel
theorem dX5_swaps_77 : decode cX5_swaps 77 = .ok (.iload 4, 2) := by decide +kernel
theorem dX5_swaps_79 : decode cX5_swaps 79 = .ok (.iastore, 1) := by decide +kernel
theorem dX5_swaps_80 : decode cX5_swaps 80 = .ok (.iinc 3 1, 3) := by decide +kernel
theorem dX5_swaps_83 : decode cX5_swaps 83 = .ok (.goto (-65), 3) := by decide +kernel
theorem dX5_swaps_86 : decode cX5_swaps 86 = .ok (.aload_n 0, 1) := by decide +kernel
theorem dX5_swaps_87 : decode cX5_swaps 87 = .ok (.aload_n 0, 1) := by decide +kernel
theorem dX5_swaps_88 : decode cX5_swaps 88 = .ok (.iload_n 1, 1) := by decide +kernel
theorem dX5_swaps_89 : decode cX5_swaps 89 = .ok (.invokevirtual 62, 3) := by decide +kernel
theorem dX5_swaps_92 : decode cX5_swaps 92 = .ok (.invokevirtual 87, 3) := by decide +kernel
theorem dX5_swaps_95 : decode cX5_swaps 95 = .ok (.ireturn, 1) := by decide +kernel
theorem dX5_sumOf_0 : decode cX5_sumOf 0 = .ok (.iconst 0, 1) := by decide +kernel
theorem dX5_sumOf_1 : decode cX5_sumOf 1 = .ok (.istore 4, 2) := by decide +kernel
theorem dX5_sumOf_3 : decode cX5_sumOf 3 = .ok (.iload_n 2, 1) := by decide +kernel
theorem dX5_sumOf_4 : decode cX5_sumOf 4 = .ok (.istore 5, 2) := by decide +kernel
theorem dX5_sumOf_6 : decode cX5_sumOf 6 = .ok (.iload 5, 2) := by decide +kernel
theorem dX5_sumOf_8 : decode cX5_sumOf 8 = .ok (.iload_n 3, 1) := by decide +kernel
theorem dX5_sumOf_9 : decode cX5_sumOf 9 = .ok (.if_icmp .gt 22, 3) := by decide +kernel
theorem dX5_sumOf_12 : decode cX5_sumOf 12 = .ok (.iload 4, 2) := by decide +kernel
theorem dX5_sumOf_14 : decode cX5_sumOf 14 = .ok (.aload_n 0, 1) := by decide +kernel
theorem dX5_sumOf_15 : decode cX5_sumOf 15 = .ok (.iload_n 1, 1) := by decide +kernel
theorem dX5_sumOf_16 : decode cX5_sumOf 16 = .ok (.iload 5, 2) := by decide +kernel
theorem dX5_sumOf_18 : decode cX5_sumOf 18 = .ok (.iconst 0, 1) := by decide +kernel
theorem dX5_sumOf_19 : decode cX5_sumOf 19 = .ok (.invokevirtual 75, 3) := by decide +kernel
theorem dX5_sumOf_22 : decode cX5_sumOf 22 = .ok (.iadd, 1) := by decide +kernel
theorem dX5_sumOf_23 : decode cX5_sumOf 23 = .ok (.istore 4, 2) := by decide +kernel
theorem dX5_sumOf_25 : decode cX5_sumOf 25 = .ok (.iinc 5 1, 3) := by decide +kernel
theorem dX5_sumOf_28 : decode cX5_sumOf 28 = .ok (.goto (-22), 3) := by decide +kernel
theorem dX5_sumOf_31 : decode cX5_sumOf 31 = .ok (.iload 4, 2) := by decide +kernel
theorem dX5_sumOf_33 : decode cX5_sumOf 33 = .ok (.ireturn, 1) := by decide +kernel
theorem dX5_flips_0 : decode cX5_flips 0 = .ok (.aload_n 0, 1) := by decide +kernel
theorem dX5_flips_1 : decode cX5_flips 1 = .ok (.iload_n 1, 1) := by decide +kernel
theorem dX5_flips_2 : decode cX5_flips 2 = .ok (.iload_n 2, 1) := by decide +kernel
theorem dX5_flips_3 : decode cX5_flips 3 = .ok (.invokevirtual 90, 3) := by decide +kernel
theorem dX5_flips_6 : decode cX5_flips 6 = .ok (.ifCond .eq 12, 3) := by decide +kernel
theorem dX5_flips_9 : decode cX5_flips 9 = .ok (.aload_n 0, 1) := by decide +kernel
theorem dX5_flips_10 : decode cX5_flips 10 = .ok (.iload_n 1, 1) := by decide +kernel
theorem dX5_flips_11 : decode cX5_flips 11 = .ok (.iload_n 3, 1) := by decide +kernel
theorem dX5_flips_12 : decode cX5_flips 12 = .ok (.invokevirtual 90, 3) := by decide +kernel
theorem dX5_flips_15 : decode cX5_flips 15 = .ok (.ifCond .ne 5, 3) := by decide +kernel
theorem dX5_flips_18 : decode cX5_flips 18 = .ok (.iconst 1, 1) := by decide +kernel
theorem dX5_flips_19 : decode cX5_flips 19 = .ok (.ireturn, 1) := by decide +kernel
theorem dX5_flips_20 : decode cX5_flips 20 = .ok (.iload_n 2, 1) := by decide +kernel
theorem dX5_flips_21 : decode cX5_flips 21 = .ok (.iload_n 3, 1) := by decide +kernel
theorem dX5_flips_22 : decode cX5_flips 22 = .ok (.if_icmp .le 5, 3) := by decide +kernel
theorem dX5_flips_25 : decode cX5_flips 25 = .ok (.iconst 2, 1) := by decide +kernel
theorem dX5_flips_26 : decode cX5_flips 26 = .ok (.ireturn, 1) := by decide +kernel
theorem dX5_flips_27 : decode cX5_flips 27 = .ok (.iload_n 2, 1) := by decide +kernel
theorem dX5_flips_28 : decode cX5_flips 28 = .ok (.istore 4, 2) := by decide +kernel
theorem dX5_flips_30 : decode cX5_flips 30 = .ok (.iload_n 3, 1) := by decide +kernel
theorem dX5_flips_31 : decode cX5_flips 31 = .ok (.istore 5, 2) := by decide +kernel
theorem dX5_flips_33 : decode cX5_flips 33 = .ok (.iload 4, 2) := by decide +kernel
theorem dX5_flips_35 : decode cX5_flips 35 = .ok (.iload 5, 2) := by decide +kernel
theorem dX5_flips_37 : decode cX5_flips 37 = .ok (.if_icmp .ge 66, 3) := by decide +kernel
theorem dX5_flips_40 : decode cX5_flips 40 = .ok (.aload_n 0, 1) := by decide +kernel
theorem dX5_flips_41 : decode cX5_flips 41 = .ok (.iload_n 1, 1) := by decide +kernel
theorem dX5_flips_42 : decode cX5_flips 42 = .ok (.iload 4, 2) := by decide +kernel
theorem dX5_flips_44 : decode cX5_flips 44 = .ok (.iconst 0, 1) := by decide +kernel
theorem dX5_flips_45 : decode cX5_flips 45 = .ok (.invokevirtual 75, 3) := by decide +kernel
theorem dX5_flips_48 : decode cX5_flips 48 = .ok (.istore 6, 2) := by decide +kernel
theorem dX5_flips_50 : decode cX5_flips 50 = .ok (.aload_n 0, 1) := by decide +kernel
theorem dX5_flips_51 : decode cX5_flips 51 = .ok (.iload_n 1, 1) := by decide +kernel
theorem dX5_flips_52 : decode cX5_flips 52 = .ok (.iload 4, 2) := by decide +kernel
theorem dX5_flips_54 : decode cX5_flips 54 = .ok (.iconst 1, 1) := by decide +kernel
theorem dX5_flips_55 : decode cX5_flips 55 = .ok (.invokevirtual 75, 3) := by decide +kernel
theorem dX5_flips_58 : decode cX5_flips 58 = .ok (.istore 7, 2) := by decide +kernel
theorem dX5_flips_60 : decode cX5_flips 60 = .ok (.aload_n 0, 1) := by decide +kernel
theorem dX5_flips_61 : decode cX5_flips 61 = .ok (.iload_n 1, 1) := by decide +kernel
theorem dX5_flips_62 : decode cX5_flips 62 = .ok (.iload 4, 2) := by decide +kernel
theorem dX5_flips_64 : decode cX5_flips 64 = .ok (.aload_n 0, 1) := by decide +kernel
theorem dX5_flips_65 : decode cX5_flips 65 = .ok (.iload_n 1, 1) := by decide +kernel
theorem dX5_flips_66 : decode cX5_flips 66 = .ok (.iload 5, 2) := by decide +kernel
theorem dX5_flips_68 : decode cX5_flips 68 = .ok (.iconst 0, 1) := by decide +kernel
theorem dX5_flips_69 : decode cX5_flips 69 = .ok (.invokevirtual 75, 3) := by decide +kernel
theorem dX5_flips_72 : decode cX5_flips 72 = .ok (.aload_n 0, 1) := by decide +kernel
theorem dX5_flips_73 : decode cX5_flips 73 = .ok (.iload_n 1, 1) := by decide +kernel
theorem dX5_flips_74 : decode cX5_flips 74 = .ok (.iload 5, 2) := by decide +kernel
theorem dX5_flips_76 : decode cX5_flips 76 = .ok (.iconst 1, 1) := by decide +kernel
theorem dX5_flips_77 : decode cX5_flips 77 = .ok (.invokevirtual 75, 3) := by decide +kernel
theorem dX5_flips_80 : decode cX5_flips 80 = .ok (.invokevirtual 79, 3) := by decide +kernel
theorem dX5_flips_83 : decode cX5_flips 83 = .ok (.aload_n 0, 1) := by decide +kernel
theorem dX5_flips_84 : decode cX5_flips 84 = .ok (.iload_n 1, 1) := by decide +kernel
theorem dX5_flips_85 : decode cX5_flips 85 = .ok (.iload 5, 2) := by decide +kernel
theorem dX5_flips_87 : decode cX5_flips 87 = .ok (.iload 6, 2) := by decide +kernel
theorem dX5_flips_89 : decode cX5_flips 89 = .ok (.iload 7, 2) := by decide +kernel
theorem dX5_flips_91 : decode cX5_flips 91 = .ok (.invokevirtual 79, 3) := by decide +kernel
theorem dX5_flips_94 : decode cX5_flips 94 = .ok (.iinc 4 1, 3) := by decide +kernel
theorem dX5_flips_97 : decode cX5_flips 97 = .ok (.iinc 5 (-1), 3) := by decide +kernel
theorem dX5_flips_100 : decode cX5_flips 100 = .ok (.goto (-67), 3) := by decide +kernel
theorem dX5_flips_103 : decode cX5_flips 103 = .ok (.aload_n 0, 1) := by decide +kernel
theorem dX5_flips_104 : decode cX5_flips 104 = .ok (.aload_n 0, 1) := by decide +kernel
theorem dX5_flips_105 : decode cX5_flips 105 = .ok (.iload_n 1, 1) := by decide +kernel
theorem dX5_flips_106 : decode cX5_flips 106 = .ok (.iload_n 2, 1) := by decide +kernel
theorem dX5_flips_107 : decode cX5_flips 107 = .ok (.iload_n 3, 1) := by decide +kernel
theorem dX5_flips_108 : decode cX5_flips 108 = .ok (.invokevirtual 96, 3) := by decide +kernel
theorem dX5_flips_111 : decode cX5_flips 111 = .ok (.invokevirtual 87, 3) := by decide +kernel
theorem dX5_flips_114 : decode cX5_flips 114 = .ok (.ireturn, 1) := by decide +kernel
theorem dX5_dyes_0 : decode cX5_dyes 0 = .ok (.aload_n 0, 1) := by decide +kernel
theorem dX5_dyes_1 : decode cX5_dyes 1 = .ok (.iload_n 1, 1) := by decide +kernel
theorem dX5_dyes_2 : decode cX5_dyes 2 = .ok (.iload_n 2, 1) := by decide +kernel
theorem dX5_dyes_3 : decode cX5_dyes 3 = .ok (.invokevirtual 90, 3) := by decide +kernel
theorem dX5_dyes_6 : decode cX5_dyes 6 = .ok (.ifCond .eq 12, 3) := by decide +kernel
theorem dX5_dyes_9 : decode cX5_dyes 9 = .ok (.aload_n 0, 1) := by decide +kernel
theorem dX5_dyes_10 : decode cX5_dyes 10 = .ok (.iload_n 1, 1) := by decide +kernel
theorem dX5_dyes_11 : decode cX5_dyes 11 = .ok (.iload_n 3, 1) := by decide +kernel
theorem dX5_dyes_12 : decode cX5_dyes 12 = .ok (.invokevirtual 90, 3) := by decide +kernel
theorem dX5_dyes_15 : decode cX5_dyes 15 = .ok (.ifCond .ne 5, 3) := by decide +kernel
theorem dX5_dyes_18 : decode cX5_dyes 18 = .ok (.iconst 1, 1) := by decide +kernel
theorem dX5_dyes_19 : decode cX5_dyes 19 = .ok (.ireturn, 1) := by decide +kernel
theorem dX5_dyes_20 : decode cX5_dyes 20 = .ok (.iload_n 2, 1) := by decide +kernel
theorem dX5_dyes_21 : decode cX5_dyes 21 = .ok (.iload_n 3, 1) := by decide +kernel
theorem dX5_dyes_22 : decode cX5_dyes 22 = .ok (.if_icmp .gt 11, 3) := by decide +kernel
theorem dX5_dyes_25 : decode cX5_dyes 25 = .ok (.iload 4, 2) := by decide +kernel
theorem dX5_dyes_27 : decode cX5_dyes 27 = .ok (.invokestatic 72, 3) := by decide +kernel
theorem dX5_dyes_30 : decode cX5_dyes 30 = .ok (.ifCond .ne 5, 3) := by decide +kernel
theorem dX5_dyes_33 : decode cX5_dyes 33 = .ok (.iconst 2, 1) := by decide +kernel
theorem dX5_dyes_34 : decode cX5_dyes 34 = .ok (.ireturn, 1) := by decide +kernel
theorem dX5_dyes_35 : decode cX5_dyes 35 = .ok (.iconst 0, 1) := by decide +kernel
theorem dX5_dyes_36 : decode cX5_dyes 36 = .ok (.istore 5, 2) := by decide +kernel
theorem dX5_dyes_38 : decode cX5_dyes 38 = .ok (.iload_n 2, 1) := by decide +kernel
theorem dX5_dyes_39 : decode cX5_dyes 39 = .ok (.istore 6, 2) := by decide +kernel
theorem dX5_dyes_41 : decode cX5_dyes 41 = .ok (.iload 6, 2) := by decide +kernel
theorem dX5_dyes_43 : decode cX5_dyes 43 = .ok (.iload_n 3, 1) := by decide +kernel
theorem dX5_dyes_44 : decode cX5_dyes 44 = .ok (.if_icmp .gt 49, 3) := by decide +kernel
theorem dX5_dyes_47 : decode cX5_dyes 47 = .ok (.iload 5, 2) := by decide +kernel
theorem dX5_dyes_49 : decode cX5_dyes 49 = .ok (.aload_n 0, 1) := by decide +kernel
theorem dX5_dyes_50 : decode cX5_dyes 50 = .ok (.iload_n 1, 1) := by decide +kernel
theorem dX5_dyes_51 : decode cX5_dyes 51 = .ok (.iload 6, 2) := by decide +kernel
theorem dX5_dyes_53 : decode cX5_dyes 53 = .ok (.iconst 1, 1) := by decide +kernel
theorem dX5_dyes_54 : decode cX5_dyes 54 = .ok (.invokevirtual 75, 3) := by decide +kernel
theorem dX5_dyes_57 : decode cX5_dyes 57 = .ok (.iload 4, 2) := by decide +kernel
theorem dX5_dyes_59 : decode cX5_dyes 59 = .ok (.if_icmp .ne 7, 3) := by decide +kernel
theorem dX5_dyes_62 : decode cX5_dyes 62 = .ok (.iconst 0, 1) := by decide +kernel
theorem dX5_dyes_63 : decode cX5_dyes 63 = .ok (.goto 4, 3) := by decide +kernel
theorem dX5_dyes_66 : decode cX5_dyes 66 = .ok (.iconst 1, 1) := by decide +kernel
theorem dX5_dyes_67 : decode cX5_dyes 67 = .ok (.iadd, 1) := by decide +kernel
theorem dX5_dyes_68 : decode cX5_dyes 68 = .ok (.istore 5, 2) := by decide +kernel
theorem dX5_dyes_70 : decode cX5_dyes 70 = .ok (.aload_n 0, 1) := by decide +kernel
theorem dX5_dyes_71 : decode cX5_dyes 71 = .ok (.iload_n 1, 1) := by decide +kernel
theorem dX5_dyes_72 : decode cX5_dyes 72 = .ok (.iload 6, 2) := by decide +kernel
theorem dX5_dyes_74 : decode cX5_dyes 74 = .ok (.aload_n 0, 1) := by decide +kernel
theorem dX5_dyes_75 : decode cX5_dyes 75 = .ok (.iload_n 1, 1) := by decide +kernel
theorem dX5_dyes_76 : decode cX5_dyes 76 = .ok (.iload 6, 2) := by decide +kernel
theorem dX5_dyes_78 : decode cX5_dyes 78 = .ok (.iconst 0, 1) := by decide +kernel
theorem dX5_dyes_79 : decode cX5_dyes 79 = .ok (.invokevirtual 75, 3) := by decide +kernel
theorem dX5_dyes_82 : decode cX5_dyes 82 = .ok (.iload 4, 2) := by decide +kernel
theorem dX5_dyes_84 : decode cX5_dyes 84 = .ok (.invokevirtual 79, 3) := by decide +kernel
theorem dX5_dyes_87 : decode cX5_dyes 87 = .ok (.iinc 6 1, 3) := by decide +kernel
theorem dX5_dyes_90 : decode cX5_dyes 90 = .ok (.goto (-49), 3) := by decide +kernel
theorem dX5_dyes_93 : decode cX5_dyes 93 = .ok (.aload_n 0, 1) := by decide +kernel
theorem dX5_dyes_94 : decode cX5_dyes 94 = .ok (.iload 5, 2) := by decide +kernel
theorem dX5_dyes_96 : decode cX5_dyes 96 = .ok (.invokevirtual 87, 3) := by decide +kernel
theorem dX5_dyes_99 : decode cX5_dyes 99 = .ok (.ireturn, 1) := by decide +kernel
theorem dX5_append_0 : decode cX5_append 0 = .ok (.aload_n 0, 1) := by decide +kernel
theorem dX5_append_1 : decode cX5_append 1 = .ok (.invokevirtual 99, 3) := by decide +kernel
theorem dX5_append_4 : decode cX5_append 4 = .ok (.aload_n 0, 1) := by decide +kernel
theorem dX5_append_5 : decode cX5_append 5 = .ok (.aload_n 0, 1) := by decide +kernel
theorem dX5_append_6 : decode cX5_append 6 = .ok (.iload_n 1, 1) := by decide +kernel
theorem dX5_append_7 : decode cX5_append 7 = .ok (.iload_n 1, 1) := by decide +kernel
theorem dX5_append_8 : decode cX5_append 8 = .ok (.invokestatic 58, 3) := by decide +kernel
theorem dX5_append_11 : decode cX5_append 11 = .ok (.ifCond .eq 11, 3) := by decide +kernel
theorem dX5_append_14 : decode cX5_append 14 = .ok (.aload_n 0, 1) := by decide +kernel
theorem dX5_append_15 : decode cX5_append 15 = .ok (.iload_n 1, 1) := by decide +kernel
theorem dX5_append_16 : decode cX5_append 16 = .ok (.invokevirtual 62, 3) := by decide +kernel
theorem dX5_append_19 : decode cX5_append 19 = .ok (.goto 4, 3) := by decide +kernel
theorem dX5_append_22 : decode cX5_append 22 = .ok (.iconst 0, 1) := by decide +kernel
theorem dX5_append_23 : decode cX5_append 23 = .ok (.iload_n 2, 1) := by decide +kernel
theorem dX5_append_24 : decode cX5_append 24 = .ok (.iload_n 3, 1) := by decide +kernel
theorem dX5_append_25 : decode cX5_append 25 = .ok (.invokevirtual 102, 3) := by decide +kernel
theorem dX5_append_28 : decode cX5_append 28 = .ok (.invokevirtual 106, 3) := by decide +kernel
theorem dX5_append_31 : decode cX5_append 31 = .ok (.ireturn, 1) := by decide +kernel
theorem dX5_insert_0 : decode cX5_insert 0 = .ok (.aload_n 0, 1) := by decide +kernel
theorem dX5_insert_1 : decode cX5_insert 1 = .ok (.invokevirtual 99, 3) := by decide +kernel
theorem dX5_insert_4 : decode cX5_insert 4 = .ok (.aload_n 0, 1) := by decide +kernel
theorem dX5_insert_5 : decode cX5_insert 5 = .ok (.aload_n 0, 1) := by decide +kernel
theorem dX5_insert_6 : decode cX5_insert 6 = .ok (.iload_n 1, 1) := by decide +kernel
theorem dX5_insert_7 : decode cX5_insert 7 = .ok (.iload_n 2, 1) := by decide +kernel
theorem dX5_insert_8 : decode cX5_insert 8 = .ok (.iload_n 3, 1) := by decide +kernel
theorem dX5_insert_9 : decode cX5_insert 9 = .ok (.iload 4, 2) := by decide +kernel
theorem dX5_insert_11 : decode cX5_insert 11 = .ok (.invokevirtual 102, 3) := by decide +kernel
theorem dX5_insert_14 : decode cX5_insert 14 = .ok (.invokevirtual 106, 3) := by decide +kernel
theorem dX5_insert_17 : decode cX5_insert 17 = .ok (.ireturn, 1) := by decide +kernel
theorem dX5_remove_0 : decode cX5_remove 0 = .ok (.aload_n 0, 1) := by decide +kernel
theorem dX5_remove_1 : decode cX5_remove 1 = .ok (.invokevirtual 99, 3) := by decide +kernel
theorem dX5_remove_4 : decode cX5_remove 4 = .ok (.aload_n 0, 1) := by decide +kernel
theorem dX5_remove_5 : decode cX5_remove 5 = .ok (.aload_n 0, 1) := by decide +kernel
theorem dX5_remove_6 : decode cX5_remove 6 = .ok (.iload_n 1, 1) := by decide +kernel
theorem dX5_remove_7 : decode cX5_remove 7 = .ok (.iload_n 2, 1) := by decide +kernel
theorem dX5_remove_8 : decode cX5_remove 8 = .ok (.invokevirtual 109, 3) := by decide +kernel
theorem dX5_remove_11 : decode cX5_remove 11 = .ok (.invokevirtual 106, 3) := by decide +kernel
theorem dX5_remove_14 : decode cX5_remove 14 = .ok (.ireturn, 1) := by decide +kernel
theorem dX5_retie_0 : decode cX5_retie 0 = .ok (.aload_n 0, 1) := by decide +kernel
theorem dX5_retie_1 : decode cX5_retie 1 = .ok (.invokevirtual 99, 3) := by decide +kernel
theorem dX5_retie_4 : decode cX5_retie 4 = .ok (.aload_n 0, 1) := by decide +kernel
theorem dX5_retie_5 : decode cX5_retie 5 = .ok (.aload_n 0, 1) := by decide +kernel
theorem dX5_retie_6 : decode cX5_retie 6 = .ok (.iload_n 1, 1) := by decide +kernel
theorem dX5_retie_7 : decode cX5_retie 7 = .ok (.iload_n 2, 1) := by decide +kernel
theorem dX5_retie_8 : decode cX5_retie 8 = .ok (.iload_n 3, 1) := by decide +kernel
theorem dX5_retie_9 : decode cX5_retie 9 = .ok (.invokevirtual 113, 3) := by decide +kernel
theorem dX5_retie_12 : decode cX5_retie 12 = .ok (.invokevirtual 106, 3) := by decide +kernel
theorem dX5_retie_15 : decode cX5_retie 15 = .ok (.ireturn, 1) := by decide +kernel
theorem dX5_segmentCount_0 : decode cX5_segmentCount 0 = .ok (.aload_n 0, 1) := by decide +kernel
theorem dX5_segmentCount_1 : decode cX5_segmentCount 1 = .ok (.iload_n 1, 1) := by decide +kernel
theorem dX5_segmentCount_2 : decode cX5_segmentCount 2 = .ok (.invokestatic 58, 3) := by decide +kernel
theorem dX5_segmentCount_5 : decode cX5_segmentCount 5 = .ok (.ifCond .eq 7, 3) := by decide +kernel
theorem dX5_segmentCount_8 : decode cX5_segmentCount 8 = .ok (.iconst 0, 1) := by decide +kernel
theorem dX5_segmentCount_9 : decode cX5_segmentCount 9 = .ok (.goto 4, 3) := by decide +kernel
theorem dX5_segmentCount_12 : decode cX5_segmentCount 12 = .ok (.iconst 1, 1) := by decide +kernel
theorem dX5_segmentCount_13 : decode cX5_segmentCount 13 = .ok (.putfield 38, 3) := by decide +kernel
theorem dX5_segmentCount_16 : decode cX5_segmentCount 16 = .ok (.aload_n 0, 1) := by decide +kernel
theorem dX5_segmentCount_17 : decode cX5_segmentCount 17 = .ok (.getfield 38, 3) := by decide +kernel
theorem dX5_segmentCount_20 : decode cX5_segmentCount 20 = .ok (.ifCond .le 7, 3) := by decide +kernel
theorem dX5_segmentCount_23 : decode cX5_segmentCount 23 = .ok (.iconst 0, 1) := by decide +kernel
theorem dX5_segmentCount_24 : decode cX5_segmentCount 24 = .ok (.goto 8, 3) := by decide +kernel
theorem dX5_segmentCount_27 : decode cX5_segmentCount 27 = .ok (.aload_n 0, 1) := by decide +kernel
theorem dX5_segmentCount_28 : decode cX5_segmentCount 28 = .ok (.iload_n 1, 1) := by decide +kernel
theorem dX5_segmentCount_29 : decode cX5_segmentCount 29 = .ok (.invokevirtual 62, 3) := by decide +kernel
theorem dX5_segmentCount_32 : decode cX5_segmentCount 32 = .ok (.ireturn, 1) := by decide +kernel
theorem dX5_asked_0 : decode cX5_asked 0 = .ok (.aload_n 0, 1) := by decide +kernel
theorem dX5_asked_1 : decode cX5_asked 1 = .ok (.aload_n 0, 1) := by decide +kernel
theorem dX5_asked_2 : decode cX5_asked 2 = .ok (.iload_n 1, 1) := by decide +kernel
theorem dX5_asked_3 : decode cX5_asked 3 = .ok (.iload_n 2, 1) := by decide +kernel
theorem dX5_asked_4 : decode cX5_asked 4 = .ok (.invokevirtual 90, 3) := by decide +kernel
theorem dX5_asked_7 : decode cX5_asked 7 = .ok (.ifCond .eq 7, 3) := by decide +kernel
theorem dX5_asked_10 : decode cX5_asked 10 = .ok (.iconst 0, 1) := by decide +kernel
theorem dX5_asked_11 : decode cX5_asked 11 = .ok (.goto 4, 3) := by decide +kernel
theorem dX5_asked_14 : decode cX5_asked 14 = .ok (.iconst 1, 1) := by decide +kernel
theorem dX5_asked_15 : decode cX5_asked 15 = .ok (.putfield 38, 3) := by decide +kernel
theorem dX5_asked_18 : decode cX5_asked 18 = .ok (.aload_n 0, 1) := by decide +kernel
theorem dX5_asked_19 : decode cX5_asked 19 = .ok (.getfield 38, 3) := by decide +kernel
theorem dX5_asked_22 : decode cX5_asked 22 = .ok (.ifCond .le 7, 3) := by decide +kernel
theorem dX5_asked_25 : decode cX5_asked 25 = .ok (.iconst 0, 1) := by decide +kernel
theorem dX5_asked_26 : decode cX5_asked 26 = .ok (.goto 10, 3) := by decide +kernel
theorem dX5_asked_29 : decode cX5_asked 29 = .ok (.aload_n 0, 1) := by decide +kernel
theorem dX5_asked_30 : decode cX5_asked 30 = .ok (.iload_n 1, 1) := by decide +kernel
theorem dX5_asked_31 : decode cX5_asked 31 = .ok (.iload_n 2, 1) := by decide +kernel
theorem dX5_asked_32 : decode cX5_asked 32 = .ok (.iload_n 3, 1) := by decide +kernel
theorem dX5_asked_33 : decode cX5_asked 33 = .ok (.invokevirtual 75, 3) := by decide +kernel
theorem dX5_asked_36 : decode cX5_asked 36 = .ok (.ireturn, 1) := by decide +kernel
theorem dX5_length_0 : decode cX5_length 0 = .ok (.aload_n 0, 1) := by decide +kernel
theorem dX5_length_1 : decode cX5_length 1 = .ok (.iload_n 1, 1) := by decide +kernel
theorem dX5_length_2 : decode cX5_length 2 = .ok (.iload_n 2, 1) := by decide +kernel
theorem dX5_length_3 : decode cX5_length 3 = .ok (.iconst 0, 1) := by decide +kernel
theorem dX5_length_4 : decode cX5_length 4 = .ok (.invokevirtual 116, 3) := by decide +kernel
theorem dX5_length_7 : decode cX5_length 7 = .ok (.ireturn, 1) := by decide +kernel
theorem dX5_colour_0 : decode cX5_colour 0 = .ok (.aload_n 0, 1) := by decide +kernel
theorem dX5_colour_1 : decode cX5_colour 1 = .ok (.iload_n 1, 1) := by decide +kernel
theorem dX5_colour_2 : decode cX5_colour 2 = .ok (.iload_n 2, 1) := by decide +kernel
theorem dX5_colour_3 : decode cX5_colour 3 = .ok (.iconst 1, 1) := by decide +kernel
theorem dX5_colour_4 : decode cX5_colour 4 = .ok (.invokevirtual 116, 3) := by decide +kernel
theorem dX5_colour_7 : decode cX5_colour 7 = .ok (.ireturn, 1) := by decide +kernel
theorem dX5_cut_0 : decode cX5_cut 0 = .ok (.aload_n 0, 1) := by decide +kernel
theorem dX5_cut_1 : decode cX5_cut 1 = .ok (.invokevirtual 99, 3) := by decide +kernel
theorem dX5_cut_4 : decode cX5_cut 4 = .ok (.aload_n 0, 1) := by decide +kernel
theorem dX5_cut_5 : decode cX5_cut 5 = .ok (.aload_n 0, 1) := by decide +kernel
theorem dX5_cut_6 : decode cX5_cut 6 = .ok (.iload_n 1, 1) := by decide +kernel
theorem dX5_cut_7 : decode cX5_cut 7 = .ok (.iload_n 2, 1) := by decide +kernel
theorem dX5_cut_8 : decode cX5_cut 8 = .ok (.iload_n 3, 1) := by decide +kernel
theorem dX5_cut_9 : decode cX5_cut 9 = .ok (.invokevirtual 119, 3) := by decide +kernel
theorem dX5_cut_12 : decode cX5_cut 12 = .ok (.invokevirtual 106, 3) := by decide +kernel
theorem dX5_cut_15 : decode cX5_cut 15 = .ok (.ireturn, 1) := by decide +kernel
theorem dX5_splice_0 : decode cX5_splice 0 = .ok (.aload_n 0, 1) := by decide +kernel
theorem dX5_splice_1 : decode cX5_splice 1 = .ok (.invokevirtual 99, 3) := by decide +kernel
theorem dX5_splice_4 : decode cX5_splice 4 = .ok (.aload_n 0, 1) := by decide +kernel
theorem dX5_splice_5 : decode cX5_splice 5 = .ok (.aload_n 0, 1) := by decide +kernel
theorem dX5_splice_6 : decode cX5_splice 6 = .ok (.iload_n 1, 1) := by decide +kernel
theorem dX5_splice_7 : decode cX5_splice 7 = .ok (.iload_n 2, 1) := by decide +kernel
theorem dX5_splice_8 : decode cX5_splice 8 = .ok (.invokevirtual 122, 3) := by decide +kernel
theorem dX5_splice_11 : decode cX5_splice 11 = .ok (.invokevirtual 106, 3) := by decide +kernel
theorem dX5_splice_14 : decode cX5_splice 14 = .ok (.ireturn, 1) := by decide +kernel
theorem dX5_exchange_0 : decode cX5_exchange 0 = .ok (.aload_n 0, 1) := by decide +kernel
theorem dX5_exchange_1 : decode cX5_exchange 1 = .ok (.invokevirtual 99, 3) := by decide +kernel
theorem dX5_exchange_4 : decode cX5_exchange 4 = .ok (.aload_n 0, 1) := by decide +kernel
theorem dX5_exchange_5 : decode cX5_exchange 5 = .ok (.aload_n 0, 1) := by decide +kernel
theorem dX5_exchange_6 : decode cX5_exchange 6 = .ok (.iload_n 1, 1) := by decide +kernel
theorem dX5_exchange_7 : decode cX5_exchange 7 = .ok (.iload_n 2, 1) := by decide +kernel
theorem dX5_exchange_8 : decode cX5_exchange 8 = .ok (.invokevirtual 125, 3) := by decide +kernel
theorem dX5_exchange_11 : decode cX5_exchange 11 = .ok (.invokevirtual 106, 3) := by decide +kernel
theorem dX5_exchange_14 : decode cX5_exchange 14 = .ok (.ireturn, 1) := by decide +kernel
theorem dX5_flip_0 : decode cX5_flip 0 = .ok (.aload_n 0, 1) := by decide +kernel
theorem dX5_flip_1 : decode cX5_flip 1 = .ok (.invokevirtual 99, 3) := by decide +kernel
theorem dX5_flip_4 : decode cX5_flip 4 = .ok (.aload_n 0, 1) := by decide +kernel
theorem dX5_flip_5 : decode cX5_flip 5 = .ok (.aload_n 0, 1) := by decide +kernel
theorem dX5_flip_6 : decode cX5_flip 6 = .ok (.iload_n 1, 1) := by decide +kernel
theorem dX5_flip_7 : decode cX5_flip 7 = .ok (.iload_n 2, 1) := by decide +kernel
theorem dX5_flip_8 : decode cX5_flip 8 = .ok (.iload_n 3, 1) := by decide +kernel
theorem dX5_flip_9 : decode cX5_flip 9 = .ok (.invokevirtual 128, 3) := by decide +kernel
theorem dX5_flip_12 : decode cX5_flip 12 = .ok (.invokevirtual 106, 3) := by decide +kernel
theorem dX5_flip_15 : decode cX5_flip 15 = .ok (.ireturn, 1) := by decide +kernel
theorem dX5_dye_0 : decode cX5_dye 0 = .ok (.aload_n 0, 1) := by decide +kernel
theorem dX5_dye_1 : decode cX5_dye 1 = .ok (.invokevirtual 99, 3) := by decide +kernel
theorem dX5_dye_4 : decode cX5_dye 4 = .ok (.aload_n 0, 1) := by decide +kernel
theorem dX5_dye_5 : decode cX5_dye 5 = .ok (.aload_n 0, 1) := by decide +kernel
theorem dX5_dye_6 : decode cX5_dye 6 = .ok (.iload_n 1, 1) := by decide +kernel
theorem dX5_dye_7 : decode cX5_dye 7 = .ok (.iload_n 2, 1) := by decide +kernel
theorem dX5_dye_8 : decode cX5_dye 8 = .ok (.iload_n 3, 1) := by decide +kernel
theorem dX5_dye_9 : decode cX5_dye 9 = .ok (.iload 4, 2) := by decide +kernel
theorem dX5_dye_11 : decode cX5_dye 11 = .ok (.invokevirtual 131, 3) := by decide +kernel
theorem dX5_dye_14 : decode cX5_dye 14 = .ok (.invokevirtual 106, 3) := by decide +kernel
theorem dX5_dye_17 : decode cX5_dye 17 = .ok (.ireturn, 1) := by decide +kernel
theorem dX5_whole_0 : decode cX5_whole 0 = .ok (.aload_n 0, 1) := by decide +kernel
theorem dX5_whole_1 : decode cX5_whole 1 = .ok (.iload_n 1, 1) := by decide +kernel
theorem dX5_whole_2 : decode cX5_whole 2 = .ok (.iconst 0, 1) := by decide +kernel
theorem dX5_whole_3 : decode cX5_whole 3 = .ok (.aload_n 0, 1) := by decide +kernel
theorem dX5_whole_4 : decode cX5_whole 4 = .ok (.iload_n 1, 1) := by decide +kernel
theorem dX5_whole_5 : decode cX5_whole 5 = .ok (.invokevirtual 62, 3) := by decide +kernel
theorem dX5_whole_8 : decode cX5_whole 8 = .ok (.iconst 1, 1) := by decide +kernel
theorem dX5_whole_9 : decode cX5_whole 9 = .ok (.isub, 1) := by decide +kernel
theorem dX5_whole_10 : decode cX5_whole 10 = .ok (.invokevirtual 96, 3) := by decide +kernel
theorem dX5_whole_13 : decode cX5_whole 13 = .ok (.ireturn, 1) := by decide +kernel
theorem dX5_reelLength_0 : decode cX5_reelLength 0 = .ok (.aload_n 0, 1) := by decide +kernel
theorem dX5_reelLength_1 : decode cX5_reelLength 1 = .ok (.iload_n 1, 1) := by decide +kernel
theorem dX5_reelLength_2 : decode cX5_reelLength 2 = .ok (.invokestatic 58, 3) := by decide +kernel
theorem dX5_reelLength_5 : decode cX5_reelLength 5 = .ok (.ifCond .eq 7, 3) := by decide +kernel
theorem dX5_reelLength_8 : decode cX5_reelLength 8 = .ok (.iconst 0, 1) := by decide +kernel
theorem dX5_reelLength_9 : decode cX5_reelLength 9 = .ok (.goto 4, 3) := by decide +kernel
theorem dX5_reelLength_12 : decode cX5_reelLength 12 = .ok (.iconst 1, 1) := by decide +kernel
theorem dX5_reelLength_13 : decode cX5_reelLength 13 = .ok (.putfield 38, 3) := by decide +kernel
theorem dX5_reelLength_16 : decode cX5_reelLength 16 = .ok (.aload_n 0, 1) := by decide +kernel
theorem dX5_reelLength_17 : decode cX5_reelLength 17 = .ok (.getfield 38, 3) := by decide +kernel
theorem dX5_reelLength_20 : decode cX5_reelLength 20 = .ok (.ifCond .le 7, 3) := by decide +kernel
theorem dX5_reelLength_23 : decode cX5_reelLength 23 = .ok (.iconst 0, 1) := by decide +kernel
theorem dX5_reelLength_24 : decode cX5_reelLength 24 = .ok (.goto 8, 3) := by decide +kernel
theorem dX5_reelLength_27 : decode cX5_reelLength 27 = .ok (.aload_n 0, 1) := by decide +kernel
theorem dX5_reelLength_28 : decode cX5_reelLength 28 = .ok (.iload_n 1, 1) := by decide +kernel
theorem dX5_reelLength_29 : decode cX5_reelLength 29 = .ok (.invokevirtual 134, 3) := by decide +kernel
theorem dX5_reelLength_32 : decode cX5_reelLength 32 = .ok (.ireturn, 1) := by decide +kernel
theorem dX5_lengthBefore_0 : decode cX5_lengthBefore 0 = .ok (.aload_n 0, 1) := by decide +kernel
theorem dX5_lengthBefore_1 : decode cX5_lengthBefore 1 = .ok (.aload_n 0, 1) := by decide +kernel
theorem dX5_lengthBefore_2 : decode cX5_lengthBefore 2 = .ok (.iload_n 1, 1) := by decide +kernel
theorem dX5_lengthBefore_3 : decode cX5_lengthBefore 3 = .ok (.iload_n 2, 1) := by decide +kernel
theorem dX5_lengthBefore_4 : decode cX5_lengthBefore 4 = .ok (.invokevirtual 65, 3) := by decide +kernel
theorem dX5_lengthBefore_7 : decode cX5_lengthBefore 7 = .ok (.ifCond .eq 7, 3) := by decide +kernel
theorem dX5_lengthBefore_10 : decode cX5_lengthBefore 10 = .ok (.iconst 0, 1) := by decide +kernel
theorem dX5_lengthBefore_11 : decode cX5_lengthBefore 11 = .ok (.goto 4, 3) := by decide +kernel
theorem dX5_lengthBefore_14 : decode cX5_lengthBefore 14 = .ok (.iconst 1, 1) := by decide +kernel
theorem dX5_lengthBefore_15 : decode cX5_lengthBefore 15 = .ok (.putfield 38, 3) := by decide +kernel
theorem dX5_lengthBefore_18 : decode cX5_lengthBefore 18 = .ok (.aload_n 0, 1) := by decide +kernel
theorem dX5_lengthBefore_19 : decode cX5_lengthBefore 19 = .ok (.getfield 38, 3) := by decide +kernel
theorem dX5_lengthBefore_22 : decode cX5_lengthBefore 22 = .ok (.ifCond .le 7, 3) := by decide +kernel
theorem dX5_lengthBefore_25 : decode cX5_lengthBefore 25 = .ok (.iconst 0, 1) := by decide +kernel
theorem dX5_lengthBefore_26 : decode cX5_lengthBefore 26 = .ok (.goto 12, 3) := by decide +kernel
theorem dX5_lengthBefore_29 : decode cX5_lengthBefore 29 = .ok (.aload_n 0, 1) := by decide +kernel
theorem dX5_lengthBefore_30 : decode cX5_lengthBefore 30 = .ok (.iload_n 1, 1) := by decide +kernel
theorem dX5_lengthBefore_31 : decode cX5_lengthBefore 31 = .ok (.iconst 0, 1) := by decide +kernel
theorem dX5_lengthBefore_32 : decode cX5_lengthBefore 32 = .ok (.iload_n 2, 1) := by decide +kernel
theorem dX5_lengthBefore_33 : decode cX5_lengthBefore 33 = .ok (.iconst 1, 1) := by decide +kernel
theorem dX5_lengthBefore_34 : decode cX5_lengthBefore 34 = .ok (.isub, 1) := by decide +kernel
theorem dX5_lengthBefore_35 : decode cX5_lengthBefore 35 = .ok (.invokevirtual 96, 3) := by decide +kernel
theorem dX5_lengthBefore_38 : decode cX5_lengthBefore 38 = .ok (.ireturn, 1) := by decide +kernel
theorem dX5_lengthBeforeByScan_0 : decode cX5_lengthBeforeByScan 0 = .ok (.aload_n 0, 1) := by decide +kernel
theorem dX5_lengthBeforeByScan_1 : decode cX5_lengthBeforeByScan 1 = .ok (.iload_n 1, 1) := by decide +kernel
theorem dX5_lengthBeforeByScan_2 : decode cX5_lengthBeforeByScan 2 = .ok (.iload_n 2, 1) := by decide +kernel
theorem dX5_lengthBeforeByScan_3 : decode cX5_lengthBeforeByScan 3 = .ok (.invokevirtual 137, 3) := by decide +kernel
theorem dX5_lengthBeforeByScan_6 : decode cX5_lengthBeforeByScan 6 = .ok (.ireturn, 1) := by decide +kernel
theorem dX5_positionAt_0 : decode cX5_positionAt 0 = .ok (.aload_n 0, 1) := by decide +kernel
theorem dX5_positionAt_1 : decode cX5_positionAt 1 = .ok (.iload_n 1, 1) := by decide +kernel
theorem dX5_positionAt_2 : decode cX5_positionAt 2 = .ok (.invokestatic 58, 3) := by decide +kernel
theorem dX5_positionAt_5 : decode cX5_positionAt 5 = .ok (.ifCond .ne 7, 3) := by decide +kernel
theorem dX5_positionAt_8 : decode cX5_positionAt 8 = .ok (.iconst 1, 1) := by decide +kernel
theorem dX5_positionAt_9 : decode cX5_positionAt 9 = .ok (.goto 23, 3) := by decide +kernel
theorem dX5_positionAt_12 : decode cX5_positionAt 12 = .ok (.iload_n 2, 1) := by decide +kernel
theorem dX5_positionAt_13 : decode cX5_positionAt 13 = .ok (.iconst 0, 1) := by decide +kernel
theorem dX5_positionAt_14 : decode cX5_positionAt 14 = .ok (.aload_n 0, 1) := by decide +kernel
theorem dX5_positionAt_15 : decode cX5_positionAt 15 = .ok (.iload_n 1, 1) := by decide +kernel
theorem dX5_positionAt_16 : decode cX5_positionAt 16 = .ok (.invokevirtual 134, 3) := by decide +kernel
theorem dX5_positionAt_19 : decode cX5_positionAt 19 = .ok (.iconst 1, 1) := by decide +kernel
theorem dX5_positionAt_20 : decode cX5_positionAt 20 = .ok (.isub, 1) := by decide +kernel
theorem dX5_positionAt_21 : decode cX5_positionAt 21 = .ok (.invokestatic 54, 3) := by decide +kernel
theorem dX5_positionAt_24 : decode cX5_positionAt 24 = .ok (.ifCond .eq 7, 3) := by decide +kernel
theorem dX5_positionAt_27 : decode cX5_positionAt 27 = .ok (.iconst 0, 1) := by decide +kernel
theorem dX5_positionAt_28 : decode cX5_positionAt 28 = .ok (.goto 4, 3) := by decide +kernel
theorem dX5_positionAt_31 : decode cX5_positionAt 31 = .ok (.iconst 2, 1) := by decide +kernel
theorem dX5_positionAt_32 : decode cX5_positionAt 32 = .ok (.putfield 38, 3) := by decide +kernel
theorem dX5_positionAt_35 : decode cX5_positionAt 35 = .ok (.aload_n 0, 1) := by decide +kernel
theorem dX5_positionAt_36 : decode cX5_positionAt 36 = .ok (.getfield 38, 3) := by decide +kernel
theorem dX5_positionAt_39 : decode cX5_positionAt 39 = .ok (.ifCond .le 5, 3) := by decide +kernel
theorem dX5_positionAt_42 : decode cX5_positionAt 42 = .ok (.iconst 0, 1) := by decide +kernel
theorem dX5_positionAt_43 : decode cX5_positionAt 43 = .ok (.ireturn, 1) := by decide +kernel
theorem dX5_positionAt_44 : decode cX5_positionAt 44 = .ok (.iconst 0, 1) := by decide +kernel
theorem dX5_positionAt_45 : decode cX5_positionAt 45 = .ok (.istore_n 3, 1) := by decide +kernel
theorem dX5_positionAt_46 : decode cX5_positionAt 46 = .ok (.aload_n 0, 1) := by decide +kernel
theorem dX5_positionAt_47 : decode cX5_positionAt 47 = .ok (.iload_n 1, 1) := by decide +kernel
theorem dX5_positionAt_48 : decode cX5_positionAt 48 = .ok (.iconst 0, 1) := by decide +kernel
theorem dX5_positionAt_49 : decode cX5_positionAt 49 = .ok (.iload_n 3, 1) := by decide +kernel
theorem dX5_positionAt_50 : decode cX5_positionAt 50 = .ok (.invokevirtual 96, 3) := by decide +kernel
theorem dX5_positionAt_53 : decode cX5_positionAt 53 = .ok (.iload_n 2, 1) := by decide +kernel
theorem dX5_positionAt_54 : decode cX5_positionAt 54 = .ok (.if_icmp .gt 9, 3) := by decide +kernel
theorem dX5_positionAt_57 : decode cX5_positionAt 57 = .ok (.iinc 3 1, 3) := by decide +kernel
theorem dX5_positionAt_60 : decode cX5_positionAt 60 = .ok (.goto (-14), 3) := by decide +kernel
theorem dX5_positionAt_63 : decode cX5_positionAt 63 = .ok (.iload_n 3, 1) := by decide +kernel
theorem dX5_positionAt_64 : decode cX5_positionAt 64 = .ok (.ireturn, 1) := by decide +kernel
theorem dX5_isRange_0 : decode cX5_isRange 0 = .ok (.aload_n 0, 1) := by decide +kernel
theorem dX5_isRange_1 : decode cX5_isRange 1 = .ok (.aload_n 0, 1) := by decide +kernel
theorem dX5_isRange_2 : decode cX5_isRange 2 = .ok (.iload_n 1, 1) := by decide +kernel
theorem dX5_isRange_3 : decode cX5_isRange 3 = .ok (.iload_n 2, 1) := by decide +kernel
theorem dX5_isRange_4 : decode cX5_isRange 4 = .ok (.invokevirtual 90, 3) := by decide +kernel
theorem dX5_isRange_7 : decode cX5_isRange 7 = .ok (.ifCond .eq 12, 3) := by decide +kernel
theorem dX5_isRange_10 : decode cX5_isRange 10 = .ok (.aload_n 0, 1) := by decide +kernel
theorem dX5_isRange_11 : decode cX5_isRange 11 = .ok (.iload_n 1, 1) := by decide +kernel
theorem dX5_isRange_12 : decode cX5_isRange 12 = .ok (.iload_n 3, 1) := by decide +kernel
theorem dX5_isRange_13 : decode cX5_isRange 13 = .ok (.invokevirtual 90, 3) := by decide +kernel
theorem dX5_isRange_16 : decode cX5_isRange 16 = .ok (.ifCond .ne 7, 3) := by decide +kernel
theorem dX5_isRange_19 : decode cX5_isRange 19 = .ok (.iconst 1, 1) := by decide +kernel
theorem dX5_isRange_20 : decode cX5_isRange 20 = .ok (.goto 13, 3) := by decide +kernel
theorem dX5_isRange_23 : decode cX5_isRange 23 = .ok (.iload_n 2, 1) := by decide +kernel
theorem dX5_isRange_24 : decode cX5_isRange 24 = .ok (.iload_n 3, 1) := by decide +kernel
theorem dX5_isRange_25 : decode cX5_isRange 25 = .ok (.if_icmp .le 7, 3) := by decide +kernel
theorem dX5_isRange_28 : decode cX5_isRange 28 = .ok (.iconst 2, 1) := by decide +kernel
theorem dX5_isRange_29 : decode cX5_isRange 29 = .ok (.goto 4, 3) := by decide +kernel
theorem dX5_isRange_32 : decode cX5_isRange 32 = .ok (.iconst 0, 1) := by decide +kernel
theorem dX5_isRange_33 : decode cX5_isRange 33 = .ok (.putfield 38, 3) := by decide +kernel
theorem dX5_isRange_36 : decode cX5_isRange 36 = .ok (.aload_n 0, 1) := by decide +kernel
theorem dX5_isRange_37 : decode cX5_isRange 37 = .ok (.getfield 38, 3) := by decide +kernel
theorem dX5_isRange_40 : decode cX5_isRange 40 = .ok (.ifCond .ne 7, 3) := by decide +kernel
theorem dX5_isRange_43 : decode cX5_isRange 43 = .ok (.iconst 1, 1) := by decide +kernel
theorem dX5_isRange_44 : decode cX5_isRange 44 = .ok (.goto 4, 3) := by decide +kernel
theorem dX5_isRange_47 : decode cX5_isRange 47 = .ok (.iconst 0, 1) := by decide +kernel
theorem dX5_isRange_48 : decode cX5_isRange 48 = .ok (.ireturn, 1) := by decide +kernel
theorem dX5_rangeLength_0 : decode cX5_rangeLength 0 = .ok (.aload_n 0, 1) := by decide +kernel
theorem dX5_rangeLength_1 : decode cX5_rangeLength 1 = .ok (.iload_n 1, 1) := by decide +kernel
theorem dX5_rangeLength_2 : decode cX5_rangeLength 2 = .ok (.iload_n 2, 1) := by decide +kernel
theorem dX5_rangeLength_3 : decode cX5_rangeLength 3 = .ok (.iload_n 3, 1) := by decide +kernel
theorem dX5_rangeLength_4 : decode cX5_rangeLength 4 = .ok (.invokevirtual 140, 3) := by decide +kernel
theorem dX5_rangeLength_7 : decode cX5_rangeLength 7 = .ok (.ifCond .eq 13, 3) := by decide +kernel
theorem dX5_rangeLength_10 : decode cX5_rangeLength 10 = .ok (.aload_n 0, 1) := by decide +kernel
theorem dX5_rangeLength_11 : decode cX5_rangeLength 11 = .ok (.iload_n 1, 1) := by decide +kernel
theorem dX5_rangeLength_12 : decode cX5_rangeLength 12 = .ok (.iload_n 2, 1) := by decide +kernel
theorem dX5_rangeLength_13 : decode cX5_rangeLength 13 = .ok (.iload_n 3, 1) := by decide +kernel
theorem dX5_rangeLength_14 : decode cX5_rangeLength 14 = .ok (.invokevirtual 96, 3) := by decide +kernel
theorem dX5_rangeLength_17 : decode cX5_rangeLength 17 = .ok (.goto 4, 3) := by decide +kernel
theorem dX5_rangeLength_20 : decode cX5_rangeLength 20 = .ok (.iconst 0, 1) := by decide +kernel
theorem dX5_rangeLength_21 : decode cX5_rangeLength 21 = .ok (.ireturn, 1) := by decide +kernel
theorem dX5_longestInRange_0 : decode cX5_longestInRange 0 = .ok (.aload_n 0, 1) := by decide +kernel
theorem dX5_longestInRange_1 : decode cX5_longestInRange 1 = .ok (.iload_n 1, 1) := by decide +kernel
theorem dX5_longestInRange_2 : decode cX5_longestInRange 2 = .ok (.iload_n 2, 1) := by decide +kernel
theorem dX5_longestInRange_3 : decode cX5_longestInRange 3 = .ok (.iload_n 3, 1) := by decide +kernel
theorem dX5_longestInRange_4 : decode cX5_longestInRange 4 = .ok (.invokevirtual 140, 3) := by decide +kernel
theorem dX5_longestInRange_7 : decode cX5_longestInRange 7 = .ok (.ifCond .ne 5, 3) := by decide +kernel
theorem dX5_longestInRange_10 : decode cX5_longestInRange 10 = .ok (.iconst 0, 1) := by decide +kernel
theorem dX5_longestInRange_11 : decode cX5_longestInRange 11 = .ok (.ireturn, 1) := by decide +kernel
theorem dX5_longestInRange_12 : decode cX5_longestInRange 12 = .ok (.iload_n 2, 1) := by decide +kernel
theorem dX5_longestInRange_13 : decode cX5_longestInRange 13 = .ok (.istore 4, 2) := by decide +kernel
theorem dX5_longestInRange_15 : decode cX5_longestInRange 15 = .ok (.iload_n 2, 1) := by decide +kernel
theorem dX5_longestInRange_16 : decode cX5_longestInRange 16 = .ok (.iconst 1, 1) := by decide +kernel
theorem dX5_longestInRange_17 : decode cX5_longestInRange 17 = .ok (.iadd, 1) := by decide +kernel
theorem dX5_longestInRange_18 : decode cX5_longestInRange 18 = .ok (.istore 5, 2) := by decide +kernel
theorem dX5_longestInRange_20 : decode cX5_longestInRange 20 = .ok (.iload 5, 2) := by decide +kernel
theorem dX5_longestInRange_22 : decode cX5_longestInRange 22 = .ok (.iload_n 3, 1) := by decide +kernel
theorem dX5_longestInRange_23 : decode cX5_longestInRange 23 = .ok (.if_icmp .gt 37, 3) := by decide +kernel
theorem dX5_longestInRange_26 : decode cX5_longestInRange 26 = .ok (.aload_n 0, 1) := by decide +kernel
theorem dX5_longestInRange_27 : decode cX5_longestInRange 27 = .ok (.iload_n 1, 1) := by decide +kernel
theorem dX5_longestInRange_28 : decode cX5_longestInRange 28 = .ok (.iload 5, 2) := by decide +kernel
theorem dX5_longestInRange_30 : decode cX5_longestInRange 30 = .ok (.iconst 0, 1) := by decide +kernel
theorem dX5_longestInRange_31 : decode cX5_longestInRange 31 = .ok (.invokevirtual 75, 3) := by decide +kernel
theorem dX5_longestInRange_34 : decode cX5_longestInRange 34 = .ok (.aload_n 0, 1) := by decide +kernel
theorem dX5_longestInRange_35 : decode cX5_longestInRange 35 = .ok (.iload_n 1, 1) := by decide +kernel
theorem dX5_longestInRange_36 : decode cX5_longestInRange 36 = .ok (.iload 4, 2) := by decide +kernel
theorem dX5_longestInRange_38 : decode cX5_longestInRange 38 = .ok (.iconst 0, 1) := by decide +kernel
theorem dX5_longestInRange_39 : decode cX5_longestInRange 39 = .ok (.invokevirtual 75, 3) := by decide +kernel
theorem dX5_longestInRange_42 : decode cX5_longestInRange 42 = .ok (.if_icmp .le 8, 3) := by decide +kernel
theorem dX5_longestInRange_45 : decode cX5_longestInRange 45 = .ok (.iload 5, 2) := by decide +kernel
theorem dX5_longestInRange_47 : decode cX5_longestInRange 47 = .ok (.goto 5, 3) := by decide +kernel
theorem dX5_longestInRange_50 : decode cX5_longestInRange 50 = .ok (.iload 4, 2) := by decide +kernel
theorem dX5_longestInRange_52 : decode cX5_longestInRange 52 = .ok (.istore 4, 2) := by decide +kernel
theorem dX5_longestInRange_54 : decode cX5_longestInRange 54 = .ok (.iinc 5 1, 3) := by decide +kernel
theorem dX5_longestInRange_57 : decode cX5_longestInRange 57 = .ok (.goto (-37), 3) := by decide +kernel
theorem dX5_longestInRange_60 : decode cX5_longestInRange 60 = .ok (.iload 4, 2) := by decide +kernel
theorem dX5_longestInRange_62 : decode cX5_longestInRange 62 = .ok (.ireturn, 1) := by decide +kernel
theorem dX5_segmentAtRank_0 : decode cX5_segmentAtRank 0 = .ok (.aload_n 0, 1) := by decide +kernel
theorem dX5_segmentAtRank_1 : decode cX5_segmentAtRank 1 = .ok (.iload_n 1, 1) := by decide +kernel
theorem dX5_segmentAtRank_2 : decode cX5_segmentAtRank 2 = .ok (.invokestatic 58, 3) := by decide +kernel
theorem dX5_segmentAtRank_5 : decode cX5_segmentAtRank 5 = .ok (.ifCond .eq 7, 3) := by decide +kernel
theorem dX5_segmentAtRank_8 : decode cX5_segmentAtRank 8 = .ok (.iconst 0, 1) := by decide +kernel
theorem dX5_segmentAtRank_9 : decode cX5_segmentAtRank 9 = .ok (.goto 4, 3) := by decide +kernel
theorem dX5_segmentAtRank_12 : decode cX5_segmentAtRank 12 = .ok (.iconst 1, 1) := by decide +kernel
theorem dX5_segmentAtRank_13 : decode cX5_segmentAtRank 13 = .ok (.putfield 38, 3) := by decide +kernel
theorem dX5_segmentAtRank_16 : decode cX5_segmentAtRank 16 = .ok (.iconst 0, 1) := by decide +kernel
theorem dX5_segmentAtRank_17 : decode cX5_segmentAtRank 17 = .ok (.istore_n 3, 1) := by decide +kernel
theorem dX5_segmentAtRank_18 : decode cX5_segmentAtRank 18 = .ok (.aload_n 0, 1) := by decide +kernel
theorem dX5_segmentAtRank_19 : decode cX5_segmentAtRank 19 = .ok (.getfield 38, 3) := by decide +kernel
theorem dX5_segmentAtRank_22 : decode cX5_segmentAtRank 22 = .ok (.ifCond .ne 100, 3) := by decide +kernel
theorem dX5_segmentAtRank_25 : decode cX5_segmentAtRank 25 = .ok (.iload_n 3, 1) := by decide +kernel
theorem dX5_segmentAtRank_26 : decode cX5_segmentAtRank 26 = .ok (.aload_n 0, 1) := by decide +kernel
theorem dX5_segmentAtRank_27 : decode cX5_segmentAtRank 27 = .ok (.iload_n 1, 1) := by decide +kernel
theorem dX5_segmentAtRank_28 : decode cX5_segmentAtRank 28 = .ok (.invokevirtual 62, 3) := by decide +kernel
theorem dX5_segmentAtRank_31 : decode cX5_segmentAtRank 31 = .ok (.if_icmp .ge 91, 3) := by decide +kernel
theorem dX5_segmentAtRank_34 : decode cX5_segmentAtRank 34 = .ok (.iconst 0, 1) := by decide +kernel
theorem dX5_segmentAtRank_35 : decode cX5_segmentAtRank 35 = .ok (.istore 4, 2) := by decide +kernel
theorem dX5_segmentAtRank_37 : decode cX5_segmentAtRank 37 = .ok (.iconst 0, 1) := by decide +kernel
theorem dX5_segmentAtRank_38 : decode cX5_segmentAtRank 38 = .ok (.istore 5, 2) := by decide +kernel
theorem dX5_segmentAtRank_40 : decode cX5_segmentAtRank 40 = .ok (.iload 5, 2) := by decide +kernel
theorem dX5_segmentAtRank_42 : decode cX5_segmentAtRank 42 = .ok (.aload_n 0, 1) := by decide +kernel
theorem dX5_segmentAtRank_43 : decode cX5_segmentAtRank 43 = .ok (.iload_n 1, 1) := by decide +kernel
theorem dX5_segmentAtRank_44 : decode cX5_segmentAtRank 44 = .ok (.invokevirtual 62, 3) := by decide +kernel
theorem dX5_segmentAtRank_47 : decode cX5_segmentAtRank 47 = .ok (.if_icmp .ge 61, 3) := by decide +kernel
theorem dX5_segmentAtRank_50 : decode cX5_segmentAtRank 50 = .ok (.iload 4, 2) := by decide +kernel
theorem dX5_segmentAtRank_52 : decode cX5_segmentAtRank 52 = .ok (.aload_n 0, 1) := by decide +kernel
theorem dX5_segmentAtRank_53 : decode cX5_segmentAtRank 53 = .ok (.iload_n 1, 1) := by decide +kernel
theorem dX5_segmentAtRank_54 : decode cX5_segmentAtRank 54 = .ok (.iload 5, 2) := by decide +kernel
theorem dX5_segmentAtRank_56 : decode cX5_segmentAtRank 56 = .ok (.iconst 0, 1) := by decide +kernel
theorem dX5_segmentAtRank_57 : decode cX5_segmentAtRank 57 = .ok (.invokevirtual 75, 3) := by decide +kernel
theorem dX5_segmentAtRank_60 : decode cX5_segmentAtRank 60 = .ok (.aload_n 0, 1) := by decide +kernel
theorem dX5_segmentAtRank_61 : decode cX5_segmentAtRank 61 = .ok (.iload_n 1, 1) := by decide +kernel
theorem dX5_segmentAtRank_62 : decode cX5_segmentAtRank 62 = .ok (.iload_n 3, 1) := by decide +kernel
theorem dX5_segmentAtRank_63 : decode cX5_segmentAtRank 63 = .ok (.iconst 0, 1) := by decide +kernel
theorem dX5_segmentAtRank_64 : decode cX5_segmentAtRank 64 = .ok (.invokevirtual 75, 3) := by decide +kernel
theorem dX5_segmentAtRank_67 : decode cX5_segmentAtRank 67 = .ok (.if_icmp .gt 27, 3) := by decide +kernel
theorem dX5_segmentAtRank_70 : decode cX5_segmentAtRank 70 = .ok (.aload_n 0, 1) := by decide +kernel
theorem dX5_segmentAtRank_71 : decode cX5_segmentAtRank 71 = .ok (.iload_n 1, 1) := by decide +kernel
theorem dX5_segmentAtRank_72 : decode cX5_segmentAtRank 72 = .ok (.iload 5, 2) := by decide +kernel
theorem dX5_segmentAtRank_74 : decode cX5_segmentAtRank 74 = .ok (.iconst 0, 1) := by decide +kernel
theorem dX5_segmentAtRank_75 : decode cX5_segmentAtRank 75 = .ok (.invokevirtual 75, 3) := by decide +kernel
theorem dX5_segmentAtRank_78 : decode cX5_segmentAtRank 78 = .ok (.aload_n 0, 1) := by decide +kernel
theorem dX5_segmentAtRank_79 : decode cX5_segmentAtRank 79 = .ok (.iload_n 1, 1) := by decide +kernel
theorem dX5_segmentAtRank_80 : decode cX5_segmentAtRank 80 = .ok (.iload_n 3, 1) := by decide +kernel
theorem dX5_segmentAtRank_81 : decode cX5_segmentAtRank 81 = .ok (.iconst 0, 1) := by decide +kernel
theorem dX5_segmentAtRank_82 : decode cX5_segmentAtRank 82 = .ok (.invokevirtual 75, 3) := by decide +kernel
theorem dX5_segmentAtRank_85 : decode cX5_segmentAtRank 85 = .ok (.if_icmp .ne 13, 3) := by decide +kernel
theorem dX5_segmentAtRank_88 : decode cX5_segmentAtRank 88 = .ok (.iload 5, 2) := by decide +kernel
theorem dX5_segmentAtRank_90 : decode cX5_segmentAtRank 90 = .ok (.iload_n 3, 1) := by decide +kernel
theorem dX5_segmentAtRank_91 : decode cX5_segmentAtRank 91 = .ok (.if_icmp .ge 7, 3) := by decide +kernel
theorem dX5_segmentAtRank_94 : decode cX5_segmentAtRank 94 = .ok (.iconst 1, 1) := by decide +kernel
theorem dX5_segmentAtRank_95 : decode cX5_segmentAtRank 95 = .ok (.goto 4, 3) := by decide +kernel
theorem dX5_segmentAtRank_98 : decode cX5_segmentAtRank 98 = .ok (.iconst 0, 1) := by decide +kernel
theorem dX5_segmentAtRank_99 : decode cX5_segmentAtRank 99 = .ok (.iadd, 1) := by decide +kernel
theorem dX5_segmentAtRank_100 : decode cX5_segmentAtRank 100 = .ok (.istore 4, 2) := by decide +kernel
theorem dX5_segmentAtRank_102 : decode cX5_segmentAtRank 102 = .ok (.iinc 5 1, 3) := by decide +kernel
theorem dX5_segmentAtRank_105 : decode cX5_segmentAtRank 105 = .ok (.goto (-65), 3) := by decide +kernel
theorem dX5_segmentAtRank_108 : decode cX5_segmentAtRank 108 = .ok (.iload 4, 2) := by decide +kernel
theorem dX5_segmentAtRank_110 : decode cX5_segmentAtRank 110 = .ok (.iload_n 2, 1) := by decide +kernel
theorem dX5_segmentAtRank_111 : decode cX5_segmentAtRank 111 = .ok (.if_icmp .ne 5, 3) := by decide +kernel
theorem dX5_segmentAtRank_114 : decode cX5_segmentAtRank 114 = .ok (.iload_n 3, 1) := by decide +kernel
theorem dX5_segmentAtRank_115 : decode cX5_segmentAtRank 115 = .ok (.ireturn, 1) := by decide +kernel
theorem dX5_segmentAtRank_116 : decode cX5_segmentAtRank 116 = .ok (.iinc 3 1, 3) := by decide +kernel
theorem dX5_segmentAtRank_119 : decode cX5_segmentAtRank 119 = .ok (.goto (-101), 3) := by decide +kernel
theorem dX5_segmentAtRank_122 : decode cX5_segmentAtRank 122 = .ok (.aload_n 0, 1) := by decide +kernel
theorem dX5_segmentAtRank_123 : decode cX5_segmentAtRank 123 = .ok (.getfield 38, 3) := by decide +kernel
theorem dX5_segmentAtRank_126 : decode cX5_segmentAtRank 126 = .ok (.ifCond .le 7, 3) := by decide +kernel
theorem dX5_segmentAtRank_129 : decode cX5_segmentAtRank 129 = .ok (.iconst 0, 1) := by decide +kernel
theorem dX5_segmentAtRank_130 : decode cX5_segmentAtRank 130 = .ok (.goto 8, 3) := by decide +kernel
theorem dX5_segmentAtRank_133 : decode cX5_segmentAtRank 133 = .ok (.aload_n 0, 1) := by decide +kernel
theorem dX5_segmentAtRank_134 : decode cX5_segmentAtRank 134 = .ok (.iconst 2, 1) := by decide +kernel
theorem dX5_segmentAtRank_135 : decode cX5_segmentAtRank 135 = .ok (.invokevirtual 51, 3) := by decide +kernel
theorem dX5_segmentAtRank_138 : decode cX5_segmentAtRank 138 = .ok (.ireturn, 1) := by decide +kernel
theorem dX5_totalLength_0 : decode cX5_totalLength 0 = .ok (.aload_n 0, 1) := by decide +kernel
theorem dX5_totalLength_1 : decode cX5_totalLength 1 = .ok (.iconst 0, 1) := by decide +kernel
theorem dX5_totalLength_2 : decode cX5_totalLength 2 = .ok (.putfield 38, 3) := by decide +kernel
theorem dX5_totalLength_5 : decode cX5_totalLength 5 = .ok (.lconst 0, 1) := by decide +kernel
theorem dX5_totalLength_6 : decode cX5_totalLength 6 = .ok (.lstore_n 1, 1) := by decide +kernel
theorem dX5_totalLength_7 : decode cX5_totalLength 7 = .ok (.iconst 0, 1) := by decide +kernel
theorem dX5_totalLength_8 : decode cX5_totalLength 8 = .ok (.istore_n 3, 1) := by decide +kernel
theorem dX5_totalLength_9 : decode cX5_totalLength 9 = .ok (.iload_n 3, 1) := by decide +kernel
theorem dX5_totalLength_10 : decode cX5_totalLength 10 = .ok (.iconst 4, 1) := by decide +kernel
theorem dX5_totalLength_11 : decode cX5_totalLength 11 = .ok (.if_icmp .ge 18, 3) := by decide +kernel
theorem dX5_totalLength_14 : decode cX5_totalLength 14 = .ok (.lload_n 1, 1) := by decide +kernel
theorem dX5_totalLength_15 : decode cX5_totalLength 15 = .ok (.aload_n 0, 1) := by decide +kernel
theorem dX5_totalLength_16 : decode cX5_totalLength 16 = .ok (.iload_n 3, 1) := by decide +kernel
theorem dX5_totalLength_17 : decode cX5_totalLength 17 = .ok (.invokevirtual 134, 3) := by decide +kernel
theorem dX5_totalLength_20 : decode cX5_totalLength 20 = .ok (.i2l, 1) := by decide +kernel
theorem dX5_totalLength_21 : decode cX5_totalLength 21 = .ok (.ladd, 1) := by decide +kernel
theorem dX5_totalLength_22 : decode cX5_totalLength 22 = .ok (.lstore_n 1, 1) := by decide +kernel
theorem dX5_totalLength_23 : decode cX5_totalLength 23 = .ok (.iinc 3 1, 3) := by decide +kernel
theorem dX5_totalLength_26 : decode cX5_totalLength 26 = .ok (.goto (-17), 3) := by decide +kernel
theorem dX5_totalLength_29 : decode cX5_totalLength 29 = .ok (.lload_n 1, 1) := by decide +kernel
theorem dX5_totalLength_30 : decode cX5_totalLength 30 = .ok (.lreturn, 1) := by decide +kernel
theorem dX5_isTangle_0 : decode cX5_isTangle 0 = .ok (.iload_n 2, 1) := by decide +kernel
theorem dX5_isTangle_1 : decode cX5_isTangle 1 = .ok (.iconst 0, 1) := by decide +kernel
theorem dX5_isTangle_2 : decode cX5_isTangle 2 = .ok (.aload_n 0, 1) := by decide +kernel
theorem dX5_isTangle_3 : decode cX5_isTangle 3 = .ok (.iload_n 1, 1) := by decide +kernel
theorem dX5_isTangle_4 : decode cX5_isTangle 4 = .ok (.invokevirtual 62, 3) := by decide +kernel
theorem dX5_isTangle_7 : decode cX5_isTangle 7 = .ok (.iconst 2, 1) := by decide +kernel
theorem dX5_isTangle_8 : decode cX5_isTangle 8 = .ok (.isub, 1) := by decide +kernel
theorem dX5_isTangle_9 : decode cX5_isTangle 9 = .ok (.invokestatic 54, 3) := by decide +kernel
theorem dX5_isTangle_12 : decode cX5_isTangle 12 = .ok (.ifCond .eq 26, 3) := by decide +kernel
theorem dX5_isTangle_15 : decode cX5_isTangle 15 = .ok (.aload_n 0, 1) := by decide +kernel
theorem dX5_isTangle_16 : decode cX5_isTangle 16 = .ok (.iload_n 1, 1) := by decide +kernel
theorem dX5_isTangle_17 : decode cX5_isTangle 17 = .ok (.iload_n 2, 1) := by decide +kernel
theorem dX5_isTangle_18 : decode cX5_isTangle 18 = .ok (.iconst 1, 1) := by decide +kernel
theorem dX5_isTangle_19 : decode cX5_isTangle 19 = .ok (.invokevirtual 75, 3) := by decide +kernel
theorem dX5_isTangle_22 : decode cX5_isTangle 22 = .ok (.aload_n 0, 1) := by decide +kernel
theorem dX5_isTangle_23 : decode cX5_isTangle 23 = .ok (.iload_n 1, 1) := by decide +kernel
theorem dX5_isTangle_24 : decode cX5_isTangle 24 = .ok (.iload_n 2, 1) := by decide +kernel
theorem dX5_isTangle_25 : decode cX5_isTangle 25 = .ok (.iconst 1, 1) := by decide +kernel
theorem dX5_isTangle_26 : decode cX5_isTangle 26 = .ok (.iadd, 1) := by decide +kernel
theorem dX5_isTangle_27 : decode cX5_isTangle 27 = .ok (.iconst 1, 1) := by decide +kernel
theorem dX5_isTangle_28 : decode cX5_isTangle 28 = .ok (.invokevirtual 75, 3) := by decide +kernel
theorem dX5_isTangle_31 : decode cX5_isTangle 31 = .ok (.if_icmp .ne 7, 3) := by decide +kernel
theorem dX5_isTangle_34 : decode cX5_isTangle 34 = .ok (.iconst 1, 1) := by decide +kernel
theorem dX5_isTangle_35 : decode cX5_isTangle 35 = .ok (.goto 4, 3) := by decide +kernel
theorem dX5_isTangle_38 : decode cX5_isTangle 38 = .ok (.iconst 0, 1) := by decide +kernel
theorem dX5_isTangle_39 : decode cX5_isTangle 39 = .ok (.ireturn, 1) := by decide +kernel
theorem dX5_tangleCount_0 : decode cX5_tangleCount 0 = .ok (.aload_n 0, 1) := by decide +kernel
theorem dX5_tangleCount_1 : decode cX5_tangleCount 1 = .ok (.iload_n 1, 1) := by decide +kernel
theorem dX5_tangleCount_2 : decode cX5_tangleCount 2 = .ok (.invokestatic 58, 3) := by decide +kernel
theorem dX5_tangleCount_5 : decode cX5_tangleCount 5 = .ok (.ifCond .eq 7, 3) := by decide +kernel
theorem dX5_tangleCount_8 : decode cX5_tangleCount 8 = .ok (.iconst 0, 1) := by decide +kernel
theorem dX5_tangleCount_9 : decode cX5_tangleCount 9 = .ok (.goto 4, 3) := by decide +kernel
theorem dX5_tangleCount_12 : decode cX5_tangleCount 12 = .ok (.iconst 1, 1) := by decide +kernel
theorem dX5_tangleCount_13 : decode cX5_tangleCount 13 = .ok (.putfield 38, 3) := by decide +kernel
theorem dX5_tangleCount_16 : decode cX5_tangleCount 16 = .ok (.iconst 0, 1) := by decide +kernel
theorem dX5_tangleCount_17 : decode cX5_tangleCount 17 = .ok (.istore_n 2, 1) := by decide +kernel
theorem dX5_tangleCount_18 : decode cX5_tangleCount 18 = .ok (.iconst 0, 1) := by decide +kernel
theorem dX5_tangleCount_19 : decode cX5_tangleCount 19 = .ok (.istore_n 3, 1) := by decide +kernel
theorem dX5_tangleCount_20 : decode cX5_tangleCount 20 = .ok (.aload_n 0, 1) := by decide +kernel
theorem dX5_tangleCount_21 : decode cX5_tangleCount 21 = .ok (.getfield 38, 3) := by decide +kernel
theorem dX5_tangleCount_24 : decode cX5_tangleCount 24 = .ok (.ifCond .ne 35, 3) := by decide +kernel
theorem dX5_tangleCount_27 : decode cX5_tangleCount 27 = .ok (.iload_n 3, 1) := by decide +kernel
theorem dX5_tangleCount_28 : decode cX5_tangleCount 28 = .ok (.aload_n 0, 1) := by decide +kernel
theorem dX5_tangleCount_29 : decode cX5_tangleCount 29 = .ok (.iload_n 1, 1) := by decide +kernel
theorem dX5_tangleCount_30 : decode cX5_tangleCount 30 = .ok (.invokevirtual 62, 3) := by decide +kernel
theorem dX5_tangleCount_33 : decode cX5_tangleCount 33 = .ok (.if_icmp .ge 26, 3) := by decide +kernel
theorem dX5_tangleCount_36 : decode cX5_tangleCount 36 = .ok (.iload_n 2, 1) := by decide +kernel
theorem dX5_tangleCount_37 : decode cX5_tangleCount 37 = .ok (.aload_n 0, 1) := by decide +kernel
theorem dX5_tangleCount_38 : decode cX5_tangleCount 38 = .ok (.iload_n 1, 1) := by decide +kernel
theorem dX5_tangleCount_39 : decode cX5_tangleCount 39 = .ok (.iload_n 3, 1) := by decide +kernel
theorem dX5_tangleCount_40 : decode cX5_tangleCount 40 = .ok (.invokevirtual 143, 3) := by decide +kernel
theorem dX5_tangleCount_43 : decode cX5_tangleCount 43 = .ok (.ifCond .eq 7, 3) := by decide +kernel
theorem dX5_tangleCount_46 : decode cX5_tangleCount 46 = .ok (.iconst 1, 1) := by decide +kernel
theorem dX5_tangleCount_47 : decode cX5_tangleCount 47 = .ok (.goto 4, 3) := by decide +kernel
theorem dX5_tangleCount_50 : decode cX5_tangleCount 50 = .ok (.iconst 0, 1) := by decide +kernel
theorem dX5_tangleCount_51 : decode cX5_tangleCount 51 = .ok (.iadd, 1) := by decide +kernel
theorem dX5_tangleCount_52 : decode cX5_tangleCount 52 = .ok (.istore_n 2, 1) := by decide +kernel
theorem dX5_tangleCount_53 : decode cX5_tangleCount 53 = .ok (.iinc 3 1, 3) := by decide +kernel
theorem dX5_tangleCount_56 : decode cX5_tangleCount 56 = .ok (.goto (-36), 3) := by decide +kernel
theorem dX5_tangleCount_59 : decode cX5_tangleCount 59 = .ok (.iload_n 2, 1) := by decide +kernel
theorem dX5_tangleCount_60 : decode cX5_tangleCount 60 = .ok (.ireturn, 1) := by decide +kernel
theorem dX5_tangleCountByScan_0 : decode cX5_tangleCountByScan 0 = .ok (.aload_n 0, 1) := by decide +kernel
theorem dX5_tangleCountByScan_1 : decode cX5_tangleCountByScan 1 = .ok (.iload_n 1, 1) := by decide +kernel
theorem dX5_tangleCountByScan_2 : decode cX5_tangleCountByScan 2 = .ok (.invokevirtual 146, 3) := by decide +kernel
theorem dX5_tangleCountByScan_5 : decode cX5_tangleCountByScan 5 = .ok (.ireturn, 1) := by decide +kernel
theorem dX5_isTangled_0 : decode cX5_isTangled 0 = .ok (.aload_n 0, 1) := by decide +kernel
theorem dX5_isTangled_1 : decode cX5_isTangled 1 = .ok (.aload_n 0, 1) := by decide +kernel
theorem dX5_isTangled_2 : decode cX5_isTangled 2 = .ok (.iload_n 1, 1) := by decide +kernel
theorem dX5_isTangled_3 : decode cX5_isTangled 3 = .ok (.iload_n 2, 1) := by decide +kernel
theorem dX5_isTangled_4 : decode cX5_isTangled 4 = .ok (.invokevirtual 90, 3) := by decide +kernel
theorem dX5_isTangled_7 : decode cX5_isTangled 7 = .ok (.ifCond .eq 7, 3) := by decide +kernel
theorem dX5_isTangled_10 : decode cX5_isTangled 10 = .ok (.iconst 0, 1) := by decide +kernel
theorem dX5_isTangled_11 : decode cX5_isTangled 11 = .ok (.goto 4, 3) := by decide +kernel
theorem dX5_isTangled_14 : decode cX5_isTangled 14 = .ok (.iconst 1, 1) := by decide +kernel
theorem dX5_isTangled_15 : decode cX5_isTangled 15 = .ok (.putfield 38, 3) := by decide +kernel
theorem dX5_isTangled_18 : decode cX5_isTangled 18 = .ok (.aload_n 0, 1) := by decide +kernel
theorem dX5_isTangled_19 : decode cX5_isTangled 19 = .ok (.getfield 38, 3) := by decide +kernel
theorem dX5_isTangled_22 : decode cX5_isTangled 22 = .ok (.ifCond .ne 27, 3) := by decide +kernel
theorem dX5_isTangled_25 : decode cX5_isTangled 25 = .ok (.aload_n 0, 1) := by decide +kernel
theorem dX5_isTangled_26 : decode cX5_isTangled 26 = .ok (.iload_n 1, 1) := by decide +kernel
theorem dX5_isTangled_27 : decode cX5_isTangled 27 = .ok (.iload_n 2, 1) := by decide +kernel
theorem dX5_isTangled_28 : decode cX5_isTangled 28 = .ok (.invokevirtual 143, 3) := by decide +kernel
theorem dX5_isTangled_31 : decode cX5_isTangled 31 = .ok (.ifCond .ne 14, 3) := by decide +kernel
theorem dX5_isTangled_34 : decode cX5_isTangled 34 = .ok (.aload_n 0, 1) := by decide +kernel
theorem dX5_isTangled_35 : decode cX5_isTangled 35 = .ok (.iload_n 1, 1) := by decide +kernel
theorem dX5_isTangled_36 : decode cX5_isTangled 36 = .ok (.iload_n 2, 1) := by decide +kernel
theorem dX5_isTangled_37 : decode cX5_isTangled 37 = .ok (.iconst 1, 1) := by decide +kernel
theorem dX5_isTangled_38 : decode cX5_isTangled 38 = .ok (.isub, 1) := by decide +kernel
theorem dX5_isTangled_39 : decode cX5_isTangled 39 = .ok (.invokevirtual 143, 3) := by decide +kernel
theorem dX5_isTangled_42 : decode cX5_isTangled 42 = .ok (.ifCond .eq 7, 3) := by decide +kernel
theorem dX5_isTangled_45 : decode cX5_isTangled 45 = .ok (.iconst 1, 1) := by decide +kernel
theorem dX5_isTangled_46 : decode cX5_isTangled 46 = .ok (.goto 4, 3) := by decide +kernel
theorem dX5_isTangled_49 : decode cX5_isTangled 49 = .ok (.iconst 0, 1) := by decide +kernel
theorem dX5_isTangled_50 : decode cX5_isTangled 50 = .ok (.ireturn, 1) := by decide +kernel
theorem dX5_longestRun_0 : decode cX5_longestRun 0 = .ok (.aload_n 0, 1) := by decide +kernel
theorem dX5_longestRun_1 : decode cX5_longestRun 1 = .ok (.iload_n 1, 1) := by decide +kernel
theorem dX5_longestRun_2 : decode cX5_longestRun 2 = .ok (.invokestatic 58, 3) := by decide +kernel
theorem dX5_longestRun_5 : decode cX5_longestRun 5 = .ok (.ifCond .eq 7, 3) := by decide +kernel
theorem dX5_longestRun_8 : decode cX5_longestRun 8 = .ok (.iconst 0, 1) := by decide +kernel
theorem dX5_longestRun_9 : decode cX5_longestRun 9 = .ok (.goto 4, 3) := by decide +kernel
theorem dX5_longestRun_12 : decode cX5_longestRun 12 = .ok (.iconst 1, 1) := by decide +kernel
theorem dX5_longestRun_13 : decode cX5_longestRun 13 = .ok (.putfield 38, 3) := by decide +kernel
theorem dX5_longestRun_16 : decode cX5_longestRun 16 = .ok (.iconst 0, 1) := by decide +kernel
theorem dX5_longestRun_17 : decode cX5_longestRun 17 = .ok (.istore_n 2, 1) := by decide +kernel
theorem dX5_longestRun_18 : decode cX5_longestRun 18 = .ok (.iconst 0, 1) := by decide +kernel
theorem dX5_longestRun_19 : decode cX5_longestRun 19 = .ok (.istore_n 3, 1) := by decide +kernel
theorem dX5_longestRun_20 : decode cX5_longestRun 20 = .ok (.iconst 0, 1) := by decide +kernel
theorem dX5_longestRun_21 : decode cX5_longestRun 21 = .ok (.istore 4, 2) := by decide +kernel
theorem dX5_longestRun_23 : decode cX5_longestRun 23 = .ok (.aload_n 0, 1) := by decide +kernel
theorem dX5_longestRun_24 : decode cX5_longestRun 24 = .ok (.getfield 38, 3) := by decide +kernel
theorem dX5_longestRun_27 : decode cX5_longestRun 27 = .ok (.ifCond .ne 55, 3) := by decide +kernel
theorem dX5_longestRun_30 : decode cX5_longestRun 30 = .ok (.iload 4, 2) := by decide +kernel
theorem dX5_longestRun_32 : decode cX5_longestRun 32 = .ok (.aload_n 0, 1) := by decide +kernel
theorem dX5_longestRun_33 : decode cX5_longestRun 33 = .ok (.iload_n 1, 1) := by decide +kernel
theorem dX5_longestRun_34 : decode cX5_longestRun 34 = .ok (.invokevirtual 62, 3) := by decide +kernel
theorem dX5_longestRun_37 : decode cX5_longestRun 37 = .ok (.if_icmp .ge 45, 3) := by decide +kernel
theorem dX5_longestRun_40 : decode cX5_longestRun 40 = .ok (.iload 4, 2) := by decide +kernel
theorem dX5_longestRun_42 : decode cX5_longestRun 42 = .ok (.ifCond .le 21, 3) := by decide +kernel
theorem dX5_longestRun_45 : decode cX5_longestRun 45 = .ok (.aload_n 0, 1) := by decide +kernel
theorem dX5_longestRun_46 : decode cX5_longestRun 46 = .ok (.iload_n 1, 1) := by decide +kernel
theorem dX5_longestRun_47 : decode cX5_longestRun 47 = .ok (.iload 4, 2) := by decide +kernel
theorem dX5_longestRun_49 : decode cX5_longestRun 49 = .ok (.iconst 1, 1) := by decide +kernel
theorem dX5_longestRun_50 : decode cX5_longestRun 50 = .ok (.isub, 1) := by decide +kernel
theorem dX5_longestRun_51 : decode cX5_longestRun 51 = .ok (.invokevirtual 143, 3) := by decide +kernel
theorem dX5_longestRun_54 : decode cX5_longestRun 54 = .ok (.ifCond .eq 9, 3) := by decide +kernel
theorem dX5_longestRun_57 : decode cX5_longestRun 57 = .ok (.iload_n 3, 1) := by decide +kernel
theorem dX5_longestRun_58 : decode cX5_longestRun 58 = .ok (.iconst 1, 1) := by decide +kernel
theorem dX5_longestRun_59 : decode cX5_longestRun 59 = .ok (.iadd, 1) := by decide +kernel
theorem dX5_longestRun_60 : decode cX5_longestRun 60 = .ok (.goto 4, 3) := by decide +kernel
theorem dX5_longestRun_63 : decode cX5_longestRun 63 = .ok (.iconst 1, 1) := by decide +kernel
theorem dX5_longestRun_64 : decode cX5_longestRun 64 = .ok (.istore_n 3, 1) := by decide +kernel
theorem dX5_longestRun_65 : decode cX5_longestRun 65 = .ok (.iload_n 3, 1) := by decide +kernel
theorem dX5_longestRun_66 : decode cX5_longestRun 66 = .ok (.iload_n 2, 1) := by decide +kernel
theorem dX5_longestRun_67 : decode cX5_longestRun 67 = .ok (.if_icmp .le 7, 3) := by decide +kernel
theorem dX5_longestRun_70 : decode cX5_longestRun 70 = .ok (.iload_n 3, 1) := by decide +kernel
theorem dX5_longestRun_71 : decode cX5_longestRun 71 = .ok (.goto 4, 3) := by decide +kernel
theorem dX5_longestRun_74 : decode cX5_longestRun 74 = .ok (.iload_n 2, 1) := by decide +kernel
theorem dX5_longestRun_75 : decode cX5_longestRun 75 = .ok (.istore_n 2, 1) := by decide +kernel
theorem dX5_longestRun_76 : decode cX5_longestRun 76 = .ok (.iinc 4 1, 3) := by decide +kernel
theorem dX5_longestRun_79 : decode cX5_longestRun 79 = .ok (.goto (-56), 3) := by decide +kernel
theorem dX5_longestRun_82 : decode cX5_longestRun 82 = .ok (.iload_n 2, 1) := by decide +kernel
theorem dX5_longestRun_83 : decode cX5_longestRun 83 = .ok (.ireturn, 1) := by decide +kernel
theorem dX5_nextOfColour_0 : decode cX5_nextOfColour 0 = .ok (.aload_n 0, 1) := by decide +kernel
theorem dX5_nextOfColour_1 : decode cX5_nextOfColour 1 = .ok (.aload_n 0, 1) := by decide +kernel
theorem dX5_nextOfColour_2 : decode cX5_nextOfColour 2 = .ok (.iload_n 1, 1) := by decide +kernel
theorem dX5_nextOfColour_3 : decode cX5_nextOfColour 3 = .ok (.iload_n 2, 1) := by decide +kernel
theorem dX5_nextOfColour_4 : decode cX5_nextOfColour 4 = .ok (.invokevirtual 90, 3) := by decide +kernel
theorem dX5_nextOfColour_7 : decode cX5_nextOfColour 7 = .ok (.ifCond .ne 7, 3) := by decide +kernel
theorem dX5_nextOfColour_10 : decode cX5_nextOfColour 10 = .ok (.iconst 1, 1) := by decide +kernel
theorem dX5_nextOfColour_11 : decode cX5_nextOfColour 11 = .ok (.goto 15, 3) := by decide +kernel
theorem dX5_nextOfColour_14 : decode cX5_nextOfColour 14 = .ok (.iload_n 3, 1) := by decide +kernel
theorem dX5_nextOfColour_15 : decode cX5_nextOfColour 15 = .ok (.invokestatic 72, 3) := by decide +kernel
theorem dX5_nextOfColour_18 : decode cX5_nextOfColour 18 = .ok (.ifCond .eq 7, 3) := by decide +kernel
theorem dX5_nextOfColour_21 : decode cX5_nextOfColour 21 = .ok (.iconst 0, 1) := by decide +kernel
theorem dX5_nextOfColour_22 : decode cX5_nextOfColour 22 = .ok (.goto 4, 3) := by decide +kernel
theorem dX5_nextOfColour_25 : decode cX5_nextOfColour 25 = .ok (.iconst 2, 1) := by decide +kernel
theorem dX5_nextOfColour_26 : decode cX5_nextOfColour 26 = .ok (.putfield 38, 3) := by decide +kernel
theorem dX5_nextOfColour_29 : decode cX5_nextOfColour 29 = .ok (.iload_n 2, 1) := by decide +kernel
theorem dX5_nextOfColour_30 : decode cX5_nextOfColour 30 = .ok (.istore 4, 2) := by decide +kernel
theorem dX5_nextOfColour_32 : decode cX5_nextOfColour 32 = .ok (.aload_n 0, 1) := by decide +kernel
theorem dX5_nextOfColour_33 : decode cX5_nextOfColour 33 = .ok (.getfield 38, 3) := by decide +kernel
theorem dX5_nextOfColour_36 : decode cX5_nextOfColour 36 = .ok (.ifCond .ne 34, 3) := by decide +kernel
theorem dX5_nextOfColour_39 : decode cX5_nextOfColour 39 = .ok (.iload 4, 2) := by decide +kernel
theorem dX5_nextOfColour_41 : decode cX5_nextOfColour 41 = .ok (.aload_n 0, 1) := by decide +kernel
theorem dX5_nextOfColour_42 : decode cX5_nextOfColour 42 = .ok (.iload_n 1, 1) := by decide +kernel
theorem dX5_nextOfColour_43 : decode cX5_nextOfColour 43 = .ok (.invokevirtual 62, 3) := by decide +kernel
theorem dX5_nextOfColour_46 : decode cX5_nextOfColour 46 = .ok (.if_icmp .ge 24, 3) := by decide +kernel
theorem dX5_nextOfColour_49 : decode cX5_nextOfColour 49 = .ok (.aload_n 0, 1) := by decide +kernel
theorem dX5_nextOfColour_50 : decode cX5_nextOfColour 50 = .ok (.iload_n 1, 1) := by decide +kernel
theorem dX5_nextOfColour_51 : decode cX5_nextOfColour 51 = .ok (.iload 4, 2) := by decide +kernel
theorem dX5_nextOfColour_53 : decode cX5_nextOfColour 53 = .ok (.iconst 1, 1) := by decide +kernel
theorem dX5_nextOfColour_54 : decode cX5_nextOfColour 54 = .ok (.invokevirtual 75, 3) := by decide +kernel
theorem dX5_nextOfColour_57 : decode cX5_nextOfColour 57 = .ok (.iload_n 3, 1) := by decide +kernel
theorem dX5_nextOfColour_58 : decode cX5_nextOfColour 58 = .ok (.if_icmp .ne 6, 3) := by decide +kernel
theorem dX5_nextOfColour_61 : decode cX5_nextOfColour 61 = .ok (.iload 4, 2) := by decide +kernel
theorem dX5_nextOfColour_63 : decode cX5_nextOfColour 63 = .ok (.ireturn, 1) := by decide +kernel
theorem dX5_nextOfColour_64 : decode cX5_nextOfColour 64 = .ok (.iinc 4 1, 3) := by decide +kernel
theorem dX5_nextOfColour_67 : decode cX5_nextOfColour 67 = .ok (.goto (-35), 3) := by decide +kernel
theorem dX5_nextOfColour_70 : decode cX5_nextOfColour 70 = .ok (.aload_n 0, 1) := by decide +kernel
theorem dX5_nextOfColour_71 : decode cX5_nextOfColour 71 = .ok (.getfield 38, 3) := by decide +kernel
theorem dX5_nextOfColour_74 : decode cX5_nextOfColour 74 = .ok (.ifCond .le 7, 3) := by decide +kernel
theorem dX5_nextOfColour_77 : decode cX5_nextOfColour 77 = .ok (.iconst 0, 1) := by decide +kernel
theorem dX5_nextOfColour_78 : decode cX5_nextOfColour 78 = .ok (.goto 8, 3) := by decide +kernel
theorem dX5_nextOfColour_81 : decode cX5_nextOfColour 81 = .ok (.aload_n 0, 1) := by decide +kernel
theorem dX5_nextOfColour_82 : decode cX5_nextOfColour 82 = .ok (.iconst 3, 1) := by decide +kernel
theorem dX5_nextOfColour_83 : decode cX5_nextOfColour 83 = .ok (.invokevirtual 51, 3) := by decide +kernel
theorem dX5_nextOfColour_86 : decode cX5_nextOfColour 86 = .ok (.ireturn, 1) := by decide +kernel
theorem dX5_dyed_0 : decode cX5_dyed 0 = .ok (.iconst 0, 1) := by decide +kernel
theorem dX5_dyed_1 : decode cX5_dyed 1 = .ok (.istore_n 3, 1) := by decide +kernel
theorem dX5_dyed_2 : decode cX5_dyed 2 = .ok (.iconst 0, 1) := by decide +kernel
theorem dX5_dyed_3 : decode cX5_dyed 3 = .ok (.istore 4, 2) := by decide +kernel
theorem dX5_dyed_5 : decode cX5_dyed 5 = .ok (.iload 4, 2) := by decide +kernel
theorem dX5_dyed_7 : decode cX5_dyed 7 = .ok (.aload_n 0, 1) := by decide +kernel
theorem dX5_dyed_8 : decode cX5_dyed 8 = .ok (.iload_n 1, 1) := by decide +kernel
theorem dX5_dyed_9 : decode cX5_dyed 9 = .ok (.invokevirtual 62, 3) := by decide +kernel
theorem dX5_dyed_12 : decode cX5_dyed 12 = .ok (.if_icmp .ge 36, 3) := by decide +kernel
theorem dX5_dyed_15 : decode cX5_dyed 15 = .ok (.iload_n 3, 1) := by decide +kernel
theorem dX5_dyed_16 : decode cX5_dyed 16 = .ok (.aload_n 0, 1) := by decide +kernel
theorem dX5_dyed_17 : decode cX5_dyed 17 = .ok (.iload_n 1, 1) := by decide +kernel
theorem dX5_dyed_18 : decode cX5_dyed 18 = .ok (.iload 4, 2) := by decide +kernel
theorem dX5_dyed_20 : decode cX5_dyed 20 = .ok (.iconst 1, 1) := by decide +kernel
theorem dX5_dyed_21 : decode cX5_dyed 21 = .ok (.invokevirtual 75, 3) := by decide +kernel
theorem dX5_dyed_24 : decode cX5_dyed 24 = .ok (.iload_n 2, 1) := by decide +kernel
theorem dX5_dyed_25 : decode cX5_dyed 25 = .ok (.if_icmp .ne 14, 3) := by decide +kernel
theorem dX5_dyed_28 : decode cX5_dyed 28 = .ok (.aload_n 0, 1) := by decide +kernel
theorem dX5_dyed_29 : decode cX5_dyed 29 = .ok (.iload_n 1, 1) := by decide +kernel
theorem dX5_dyed_30 : decode cX5_dyed 30 = .ok (.iload 4, 2) := by decide +kernel
theorem dX5_dyed_32 : decode cX5_dyed 32 = .ok (.iconst 0, 1) := by decide +kernel
theorem dX5_dyed_33 : decode cX5_dyed 33 = .ok (.invokevirtual 75, 3) := by decide +kernel
theorem dX5_dyed_36 : decode cX5_dyed 36 = .ok (.goto 4, 3) := by decide +kernel
theorem dX5_dyed_39 : decode cX5_dyed 39 = .ok (.iconst 0, 1) := by decide +kernel
theorem dX5_dyed_40 : decode cX5_dyed 40 = .ok (.iadd, 1) := by decide +kernel
theorem dX5_dyed_41 : decode cX5_dyed 41 = .ok (.istore_n 3, 1) := by decide +kernel
theorem dX5_dyed_42 : decode cX5_dyed 42 = .ok (.iinc 4 1, 3) := by decide +kernel
theorem dX5_dyed_45 : decode cX5_dyed 45 = .ok (.goto (-40), 3) := by decide +kernel
theorem dX5_dyed_48 : decode cX5_dyed 48 = .ok (.iload_n 3, 1) := by decide +kernel
theorem dX5_dyed_49 : decode cX5_dyed 49 = .ok (.ireturn, 1) := by decide +kernel
theorem dX5_colourLength_0 : decode cX5_colourLength 0 = .ok (.aload_n 0, 1) := by decide +kernel
theorem dX5_colourLength_1 : decode cX5_colourLength 1 = .ok (.iload_n 1, 1) := by decide +kernel
theorem dX5_colourLength_2 : decode cX5_colourLength 2 = .ok (.invokestatic 58, 3) := by decide +kernel
theorem dX5_colourLength_5 : decode cX5_colourLength 5 = .ok (.ifCond .ne 7, 3) := by decide +kernel
theorem dX5_colourLength_8 : decode cX5_colourLength 8 = .ok (.iconst 1, 1) := by decide +kernel
theorem dX5_colourLength_9 : decode cX5_colourLength 9 = .ok (.goto 15, 3) := by decide +kernel
theorem dX5_colourLength_12 : decode cX5_colourLength 12 = .ok (.iload_n 2, 1) := by decide +kernel
theorem dX5_colourLength_13 : decode cX5_colourLength 13 = .ok (.invokestatic 72, 3) := by decide +kernel
theorem dX5_colourLength_16 : decode cX5_colourLength 16 = .ok (.ifCond .eq 7, 3) := by decide +kernel
theorem dX5_colourLength_19 : decode cX5_colourLength 19 = .ok (.iconst 0, 1) := by decide +kernel
theorem dX5_colourLength_20 : decode cX5_colourLength 20 = .ok (.goto 4, 3) := by decide +kernel
theorem dX5_colourLength_23 : decode cX5_colourLength 23 = .ok (.iconst 2, 1) := by decide +kernel
theorem dX5_colourLength_24 : decode cX5_colourLength 24 = .ok (.putfield 38, 3) := by decide +kernel
theorem dX5_colourLength_27 : decode cX5_colourLength 27 = .ok (.aload_n 0, 1) := by decide +kernel
theorem dX5_colourLength_28 : decode cX5_colourLength 28 = .ok (.getfield 38, 3) := by decide +kernel
theorem dX5_colourLength_31 : decode cX5_colourLength 31 = .ok (.ifCond .le 7, 3) := by decide +kernel
theorem dX5_colourLength_34 : decode cX5_colourLength 34 = .ok (.iconst 0, 1) := by decide +kernel
theorem dX5_colourLength_35 : decode cX5_colourLength 35 = .ok (.goto 9, 3) := by decide +kernel
theorem dX5_colourLength_38 : decode cX5_colourLength 38 = .ok (.aload_n 0, 1) := by decide +kernel
theorem dX5_colourLength_39 : decode cX5_colourLength 39 = .ok (.iload_n 1, 1) := by decide +kernel
theorem dX5_colourLength_40 : decode cX5_colourLength 40 = .ok (.iload_n 2, 1) := by decide +kernel
theorem dX5_colourLength_41 : decode cX5_colourLength 41 = .ok (.invokevirtual 149, 3) := by decide +kernel
theorem dX5_colourLength_44 : decode cX5_colourLength 44 = .ok (.ireturn, 1) := by decide +kernel
theorem dX5_colourAtRank_0 : decode cX5_colourAtRank 0 = .ok (.aload_n 0, 1) := by decide +kernel
theorem dX5_colourAtRank_1 : decode cX5_colourAtRank 1 = .ok (.iload_n 1, 1) := by decide +kernel
theorem dX5_colourAtRank_2 : decode cX5_colourAtRank 2 = .ok (.invokestatic 58, 3) := by decide +kernel
theorem dX5_colourAtRank_5 : decode cX5_colourAtRank 5 = .ok (.ifCond .eq 7, 3) := by decide +kernel
theorem dX5_colourAtRank_8 : decode cX5_colourAtRank 8 = .ok (.iconst 0, 1) := by decide +kernel
theorem dX5_colourAtRank_9 : decode cX5_colourAtRank 9 = .ok (.goto 4, 3) := by decide +kernel
theorem dX5_colourAtRank_12 : decode cX5_colourAtRank 12 = .ok (.iconst 1, 1) := by decide +kernel
theorem dX5_colourAtRank_13 : decode cX5_colourAtRank 13 = .ok (.putfield 38, 3) := by decide +kernel
theorem dX5_colourAtRank_16 : decode cX5_colourAtRank 16 = .ok (.iconst 0, 1) := by decide +kernel
theorem dX5_colourAtRank_17 : decode cX5_colourAtRank 17 = .ok (.istore_n 3, 1) := by decide +kernel
theorem dX5_colourAtRank_18 : decode cX5_colourAtRank 18 = .ok (.aload_n 0, 1) := by decide +kernel
theorem dX5_colourAtRank_19 : decode cX5_colourAtRank 19 = .ok (.getfield 38, 3) := by decide +kernel
theorem dX5_colourAtRank_22 : decode cX5_colourAtRank 22 = .ok (.ifCond .ne 102, 3) := by decide +kernel
theorem dX5_colourAtRank_25 : decode cX5_colourAtRank 25 = .ok (.iload_n 3, 1) := by decide +kernel
theorem dX5_colourAtRank_26 : decode cX5_colourAtRank 26 = .ok (.bipush 8, 2) := by decide +kernel
theorem dX5_colourAtRank_28 : decode cX5_colourAtRank 28 = .ok (.if_icmp .ge 96, 3) := by decide +kernel
theorem dX5_colourAtRank_31 : decode cX5_colourAtRank 31 = .ok (.aload_n 0, 1) := by decide +kernel
theorem dX5_colourAtRank_32 : decode cX5_colourAtRank 32 = .ok (.iload_n 1, 1) := by decide +kernel
theorem dX5_colourAtRank_33 : decode cX5_colourAtRank 33 = .ok (.iload_n 3, 1) := by decide +kernel
theorem dX5_colourAtRank_34 : decode cX5_colourAtRank 34 = .ok (.invokevirtual 149, 3) := by decide +kernel
theorem dX5_colourAtRank_37 : decode cX5_colourAtRank 37 = .ok (.ifCond .ne 6, 3) := by decide +kernel
theorem dX5_colourAtRank_40 : decode cX5_colourAtRank 40 = .ok (.goto 78, 3) := by decide +kernel
theorem dX5_colourAtRank_43 : decode cX5_colourAtRank 43 = .ok (.iconst 0, 1) := by decide +kernel
theorem dX5_colourAtRank_44 : decode cX5_colourAtRank 44 = .ok (.istore 4, 2) := by decide +kernel
theorem dX5_colourAtRank_46 : decode cX5_colourAtRank 46 = .ok (.iconst 0, 1) := by decide +kernel
theorem dX5_colourAtRank_47 : decode cX5_colourAtRank 47 = .ok (.istore 5, 2) := by decide +kernel
theorem dX5_colourAtRank_49 : decode cX5_colourAtRank 49 = .ok (.iload 5, 2) := by decide +kernel
theorem dX5_colourAtRank_51 : decode cX5_colourAtRank 51 = .ok (.bipush 8, 2) := by decide +kernel
theorem dX5_colourAtRank_53 : decode cX5_colourAtRank 53 = .ok (.if_icmp .ge 57, 3) := by decide +kernel
theorem dX5_colourAtRank_56 : decode cX5_colourAtRank 56 = .ok (.iload 4, 2) := by decide +kernel
theorem dX5_colourAtRank_58 : decode cX5_colourAtRank 58 = .ok (.aload_n 0, 1) := by decide +kernel
theorem dX5_colourAtRank_59 : decode cX5_colourAtRank 59 = .ok (.iload_n 1, 1) := by decide +kernel
theorem dX5_colourAtRank_60 : decode cX5_colourAtRank 60 = .ok (.iload 5, 2) := by decide +kernel
theorem dX5_colourAtRank_62 : decode cX5_colourAtRank 62 = .ok (.invokevirtual 149, 3) := by decide +kernel
theorem dX5_colourAtRank_65 : decode cX5_colourAtRank 65 = .ok (.aload_n 0, 1) := by decide +kernel
theorem dX5_colourAtRank_66 : decode cX5_colourAtRank 66 = .ok (.iload_n 1, 1) := by decide +kernel
theorem dX5_colourAtRank_67 : decode cX5_colourAtRank 67 = .ok (.iload_n 3, 1) := by decide +kernel
theorem dX5_colourAtRank_68 : decode cX5_colourAtRank 68 = .ok (.invokevirtual 149, 3) := by decide +kernel
theorem dX5_colourAtRank_71 : decode cX5_colourAtRank 71 = .ok (.if_icmp .gt 25, 3) := by decide +kernel
theorem dX5_colourAtRank_74 : decode cX5_colourAtRank 74 = .ok (.aload_n 0, 1) := by decide +kernel
theorem dX5_colourAtRank_75 : decode cX5_colourAtRank 75 = .ok (.iload_n 1, 1) := by decide +kernel
theorem dX5_colourAtRank_76 : decode cX5_colourAtRank 76 = .ok (.iload 5, 2) := by decide +kernel
theorem dX5_colourAtRank_78 : decode cX5_colourAtRank 78 = .ok (.invokevirtual 149, 3) := by decide +kernel
theorem dX5_colourAtRank_81 : decode cX5_colourAtRank 81 = .ok (.aload_n 0, 1) := by decide +kernel
theorem dX5_colourAtRank_82 : decode cX5_colourAtRank 82 = .ok (.iload_n 1, 1) := by decide +kernel
theorem dX5_colourAtRank_83 : decode cX5_colourAtRank 83 = .ok (.iload_n 3, 1) := by decide +kernel
theorem dX5_colourAtRank_84 : decode cX5_colourAtRank 84 = .ok (.invokevirtual 149, 3) := by decide +kernel
theorem dX5_colourAtRank_87 : decode cX5_colourAtRank 87 = .ok (.if_icmp .ne 13, 3) := by decide +kernel
theorem dX5_colourAtRank_90 : decode cX5_colourAtRank 90 = .ok (.iload 5, 2) := by decide +kernel
theorem dX5_colourAtRank_92 : decode cX5_colourAtRank 92 = .ok (.iload_n 3, 1) := by decide +kernel
theorem dX5_colourAtRank_93 : decode cX5_colourAtRank 93 = .ok (.if_icmp .ge 7, 3) := by decide +kernel
theorem dX5_colourAtRank_96 : decode cX5_colourAtRank 96 = .ok (.iconst 1, 1) := by decide +kernel
theorem dX5_colourAtRank_97 : decode cX5_colourAtRank 97 = .ok (.goto 4, 3) := by decide +kernel
theorem dX5_colourAtRank_100 : decode cX5_colourAtRank 100 = .ok (.iconst 0, 1) := by decide +kernel
theorem dX5_colourAtRank_101 : decode cX5_colourAtRank 101 = .ok (.iadd, 1) := by decide +kernel
theorem dX5_colourAtRank_102 : decode cX5_colourAtRank 102 = .ok (.istore 4, 2) := by decide +kernel
theorem dX5_colourAtRank_104 : decode cX5_colourAtRank 104 = .ok (.iinc 5 1, 3) := by decide +kernel
theorem dX5_colourAtRank_107 : decode cX5_colourAtRank 107 = .ok (.goto (-58), 3) := by decide +kernel
theorem dX5_colourAtRank_110 : decode cX5_colourAtRank 110 = .ok (.iload 4, 2) := by decide +kernel
theorem dX5_colourAtRank_112 : decode cX5_colourAtRank 112 = .ok (.iload_n 2, 1) := by decide +kernel
theorem dX5_colourAtRank_113 : decode cX5_colourAtRank 113 = .ok (.if_icmp .ne 5, 3) := by decide +kernel
theorem dX5_colourAtRank_116 : decode cX5_colourAtRank 116 = .ok (.iload_n 3, 1) := by decide +kernel
theorem dX5_colourAtRank_117 : decode cX5_colourAtRank 117 = .ok (.ireturn, 1) := by decide +kernel
theorem dX5_colourAtRank_118 : decode cX5_colourAtRank 118 = .ok (.iinc 3 1, 3) := by decide +kernel
theorem dX5_colourAtRank_121 : decode cX5_colourAtRank 121 = .ok (.goto (-103), 3) := by decide +kernel
theorem dX5_colourAtRank_124 : decode cX5_colourAtRank 124 = .ok (.aload_n 0, 1) := by decide +kernel
theorem dX5_colourAtRank_125 : decode cX5_colourAtRank 125 = .ok (.getfield 38, 3) := by decide +kernel
theorem dX5_colourAtRank_128 : decode cX5_colourAtRank 128 = .ok (.ifCond .le 7, 3) := by decide +kernel
theorem dX5_colourAtRank_131 : decode cX5_colourAtRank 131 = .ok (.iconst 0, 1) := by decide +kernel
theorem dX5_colourAtRank_132 : decode cX5_colourAtRank 132 = .ok (.goto 8, 3) := by decide +kernel
theorem dX5_colourAtRank_135 : decode cX5_colourAtRank 135 = .ok (.aload_n 0, 1) := by decide +kernel
theorem dX5_colourAtRank_136 : decode cX5_colourAtRank 136 = .ok (.iconst 2, 1) := by decide +kernel
theorem dX5_colourAtRank_137 : decode cX5_colourAtRank 137 = .ok (.invokevirtual 51, 3) := by decide +kernel
theorem dX5_colourAtRank_140 : decode cX5_colourAtRank 140 = .ok (.ireturn, 1) := by decide +kernel
theorem dX5_isLike_0 : decode cX5_isLike 0 = .ok (.aload_n 0, 1) := by decide +kernel
theorem dX5_isLike_1 : decode cX5_isLike 1 = .ok (.iload_n 1, 1) := by decide +kernel
theorem dX5_isLike_2 : decode cX5_isLike 2 = .ok (.iload_n 2, 1) := by decide +kernel
theorem dX5_isLike_3 : decode cX5_isLike 3 = .ok (.iconst 0, 1) := by decide +kernel
theorem dX5_isLike_4 : decode cX5_isLike 4 = .ok (.invokevirtual 75, 3) := by decide +kernel
theorem dX5_isLike_7 : decode cX5_isLike 7 = .ok (.aload_n 0, 1) := by decide +kernel
theorem dX5_isLike_8 : decode cX5_isLike 8 = .ok (.iload_n 3, 1) := by decide +kernel
theorem dX5_isLike_9 : decode cX5_isLike 9 = .ok (.iload 4, 2) := by decide +kernel
theorem dX5_isLike_11 : decode cX5_isLike 11 = .ok (.iconst 0, 1) := by decide +kernel
theorem dX5_isLike_12 : decode cX5_isLike 12 = .ok (.invokevirtual 75, 3) := by decide +kernel
theorem dX5_isLike_15 : decode cX5_isLike 15 = .ok (.if_icmp .ne 25, 3) := by decide +kernel
theorem dX5_isLike_18 : decode cX5_isLike 18 = .ok (.aload_n 0, 1) := by decide +kernel
theorem dX5_isLike_19 : decode cX5_isLike 19 = .ok (.iload_n 1, 1) := by decide +kernel
theorem dX5_isLike_20 : decode cX5_isLike 20 = .ok (.iload_n 2, 1) := by decide +kernel
theorem dX5_isLike_21 : decode cX5_isLike 21 = .ok (.iconst 1, 1) := by decide +kernel
theorem dX5_isLike_22 : decode cX5_isLike 22 = .ok (.invokevirtual 75, 3) := by decide +kernel
theorem dX5_isLike_25 : decode cX5_isLike 25 = .ok (.aload_n 0, 1) := by decide +kernel
theorem dX5_isLike_26 : decode cX5_isLike 26 = .ok (.iload_n 3, 1) := by decide +kernel
theorem dX5_isLike_27 : decode cX5_isLike 27 = .ok (.iload 4, 2) := by decide +kernel
theorem dX5_isLike_29 : decode cX5_isLike 29 = .ok (.iconst 1, 1) := by decide +kernel
theorem dX5_isLike_30 : decode cX5_isLike 30 = .ok (.invokevirtual 75, 3) := by decide +kernel
theorem dX5_isLike_33 : decode cX5_isLike 33 = .ok (.if_icmp .ne 7, 3) := by decide +kernel
theorem dX5_isLike_36 : decode cX5_isLike 36 = .ok (.iconst 1, 1) := by decide +kernel
theorem dX5_isLike_37 : decode cX5_isLike 37 = .ok (.goto 4, 3) := by decide +kernel
theorem dX5_isLike_40 : decode cX5_isLike 40 = .ok (.iconst 0, 1) := by decide +kernel
theorem dX5_isLike_41 : decode cX5_isLike 41 = .ok (.ireturn, 1) := by decide +kernel
theorem dX5_isSymmetric_0 : decode cX5_isSymmetric 0 = .ok (.aload_n 0, 1) := by decide +kernel
theorem dX5_isSymmetric_1 : decode cX5_isSymmetric 1 = .ok (.iload_n 1, 1) := by decide +kernel
theorem dX5_isSymmetric_2 : decode cX5_isSymmetric 2 = .ok (.invokestatic 58, 3) := by decide +kernel
theorem dX5_isSymmetric_5 : decode cX5_isSymmetric 5 = .ok (.ifCond .eq 7, 3) := by decide +kernel
theorem dX5_isSymmetric_8 : decode cX5_isSymmetric 8 = .ok (.iconst 0, 1) := by decide +kernel
theorem dX5_isSymmetric_9 : decode cX5_isSymmetric 9 = .ok (.goto 4, 3) := by decide +kernel
theorem dX5_isSymmetric_12 : decode cX5_isSymmetric 12 = .ok (.iconst 1, 1) := by decide +kernel
theorem dX5_isSymmetric_13 : decode cX5_isSymmetric 13 = .ok (.putfield 38, 3) := by decide +kernel
theorem dX5_isSymmetric_16 : decode cX5_isSymmetric 16 = .ok (.iconst 0, 1) := by decide +kernel
theorem dX5_isSymmetric_17 : decode cX5_isSymmetric 17 = .ok (.istore_n 2, 1) := by decide +kernel
theorem dX5_isSymmetric_18 : decode cX5_isSymmetric 18 = .ok (.aload_n 0, 1) := by decide +kernel
theorem dX5_isSymmetric_19 : decode cX5_isSymmetric 19 = .ok (.getfield 38, 3) := by decide +kernel
theorem dX5_isSymmetric_22 : decode cX5_isSymmetric 22 = .ok (.ifCond .ne 39, 3) := by decide +kernel
theorem dX5_isSymmetric_25 : decode cX5_isSymmetric 25 = .ok (.iload_n 2, 1) := by decide +kernel
theorem dX5_isSymmetric_26 : decode cX5_isSymmetric 26 = .ok (.aload_n 0, 1) := by decide +kernel
theorem dX5_isSymmetric_27 : decode cX5_isSymmetric 27 = .ok (.iload_n 1, 1) := by decide +kernel
theorem dX5_isSymmetric_28 : decode cX5_isSymmetric 28 = .ok (.invokevirtual 62, 3) := by decide +kernel
theorem dX5_isSymmetric_31 : decode cX5_isSymmetric 31 = .ok (.if_icmp .ge 30, 3) := by decide +kernel
theorem dX5_isSymmetric_34 : decode cX5_isSymmetric 34 = .ok (.aload_n 0, 1) := by decide +kernel
theorem dX5_isSymmetric_35 : decode cX5_isSymmetric 35 = .ok (.iload_n 1, 1) := by decide +kernel
theorem dX5_isSymmetric_36 : decode cX5_isSymmetric 36 = .ok (.iload_n 2, 1) := by decide +kernel
theorem dX5_isSymmetric_37 : decode cX5_isSymmetric 37 = .ok (.iload_n 1, 1) := by decide +kernel
theorem dX5_isSymmetric_38 : decode cX5_isSymmetric 38 = .ok (.aload_n 0, 1) := by decide +kernel
theorem dX5_isSymmetric_39 : decode cX5_isSymmetric 39 = .ok (.iload_n 1, 1) := by decide +kernel
theorem dX5_isSymmetric_40 : decode cX5_isSymmetric 40 = .ok (.invokevirtual 62, 3) := by decide +kernel
theorem dX5_isSymmetric_43 : decode cX5_isSymmetric 43 = .ok (.iconst 1, 1) := by decide +kernel
theorem dX5_isSymmetric_44 : decode cX5_isSymmetric 44 = .ok (.isub, 1) := by decide +kernel
theorem dX5_isSymmetric_45 : decode cX5_isSymmetric 45 = .ok (.iload_n 2, 1) := by decide +kernel
theorem dX5_isSymmetric_46 : decode cX5_isSymmetric 46 = .ok (.isub, 1) := by decide +kernel
theorem dX5_isSymmetric_47 : decode cX5_isSymmetric 47 = .ok (.invokevirtual 152, 3) := by decide +kernel
theorem dX5_isSymmetric_50 : decode cX5_isSymmetric 50 = .ok (.ifCond .ne 5, 3) := by decide +kernel
theorem dX5_isSymmetric_53 : decode cX5_isSymmetric 53 = .ok (.iconst 0, 1) := by decide +kernel
theorem dX5_isSymmetric_54 : decode cX5_isSymmetric 54 = .ok (.ireturn, 1) := by decide +kernel
theorem dX5_isSymmetric_55 : decode cX5_isSymmetric 55 = .ok (.iinc 2 1, 3) := by decide +kernel
theorem dX5_isSymmetric_58 : decode cX5_isSymmetric 58 = .ok (.goto (-40), 3) := by decide +kernel
theorem dX5_isSymmetric_61 : decode cX5_isSymmetric 61 = .ok (.aload_n 0, 1) := by decide +kernel
theorem dX5_isSymmetric_62 : decode cX5_isSymmetric 62 = .ok (.getfield 38, 3) := by decide +kernel
theorem dX5_isSymmetric_65 : decode cX5_isSymmetric 65 = .ok (.ifCond .ne 7, 3) := by decide +kernel
theorem dX5_isSymmetric_68 : decode cX5_isSymmetric 68 = .ok (.iconst 1, 1) := by decide +kernel
theorem dX5_isSymmetric_69 : decode cX5_isSymmetric 69 = .ok (.goto 4, 3) := by decide +kernel
theorem dX5_isSymmetric_72 : decode cX5_isSymmetric 72 = .ok (.iconst 0, 1) := by decide +kernel
theorem dX5_isSymmetric_73 : decode cX5_isSymmetric 73 = .ok (.ireturn, 1) := by decide +kernel
theorem dX5_alike_0 : decode cX5_alike 0 = .ok (.iconst 0, 1) := by decide +kernel
theorem dX5_alike_1 : decode cX5_alike 1 = .ok (.istore_n 3, 1) := by decide +kernel
theorem dX5_alike_2 : decode cX5_alike 2 = .ok (.iload_n 3, 1) := by decide +kernel
theorem dX5_alike_3 : decode cX5_alike 3 = .ok (.aload_n 0, 1) := by decide +kernel
theorem dX5_alike_4 : decode cX5_alike 4 = .ok (.iload_n 1, 1) := by decide +kernel
theorem dX5_alike_5 : decode cX5_alike 5 = .ok (.invokevirtual 62, 3) := by decide +kernel
theorem dX5_alike_8 : decode cX5_alike 8 = .ok (.if_icmp .ge 29, 3) := by decide +kernel
theorem dX5_alike_11 : decode cX5_alike 11 = .ok (.iload_n 3, 1) := by decide +kernel
theorem dX5_alike_12 : decode cX5_alike 12 = .ok (.aload_n 0, 1) := by decide +kernel
theorem dX5_alike_13 : decode cX5_alike 13 = .ok (.iload_n 2, 1) := by decide +kernel
theorem dX5_alike_14 : decode cX5_alike 14 = .ok (.invokevirtual 62, 3) := by decide +kernel
theorem dX5_alike_17 : decode cX5_alike 17 = .ok (.if_icmp .ge 20, 3) := by decide +kernel
theorem dX5_alike_20 : decode cX5_alike 20 = .ok (.aload_n 0, 1) := by decide +kernel
theorem dX5_alike_21 : decode cX5_alike 21 = .ok (.iload_n 1, 1) := by decide +kernel
theorem dX5_alike_22 : decode cX5_alike 22 = .ok (.iload_n 3, 1) := by decide +kernel
theorem dX5_alike_23 : decode cX5_alike 23 = .ok (.iload_n 2, 1) := by decide +kernel
theorem dX5_alike_24 : decode cX5_alike 24 = .ok (.iload_n 3, 1) := by decide +kernel
theorem dX5_alike_25 : decode cX5_alike 25 = .ok (.invokevirtual 152, 3) := by decide +kernel
theorem dX5_alike_28 : decode cX5_alike 28 = .ok (.ifCond .eq 9, 3) := by decide +kernel
theorem dX5_alike_31 : decode cX5_alike 31 = .ok (.iinc 3 1, 3) := by decide +kernel
theorem dX5_alike_34 : decode cX5_alike 34 = .ok (.goto (-32), 3) := by decide +kernel
theorem dX5_alike_37 : decode cX5_alike 37 = .ok (.iload_n 3, 1) := by decide +kernel
theorem dX5_alike_38 : decode cX5_alike 38 = .ok (.ireturn, 1) := by decide +kernel
theorem dX5_commonBeginning_0 : decode cX5_commonBeginning 0 = .ok (.aload_n 0, 1) := by decide +kernel
theorem dX5_commonBeginning_1 : decode cX5_commonBeginning 1 = .ok (.iload_n 1, 1) := by decide +kernel
theorem dX5_commonBeginning_2 : decode cX5_commonBeginning 2 = .ok (.invokestatic 58, 3) := by decide +kernel
theorem dX5_commonBeginning_5 : decode cX5_commonBeginning 5 = .ok (.ifCond .eq 14, 3) := by decide +kernel
theorem dX5_commonBeginning_8 : decode cX5_commonBeginning 8 = .ok (.iload_n 2, 1) := by decide +kernel
theorem dX5_commonBeginning_9 : decode cX5_commonBeginning 9 = .ok (.invokestatic 58, 3) := by decide +kernel
theorem dX5_commonBeginning_12 : decode cX5_commonBeginning 12 = .ok (.ifCond .eq 7, 3) := by decide +kernel
theorem dX5_commonBeginning_15 : decode cX5_commonBeginning 15 = .ok (.iconst 0, 1) := by decide +kernel
theorem dX5_commonBeginning_16 : decode cX5_commonBeginning 16 = .ok (.goto 4, 3) := by decide +kernel
theorem dX5_commonBeginning_19 : decode cX5_commonBeginning 19 = .ok (.iconst 1, 1) := by decide +kernel
theorem dX5_commonBeginning_20 : decode cX5_commonBeginning 20 = .ok (.putfield 38, 3) := by decide +kernel
theorem dX5_commonBeginning_23 : decode cX5_commonBeginning 23 = .ok (.aload_n 0, 1) := by decide +kernel
theorem dX5_commonBeginning_24 : decode cX5_commonBeginning 24 = .ok (.getfield 38, 3) := by decide +kernel
theorem dX5_commonBeginning_27 : decode cX5_commonBeginning 27 = .ok (.ifCond .le 7, 3) := by decide +kernel
theorem dX5_commonBeginning_30 : decode cX5_commonBeginning 30 = .ok (.iconst 0, 1) := by decide +kernel
theorem dX5_commonBeginning_31 : decode cX5_commonBeginning 31 = .ok (.goto 9, 3) := by decide +kernel
theorem dX5_commonBeginning_34 : decode cX5_commonBeginning 34 = .ok (.aload_n 0, 1) := by decide +kernel
theorem dX5_commonBeginning_35 : decode cX5_commonBeginning 35 = .ok (.iload_n 1, 1) := by decide +kernel
theorem dX5_commonBeginning_36 : decode cX5_commonBeginning 36 = .ok (.iload_n 2, 1) := by decide +kernel
theorem dX5_commonBeginning_37 : decode cX5_commonBeginning 37 = .ok (.invokevirtual 156, 3) := by decide +kernel
theorem dX5_commonBeginning_40 : decode cX5_commonBeginning 40 = .ok (.ireturn, 1) := by decide +kernel
theorem dX5_areEqual_0 : decode cX5_areEqual 0 = .ok (.aload_n 0, 1) := by decide +kernel
theorem dX5_areEqual_1 : decode cX5_areEqual 1 = .ok (.iload_n 1, 1) := by decide +kernel
theorem dX5_areEqual_2 : decode cX5_areEqual 2 = .ok (.invokestatic 58, 3) := by decide +kernel
theorem dX5_areEqual_5 : decode cX5_areEqual 5 = .ok (.ifCond .eq 14, 3) := by decide +kernel
theorem dX5_areEqual_8 : decode cX5_areEqual 8 = .ok (.iload_n 2, 1) := by decide +kernel
theorem dX5_areEqual_9 : decode cX5_areEqual 9 = .ok (.invokestatic 58, 3) := by decide +kernel
theorem dX5_areEqual_12 : decode cX5_areEqual 12 = .ok (.ifCond .eq 7, 3) := by decide +kernel
theorem dX5_areEqual_15 : decode cX5_areEqual 15 = .ok (.iconst 0, 1) := by decide +kernel
theorem dX5_areEqual_16 : decode cX5_areEqual 16 = .ok (.goto 4, 3) := by decide +kernel
theorem dX5_areEqual_19 : decode cX5_areEqual 19 = .ok (.iconst 1, 1) := by decide +kernel
theorem dX5_areEqual_20 : decode cX5_areEqual 20 = .ok (.putfield 38, 3) := by decide +kernel
theorem dX5_areEqual_23 : decode cX5_areEqual 23 = .ok (.aload_n 0, 1) := by decide +kernel
theorem dX5_areEqual_24 : decode cX5_areEqual 24 = .ok (.getfield 38, 3) := by decide +kernel
theorem dX5_areEqual_27 : decode cX5_areEqual 27 = .ok (.ifCond .ne 34, 3) := by decide +kernel
theorem dX5_areEqual_30 : decode cX5_areEqual 30 = .ok (.aload_n 0, 1) := by decide +kernel
theorem dX5_areEqual_31 : decode cX5_areEqual 31 = .ok (.iload_n 1, 1) := by decide +kernel
theorem dX5_areEqual_32 : decode cX5_areEqual 32 = .ok (.invokevirtual 62, 3) := by decide +kernel
theorem dX5_areEqual_35 : decode cX5_areEqual 35 = .ok (.aload_n 0, 1) := by decide +kernel
theorem dX5_areEqual_36 : decode cX5_areEqual 36 = .ok (.iload_n 2, 1) := by decide +kernel
theorem dX5_areEqual_37 : decode cX5_areEqual 37 = .ok (.invokevirtual 62, 3) := by decide +kernel
theorem dX5_areEqual_40 : decode cX5_areEqual 40 = .ok (.if_icmp .ne 21, 3) := by decide +kernel
theorem dX5_areEqual_43 : decode cX5_areEqual 43 = .ok (.aload_n 0, 1) := by decide +kernel
theorem dX5_areEqual_44 : decode cX5_areEqual 44 = .ok (.iload_n 1, 1) := by decide +kernel
theorem dX5_areEqual_45 : decode cX5_areEqual 45 = .ok (.iload_n 2, 1) := by decide +kernel
theorem dX5_areEqual_46 : decode cX5_areEqual 46 = .ok (.invokevirtual 156, 3) := by decide +kernel
theorem dX5_areEqual_49 : decode cX5_areEqual 49 = .ok (.aload_n 0, 1) := by decide +kernel
theorem dX5_areEqual_50 : decode cX5_areEqual 50 = .ok (.iload_n 1, 1) := by decide +kernel
theorem dX5_areEqual_51 : decode cX5_areEqual 51 = .ok (.invokevirtual 62, 3) := by decide +kernel
theorem dX5_areEqual_54 : decode cX5_areEqual 54 = .ok (.if_icmp .ne 7, 3) := by decide +kernel
theorem dX5_areEqual_57 : decode cX5_areEqual 57 = .ok (.iconst 1, 1) := by decide +kernel
theorem dX5_areEqual_58 : decode cX5_areEqual 58 = .ok (.goto 4, 3) := by decide +kernel
theorem dX5_areEqual_61 : decode cX5_areEqual 61 = .ok (.iconst 0, 1) := by decide +kernel
theorem dX5_areEqual_62 : decode cX5_areEqual 62 = .ok (.ireturn, 1) := by decide +kernel
theorem dX5_cutCount_0 : decode cX5_cutCount 0 = .ok (.aload_n 0, 1) := by decide +kernel
theorem dX5_cutCount_1 : decode cX5_cutCount 1 = .ok (.iconst 0, 1) := by decide +kernel
theorem dX5_cutCount_2 : decode cX5_cutCount 2 = .ok (.putfield 38, 3) := by decide +kernel
theorem dX5_cutCount_5 : decode cX5_cutCount 5 = .ok (.aload_n 0, 1) := by decide +kernel
theorem dX5_cutCount_6 : decode cX5_cutCount 6 = .ok (.getfield 7, 3) := by decide +kernel
theorem dX5_cutCount_9 : decode cX5_cutCount 9 = .ok (.iconst 0, 1) := by decide +kernel
theorem dX5_cutCount_10 : decode cX5_cutCount 10 = .ok (.iaload, 1) := by decide +kernel
theorem dX5_cutCount_11 : decode cX5_cutCount 11 = .ok (.ireturn, 1) := by decide +kernel
theorem dX5_spliceCount_0 : decode cX5_spliceCount 0 = .ok (.aload_n 0, 1) := by decide +kernel
theorem dX5_spliceCount_1 : decode cX5_spliceCount 1 = .ok (.iconst 0, 1) := by decide +kernel
theorem dX5_spliceCount_2 : decode cX5_spliceCount 2 = .ok (.putfield 38, 3) := by decide +kernel
theorem dX5_spliceCount_5 : decode cX5_spliceCount 5 = .ok (.aload_n 0, 1) := by decide +kernel
theorem dX5_spliceCount_6 : decode cX5_spliceCount 6 = .ok (.getfield 7, 3) := by decide +kernel
theorem dX5_spliceCount_9 : decode cX5_spliceCount 9 = .ok (.iconst 1, 1) := by decide +kernel
theorem dX5_spliceCount_10 : decode cX5_spliceCount 10 = .ok (.iaload, 1) := by decide +kernel
theorem dX5_spliceCount_11 : decode cX5_spliceCount 11 = .ok (.ireturn, 1) := by decide +kernel
theorem dX5_type_0 : decode cX5_type 0 = .ok (.aload_n 0, 1) := by decide +kernel
theorem dX5_type_1 : decode cX5_type 1 = .ok (.iload_n 1, 1) := by decide +kernel
theorem dX5_type_2 : decode cX5_type 2 = .ok (.bipush 32, 2) := by decide +kernel
theorem dX5_type_4 : decode cX5_type 4 = .ok (.bipush 126, 2) := by decide +kernel
theorem dX5_type_6 : decode cX5_type 6 = .ok (.invokestatic 54, 3) := by decide +kernel
theorem dX5_type_9 : decode cX5_type 9 = .ok (.ifCond .ne 7, 3) := by decide +kernel
theorem dX5_type_12 : decode cX5_type 12 = .ok (.iconst 1, 1) := by decide +kernel
theorem dX5_type_13 : decode cX5_type 13 = .ok (.goto 17, 3) := by decide +kernel
theorem dX5_type_16 : decode cX5_type 16 = .ok (.aload_n 0, 1) := by decide +kernel
theorem dX5_type_17 : decode cX5_type 17 = .ok (.getfield 159, 3) := by decide +kernel
theorem dX5_type_20 : decode cX5_type 20 = .ok (.bipush 60, 2) := by decide +kernel
theorem dX5_type_22 : decode cX5_type 22 = .ok (.if_icmp .ne 7, 3) := by decide +kernel
theorem dX5_type_25 : decode cX5_type 25 = .ok (.iconst 2, 1) := by decide +kernel
theorem dX5_type_26 : decode cX5_type 26 = .ok (.goto 4, 3) := by decide +kernel
theorem dX5_type_29 : decode cX5_type 29 = .ok (.iconst 0, 1) := by decide +kernel
theorem dX5_type_30 : decode cX5_type 30 = .ok (.putfield 38, 3) := by decide +kernel
theorem dX5_type_33 : decode cX5_type 33 = .ok (.aload_n 0, 1) := by decide +kernel
theorem dX5_type_34 : decode cX5_type 34 = .ok (.getfield 38, 3) := by decide +kernel
theorem dX5_type_37 : decode cX5_type 37 = .ok (.ifCond .le 5, 3) := by decide +kernel
theorem dX5_type_40 : decode cX5_type 40 = .ok (.iconst 0, 1) := by decide +kernel
theorem dX5_type_41 : decode cX5_type 41 = .ok (.ireturn, 1) := by decide +kernel
theorem dX5_type_42 : decode cX5_type 42 = .ok (.aload_n 0, 1) := by decide +kernel
theorem dX5_type_43 : decode cX5_type 43 = .ok (.getfield 22, 3) := by decide +kernel
theorem dX5_type_46 : decode cX5_type 46 = .ok (.aload_n 0, 1) := by decide +kernel
theorem dX5_type_47 : decode cX5_type 47 = .ok (.getfield 159, 3) := by decide +kernel
theorem dX5_type_50 : decode cX5_type 50 = .ok (.iload_n 1, 1) := by decide +kernel
theorem dX5_type_51 : decode cX5_type 51 = .ok (.iastore, 1) := by decide +kernel
theorem dX5_type_52 : decode cX5_type 52 = .ok (.aload_n 0, 1) := by decide +kernel
theorem dX5_type_53 : decode cX5_type 53 = .ok (.dup, 1) := by decide +kernel
theorem dX5_type_54 : decode cX5_type 54 = .ok (.getfield 159, 3) := by decide +kernel
theorem dX5_type_57 : decode cX5_type 57 = .ok (.iconst 1, 1) := by decide +kernel
theorem dX5_type_58 : decode cX5_type 58 = .ok (.iadd, 1) := by decide +kernel
theorem dX5_type_59 : decode cX5_type 59 = .ok (.putfield 159, 3) := by decide +kernel
theorem dX5_type_62 : decode cX5_type 62 = .ok (.aload_n 0, 1) := by decide +kernel
theorem dX5_type_63 : decode cX5_type 63 = .ok (.getfield 159, 3) := by decide +kernel
theorem dX5_type_66 : decode cX5_type 66 = .ok (.ireturn, 1) := by decide +kernel
theorem dX5_here_0 : decode cX5_here 0 = .ok (.aload_n 0, 1) := by decide +kernel
theorem dX5_here_1 : decode cX5_here 1 = .ok (.getfield 162, 3) := by decide +kernel
theorem dX5_here_4 : decode cX5_here 4 = .ok (.iload_n 1, 1) := by decide +kernel
theorem dX5_here_5 : decode cX5_here 5 = .ok (.iadd, 1) := by decide +kernel
theorem dX5_here_6 : decode cX5_here 6 = .ok (.aload_n 0, 1) := by decide +kernel
theorem dX5_here_7 : decode cX5_here 7 = .ok (.getfield 165, 3) := by decide +kernel
theorem dX5_here_10 : decode cX5_here 10 = .ok (.if_icmp .ge 17, 3) := by decide +kernel
theorem dX5_here_13 : decode cX5_here 13 = .ok (.aload_n 0, 1) := by decide +kernel
theorem dX5_here_14 : decode cX5_here 14 = .ok (.getfield 22, 3) := by decide +kernel
theorem dX5_here_17 : decode cX5_here 17 = .ok (.aload_n 0, 1) := by decide +kernel
theorem dX5_here_18 : decode cX5_here 18 = .ok (.getfield 162, 3) := by decide +kernel
theorem dX5_here_21 : decode cX5_here 21 = .ok (.iload_n 1, 1) := by decide +kernel
theorem dX5_here_22 : decode cX5_here 22 = .ok (.iadd, 1) := by decide +kernel
theorem dX5_here_23 : decode cX5_here 23 = .ok (.iaload, 1) := by decide +kernel
theorem dX5_here_24 : decode cX5_here 24 = .ok (.goto 4, 3) := by decide +kernel
theorem dX5_here_27 : decode cX5_here 27 = .ok (.iconst (-1), 1) := by decide +kernel
theorem dX5_here_28 : decode cX5_here 28 = .ok (.ireturn, 1) := by decide +kernel
theorem dX5_says_0 : decode cX5_says 0 = .ok (.iconst 0, 1) := by decide +kernel
theorem dX5_says_1 : decode cX5_says 1 = .ok (.istore_n 2, 1) := by decide +kernel
theorem dX5_says_2 : decode cX5_says 2 = .ok (.iload_n 2, 1) := by decide +kernel
theorem dX5_says_3 : decode cX5_says 3 = .ok (.aload_n 1, 1) := by decide +kernel
theorem dX5_says_4 : decode cX5_says 4 = .ok (.invokevirtual 168, 3) := by decide +kernel
theorem dX5_says_7 : decode cX5_says 7 = .ok (.if_icmp .ge 59, 3) := by decide +kernel
theorem dX5_says_10 : decode cX5_says 10 = .ok (.aload_n 0, 1) := by decide +kernel
theorem dX5_says_11 : decode cX5_says 11 = .ok (.getfield 174, 3) := by decide +kernel
theorem dX5_says_14 : decode cX5_says 14 = .ok (.ifCond .ne 52, 3) := by decide +kernel
theorem dX5_says_17 : decode cX5_says 17 = .ok (.aload_n 0, 1) := by decide +kernel
theorem dX5_says_18 : decode cX5_says 18 = .ok (.aload_n 0, 1) := by decide +kernel
theorem dX5_says_19 : decode cX5_says 19 = .ok (.iconst 0, 1) := by decide +kernel
theorem dX5_says_20 : decode cX5_says 20 = .ok (.invokevirtual 178, 3) := by decide +kernel
theorem dX5_says_23 : decode cX5_says 23 = .ok (.aload_n 1, 1) := by decide +kernel
theorem dX5_says_24 : decode cX5_says 24 = .ok (.iload_n 2, 1) := by decide +kernel
theorem dX5_says_25 : decode cX5_says 25 = .ok (.invokevirtual 181, 3) := by decide +kernel
theorem dX5_says_28 : decode cX5_says 28 = .ok (.if_icmp .eq 7, 3) := by decide +kernel
theorem dX5_says_31 : decode cX5_says 31 = .ok (.iconst 1, 1) := by decide +kernel
theorem dX5_says_32 : decode cX5_says 32 = .ok (.goto 4, 3) := by decide +kernel
theorem dX5_says_35 : decode cX5_says 35 = .ok (.iconst 0, 1) := by decide +kernel
theorem dX5_says_36 : decode cX5_says 36 = .ok (.putfield 174, 3) := by decide +kernel
theorem dX5_says_39 : decode cX5_says 39 = .ok (.aload_n 0, 1) := by decide +kernel
theorem dX5_says_40 : decode cX5_says 40 = .ok (.dup, 1) := by decide +kernel
theorem dX5_says_41 : decode cX5_says 41 = .ok (.getfield 162, 3) := by decide +kernel
theorem dX5_says_44 : decode cX5_says 44 = .ok (.aload_n 0, 1) := by decide +kernel
theorem dX5_says_45 : decode cX5_says 45 = .ok (.getfield 174, 3) := by decide +kernel
theorem dX5_says_48 : decode cX5_says 48 = .ok (.ifCond .eq 7, 3) := by decide +kernel
theorem dX5_says_51 : decode cX5_says 51 = .ok (.iconst 0, 1) := by decide +kernel
theorem dX5_says_52 : decode cX5_says 52 = .ok (.goto 4, 3) := by decide +kernel
theorem dX5_says_55 : decode cX5_says 55 = .ok (.iconst 1, 1) := by decide +kernel
theorem dX5_says_56 : decode cX5_says 56 = .ok (.iadd, 1) := by decide +kernel
theorem dX5_says_57 : decode cX5_says 57 = .ok (.putfield 162, 3) := by decide +kernel
theorem dX5_says_60 : decode cX5_says 60 = .ok (.iinc 2 1, 3) := by decide +kernel
theorem dX5_says_63 : decode cX5_says 63 = .ok (.goto (-61), 3) := by decide +kernel
theorem dX5_says_66 : decode cX5_says 66 = .ok (.return_, 1) := by decide +kernel
theorem dX5_number_0 : decode cX5_number 0 = .ok (.iconst 0, 1) := by decide +kernel
theorem dX5_number_1 : decode cX5_number 1 = .ok (.istore_n 3, 1) := by decide +kernel
theorem dX5_number_2 : decode cX5_number 2 = .ok (.iconst 0, 1) := by decide +kernel
theorem dX5_number_3 : decode cX5_number 3 = .ok (.istore 4, 2) := by decide +kernel
theorem dX5_number_5 : decode cX5_number 5 = .ok (.aload_n 0, 1) := by decide +kernel
theorem dX5_number_6 : decode cX5_number 6 = .ok (.getfield 174, 3) := by decide +kernel
theorem dX5_number_9 : decode cX5_number 9 = .ok (.ifCond .ne 54, 3) := by decide +kernel
theorem dX5_number_12 : decode cX5_number 12 = .ok (.iload 4, 2) := by decide +kernel
theorem dX5_number_14 : decode cX5_number 14 = .ok (.iload_n 2, 1) := by decide +kernel
theorem dX5_number_15 : decode cX5_number 15 = .ok (.if_icmp .ge 48, 3) := by decide +kernel
theorem dX5_number_18 : decode cX5_number 18 = .ok (.aload_n 0, 1) := by decide +kernel
theorem dX5_number_19 : decode cX5_number 19 = .ok (.iconst 0, 1) := by decide +kernel
theorem dX5_number_20 : decode cX5_number 20 = .ok (.invokevirtual 178, 3) := by decide +kernel
theorem dX5_number_23 : decode cX5_number 23 = .ok (.bipush 48, 2) := by decide +kernel
theorem dX5_number_25 : decode cX5_number 25 = .ok (.bipush 57, 2) := by decide +kernel
theorem dX5_number_27 : decode cX5_number 27 = .ok (.invokestatic 54, 3) := by decide +kernel
theorem dX5_number_30 : decode cX5_number 30 = .ok (.ifCond .eq 33, 3) := by decide +kernel
theorem dX5_number_33 : decode cX5_number 33 = .ok (.bipush 10, 2) := by decide +kernel
theorem dX5_number_35 : decode cX5_number 35 = .ok (.iload_n 3, 1) := by decide +kernel
theorem dX5_number_36 : decode cX5_number 36 = .ok (.imul, 1) := by decide +kernel
theorem dX5_number_37 : decode cX5_number 37 = .ok (.aload_n 0, 1) := by decide +kernel
theorem dX5_number_38 : decode cX5_number 38 = .ok (.iconst 0, 1) := by decide +kernel
theorem dX5_number_39 : decode cX5_number 39 = .ok (.invokevirtual 178, 3) := by decide +kernel
theorem dX5_number_42 : decode cX5_number 42 = .ok (.iadd, 1) := by decide +kernel
theorem dX5_number_43 : decode cX5_number 43 = .ok (.bipush 48, 2) := by decide +kernel
theorem dX5_number_45 : decode cX5_number 45 = .ok (.isub, 1) := by decide +kernel
theorem dX5_number_46 : decode cX5_number 46 = .ok (.istore_n 3, 1) := by decide +kernel
theorem dX5_number_47 : decode cX5_number 47 = .ok (.aload_n 0, 1) := by decide +kernel
theorem dX5_number_48 : decode cX5_number 48 = .ok (.dup, 1) := by decide +kernel
theorem dX5_number_49 : decode cX5_number 49 = .ok (.getfield 162, 3) := by decide +kernel
theorem dX5_number_52 : decode cX5_number 52 = .ok (.iconst 1, 1) := by decide +kernel
theorem dX5_number_53 : decode cX5_number 53 = .ok (.iadd, 1) := by decide +kernel
theorem dX5_number_54 : decode cX5_number 54 = .ok (.putfield 162, 3) := by decide +kernel
theorem dX5_number_57 : decode cX5_number 57 = .ok (.iinc 4 1, 3) := by decide +kernel
theorem dX5_number_60 : decode cX5_number 60 = .ok (.goto (-55), 3) := by decide +kernel
theorem dX5_number_63 : decode cX5_number 63 = .ok (.aload_n 0, 1) := by decide +kernel
theorem dX5_number_64 : decode cX5_number 64 = .ok (.aload_n 0, 1) := by decide +kernel
theorem dX5_number_65 : decode cX5_number 65 = .ok (.getfield 174, 3) := by decide +kernel
theorem dX5_number_68 : decode cX5_number 68 = .ok (.ifCond .ne 8, 3) := by decide +kernel
theorem dX5_number_71 : decode cX5_number 71 = .ok (.iload 4, 2) := by decide +kernel
theorem dX5_number_73 : decode cX5_number 73 = .ok (.ifCond .ne 7, 3) := by decide +kernel
theorem dX5_number_76 : decode cX5_number 76 = .ok (.iconst 1, 1) := by decide +kernel
theorem dX5_number_77 : decode cX5_number 77 = .ok (.goto 4, 3) := by decide +kernel
theorem dX5_number_80 : decode cX5_number 80 = .ok (.iconst 0, 1) := by decide +kernel
theorem dX5_number_81 : decode cX5_number 81 = .ok (.putfield 174, 3) := by decide +kernel
theorem dX5_number_84 : decode cX5_number 84 = .ok (.aload_n 0, 1) := by decide +kernel
theorem dX5_number_85 : decode cX5_number 85 = .ok (.getfield 25, 3) := by decide +kernel
theorem dX5_number_88 : decode cX5_number 88 = .ok (.iconst 5, 1) := by decide +kernel
theorem dX5_number_89 : decode cX5_number 89 = .ok (.aload_n 0, 1) := by decide +kernel
theorem dX5_number_90 : decode cX5_number 90 = .ok (.getfield 185, 3) := by decide +kernel
theorem dX5_number_93 : decode cX5_number 93 = .ok (.imul, 1) := by decide +kernel
theorem dX5_number_94 : decode cX5_number 94 = .ok (.iload_n 1, 1) := by decide +kernel
theorem dX5_number_95 : decode cX5_number 95 = .ok (.iadd, 1) := by decide +kernel
theorem dX5_number_96 : decode cX5_number 96 = .ok (.iload_n 3, 1) := by decide +kernel
theorem dX5_number_97 : decode cX5_number 97 = .ok (.iastore, 1) := by decide +kernel
theorem dX5_number_98 : decode cX5_number 98 = .ok (.return_, 1) := by decide +kernel
theorem dX5_hue_0 : decode cX5_hue 0 = .ok (.aload_n 0, 1) := by decide +kernel
theorem dX5_hue_1 : decode cX5_hue 1 = .ok (.aload_n 0, 1) := by decide +kernel
theorem dX5_hue_2 : decode cX5_hue 2 = .ok (.getfield 174, 3) := by decide +kernel
theorem dX5_hue_5 : decode cX5_hue 5 = .ok (.ifCond .ne 18, 3) := by decide +kernel
theorem dX5_hue_8 : decode cX5_hue 8 = .ok (.aload_n 0, 1) := by decide +kernel
theorem dX5_hue_9 : decode cX5_hue 9 = .ok (.iconst 0, 1) := by decide +kernel
theorem dX5_hue_10 : decode cX5_hue 10 = .ok (.invokevirtual 178, 3) := by decide +kernel
theorem dX5_hue_13 : decode cX5_hue 13 = .ok (.bipush 97, 2) := by decide +kernel
theorem dX5_hue_15 : decode cX5_hue 15 = .ok (.bipush 104, 2) := by decide +kernel
theorem dX5_hue_17 : decode cX5_hue 17 = .ok (.invokestatic 54, 3) := by decide +kernel
theorem dX5_hue_20 : decode cX5_hue 20 = .ok (.ifCond .ne 7, 3) := by decide +kernel
theorem dX5_hue_23 : decode cX5_hue 23 = .ok (.iconst 1, 1) := by decide +kernel
theorem dX5_hue_24 : decode cX5_hue 24 = .ok (.goto 4, 3) := by decide +kernel
theorem dX5_hue_27 : decode cX5_hue 27 = .ok (.iconst 0, 1) := by decide +kernel
theorem dX5_hue_28 : decode cX5_hue 28 = .ok (.putfield 174, 3) := by decide +kernel
theorem dX5_hue_31 : decode cX5_hue 31 = .ok (.aload_n 0, 1) := by decide +kernel
theorem dX5_hue_32 : decode cX5_hue 32 = .ok (.getfield 25, 3) := by decide +kernel
theorem dX5_hue_35 : decode cX5_hue 35 = .ok (.iconst 5, 1) := by decide +kernel
theorem dX5_hue_36 : decode cX5_hue 36 = .ok (.aload_n 0, 1) := by decide +kernel
theorem dX5_hue_37 : decode cX5_hue 37 = .ok (.getfield 185, 3) := by decide +kernel
theorem dX5_hue_40 : decode cX5_hue 40 = .ok (.imul, 1) := by decide +kernel
theorem dX5_hue_41 : decode cX5_hue 41 = .ok (.iload_n 1, 1) := by decide +kernel
theorem dX5_hue_42 : decode cX5_hue 42 = .ok (.iadd, 1) := by decide +kernel
theorem dX5_hue_43 : decode cX5_hue 43 = .ok (.aload_n 0, 1) := by decide +kernel
theorem dX5_hue_44 : decode cX5_hue 44 = .ok (.getfield 174, 3) := by decide +kernel
theorem dX5_hue_47 : decode cX5_hue 47 = .ok (.ifCond .eq 7, 3) := by decide +kernel
theorem dX5_hue_50 : decode cX5_hue 50 = .ok (.iconst 0, 1) := by decide +kernel
theorem dX5_hue_51 : decode cX5_hue 51 = .ok (.goto 11, 3) := by decide +kernel
theorem dX5_hue_54 : decode cX5_hue 54 = .ok (.aload_n 0, 1) := by decide +kernel
theorem dX5_hue_55 : decode cX5_hue 55 = .ok (.iconst 0, 1) := by decide +kernel
theorem dX5_hue_56 : decode cX5_hue 56 = .ok (.invokevirtual 178, 3) := by decide +kernel
theorem dX5_hue_59 : decode cX5_hue 59 = .ok (.bipush 97, 2) := by decide +kernel
theorem dX5_hue_61 : decode cX5_hue 61 = .ok (.isub, 1) := by decide +kernel
theorem dX5_hue_62 : decode cX5_hue 62 = .ok (.iastore, 1) := by decide +kernel
theorem dX5_hue_63 : decode cX5_hue 63 = .ok (.aload_n 0, 1) := by decide +kernel
theorem dX5_hue_64 : decode cX5_hue 64 = .ok (.dup, 1) := by decide +kernel
theorem dX5_hue_65 : decode cX5_hue 65 = .ok (.getfield 162, 3) := by decide +kernel
theorem dX5_hue_68 : decode cX5_hue 68 = .ok (.aload_n 0, 1) := by decide +kernel
theorem dX5_hue_69 : decode cX5_hue 69 = .ok (.getfield 174, 3) := by decide +kernel
theorem dX5_hue_72 : decode cX5_hue 72 = .ok (.ifCond .eq 7, 3) := by decide +kernel
theorem dX5_hue_75 : decode cX5_hue 75 = .ok (.iconst 0, 1) := by decide +kernel
theorem dX5_hue_76 : decode cX5_hue 76 = .ok (.goto 4, 3) := by decide +kernel
theorem dX5_hue_79 : decode cX5_hue 79 = .ok (.iconst 1, 1) := by decide +kernel
theorem dX5_hue_80 : decode cX5_hue 80 = .ok (.iadd, 1) := by decide +kernel
theorem dX5_hue_81 : decode cX5_hue 81 = .ok (.putfield 162, 3) := by decide +kernel
theorem dX5_hue_84 : decode cX5_hue 84 = .ok (.return_, 1) := by decide +kernel
theorem dX5_place_0 : decode cX5_place 0 = .ok (.aload_n 0, 1) := by decide +kernel
theorem dX5_place_1 : decode cX5_place 1 = .ok (.getfield 25, 3) := by decide +kernel
theorem dX5_place_4 : decode cX5_place 4 = .ok (.iconst 5, 1) := by decide +kernel
theorem dX5_place_5 : decode cX5_place 5 = .ok (.aload_n 0, 1) := by decide +kernel
theorem dX5_place_6 : decode cX5_place 6 = .ok (.getfield 185, 3) := by decide +kernel
theorem dX5_place_9 : decode cX5_place 9 = .ok (.imul, 1) := by decide +kernel
theorem dX5_place_10 : decode cX5_place 10 = .ok (.iload_n 1, 1) := by decide +kernel
theorem dX5_place_11 : decode cX5_place 11 = .ok (.iastore, 1) := by decide +kernel
theorem dX5_place_12 : decode cX5_place 12 = .ok (.aload_n 0, 1) := by decide +kernel
theorem dX5_place_13 : decode cX5_place 13 = .ok (.aload_n 2, 1) := by decide +kernel
theorem dX5_place_14 : decode cX5_place 14 = .ok (.invokevirtual 188, 3) := by decide +kernel
theorem dX5_place_17 : decode cX5_place 17 = .ok (.aload_n 0, 1) := by decide +kernel
theorem dX5_place_18 : decode cX5_place 18 = .ok (.iconst 1, 1) := by decide +kernel
theorem dX5_place_19 : decode cX5_place 19 = .ok (.iconst 1, 1) := by decide +kernel
theorem dX5_place_20 : decode cX5_place 20 = .ok (.invokevirtual 192, 3) := by decide +kernel
theorem dX5_place_23 : decode cX5_place 23 = .ok (.aload_n 0, 1) := by decide +kernel
theorem dX5_place_24 : decode cX5_place 24 = .ok (.ldc 195, 2) := by decide +kernel
theorem dX5_place_26 : decode cX5_place 26 = .ok (.invokevirtual 188, 3) := by decide +kernel
theorem dX5_place_29 : decode cX5_place 29 = .ok (.aload_n 0, 1) := by decide +kernel
theorem dX5_place_30 : decode cX5_place 30 = .ok (.iconst 2, 1) := by decide +kernel
theorem dX5_place_31 : decode cX5_place 31 = .ok (.iconst 2, 1) := by decide +kernel
theorem dX5_place_32 : decode cX5_place 32 = .ok (.invokevirtual 192, 3) := by decide +kernel
theorem dX5_place_35 : decode cX5_place 35 = .ok (.return_, 1) := by decide +kernel
theorem dX5_pair_0 : decode cX5_pair 0 = .ok (.aload_n 0, 1) := by decide +kernel
theorem dX5_pair_1 : decode cX5_pair 1 = .ok (.getfield 25, 3) := by decide +kernel
theorem dX5_pair_4 : decode cX5_pair 4 = .ok (.iconst 5, 1) := by decide +kernel
theorem dX5_pair_5 : decode cX5_pair 5 = .ok (.aload_n 0, 1) := by decide +kernel
theorem dX5_pair_6 : decode cX5_pair 6 = .ok (.getfield 185, 3) := by decide +kernel
theorem dX5_pair_9 : decode cX5_pair 9 = .ok (.imul, 1) := by decide +kernel
theorem dX5_pair_10 : decode cX5_pair 10 = .ok (.iload_n 1, 1) := by decide +kernel
theorem dX5_pair_11 : decode cX5_pair 11 = .ok (.iastore, 1) := by decide +kernel
theorem dX5_pair_12 : decode cX5_pair 12 = .ok (.aload_n 0, 1) := by decide +kernel
theorem dX5_pair_13 : decode cX5_pair 13 = .ok (.aload_n 2, 1) := by decide +kernel
theorem dX5_pair_14 : decode cX5_pair 14 = .ok (.invokevirtual 188, 3) := by decide +kernel
theorem dX5_pair_17 : decode cX5_pair 17 = .ok (.aload_n 0, 1) := by decide +kernel
theorem dX5_pair_18 : decode cX5_pair 18 = .ok (.iconst 1, 1) := by decide +kernel
theorem dX5_pair_19 : decode cX5_pair 19 = .ok (.iconst 1, 1) := by decide +kernel
theorem dX5_pair_20 : decode cX5_pair 20 = .ok (.invokevirtual 192, 3) := by decide +kernel
theorem dX5_pair_23 : decode cX5_pair 23 = .ok (.aload_n 0, 1) := by decide +kernel
theorem dX5_pair_24 : decode cX5_pair 24 = .ok (.aload_n 3, 1) := by decide +kernel
theorem dX5_pair_25 : decode cX5_pair 25 = .ok (.invokevirtual 188, 3) := by decide +kernel
theorem dX5_pair_28 : decode cX5_pair 28 = .ok (.aload_n 0, 1) := by decide +kernel
theorem dX5_pair_29 : decode cX5_pair 29 = .ok (.iconst 2, 1) := by decide +kernel
theorem dX5_pair_30 : decode cX5_pair 30 = .ok (.iconst 1, 1) := by decide +kernel
theorem dX5_pair_31 : decode cX5_pair 31 = .ok (.invokevirtual 192, 3) := by decide +kernel
theorem dX5_pair_34 : decode cX5_pair 34 = .ok (.return_, 1) := by decide +kernel
theorem dX5_segment_0 : decode cX5_segment 0 = .ok (.aload_n 0, 1) := by decide +kernel
theorem dX5_segment_1 : decode cX5_segment 1 = .ok (.ldc 197, 2) := by decide +kernel
theorem dX5_segment_3 : decode cX5_segment 3 = .ok (.invokevirtual 188, 3) := by decide +kernel
theorem dX5_segment_6 : decode cX5_segment 6 = .ok (.aload_n 0, 1) := by decide +kernel
theorem dX5_segment_7 : decode cX5_segment 7 = .ok (.iload_n 1, 1) := by decide +kernel
theorem dX5_segment_8 : decode cX5_segment 8 = .ok (.iconst 2, 1) := by decide +kernel
theorem dX5_segment_9 : decode cX5_segment 9 = .ok (.invokevirtual 192, 3) := by decide +kernel
theorem dX5_segment_12 : decode cX5_segment 12 = .ok (.aload_n 0, 1) := by decide +kernel
theorem dX5_segment_13 : decode cX5_segment 13 = .ok (.iload_n 1, 1) := by decide +kernel
theorem dX5_segment_14 : decode cX5_segment 14 = .ok (.iconst 1, 1) := by decide +kernel
theorem dX5_segment_15 : decode cX5_segment 15 = .ok (.iadd, 1) := by decide +kernel
theorem dX5_segment_16 : decode cX5_segment 16 = .ok (.invokevirtual 199, 3) := by decide +kernel
theorem dX5_segment_19 : decode cX5_segment 19 = .ok (.return_, 1) := by decide +kernel
theorem dX5_readsOne_0 : decode cX5_readsOne 0 = .ok (.aload_n 0, 1) := by decide +kernel
theorem dX5_readsOne_1 : decode cX5_readsOne 1 = .ok (.iconst 0, 1) := by decide +kernel
theorem dX5_readsOne_2 : decode cX5_readsOne 2 = .ok (.invokevirtual 178, 3) := by decide +kernel
theorem dX5_readsOne_5 : decode cX5_readsOne 5 = .ok (.tableswitch 294 97 116 #[95, 294, 222, 144, 294, 271, 294, 294, 294, 245, 294, 294, 294, 294, 294, 128, 294, 294, 258, 199], 95) := by decide +kernel
theorem dX5_readsOne_100 : decode cX5_readsOne 100 = .ok (.aload_n 0, 1) := by decide +kernel
theorem dX5_readsOne_101 : decode cX5_readsOne 101 = .ok (.getfield 25, 3) := by decide +kernel
theorem dX5_readsOne_104 : decode cX5_readsOne 104 = .ok (.iconst 5, 1) := by decide +kernel
theorem dX5_readsOne_105 : decode cX5_readsOne 105 = .ok (.aload_n 0, 1) := by decide +kernel
theorem dX5_readsOne_106 : decode cX5_readsOne 106 = .ok (.getfield 185, 3) := by decide +kernel
theorem dX5_readsOne_109 : decode cX5_readsOne 109 = .ok (.imul, 1) := by decide +kernel
theorem dX5_readsOne_110 : decode cX5_readsOne 110 = .ok (.bipush 97, 2) := by decide +kernel
theorem dX5_readsOne_112 : decode cX5_readsOne 112 = .ok (.iastore, 1) := by decide +kernel
theorem dX5_readsOne_113 : decode cX5_readsOne 113 = .ok (.aload_n 0, 1) := by decide +kernel
theorem dX5_readsOne_114 : decode cX5_readsOne 114 = .ok (.ldc 203, 2) := by decide +kernel
theorem dX5_readsOne_116 : decode cX5_readsOne 116 = .ok (.invokevirtual 188, 3) := by decide +kernel
theorem dX5_readsOne_119 : decode cX5_readsOne 119 = .ok (.aload_n 0, 1) := by decide +kernel
theorem dX5_readsOne_120 : decode cX5_readsOne 120 = .ok (.iconst 1, 1) := by decide +kernel
theorem dX5_readsOne_121 : decode cX5_readsOne 121 = .ok (.iconst 1, 1) := by decide +kernel
theorem dX5_readsOne_122 : decode cX5_readsOne 122 = .ok (.invokevirtual 192, 3) := by decide +kernel
theorem dX5_readsOne_125 : decode cX5_readsOne 125 = .ok (.aload_n 0, 1) := by decide +kernel
theorem dX5_readsOne_126 : decode cX5_readsOne 126 = .ok (.iconst 2, 1) := by decide +kernel
theorem dX5_readsOne_127 : decode cX5_readsOne 127 = .ok (.invokevirtual 205, 3) := by decide +kernel
theorem dX5_readsOne_130 : decode cX5_readsOne 130 = .ok (.goto 174, 3) := by decide +kernel
theorem dX5_readsOne_133 : decode cX5_readsOne 133 = .ok (.aload_n 0, 1) := by decide +kernel
theorem dX5_readsOne_134 : decode cX5_readsOne 134 = .ok (.bipush 112, 2) := by decide +kernel
theorem dX5_readsOne_136 : decode cX5_readsOne 136 = .ok (.ldc 208, 2) := by decide +kernel
theorem dX5_readsOne_138 : decode cX5_readsOne 138 = .ok (.invokevirtual 210, 3) := by decide +kernel
theorem dX5_readsOne_141 : decode cX5_readsOne 141 = .ok (.aload_n 0, 1) := by decide +kernel
theorem dX5_readsOne_142 : decode cX5_readsOne 142 = .ok (.iconst 3, 1) := by decide +kernel
theorem dX5_readsOne_143 : decode cX5_readsOne 143 = .ok (.invokevirtual 205, 3) := by decide +kernel
theorem dX5_readsOne_146 : decode cX5_readsOne 146 = .ok (.goto 158, 3) := by decide +kernel
theorem dX5_readsOne_149 : decode cX5_readsOne 149 = .ok (.aload_n 0, 1) := by decide +kernel
theorem dX5_readsOne_150 : decode cX5_readsOne 150 = .ok (.iconst 1, 1) := by decide +kernel
theorem dX5_readsOne_151 : decode cX5_readsOne 151 = .ok (.invokevirtual 178, 3) := by decide +kernel
theorem dX5_readsOne_154 : decode cX5_readsOne 154 = .ok (.bipush 121, 2) := by decide +kernel
theorem dX5_readsOne_156 : decode cX5_readsOne 156 = .ok (.if_icmp .ne 37, 3) := by decide +kernel
theorem dX5_readsOne_159 : decode cX5_readsOne 159 = .ok (.aload_n 0, 1) := by decide +kernel
theorem dX5_readsOne_160 : decode cX5_readsOne 160 = .ok (.bipush 121, 2) := by decide +kernel
theorem dX5_readsOne_162 : decode cX5_readsOne 162 = .ok (.ldc 214, 2) := by decide +kernel
theorem dX5_readsOne_164 : decode cX5_readsOne 164 = .ok (.invokevirtual 210, 3) := by decide +kernel
theorem dX5_readsOne_167 : decode cX5_readsOne 167 = .ok (.aload_n 0, 1) := by decide +kernel
theorem dX5_readsOne_168 : decode cX5_readsOne 168 = .ok (.ldc 216, 2) := by decide +kernel
theorem dX5_readsOne_170 : decode cX5_readsOne 170 = .ok (.invokevirtual 188, 3) := by decide +kernel
theorem dX5_readsOne_173 : decode cX5_readsOne 173 = .ok (.aload_n 0, 1) := by decide +kernel
theorem dX5_readsOne_174 : decode cX5_readsOne 174 = .ok (.iconst 3, 1) := by decide +kernel
theorem dX5_readsOne_175 : decode cX5_readsOne 175 = .ok (.iconst 2, 1) := by decide +kernel
theorem dX5_readsOne_176 : decode cX5_readsOne 176 = .ok (.invokevirtual 192, 3) := by decide +kernel
theorem dX5_readsOne_179 : decode cX5_readsOne 179 = .ok (.aload_n 0, 1) := by decide +kernel
theorem dX5_readsOne_180 : decode cX5_readsOne 180 = .ok (.ldc 197, 2) := by decide +kernel
theorem dX5_readsOne_182 : decode cX5_readsOne 182 = .ok (.invokevirtual 188, 3) := by decide +kernel
theorem dX5_readsOne_185 : decode cX5_readsOne 185 = .ok (.aload_n 0, 1) := by decide +kernel
theorem dX5_readsOne_186 : decode cX5_readsOne 186 = .ok (.iconst 4, 1) := by decide +kernel
theorem dX5_readsOne_187 : decode cX5_readsOne 187 = .ok (.invokevirtual 199, 3) := by decide +kernel
theorem dX5_readsOne_190 : decode cX5_readsOne 190 = .ok (.goto 114, 3) := by decide +kernel
theorem dX5_readsOne_193 : decode cX5_readsOne 193 = .ok (.aload_n 0, 1) := by decide +kernel
theorem dX5_readsOne_194 : decode cX5_readsOne 194 = .ok (.bipush 100, 2) := by decide +kernel
theorem dX5_readsOne_196 : decode cX5_readsOne 196 = .ok (.ldc 218, 2) := by decide +kernel
theorem dX5_readsOne_198 : decode cX5_readsOne 198 = .ok (.invokevirtual 210, 3) := by decide +kernel
theorem dX5_readsOne_201 : decode cX5_readsOne 201 = .ok (.goto 103, 3) := by decide +kernel
theorem dX5_readsOne_204 : decode cX5_readsOne 204 = .ok (.aload_n 0, 1) := by decide +kernel
theorem dX5_readsOne_205 : decode cX5_readsOne 205 = .ok (.bipush 116, 2) := by decide +kernel
theorem dX5_readsOne_207 : decode cX5_readsOne 207 = .ok (.ldc 220, 2) := by decide +kernel
theorem dX5_readsOne_209 : decode cX5_readsOne 209 = .ok (.invokevirtual 210, 3) := by decide +kernel
theorem dX5_readsOne_212 : decode cX5_readsOne 212 = .ok (.aload_n 0, 1) := by decide +kernel
theorem dX5_readsOne_213 : decode cX5_readsOne 213 = .ok (.ldc 222, 2) := by decide +kernel
theorem dX5_readsOne_215 : decode cX5_readsOne 215 = .ok (.invokevirtual 188, 3) := by decide +kernel
theorem dX5_readsOne_218 : decode cX5_readsOne 218 = .ok (.aload_n 0, 1) := by decide +kernel
theorem dX5_readsOne_219 : decode cX5_readsOne 219 = .ok (.iconst 3, 1) := by decide +kernel
theorem dX5_readsOne_220 : decode cX5_readsOne 220 = .ok (.iconst 2, 1) := by decide +kernel
theorem dX5_readsOne_221 : decode cX5_readsOne 221 = .ok (.invokevirtual 192, 3) := by decide +kernel
theorem dX5_readsOne_224 : decode cX5_readsOne 224 = .ok (.goto 80, 3) := by decide +kernel
theorem dX5_readsOne_227 : decode cX5_readsOne 227 = .ok (.aload_n 0, 1) := by decide +kernel
theorem dX5_readsOne_228 : decode cX5_readsOne 228 = .ok (.bipush 99, 2) := by decide +kernel
theorem dX5_readsOne_230 : decode cX5_readsOne 230 = .ok (.ldc 224, 2) := by decide +kernel
theorem dX5_readsOne_232 : decode cX5_readsOne 232 = .ok (.invokevirtual 210, 3) := by decide +kernel
theorem dX5_readsOne_235 : decode cX5_readsOne 235 = .ok (.aload_n 0, 1) := by decide +kernel
theorem dX5_readsOne_236 : decode cX5_readsOne 236 = .ok (.ldc 226, 2) := by decide +kernel
theorem dX5_readsOne_238 : decode cX5_readsOne 238 = .ok (.invokevirtual 188, 3) := by decide +kernel
theorem dX5_readsOne_241 : decode cX5_readsOne 241 = .ok (.aload_n 0, 1) := by decide +kernel
theorem dX5_readsOne_242 : decode cX5_readsOne 242 = .ok (.iconst 3, 1) := by decide +kernel
theorem dX5_readsOne_243 : decode cX5_readsOne 243 = .ok (.iconst 1, 1) := by decide +kernel
theorem dX5_readsOne_244 : decode cX5_readsOne 244 = .ok (.invokevirtual 192, 3) := by decide +kernel
theorem dX5_readsOne_247 : decode cX5_readsOne 247 = .ok (.goto 57, 3) := by decide +kernel
theorem dX5_readsOne_250 : decode cX5_readsOne 250 = .ok (.aload_n 0, 1) := by decide +kernel
theorem dX5_readsOne_251 : decode cX5_readsOne 251 = .ok (.bipush 106, 2) := by decide +kernel
theorem dX5_readsOne_253 : decode cX5_readsOne 253 = .ok (.ldc 228, 2) := by decide +kernel
theorem dX5_readsOne_255 : decode cX5_readsOne 255 = .ok (.ldc 230, 2) := by decide +kernel
theorem dX5_readsOne_257 : decode cX5_readsOne 257 = .ok (.invokevirtual 232, 3) := by decide +kernel
theorem dX5_readsOne_260 : decode cX5_readsOne 260 = .ok (.goto 44, 3) := by decide +kernel
theorem dX5_readsOne_263 : decode cX5_readsOne 263 = .ok (.aload_n 0, 1) := by decide +kernel
theorem dX5_readsOne_264 : decode cX5_readsOne 264 = .ok (.bipush 115, 2) := by decide +kernel
theorem dX5_readsOne_266 : decode cX5_readsOne 266 = .ok (.ldc 236, 2) := by decide +kernel
theorem dX5_readsOne_268 : decode cX5_readsOne 268 = .ok (.ldc 238, 2) := by decide +kernel
theorem dX5_readsOne_270 : decode cX5_readsOne 270 = .ok (.invokevirtual 232, 3) := by decide +kernel
theorem dX5_readsOne_273 : decode cX5_readsOne 273 = .ok (.goto 31, 3) := by decide +kernel
theorem dX5_readsOne_276 : decode cX5_readsOne 276 = .ok (.aload_n 0, 1) := by decide +kernel
theorem dX5_readsOne_277 : decode cX5_readsOne 277 = .ok (.bipush 102, 2) := by decide +kernel
theorem dX5_readsOne_279 : decode cX5_readsOne 279 = .ok (.ldc 240, 2) := by decide +kernel
theorem dX5_readsOne_281 : decode cX5_readsOne 281 = .ok (.invokevirtual 210, 3) := by decide +kernel
theorem dX5_readsOne_284 : decode cX5_readsOne 284 = .ok (.aload_n 0, 1) := by decide +kernel
theorem dX5_readsOne_285 : decode cX5_readsOne 285 = .ok (.ldc 216, 2) := by decide +kernel
theorem dX5_readsOne_287 : decode cX5_readsOne 287 = .ok (.invokevirtual 188, 3) := by decide +kernel
theorem dX5_readsOne_290 : decode cX5_readsOne 290 = .ok (.aload_n 0, 1) := by decide +kernel
theorem dX5_readsOne_291 : decode cX5_readsOne 291 = .ok (.iconst 3, 1) := by decide +kernel
theorem dX5_readsOne_292 : decode cX5_readsOne 292 = .ok (.iconst 2, 1) := by decide +kernel
theorem dX5_readsOne_293 : decode cX5_readsOne 293 = .ok (.invokevirtual 192, 3) := by decide +kernel
theorem dX5_readsOne_296 : decode cX5_readsOne 296 = .ok (.goto 8, 3) := by decide +kernel
theorem dX5_readsOne_299 : decode cX5_readsOne 299 = .ok (.aload_n 0, 1) := by decide +kernel
theorem dX5_readsOne_300 : decode cX5_readsOne 300 = .ok (.iconst 1, 1) := by decide +kernel
theorem dX5_readsOne_301 : decode cX5_readsOne 301 = .ok (.putfield 174, 3) := by decide +kernel
theorem dX5_readsOne_304 : decode cX5_readsOne 304 = .ok (.aload_n 0, 1) := by decide +kernel
theorem dX5_readsOne_305 : decode cX5_readsOne 305 = .ok (.dup, 1) := by decide +kernel
theorem dX5_readsOne_306 : decode cX5_readsOne 306 = .ok (.getfield 185, 3) := by decide +kernel
theorem dX5_readsOne_309 : decode cX5_readsOne 309 = .ok (.iconst 1, 1) := by decide +kernel
theorem dX5_readsOne_310 : decode cX5_readsOne 310 = .ok (.iadd, 1) := by decide +kernel
theorem dX5_readsOne_311 : decode cX5_readsOne 311 = .ok (.putfield 185, 3) := by decide +kernel
theorem dX5_readsOne_314 : decode cX5_readsOne 314 = .ok (.return_, 1) := by decide +kernel
theorem dX5_does_0 : decode cX5_does 0 = .ok (.aload_n 0, 1) := by decide +kernel
theorem dX5_does_1 : decode cX5_does 1 = .ok (.getfield 25, 3) := by decide +kernel
theorem dX5_does_4 : decode cX5_does 4 = .ok (.iconst 5, 1) := by decide +kernel
theorem dX5_does_5 : decode cX5_does 5 = .ok (.iload_n 1, 1) := by decide +kernel
theorem dX5_does_6 : decode cX5_does 6 = .ok (.imul, 1) := by decide +kernel
theorem dX5_does_7 : decode cX5_does 7 = .ok (.iconst 1, 1) := by decide +kernel
theorem dX5_does_8 : decode cX5_does 8 = .ok (.iadd, 1) := by decide +kernel
theorem dX5_does_9 : decode cX5_does 9 = .ok (.iaload, 1) := by decide +kernel
theorem dX5_does_10 : decode cX5_does 10 = .ok (.istore_n 2, 1) := by decide +kernel
theorem dX5_does_11 : decode cX5_does 11 = .ok (.aload_n 0, 1) := by decide +kernel
theorem dX5_does_12 : decode cX5_does 12 = .ok (.getfield 25, 3) := by decide +kernel
theorem dX5_does_15 : decode cX5_does 15 = .ok (.iconst 5, 1) := by decide +kernel
theorem dX5_does_16 : decode cX5_does 16 = .ok (.iload_n 1, 1) := by decide +kernel
theorem dX5_does_17 : decode cX5_does 17 = .ok (.imul, 1) := by decide +kernel
theorem dX5_does_18 : decode cX5_does 18 = .ok (.iconst 2, 1) := by decide +kernel
theorem dX5_does_19 : decode cX5_does 19 = .ok (.iadd, 1) := by decide +kernel
theorem dX5_does_20 : decode cX5_does 20 = .ok (.iaload, 1) := by decide +kernel
theorem dX5_does_21 : decode cX5_does 21 = .ok (.istore_n 3, 1) := by decide +kernel
theorem dX5_does_22 : decode cX5_does 22 = .ok (.aload_n 0, 1) := by decide +kernel
theorem dX5_does_23 : decode cX5_does 23 = .ok (.getfield 25, 3) := by decide +kernel
theorem dX5_does_26 : decode cX5_does 26 = .ok (.iconst 5, 1) := by decide +kernel
theorem dX5_does_27 : decode cX5_does 27 = .ok (.iload_n 1, 1) := by decide +kernel
theorem dX5_does_28 : decode cX5_does 28 = .ok (.imul, 1) := by decide +kernel
theorem dX5_does_29 : decode cX5_does 29 = .ok (.iconst 3, 1) := by decide +kernel
theorem dX5_does_30 : decode cX5_does 30 = .ok (.iadd, 1) := by decide +kernel
theorem dX5_does_31 : decode cX5_does 31 = .ok (.iaload, 1) := by decide +kernel
theorem dX5_does_32 : decode cX5_does 32 = .ok (.istore 4, 2) := by decide +kernel
theorem dX5_does_34 : decode cX5_does 34 = .ok (.aload_n 0, 1) := by decide +kernel
theorem dX5_does_35 : decode cX5_does 35 = .ok (.getfield 25, 3) := by decide +kernel
theorem dX5_does_38 : decode cX5_does 38 = .ok (.iconst 5, 1) := by decide +kernel
theorem dX5_does_39 : decode cX5_does 39 = .ok (.iload_n 1, 1) := by decide +kernel
theorem dX5_does_40 : decode cX5_does 40 = .ok (.imul, 1) := by decide +kernel
theorem dX5_does_41 : decode cX5_does 41 = .ok (.iconst 4, 1) := by decide +kernel
theorem dX5_does_42 : decode cX5_does 42 = .ok (.iadd, 1) := by decide +kernel
theorem dX5_does_43 : decode cX5_does 43 = .ok (.iaload, 1) := by decide +kernel
theorem dX5_does_44 : decode cX5_does 44 = .ok (.istore 5, 2) := by decide +kernel
theorem dX5_does_46 : decode cX5_does 46 = .ok (.aload_n 0, 1) := by decide +kernel
theorem dX5_does_47 : decode cX5_does 47 = .ok (.getfield 25, 3) := by decide +kernel
theorem dX5_does_50 : decode cX5_does 50 = .ok (.iconst 5, 1) := by decide +kernel
theorem dX5_does_51 : decode cX5_does 51 = .ok (.iload_n 1, 1) := by decide +kernel
theorem dX5_does_52 : decode cX5_does 52 = .ok (.imul, 1) := by decide +kernel
theorem dX5_does_53 : decode cX5_does 53 = .ok (.iaload, 1) := by decide +kernel
theorem dX5_does_54 : decode cX5_does 54 = .ok (.tableswitch 200 97 121 #[114, 200, 177, 161, 200, 200, 200, 200, 200, 186, 200, 200, 200, 200, 200, 139, 200, 200, 193, 168, 200, 200, 200, 200, 150], 114) := by decide +kernel
theorem dX5_does_168 : decode cX5_does 168 = .ok (.aload_n 0, 1) := by decide +kernel
theorem dX5_does_169 : decode cX5_does 169 = .ok (.iload_n 2, 1) := by decide +kernel
theorem dX5_does_170 : decode cX5_does 170 = .ok (.iload_n 2, 1) := by decide +kernel
theorem dX5_does_171 : decode cX5_does 171 = .ok (.invokestatic 58, 3) := by decide +kernel
theorem dX5_does_174 : decode cX5_does 174 = .ok (.ifCond .eq 11, 3) := by decide +kernel
theorem dX5_does_177 : decode cX5_does 177 = .ok (.aload_n 0, 1) := by decide +kernel
theorem dX5_does_178 : decode cX5_does 178 = .ok (.iload_n 2, 1) := by decide +kernel
theorem dX5_does_179 : decode cX5_does 179 = .ok (.invokevirtual 62, 3) := by decide +kernel
theorem dX5_does_182 : decode cX5_does 182 = .ok (.goto 4, 3) := by decide +kernel
theorem dX5_does_185 : decode cX5_does 185 = .ok (.iconst 0, 1) := by decide +kernel
theorem dX5_does_186 : decode cX5_does 186 = .ok (.iload_n 3, 1) := by decide +kernel
theorem dX5_does_187 : decode cX5_does 187 = .ok (.iload 4, 2) := by decide +kernel
theorem dX5_does_189 : decode cX5_does 189 = .ok (.invokevirtual 102, 3) := by decide +kernel
theorem dX5_does_192 : decode cX5_does 192 = .ok (.ireturn, 1) := by decide +kernel
theorem dX5_does_193 : decode cX5_does 193 = .ok (.aload_n 0, 1) := by decide +kernel
theorem dX5_does_194 : decode cX5_does 194 = .ok (.iload_n 2, 1) := by decide +kernel
theorem dX5_does_195 : decode cX5_does 195 = .ok (.iload_n 3, 1) := by decide +kernel
theorem dX5_does_196 : decode cX5_does 196 = .ok (.iload 4, 2) := by decide +kernel
theorem dX5_does_198 : decode cX5_does 198 = .ok (.iload 5, 2) := by decide +kernel
theorem dX5_does_200 : decode cX5_does 200 = .ok (.invokevirtual 102, 3) := by decide +kernel
theorem dX5_does_203 : decode cX5_does 203 = .ok (.ireturn, 1) := by decide +kernel
theorem dX5_does_204 : decode cX5_does 204 = .ok (.aload_n 0, 1) := by decide +kernel
theorem dX5_does_205 : decode cX5_does 205 = .ok (.iload_n 2, 1) := by decide +kernel
theorem dX5_does_206 : decode cX5_does 206 = .ok (.iload_n 3, 1) := by decide +kernel
theorem dX5_does_207 : decode cX5_does 207 = .ok (.iload 4, 2) := by decide +kernel
theorem dX5_does_209 : decode cX5_does 209 = .ok (.iload 5, 2) := by decide +kernel
theorem dX5_does_211 : decode cX5_does 211 = .ok (.invokevirtual 131, 3) := by decide +kernel
theorem dX5_does_214 : decode cX5_does 214 = .ok (.ireturn, 1) := by decide +kernel
theorem dX5_does_215 : decode cX5_does 215 = .ok (.aload_n 0, 1) := by decide +kernel
theorem dX5_does_216 : decode cX5_does 216 = .ok (.iload_n 2, 1) := by decide +kernel
theorem dX5_does_217 : decode cX5_does 217 = .ok (.iload_n 3, 1) := by decide +kernel
theorem dX5_does_218 : decode cX5_does 218 = .ok (.invokevirtual 109, 3) := by decide +kernel
theorem dX5_does_221 : decode cX5_does 221 = .ok (.ireturn, 1) := by decide +kernel
theorem dX5_does_222 : decode cX5_does 222 = .ok (.aload_n 0, 1) := by decide +kernel
theorem dX5_does_223 : decode cX5_does 223 = .ok (.iload_n 2, 1) := by decide +kernel
theorem dX5_does_224 : decode cX5_does 224 = .ok (.iload_n 3, 1) := by decide +kernel
theorem dX5_does_225 : decode cX5_does 225 = .ok (.iload 4, 2) := by decide +kernel
theorem dX5_does_227 : decode cX5_does 227 = .ok (.invokevirtual 113, 3) := by decide +kernel
theorem dX5_does_230 : decode cX5_does 230 = .ok (.ireturn, 1) := by decide +kernel
theorem dX5_does_231 : decode cX5_does 231 = .ok (.aload_n 0, 1) := by decide +kernel
theorem dX5_does_232 : decode cX5_does 232 = .ok (.iload_n 2, 1) := by decide +kernel
theorem dX5_does_233 : decode cX5_does 233 = .ok (.iload_n 3, 1) := by decide +kernel
theorem dX5_does_234 : decode cX5_does 234 = .ok (.iload 4, 2) := by decide +kernel
theorem dX5_does_236 : decode cX5_does 236 = .ok (.invokevirtual 119, 3) := by decide +kernel
theorem dX5_does_239 : decode cX5_does 239 = .ok (.ireturn, 1) := by decide +kernel
theorem dX5_does_240 : decode cX5_does 240 = .ok (.aload_n 0, 1) := by decide +kernel
theorem dX5_does_241 : decode cX5_does 241 = .ok (.iload_n 2, 1) := by decide +kernel
theorem dX5_does_242 : decode cX5_does 242 = .ok (.iload_n 3, 1) := by decide +kernel
theorem dX5_does_243 : decode cX5_does 243 = .ok (.invokevirtual 122, 3) := by decide +kernel
theorem dX5_does_246 : decode cX5_does 246 = .ok (.ireturn, 1) := by decide +kernel
theorem dX5_does_247 : decode cX5_does 247 = .ok (.aload_n 0, 1) := by decide +kernel
theorem dX5_does_248 : decode cX5_does 248 = .ok (.iload_n 2, 1) := by decide +kernel
theorem dX5_does_249 : decode cX5_does 249 = .ok (.iload_n 3, 1) := by decide +kernel
theorem dX5_does_250 : decode cX5_does 250 = .ok (.invokevirtual 125, 3) := by decide +kernel
theorem dX5_does_253 : decode cX5_does 253 = .ok (.ireturn, 1) := by decide +kernel
theorem dX5_does_254 : decode cX5_does 254 = .ok (.aload_n 0, 1) := by decide +kernel
theorem dX5_does_255 : decode cX5_does 255 = .ok (.iload_n 2, 1) := by decide +kernel
theorem dX5_does_256 : decode cX5_does 256 = .ok (.iload_n 3, 1) := by decide +kernel
theorem dX5_does_257 : decode cX5_does 257 = .ok (.iload 4, 2) := by decide +kernel
theorem dX5_does_259 : decode cX5_does 259 = .ok (.invokevirtual 128, 3) := by decide +kernel
theorem dX5_does_262 : decode cX5_does 262 = .ok (.ireturn, 1) := by decide +kernel
theorem dX5_run_0 : decode cX5_run 0 = .ok (.aload_n 0, 1) := by decide +kernel
theorem dX5_run_1 : decode cX5_run 1 = .ok (.invokevirtual 99, 3) := by decide +kernel
theorem dX5_run_4 : decode cX5_run 4 = .ok (.aload_n 0, 1) := by decide +kernel
theorem dX5_run_5 : decode cX5_run 5 = .ok (.iconst 0, 1) := by decide +kernel
theorem dX5_run_6 : decode cX5_run 6 = .ok (.putfield 162, 3) := by decide +kernel
theorem dX5_run_9 : decode cX5_run 9 = .ok (.aload_n 0, 1) := by decide +kernel
theorem dX5_run_10 : decode cX5_run 10 = .ok (.aload_n 0, 1) := by decide +kernel
theorem dX5_run_11 : decode cX5_run 11 = .ok (.getfield 159, 3) := by decide +kernel
theorem dX5_run_14 : decode cX5_run 14 = .ok (.putfield 165, 3) := by decide +kernel
theorem dX5_run_17 : decode cX5_run 17 = .ok (.aload_n 0, 1) := by decide +kernel
theorem dX5_run_18 : decode cX5_run 18 = .ok (.iconst 0, 1) := by decide +kernel
theorem dX5_run_19 : decode cX5_run 19 = .ok (.putfield 159, 3) := by decide +kernel
theorem dX5_run_22 : decode cX5_run 22 = .ok (.aload_n 0, 1) := by decide +kernel
theorem dX5_run_23 : decode cX5_run 23 = .ok (.iconst 0, 1) := by decide +kernel
theorem dX5_run_24 : decode cX5_run 24 = .ok (.putfield 185, 3) := by decide +kernel
theorem dX5_run_27 : decode cX5_run 27 = .ok (.aload_n 0, 1) := by decide +kernel
theorem dX5_run_28 : decode cX5_run 28 = .ok (.iconst 0, 1) := by decide +kernel
theorem dX5_run_29 : decode cX5_run 29 = .ok (.putfield 174, 3) := by decide +kernel
theorem dX5_run_32 : decode cX5_run 32 = .ok (.aload_n 0, 1) := by decide +kernel
theorem dX5_run_33 : decode cX5_run 33 = .ok (.invokevirtual 242, 3) := by decide +kernel
theorem dX5_run_36 : decode cX5_run 36 = .ok (.aload_n 0, 1) := by decide +kernel
theorem dX5_run_37 : decode cX5_run 37 = .ok (.getfield 174, 3) := by decide +kernel
theorem dX5_run_40 : decode cX5_run 40 = .ok (.ifCond .ne 30, 3) := by decide +kernel
theorem dX5_run_43 : decode cX5_run 43 = .ok (.aload_n 0, 1) := by decide +kernel
theorem dX5_run_44 : decode cX5_run 44 = .ok (.iconst 0, 1) := by decide +kernel
theorem dX5_run_45 : decode cX5_run 45 = .ok (.invokevirtual 178, 3) := by decide +kernel
theorem dX5_run_48 : decode cX5_run 48 = .ok (.bipush 59, 2) := by decide +kernel
theorem dX5_run_50 : decode cX5_run 50 = .ok (.if_icmp .ne 20, 3) := by decide +kernel
theorem dX5_run_53 : decode cX5_run 53 = .ok (.aload_n 0, 1) := by decide +kernel
theorem dX5_run_54 : decode cX5_run 54 = .ok (.dup, 1) := by decide +kernel
theorem dX5_run_55 : decode cX5_run 55 = .ok (.getfield 162, 3) := by decide +kernel
theorem dX5_run_58 : decode cX5_run 58 = .ok (.iconst 1, 1) := by decide +kernel
theorem dX5_run_59 : decode cX5_run 59 = .ok (.iadd, 1) := by decide +kernel
theorem dX5_run_60 : decode cX5_run 60 = .ok (.putfield 162, 3) := by decide +kernel
theorem dX5_run_63 : decode cX5_run 63 = .ok (.aload_n 0, 1) := by decide +kernel
theorem dX5_run_64 : decode cX5_run 64 = .ok (.invokevirtual 242, 3) := by decide +kernel
theorem dX5_run_67 : decode cX5_run 67 = .ok (.goto (-31), 3) := by decide +kernel
theorem dX5_run_70 : decode cX5_run 70 = .ok (.aload_n 0, 1) := by decide +kernel
theorem dX5_run_71 : decode cX5_run 71 = .ok (.getfield 174, 3) := by decide +kernel
theorem dX5_run_74 : decode cX5_run 74 = .ok (.ifCond .ne 14, 3) := by decide +kernel
theorem dX5_run_77 : decode cX5_run 77 = .ok (.aload_n 0, 1) := by decide +kernel
theorem dX5_run_78 : decode cX5_run 78 = .ok (.getfield 162, 3) := by decide +kernel
theorem dX5_run_81 : decode cX5_run 81 = .ok (.aload_n 0, 1) := by decide +kernel
theorem dX5_run_82 : decode cX5_run 82 = .ok (.getfield 165, 3) := by decide +kernel
theorem dX5_run_85 : decode cX5_run 85 = .ok (.if_icmp .ge 17, 3) := by decide +kernel
theorem dX5_run_88 : decode cX5_run 88 = .ok (.aload_n 0, 1) := by decide +kernel
theorem dX5_run_89 : decode cX5_run 89 = .ok (.aload_n 0, 1) := by decide +kernel
theorem dX5_run_90 : decode cX5_run 90 = .ok (.getfield 162, 3) := by decide +kernel
theorem dX5_run_93 : decode cX5_run 93 = .ok (.putfield 31, 3) := by decide +kernel
theorem dX5_run_96 : decode cX5_run 96 = .ok (.aload_n 0, 1) := by decide +kernel
theorem dX5_run_97 : decode cX5_run 97 = .ok (.iconst 1, 1) := by decide +kernel
theorem dX5_run_98 : decode cX5_run 98 = .ok (.invokevirtual 51, 3) := by decide +kernel
theorem dX5_run_101 : decode cX5_run 101 = .ok (.ireturn, 1) := by decide +kernel
theorem dX5_run_102 : decode cX5_run 102 = .ok (.iconst 0, 1) := by decide +kernel
theorem dX5_run_103 : decode cX5_run 103 = .ok (.istore_n 1, 1) := by decide +kernel
theorem dX5_run_104 : decode cX5_run 104 = .ok (.iload_n 1, 1) := by decide +kernel
theorem dX5_run_105 : decode cX5_run 105 = .ok (.aload_n 0, 1) := by decide +kernel
theorem dX5_run_106 : decode cX5_run 106 = .ok (.getfield 185, 3) := by decide +kernel
theorem dX5_run_109 : decode cX5_run 109 = .ok (.if_icmp .ge 58, 3) := by decide +kernel
theorem dX5_run_112 : decode cX5_run 112 = .ok (.aload_n 0, 1) := by decide +kernel
theorem dX5_run_113 : decode cX5_run 113 = .ok (.iload_n 1, 1) := by decide +kernel
theorem dX5_run_114 : decode cX5_run 114 = .ok (.invokevirtual 245, 3) := by decide +kernel
theorem dX5_run_117 : decode cX5_run 117 = .ok (.ifCond .ne 6, 3) := by decide +kernel
theorem dX5_run_120 : decode cX5_run 120 = .ok (.goto 41, 3) := by decide +kernel
theorem dX5_run_123 : decode cX5_run 123 = .ok (.iconst 0, 1) := by decide +kernel
theorem dX5_run_124 : decode cX5_run 124 = .ok (.istore_n 2, 1) := by decide +kernel
theorem dX5_run_125 : decode cX5_run 125 = .ok (.iload_n 2, 1) := by decide +kernel
theorem dX5_run_126 : decode cX5_run 126 = .ok (.sipush 486, 3) := by decide +kernel
theorem dX5_run_129 : decode cX5_run 129 = .ok (.if_icmp .ge 21, 3) := by decide +kernel
theorem dX5_run_132 : decode cX5_run 132 = .ok (.aload_n 0, 1) := by decide +kernel
theorem dX5_run_133 : decode cX5_run 133 = .ok (.getfield 7, 3) := by decide +kernel
theorem dX5_run_136 : decode cX5_run 136 = .ok (.iload_n 2, 1) := by decide +kernel
theorem dX5_run_137 : decode cX5_run 137 = .ok (.aload_n 0, 1) := by decide +kernel
theorem dX5_run_138 : decode cX5_run 138 = .ok (.getfield 13, 3) := by decide +kernel
theorem dX5_run_141 : decode cX5_run 141 = .ok (.iload_n 2, 1) := by decide +kernel
theorem dX5_run_142 : decode cX5_run 142 = .ok (.iaload, 1) := by decide +kernel
theorem dX5_run_143 : decode cX5_run 143 = .ok (.iastore, 1) := by decide +kernel
theorem dX5_run_144 : decode cX5_run 144 = .ok (.iinc 2 1, 3) := by decide +kernel
theorem dX5_run_147 : decode cX5_run 147 = .ok (.goto (-22), 3) := by decide +kernel
theorem dX5_run_150 : decode cX5_run 150 = .ok (.aload_n 0, 1) := by decide +kernel
theorem dX5_run_151 : decode cX5_run 151 = .ok (.iload_n 1, 1) := by decide +kernel
theorem dX5_run_152 : decode cX5_run 152 = .ok (.putfield 35, 3) := by decide +kernel
theorem dX5_run_155 : decode cX5_run 155 = .ok (.aload_n 0, 1) := by decide +kernel
theorem dX5_run_156 : decode cX5_run 156 = .ok (.iconst 2, 1) := by decide +kernel
theorem dX5_run_157 : decode cX5_run 157 = .ok (.invokevirtual 51, 3) := by decide +kernel
theorem dX5_run_160 : decode cX5_run 160 = .ok (.ireturn, 1) := by decide +kernel
theorem dX5_run_161 : decode cX5_run 161 = .ok (.iinc 1 1, 3) := by decide +kernel
theorem dX5_run_164 : decode cX5_run 164 = .ok (.goto (-60), 3) := by decide +kernel
theorem dX5_run_167 : decode cX5_run 167 = .ok (.aload_n 0, 1) := by decide +kernel
theorem dX5_run_168 : decode cX5_run 168 = .ok (.aload_n 0, 1) := by decide +kernel
theorem dX5_run_169 : decode cX5_run 169 = .ok (.getfield 185, 3) := by decide +kernel
theorem dX5_run_172 : decode cX5_run 172 = .ok (.invokevirtual 47, 3) := by decide +kernel
theorem dX5_run_175 : decode cX5_run 175 = .ok (.ireturn, 1) := by decide +kernel
theorem dX5_errorPosition_0 : decode cX5_errorPosition 0 = .ok (.aload_n 0, 1) := by decide +kernel
theorem dX5_errorPosition_1 : decode cX5_errorPosition 1 = .ok (.iconst 0, 1) := by decide +kernel
theorem dX5_errorPosition_2 : decode cX5_errorPosition 2 = .ok (.putfield 38, 3) := by decide +kernel
theorem dX5_errorPosition_5 : decode cX5_errorPosition 5 = .ok (.aload_n 0, 1) := by decide +kernel
theorem dX5_errorPosition_6 : decode cX5_errorPosition 6 = .ok (.getfield 31, 3) := by decide +kernel
theorem dX5_errorPosition_9 : decode cX5_errorPosition 9 = .ok (.iconst (-1), 1) := by decide +kernel
theorem dX5_errorPosition_10 : decode cX5_errorPosition 10 = .ok (.if_icmp .ne 11, 3) := by decide +kernel
theorem dX5_errorPosition_13 : decode cX5_errorPosition 13 = .ok (.aload_n 0, 1) := by decide +kernel
theorem dX5_errorPosition_14 : decode cX5_errorPosition 14 = .ok (.iconst 1, 1) := by decide +kernel
theorem dX5_errorPosition_15 : decode cX5_errorPosition 15 = .ok (.invokevirtual 51, 3) := by decide +kernel
theorem dX5_errorPosition_18 : decode cX5_errorPosition 18 = .ok (.goto 7, 3) := by decide +kernel
theorem dX5_errorPosition_21 : decode cX5_errorPosition 21 = .ok (.aload_n 0, 1) := by decide +kernel
theorem dX5_errorPosition_22 : decode cX5_errorPosition 22 = .ok (.getfield 31, 3) := by decide +kernel
theorem dX5_errorPosition_25 : decode cX5_errorPosition 25 = .ok (.ireturn, 1) := by decide +kernel
theorem dX5_failedCommand_0 : decode cX5_failedCommand 0 = .ok (.aload_n 0, 1) := by decide +kernel
theorem dX5_failedCommand_1 : decode cX5_failedCommand 1 = .ok (.iconst 0, 1) := by decide +kernel
theorem dX5_failedCommand_2 : decode cX5_failedCommand 2 = .ok (.putfield 38, 3) := by decide +kernel
theorem dX5_failedCommand_5 : decode cX5_failedCommand 5 = .ok (.aload_n 0, 1) := by decide +kernel
theorem dX5_failedCommand_6 : decode cX5_failedCommand 6 = .ok (.getfield 35, 3) := by decide +kernel
theorem dX5_failedCommand_9 : decode cX5_failedCommand 9 = .ok (.iconst (-1), 1) := by decide +kernel
theorem dX5_failedCommand_10 : decode cX5_failedCommand 10 = .ok (.if_icmp .ne 11, 3) := by decide +kernel
theorem dX5_failedCommand_13 : decode cX5_failedCommand 13 = .ok (.aload_n 0, 1) := by decide +kernel
theorem dX5_failedCommand_14 : decode cX5_failedCommand 14 = .ok (.iconst 1, 1) := by decide +kernel
theorem dX5_failedCommand_15 : decode cX5_failedCommand 15 = .ok (.invokevirtual 51, 3) := by decide +kernel
theorem dX5_failedCommand_18 : decode cX5_failedCommand 18 = .ok (.goto 7, 3) := by decide +kernel
theorem dX5_failedCommand_21 : decode cX5_failedCommand 21 = .ok (.aload_n 0, 1) := by decide +kernel
theorem dX5_failedCommand_22 : decode cX5_failedCommand 22 = .ok (.getfield 35, 3) := by decide +kernel
theorem dX5_failedCommand_25 : decode cX5_failedCommand 25 = .ok (.ireturn, 1) := by decide +kernel
theorem dX5_writes_0 : decode cX5_writes 0 = .ok (.aload_n 0, 1) := by decide +kernel
theorem dX5_writes_1 : decode cX5_writes 1 = .ok (.getfield 28, 3) := by decide +kernel
theorem dX5_writes_4 : decode cX5_writes 4 = .ok (.aload_n 0, 1) := by decide +kernel
theorem dX5_writes_5 : decode cX5_writes 5 = .ok (.getfield 248, 3) := by decide +kernel
theorem dX5_writes_8 : decode cX5_writes 8 = .ok (.iload_n 1, 1) := by decide +kernel
theorem dX5_writes_9 : decode cX5_writes 9 = .ok (.iastore, 1) := by decide +kernel
theorem dX5_writes_10 : decode cX5_writes 10 = .ok (.aload_n 0, 1) := by decide +kernel
theorem dX5_writes_11 : decode cX5_writes 11 = .ok (.dup, 1) := by decide +kernel
theorem dX5_writes_12 : decode cX5_writes 12 = .ok (.getfield 248, 3) := by decide +kernel
theorem dX5_writes_15 : decode cX5_writes 15 = .ok (.iconst 1, 1) := by decide +kernel
theorem dX5_writes_16 : decode cX5_writes 16 = .ok (.iadd, 1) := by decide +kernel
theorem dX5_writes_17 : decode cX5_writes 17 = .ok (.putfield 248, 3) := by decide +kernel
theorem dX5_writes_20 : decode cX5_writes 20 = .ok (.return_, 1) := by decide +kernel
theorem dX5_describeReel_0 : decode cX5_describeReel 0 = .ok (.aload_n 0, 1) := by decide +kernel
theorem dX5_describeReel_1 : decode cX5_describeReel 1 = .ok (.iload_n 1, 1) := by decide +kernel
theorem dX5_describeReel_2 : decode cX5_describeReel 2 = .ok (.invokestatic 58, 3) := by decide +kernel
theorem dX5_describeReel_5 : decode cX5_describeReel 5 = .ok (.ifCond .eq 7, 3) := by decide +kernel
theorem dX5_describeReel_8 : decode cX5_describeReel 8 = .ok (.iconst 0, 1) := by decide +kernel
theorem dX5_describeReel_9 : decode cX5_describeReel 9 = .ok (.goto 4, 3) := by decide +kernel
theorem dX5_describeReel_12 : decode cX5_describeReel 12 = .ok (.iconst 1, 1) := by decide +kernel
theorem dX5_describeReel_13 : decode cX5_describeReel 13 = .ok (.putfield 38, 3) := by decide +kernel
theorem dX5_describeReel_16 : decode cX5_describeReel 16 = .ok (.aload_n 0, 1) := by decide +kernel
theorem dX5_describeReel_17 : decode cX5_describeReel 17 = .ok (.getfield 38, 3) := by decide +kernel
theorem dX5_describeReel_20 : decode cX5_describeReel 20 = .ok (.ifCond .le 5, 3) := by decide +kernel
theorem dX5_describeReel_23 : decode cX5_describeReel 23 = .ok (.iconst 0, 1) := by decide +kernel
theorem dX5_describeReel_24 : decode cX5_describeReel 24 = .ok (.ireturn, 1) := by decide +kernel
theorem dX5_describeReel_25 : decode cX5_describeReel 25 = .ok (.aload_n 0, 1) := by decide +kernel
theorem dX5_describeReel_26 : decode cX5_describeReel 26 = .ok (.iconst 0, 1) := by decide +kernel
theorem dX5_describeReel_27 : decode cX5_describeReel 27 = .ok (.putfield 248, 3) := by decide +kernel
theorem dX5_describeReel_30 : decode cX5_describeReel 30 = .ok (.iconst 0, 1) := by decide +kernel
theorem dX5_describeReel_31 : decode cX5_describeReel 31 = .ok (.istore_n 2, 1) := by decide +kernel
theorem dX5_describeReel_32 : decode cX5_describeReel 32 = .ok (.iload_n 2, 1) := by decide +kernel
theorem dX5_describeReel_33 : decode cX5_describeReel 33 = .ok (.aload_n 0, 1) := by decide +kernel
theorem dX5_describeReel_34 : decode cX5_describeReel 34 = .ok (.iload_n 1, 1) := by decide +kernel
theorem dX5_describeReel_35 : decode cX5_describeReel 35 = .ok (.invokevirtual 62, 3) := by decide +kernel
theorem dX5_describeReel_38 : decode cX5_describeReel 38 = .ok (.if_icmp .ge 85, 3) := by decide +kernel
theorem dX5_describeReel_41 : decode cX5_describeReel 41 = .ok (.iload_n 2, 1) := by decide +kernel
theorem dX5_describeReel_42 : decode cX5_describeReel 42 = .ok (.ifCond .le 25, 3) := by decide +kernel
theorem dX5_describeReel_45 : decode cX5_describeReel 45 = .ok (.aload_n 0, 1) := by decide +kernel
theorem dX5_describeReel_46 : decode cX5_describeReel 46 = .ok (.aload_n 0, 1) := by decide +kernel
theorem dX5_describeReel_47 : decode cX5_describeReel 47 = .ok (.iload_n 1, 1) := by decide +kernel
theorem dX5_describeReel_48 : decode cX5_describeReel 48 = .ok (.iload_n 2, 1) := by decide +kernel
theorem dX5_describeReel_49 : decode cX5_describeReel 49 = .ok (.iconst 1, 1) := by decide +kernel
theorem dX5_describeReel_50 : decode cX5_describeReel 50 = .ok (.isub, 1) := by decide +kernel
theorem dX5_describeReel_51 : decode cX5_describeReel 51 = .ok (.invokevirtual 143, 3) := by decide +kernel
theorem dX5_describeReel_54 : decode cX5_describeReel 54 = .ok (.ifCond .eq 8, 3) := by decide +kernel
theorem dX5_describeReel_57 : decode cX5_describeReel 57 = .ok (.bipush 61, 2) := by decide +kernel
theorem dX5_describeReel_59 : decode cX5_describeReel 59 = .ok (.goto 5, 3) := by decide +kernel
theorem dX5_describeReel_62 : decode cX5_describeReel 62 = .ok (.bipush 45, 2) := by decide +kernel
theorem dX5_describeReel_64 : decode cX5_describeReel 64 = .ok (.invokevirtual 251, 3) := by decide +kernel
theorem dX5_describeReel_67 : decode cX5_describeReel 67 = .ok (.aload_n 0, 1) := by decide +kernel
theorem dX5_describeReel_68 : decode cX5_describeReel 68 = .ok (.iload_n 1, 1) := by decide +kernel
theorem dX5_describeReel_69 : decode cX5_describeReel 69 = .ok (.iload_n 2, 1) := by decide +kernel
theorem dX5_describeReel_70 : decode cX5_describeReel 70 = .ok (.iconst 0, 1) := by decide +kernel
theorem dX5_describeReel_71 : decode cX5_describeReel 71 = .ok (.invokevirtual 75, 3) := by decide +kernel
theorem dX5_describeReel_74 : decode cX5_describeReel 74 = .ok (.istore_n 3, 1) := by decide +kernel
theorem dX5_describeReel_75 : decode cX5_describeReel 75 = .ok (.iload_n 3, 1) := by decide +kernel
theorem dX5_describeReel_76 : decode cX5_describeReel 76 = .ok (.bipush 9, 2) := by decide +kernel
theorem dX5_describeReel_78 : decode cX5_describeReel 78 = .ok (.if_icmp .le 14, 3) := by decide +kernel
theorem dX5_describeReel_81 : decode cX5_describeReel 81 = .ok (.aload_n 0, 1) := by decide +kernel
theorem dX5_describeReel_82 : decode cX5_describeReel 82 = .ok (.bipush 48, 2) := by decide +kernel
theorem dX5_describeReel_84 : decode cX5_describeReel 84 = .ok (.iload_n 3, 1) := by decide +kernel
theorem dX5_describeReel_85 : decode cX5_describeReel 85 = .ok (.bipush 10, 2) := by decide +kernel
theorem dX5_describeReel_87 : decode cX5_describeReel 87 = .ok (.idiv, 1) := by decide +kernel
theorem dX5_describeReel_88 : decode cX5_describeReel 88 = .ok (.iadd, 1) := by decide +kernel
theorem dX5_describeReel_89 : decode cX5_describeReel 89 = .ok (.invokevirtual 251, 3) := by decide +kernel
theorem dX5_describeReel_92 : decode cX5_describeReel 92 = .ok (.aload_n 0, 1) := by decide +kernel
theorem dX5_describeReel_93 : decode cX5_describeReel 93 = .ok (.bipush 48, 2) := by decide +kernel
theorem dX5_describeReel_95 : decode cX5_describeReel 95 = .ok (.iload_n 3, 1) := by decide +kernel
theorem dX5_describeReel_96 : decode cX5_describeReel 96 = .ok (.bipush 10, 2) := by decide +kernel
theorem dX5_describeReel_98 : decode cX5_describeReel 98 = .ok (.irem, 1) := by decide +kernel
theorem dX5_describeReel_99 : decode cX5_describeReel 99 = .ok (.iadd, 1) := by decide +kernel
theorem dX5_describeReel_100 : decode cX5_describeReel 100 = .ok (.invokevirtual 251, 3) := by decide +kernel
theorem dX5_describeReel_103 : decode cX5_describeReel 103 = .ok (.aload_n 0, 1) := by decide +kernel
theorem dX5_describeReel_104 : decode cX5_describeReel 104 = .ok (.bipush 97, 2) := by decide +kernel
theorem dX5_describeReel_106 : decode cX5_describeReel 106 = .ok (.aload_n 0, 1) := by decide +kernel
theorem dX5_describeReel_107 : decode cX5_describeReel 107 = .ok (.iload_n 1, 1) := by decide +kernel
theorem dX5_describeReel_108 : decode cX5_describeReel 108 = .ok (.iload_n 2, 1) := by decide +kernel
theorem dX5_describeReel_109 : decode cX5_describeReel 109 = .ok (.iconst 1, 1) := by decide +kernel
theorem dX5_describeReel_110 : decode cX5_describeReel 110 = .ok (.invokevirtual 75, 3) := by decide +kernel
theorem dX5_describeReel_113 : decode cX5_describeReel 113 = .ok (.iadd, 1) := by decide +kernel
theorem dX5_describeReel_114 : decode cX5_describeReel 114 = .ok (.invokevirtual 251, 3) := by decide +kernel
theorem dX5_describeReel_117 : decode cX5_describeReel 117 = .ok (.iinc 2 1, 3) := by decide +kernel
theorem dX5_describeReel_120 : decode cX5_describeReel 120 = .ok (.goto (-88), 3) := by decide +kernel
theorem dX5_describeReel_123 : decode cX5_describeReel 123 = .ok (.aload_n 0, 1) := by decide +kernel
theorem dX5_describeReel_124 : decode cX5_describeReel 124 = .ok (.getfield 248, 3) := by decide +kernel
theorem dX5_describeReel_127 : decode cX5_describeReel 127 = .ok (.ireturn, 1) := by decide +kernel
theorem dX5_lineAt_0 : decode cX5_lineAt 0 = .ok (.aload_n 0, 1) := by decide +kernel
theorem dX5_lineAt_1 : decode cX5_lineAt 1 = .ok (.iload_n 1, 1) := by decide +kernel
theorem dX5_lineAt_2 : decode cX5_lineAt 2 = .ok (.iconst 0, 1) := by decide +kernel
theorem dX5_lineAt_3 : decode cX5_lineAt 3 = .ok (.aload_n 0, 1) := by decide +kernel
theorem dX5_lineAt_4 : decode cX5_lineAt 4 = .ok (.getfield 248, 3) := by decide +kernel
theorem dX5_lineAt_7 : decode cX5_lineAt 7 = .ok (.iconst 1, 1) := by decide +kernel
theorem dX5_lineAt_8 : decode cX5_lineAt 8 = .ok (.isub, 1) := by decide +kernel
theorem dX5_lineAt_9 : decode cX5_lineAt 9 = .ok (.invokestatic 54, 3) := by decide +kernel
theorem dX5_lineAt_12 : decode cX5_lineAt 12 = .ok (.ifCond .eq 7, 3) := by decide +kernel
theorem dX5_lineAt_15 : decode cX5_lineAt 15 = .ok (.iconst 0, 1) := by decide +kernel
theorem dX5_lineAt_16 : decode cX5_lineAt 16 = .ok (.goto 4, 3) := by decide +kernel
theorem dX5_lineAt_19 : decode cX5_lineAt 19 = .ok (.iconst 1, 1) := by decide +kernel
theorem dX5_lineAt_20 : decode cX5_lineAt 20 = .ok (.putfield 38, 3) := by decide +kernel
theorem dX5_lineAt_23 : decode cX5_lineAt 23 = .ok (.aload_n 0, 1) := by decide +kernel
theorem dX5_lineAt_24 : decode cX5_lineAt 24 = .ok (.getfield 38, 3) := by decide +kernel
theorem dX5_lineAt_27 : decode cX5_lineAt 27 = .ok (.ifCond .le 7, 3) := by decide +kernel
theorem dX5_lineAt_30 : decode cX5_lineAt 30 = .ok (.iconst 0, 1) := by decide +kernel
theorem dX5_lineAt_31 : decode cX5_lineAt 31 = .ok (.goto 10, 3) := by decide +kernel
theorem dX5_lineAt_34 : decode cX5_lineAt 34 = .ok (.aload_n 0, 1) := by decide +kernel
theorem dX5_lineAt_35 : decode cX5_lineAt 35 = .ok (.getfield 28, 3) := by decide +kernel
theorem dX5_lineAt_38 : decode cX5_lineAt 38 = .ok (.iload_n 1, 1) := by decide +kernel
theorem dX5_lineAt_39 : decode cX5_lineAt 39 = .ok (.iaload, 1) := by decide +kernel
theorem dX5_lineAt_40 : decode cX5_lineAt 40 = .ok (.i2c, 1) := by decide +kernel
theorem dX5_lineAt_41 : decode cX5_lineAt 41 = .ok (.ireturn, 1) := by decide +kernel
theorem dX5_meanLength_0 : decode cX5_meanLength 0 = .ok (.aload_n 0, 1) := by decide +kernel
theorem dX5_meanLength_1 : decode cX5_meanLength 1 = .ok (.iload_n 1, 1) := by decide +kernel
theorem dX5_meanLength_2 : decode cX5_meanLength 2 = .ok (.invokestatic 58, 3) := by decide +kernel
theorem dX5_meanLength_5 : decode cX5_meanLength 5 = .ok (.ifCond .ne 7, 3) := by decide +kernel
theorem dX5_meanLength_8 : decode cX5_meanLength 8 = .ok (.iconst 1, 1) := by decide +kernel
theorem dX5_meanLength_9 : decode cX5_meanLength 9 = .ok (.goto 16, 3) := by decide +kernel
theorem dX5_meanLength_12 : decode cX5_meanLength 12 = .ok (.aload_n 0, 1) := by decide +kernel
theorem dX5_meanLength_13 : decode cX5_meanLength 13 = .ok (.iload_n 1, 1) := by decide +kernel
theorem dX5_meanLength_14 : decode cX5_meanLength 14 = .ok (.invokevirtual 62, 3) := by decide +kernel
theorem dX5_meanLength_17 : decode cX5_meanLength 17 = .ok (.ifCond .ne 7, 3) := by decide +kernel
theorem dX5_meanLength_20 : decode cX5_meanLength 20 = .ok (.iconst 2, 1) := by decide +kernel
theorem dX5_meanLength_21 : decode cX5_meanLength 21 = .ok (.goto 4, 3) := by decide +kernel
theorem dX5_meanLength_24 : decode cX5_meanLength 24 = .ok (.iconst 0, 1) := by decide +kernel
theorem dX5_meanLength_25 : decode cX5_meanLength 25 = .ok (.putfield 38, 3) := by decide +kernel
theorem dX5_meanLength_28 : decode cX5_meanLength 28 = .ok (.aload_n 0, 1) := by decide +kernel
theorem dX5_meanLength_29 : decode cX5_meanLength 29 = .ok (.getfield 38, 3) := by decide +kernel
theorem dX5_meanLength_32 : decode cX5_meanLength 32 = .ok (.ifCond .le 7, 3) := by decide +kernel
theorem dX5_meanLength_35 : decode cX5_meanLength 35 = .ok (.dconst 0, 1) := by decide +kernel
theorem dX5_meanLength_36 : decode cX5_meanLength 36 = .ok (.goto 16, 3) := by decide +kernel
theorem dX5_meanLength_39 : decode cX5_meanLength 39 = .ok (.aload_n 0, 1) := by decide +kernel
theorem dX5_meanLength_40 : decode cX5_meanLength 40 = .ok (.iload_n 1, 1) := by decide +kernel
theorem dX5_meanLength_41 : decode cX5_meanLength 41 = .ok (.invokevirtual 134, 3) := by decide +kernel
theorem dX5_meanLength_44 : decode cX5_meanLength 44 = .ok (.i2d, 1) := by decide +kernel
theorem dX5_meanLength_45 : decode cX5_meanLength 45 = .ok (.aload_n 0, 1) := by decide +kernel
theorem dX5_meanLength_46 : decode cX5_meanLength 46 = .ok (.iload_n 1, 1) := by decide +kernel
theorem dX5_meanLength_47 : decode cX5_meanLength 47 = .ok (.invokevirtual 62, 3) := by decide +kernel
theorem dX5_meanLength_50 : decode cX5_meanLength 50 = .ok (.i2d, 1) := by decide +kernel
theorem dX5_meanLength_51 : decode cX5_meanLength 51 = .ok (.ddiv, 1) := by decide +kernel
theorem dX5_meanLength_52 : decode cX5_meanLength 52 = .ok (.dreturn, 1) := by decide +kernel
theorem dX5_colourShare_0 : decode cX5_colourShare 0 = .ok (.aload_n 0, 1) := by decide +kernel
theorem dX5_colourShare_1 : decode cX5_colourShare 1 = .ok (.iload_n 1, 1) := by decide +kernel
theorem dX5_colourShare_2 : decode cX5_colourShare 2 = .ok (.invokestatic 58, 3) := by decide +kernel
theorem dX5_colourShare_5 : decode cX5_colourShare 5 = .ok (.ifCond .ne 7, 3) := by decide +kernel
theorem dX5_colourShare_8 : decode cX5_colourShare 8 = .ok (.iconst 1, 1) := by decide +kernel
theorem dX5_colourShare_9 : decode cX5_colourShare 9 = .ok (.goto 27, 3) := by decide +kernel
theorem dX5_colourShare_12 : decode cX5_colourShare 12 = .ok (.iload_n 2, 1) := by decide +kernel
theorem dX5_colourShare_13 : decode cX5_colourShare 13 = .ok (.invokestatic 72, 3) := by decide +kernel
theorem dX5_colourShare_16 : decode cX5_colourShare 16 = .ok (.ifCond .ne 7, 3) := by decide +kernel
theorem dX5_colourShare_19 : decode cX5_colourShare 19 = .ok (.iconst 2, 1) := by decide +kernel
theorem dX5_colourShare_20 : decode cX5_colourShare 20 = .ok (.goto 16, 3) := by decide +kernel
theorem dX5_colourShare_23 : decode cX5_colourShare 23 = .ok (.aload_n 0, 1) := by decide +kernel
theorem dX5_colourShare_24 : decode cX5_colourShare 24 = .ok (.iload_n 1, 1) := by decide +kernel
theorem dX5_colourShare_25 : decode cX5_colourShare 25 = .ok (.invokevirtual 62, 3) := by decide +kernel
theorem dX5_colourShare_28 : decode cX5_colourShare 28 = .ok (.ifCond .ne 7, 3) := by decide +kernel
theorem dX5_colourShare_31 : decode cX5_colourShare 31 = .ok (.iconst 3, 1) := by decide +kernel
theorem dX5_colourShare_32 : decode cX5_colourShare 32 = .ok (.goto 4, 3) := by decide +kernel
theorem dX5_colourShare_35 : decode cX5_colourShare 35 = .ok (.iconst 0, 1) := by decide +kernel
theorem dX5_colourShare_36 : decode cX5_colourShare 36 = .ok (.putfield 38, 3) := by decide +kernel
theorem dX5_colourShare_39 : decode cX5_colourShare 39 = .ok (.aload_n 0, 1) := by decide +kernel
theorem dX5_colourShare_40 : decode cX5_colourShare 40 = .ok (.getfield 38, 3) := by decide +kernel
theorem dX5_colourShare_43 : decode cX5_colourShare 43 = .ok (.ifCond .le 7, 3) := by decide +kernel
theorem dX5_colourShare_46 : decode cX5_colourShare 46 = .ok (.fconst 0, 1) := by decide +kernel
theorem dX5_colourShare_47 : decode cX5_colourShare 47 = .ok (.goto 17, 3) := by decide +kernel
theorem dX5_colourShare_50 : decode cX5_colourShare 50 = .ok (.aload_n 0, 1) := by decide +kernel
theorem dX5_colourShare_51 : decode cX5_colourShare 51 = .ok (.iload_n 1, 1) := by decide +kernel
theorem dX5_colourShare_52 : decode cX5_colourShare 52 = .ok (.iload_n 2, 1) := by decide +kernel
theorem dX5_colourShare_53 : decode cX5_colourShare 53 = .ok (.invokevirtual 149, 3) := by decide +kernel
theorem dX5_colourShare_56 : decode cX5_colourShare 56 = .ok (.i2f, 1) := by decide +kernel
theorem dX5_colourShare_57 : decode cX5_colourShare 57 = .ok (.aload_n 0, 1) := by decide +kernel
theorem dX5_colourShare_58 : decode cX5_colourShare 58 = .ok (.iload_n 1, 1) := by decide +kernel
theorem dX5_colourShare_59 : decode cX5_colourShare 59 = .ok (.invokevirtual 134, 3) := by decide +kernel
theorem dX5_colourShare_62 : decode cX5_colourShare 62 = .ok (.i2f, 1) := by decide +kernel
theorem dX5_colourShare_63 : decode cX5_colourShare 63 = .ok (.fdiv, 1) := by decide +kernel
theorem dX5_colourShare_64 : decode cX5_colourShare 64 = .ok (.freturn, 1) := by decide +kernel
theorem dX5_isConsistent_0 : decode cX5_isConsistent 0 = .ok (.aload_n 0, 1) := by decide +kernel
theorem dX5_isConsistent_1 : decode cX5_isConsistent 1 = .ok (.iconst 0, 1) := by decide +kernel
theorem dX5_isConsistent_2 : decode cX5_isConsistent 2 = .ok (.putfield 38, 3) := by decide +kernel
theorem dX5_isConsistent_5 : decode cX5_isConsistent 5 = .ok (.iconst 1, 1) := by decide +kernel
theorem dX5_isConsistent_6 : decode cX5_isConsistent 6 = .ok (.ireturn, 1) := by decide +kernel
theorem dX5_segments_0 : decode cX5_segments 0 = .ok (.aload_n 0, 1) := by decide +kernel
theorem dX5_segments_1 : decode cX5_segments 1 = .ok (.iconst 0, 1) := by decide +kernel
theorem dX5_segments_2 : decode cX5_segments 2 = .ok (.invokevirtual 62, 3) := by decide +kernel
theorem dX5_segments_5 : decode cX5_segments 5 = .ok (.aload_n 0, 1) := by decide +kernel
theorem dX5_segments_6 : decode cX5_segments 6 = .ok (.iconst 1, 1) := by decide +kernel
theorem dX5_segments_7 : decode cX5_segments 7 = .ok (.invokevirtual 62, 3) := by decide +kernel
theorem dX5_segments_10 : decode cX5_segments 10 = .ok (.iadd, 1) := by decide +kernel
theorem dX5_segments_11 : decode cX5_segments 11 = .ok (.aload_n 0, 1) := by decide +kernel
theorem dX5_segments_12 : decode cX5_segments 12 = .ok (.iconst 2, 1) := by decide +kernel
theorem dX5_segments_13 : decode cX5_segments 13 = .ok (.invokevirtual 62, 3) := by decide +kernel
theorem dX5_segments_16 : decode cX5_segments 16 = .ok (.iadd, 1) := by decide +kernel
theorem dX5_segments_17 : decode cX5_segments 17 = .ok (.aload_n 0, 1) := by decide +kernel
theorem dX5_segments_18 : decode cX5_segments 18 = .ok (.iconst 3, 1) := by decide +kernel
theorem dX5_segments_19 : decode cX5_segments 19 = .ok (.invokevirtual 62, 3) := by decide +kernel
theorem dX5_segments_22 : decode cX5_segments 22 = .ok (.iadd, 1) := by decide +kernel
theorem dX5_segments_23 : decode cX5_segments 23 = .ok (.ireturn, 1) := by decide +kernel
theorem dX5_undo_0 : decode cX5_undo 0 = .ok (.aload_n 0, 1) := by decide +kernel
theorem dX5_undo_1 : decode cX5_undo 1 = .ok (.iconst 0, 1) := by decide +kernel
theorem dX5_undo_2 : decode cX5_undo 2 = .ok (.putfield 38, 3) := by decide +kernel
theorem dX5_undo_5 : decode cX5_undo 5 = .ok (.aload_n 0, 1) := by decide +kernel
theorem dX5_undo_6 : decode cX5_undo 6 = .ok (.getfield 41, 3) := by decide +kernel
theorem dX5_undo_9 : decode cX5_undo 9 = .ok (.ifCond .ne 9, 3) := by decide +kernel
theorem dX5_undo_12 : decode cX5_undo 12 = .ok (.aload_n 0, 1) := by decide +kernel
theorem dX5_undo_13 : decode cX5_undo 13 = .ok (.iconst 1, 1) := by decide +kernel
theorem dX5_undo_14 : decode cX5_undo 14 = .ok (.invokevirtual 51, 3) := by decide +kernel
theorem dX5_undo_17 : decode cX5_undo 17 = .ok (.ireturn, 1) := by decide +kernel
theorem dX5_undo_18 : decode cX5_undo 18 = .ok (.aload_n 0, 1) := by decide +kernel
theorem dX5_undo_19 : decode cX5_undo 19 = .ok (.dup, 1) := by decide +kernel
theorem dX5_undo_20 : decode cX5_undo 20 = .ok (.getfield 41, 3) := by decide +kernel
theorem dX5_undo_23 : decode cX5_undo 23 = .ok (.iconst 1, 1) := by decide +kernel
theorem dX5_undo_24 : decode cX5_undo 24 = .ok (.isub, 1) := by decide +kernel
theorem dX5_undo_25 : decode cX5_undo 25 = .ok (.putfield 41, 3) := by decide +kernel
theorem dX5_undo_28 : decode cX5_undo 28 = .ok (.iconst 0, 1) := by decide +kernel
theorem dX5_undo_29 : decode cX5_undo 29 = .ok (.istore_n 1, 1) := by decide +kernel
theorem dX5_undo_30 : decode cX5_undo 30 = .ok (.iload_n 1, 1) := by decide +kernel
theorem dX5_undo_31 : decode cX5_undo 31 = .ok (.sipush 486, 3) := by decide +kernel
theorem dX5_undo_34 : decode cX5_undo 34 = .ok (.if_icmp .ge 30, 3) := by decide +kernel
theorem dX5_undo_37 : decode cX5_undo 37 = .ok (.aload_n 0, 1) := by decide +kernel
theorem dX5_undo_38 : decode cX5_undo 38 = .ok (.getfield 7, 3) := by decide +kernel
theorem dX5_undo_41 : decode cX5_undo 41 = .ok (.iload_n 1, 1) := by decide +kernel
theorem dX5_undo_42 : decode cX5_undo 42 = .ok (.aload_n 0, 1) := by decide +kernel
theorem dX5_undo_43 : decode cX5_undo 43 = .ok (.getfield 19, 3) := by decide +kernel
theorem dX5_undo_46 : decode cX5_undo 46 = .ok (.sipush 486, 3) := by decide +kernel
theorem dX5_undo_49 : decode cX5_undo 49 = .ok (.aload_n 0, 1) := by decide +kernel
theorem dX5_undo_50 : decode cX5_undo 50 = .ok (.getfield 41, 3) := by decide +kernel
theorem dX5_undo_53 : decode cX5_undo 53 = .ok (.imul, 1) := by decide +kernel
theorem dX5_undo_54 : decode cX5_undo 54 = .ok (.iload_n 1, 1) := by decide +kernel
theorem dX5_undo_55 : decode cX5_undo 55 = .ok (.iadd, 1) := by decide +kernel
theorem dX5_undo_56 : decode cX5_undo 56 = .ok (.iaload, 1) := by decide +kernel
theorem dX5_undo_57 : decode cX5_undo 57 = .ok (.iastore, 1) := by decide +kernel
theorem dX5_undo_58 : decode cX5_undo 58 = .ok (.iinc 1 1, 3) := by decide +kernel
theorem dX5_undo_61 : decode cX5_undo 61 = .ok (.goto (-31), 3) := by decide +kernel
theorem dX5_undo_64 : decode cX5_undo 64 = .ok (.aload_n 0, 1) := by decide +kernel
theorem dX5_undo_65 : decode cX5_undo 65 = .ok (.getfield 41, 3) := by decide +kernel
theorem dX5_undo_68 : decode cX5_undo 68 = .ok (.ireturn, 1) := by decide +kernel
theorem dX5_save_0 : decode cX5_save 0 = .ok (.aload_n 0, 1) := by decide +kernel
theorem dX5_save_1 : decode cX5_save 1 = .ok (.iconst 0, 1) := by decide +kernel
theorem dX5_save_2 : decode cX5_save 2 = .ok (.putfield 38, 3) := by decide +kernel
theorem dX5_save_5 : decode cX5_save 5 = .ok (.iconst 0, 1) := by decide +kernel
theorem dX5_save_6 : decode cX5_save 6 = .ok (.istore_n 1, 1) := by decide +kernel
theorem dX5_save_7 : decode cX5_save 7 = .ok (.iload_n 1, 1) := by decide +kernel
theorem dX5_save_8 : decode cX5_save 8 = .ok (.sipush 486, 3) := by decide +kernel
theorem dX5_save_11 : decode cX5_save 11 = .ok (.if_icmp .ge 21, 3) := by decide +kernel
theorem dX5_save_14 : decode cX5_save 14 = .ok (.aload_n 0, 1) := by decide +kernel
theorem dX5_save_15 : decode cX5_save 15 = .ok (.getfield 16, 3) := by decide +kernel
theorem dX5_save_18 : decode cX5_save 18 = .ok (.iload_n 1, 1) := by decide +kernel
theorem dX5_save_19 : decode cX5_save 19 = .ok (.aload_n 0, 1) := by decide +kernel
theorem dX5_save_20 : decode cX5_save 20 = .ok (.getfield 7, 3) := by decide +kernel
theorem dX5_save_23 : decode cX5_save 23 = .ok (.iload_n 1, 1) := by decide +kernel
theorem dX5_save_24 : decode cX5_save 24 = .ok (.iaload, 1) := by decide +kernel
theorem dX5_save_25 : decode cX5_save 25 = .ok (.iastore, 1) := by decide +kernel
theorem dX5_save_26 : decode cX5_save 26 = .ok (.iinc 1 1, 3) := by decide +kernel
theorem dX5_save_29 : decode cX5_save 29 = .ok (.goto (-22), 3) := by decide +kernel
theorem dX5_save_32 : decode cX5_save 32 = .ok (.aload_n 0, 1) := by decide +kernel
theorem dX5_save_33 : decode cX5_save 33 = .ok (.iconst 1, 1) := by decide +kernel
theorem dX5_save_34 : decode cX5_save 34 = .ok (.putfield 254, 3) := by decide +kernel
theorem dX5_save_37 : decode cX5_save 37 = .ok (.aload_n 0, 1) := by decide +kernel
theorem dX5_save_38 : decode cX5_save 38 = .ok (.invokevirtual 257, 3) := by decide +kernel
theorem dX5_save_41 : decode cX5_save 41 = .ok (.ireturn, 1) := by decide +kernel
theorem dX5_restore_0 : decode cX5_restore 0 = .ok (.aload_n 0, 1) := by decide +kernel
theorem dX5_restore_1 : decode cX5_restore 1 = .ok (.iconst 0, 1) := by decide +kernel
theorem dX5_restore_2 : decode cX5_restore 2 = .ok (.putfield 38, 3) := by decide +kernel
theorem dX5_restore_5 : decode cX5_restore 5 = .ok (.aload_n 0, 1) := by decide +kernel
theorem dX5_restore_6 : decode cX5_restore 6 = .ok (.getfield 254, 3) := by decide +kernel
theorem dX5_restore_9 : decode cX5_restore 9 = .ok (.ifCond .ne 9, 3) := by decide +kernel
theorem dX5_restore_12 : decode cX5_restore 12 = .ok (.aload_n 0, 1) := by decide +kernel
theorem dX5_restore_13 : decode cX5_restore 13 = .ok (.iconst 1, 1) := by decide +kernel
theorem dX5_restore_14 : decode cX5_restore 14 = .ok (.invokevirtual 51, 3) := by decide +kernel
theorem dX5_restore_17 : decode cX5_restore 17 = .ok (.ireturn, 1) := by decide +kernel
theorem dX5_restore_18 : decode cX5_restore 18 = .ok (.iconst 0, 1) := by decide +kernel
theorem dX5_restore_19 : decode cX5_restore 19 = .ok (.istore_n 1, 1) := by decide +kernel
theorem dX5_restore_20 : decode cX5_restore 20 = .ok (.iload_n 1, 1) := by decide +kernel
theorem dX5_restore_21 : decode cX5_restore 21 = .ok (.sipush 486, 3) := by decide +kernel
theorem dX5_restore_24 : decode cX5_restore 24 = .ok (.if_icmp .ge 21, 3) := by decide +kernel
theorem dX5_restore_27 : decode cX5_restore 27 = .ok (.aload_n 0, 1) := by decide +kernel
theorem dX5_restore_28 : decode cX5_restore 28 = .ok (.getfield 7, 3) := by decide +kernel
theorem dX5_restore_31 : decode cX5_restore 31 = .ok (.iload_n 1, 1) := by decide +kernel
theorem dX5_restore_32 : decode cX5_restore 32 = .ok (.aload_n 0, 1) := by decide +kernel
theorem dX5_restore_33 : decode cX5_restore 33 = .ok (.getfield 16, 3) := by decide +kernel
theorem dX5_restore_36 : decode cX5_restore 36 = .ok (.iload_n 1, 1) := by decide +kernel
theorem dX5_restore_37 : decode cX5_restore 37 = .ok (.iaload, 1) := by decide +kernel
theorem dX5_restore_38 : decode cX5_restore 38 = .ok (.iastore, 1) := by decide +kernel
theorem dX5_restore_39 : decode cX5_restore 39 = .ok (.iinc 1 1, 3) := by decide +kernel
theorem dX5_restore_42 : decode cX5_restore 42 = .ok (.goto (-22), 3) := by decide +kernel
theorem dX5_restore_45 : decode cX5_restore 45 = .ok (.aload_n 0, 1) := by decide +kernel
theorem dX5_restore_46 : decode cX5_restore 46 = .ok (.iconst 0, 1) := by decide +kernel
theorem dX5_restore_47 : decode cX5_restore 47 = .ok (.putfield 41, 3) := by decide +kernel
theorem dX5_restore_50 : decode cX5_restore 50 = .ok (.aload_n 0, 1) := by decide +kernel
theorem dX5_restore_51 : decode cX5_restore 51 = .ok (.invokevirtual 257, 3) := by decide +kernel
theorem dX5_restore_54 : decode cX5_restore 54 = .ok (.ireturn, 1) := by decide +kernel

theorem dX0_init_0 : decode cX0_init 0 = .ok (.aload_n 0, 1) := by decide +kernel
theorem dX0_init_1 : decode cX0_init 1 = .ok (.invokespecial 3, 3) := by decide +kernel
theorem dX0_init_4 : decode cX0_init 4 = .ok (.aload_n 0, 1) := by decide +kernel
theorem dX0_init_5 : decode cX0_init 5 = .ok (.bipush 60, 2) := by decide +kernel
theorem dX0_init_7 : decode cX0_init 7 = .ok (.newarray .char, 2) := by decide +kernel
theorem dX0_init_9 : decode cX0_init 9 = .ok (.putfield 9, 3) := by decide +kernel
theorem dX0_init_12 : decode cX0_init 12 = .ok (.aload_n 0, 1) := by decide +kernel
theorem dX0_init_13 : decode cX0_init 13 = .ok (.iconst 0, 1) := by decide +kernel
theorem dX0_init_14 : decode cX0_init 14 = .ok (.putfield 15, 3) := by decide +kernel
theorem dX0_init_17 : decode cX0_init 17 = .ok (.aload_n 0, 1) := by decide +kernel
theorem dX0_init_18 : decode cX0_init 18 = .ok (.iconst 0, 1) := by decide +kernel
theorem dX0_init_19 : decode cX0_init 19 = .ok (.putfield 19, 3) := by decide +kernel
theorem dX0_init_22 : decode cX0_init 22 = .ok (.aload_n 0, 1) := by decide +kernel
theorem dX0_init_23 : decode cX0_init 23 = .ok (.bipush 8, 2) := by decide +kernel
theorem dX0_init_25 : decode cX0_init 25 = .ok (.newarray .int, 2) := by decide +kernel
theorem dX0_init_27 : decode cX0_init 27 = .ok (.putfield 22, 3) := by decide +kernel
theorem dX0_init_30 : decode cX0_init 30 = .ok (.aload_n 0, 1) := by decide +kernel
theorem dX0_init_31 : decode cX0_init 31 = .ok (.bipush 32, 2) := by decide +kernel
theorem dX0_init_33 : decode cX0_init 33 = .ok (.newarray .int, 2) := by decide +kernel
theorem dX0_init_35 : decode cX0_init 35 = .ok (.putfield 26, 3) := by decide +kernel
theorem dX0_init_38 : decode cX0_init 38 = .ok (.aload_n 0, 1) := by decide +kernel
theorem dX0_init_39 : decode cX0_init 39 = .ok (.iconst 0, 1) := by decide +kernel
theorem dX0_init_40 : decode cX0_init 40 = .ok (.putfield 29, 3) := by decide +kernel
theorem dX0_init_43 : decode cX0_init 43 = .ok (.aload_n 0, 1) := by decide +kernel
theorem dX0_init_44 : decode cX0_init 44 = .ok (.iconst 0, 1) := by decide +kernel
theorem dX0_init_45 : decode cX0_init 45 = .ok (.putfield 32, 3) := by decide +kernel
theorem dX0_init_48 : decode cX0_init 48 = .ok (.return_, 1) := by decide +kernel
theorem dX0_isFull_0 : decode cX0_isFull 0 = .ok (.aload_n 0, 1) := by decide +kernel
theorem dX0_isFull_1 : decode cX0_isFull 1 = .ok (.getfield 15, 3) := by decide +kernel
theorem dX0_isFull_4 : decode cX0_isFull 4 = .ok (.aload_n 0, 1) := by decide +kernel
theorem dX0_isFull_5 : decode cX0_isFull 5 = .ok (.getfield 9, 3) := by decide +kernel
theorem dX0_isFull_8 : decode cX0_isFull 8 = .ok (.arraylength, 1) := by decide +kernel
theorem dX0_isFull_9 : decode cX0_isFull 9 = .ok (.if_icmp .lt 7, 3) := by decide +kernel
theorem dX0_isFull_12 : decode cX0_isFull 12 = .ok (.iconst 1, 1) := by decide +kernel
theorem dX0_isFull_13 : decode cX0_isFull 13 = .ok (.goto 4, 3) := by decide +kernel
theorem dX0_isFull_16 : decode cX0_isFull 16 = .ok (.iconst 0, 1) := by decide +kernel
theorem dX0_isFull_17 : decode cX0_isFull 17 = .ok (.ireturn, 1) := by decide +kernel
theorem dX0_addCharacter_0 : decode cX0_addCharacter 0 = .ok (.aload_n 0, 1) := by decide +kernel
theorem dX0_addCharacter_1 : decode cX0_addCharacter 1 = .ok (.getfield 15, 3) := by decide +kernel
theorem dX0_addCharacter_4 : decode cX0_addCharacter 4 = .ok (.ifCond .lt 35, 3) := by decide +kernel
theorem dX0_addCharacter_7 : decode cX0_addCharacter 7 = .ok (.aload_n 0, 1) := by decide +kernel
theorem dX0_addCharacter_8 : decode cX0_addCharacter 8 = .ok (.getfield 15, 3) := by decide +kernel
theorem dX0_addCharacter_11 : decode cX0_addCharacter 11 = .ok (.aload_n 0, 1) := by decide +kernel
theorem dX0_addCharacter_12 : decode cX0_addCharacter 12 = .ok (.getfield 9, 3) := by decide +kernel
theorem dX0_addCharacter_15 : decode cX0_addCharacter 15 = .ok (.arraylength, 1) := by decide +kernel
theorem dX0_addCharacter_16 : decode cX0_addCharacter 16 = .ok (.if_icmp .ge 23, 3) := by decide +kernel
theorem dX0_addCharacter_19 : decode cX0_addCharacter 19 = .ok (.aload_n 0, 1) := by decide +kernel
theorem dX0_addCharacter_20 : decode cX0_addCharacter 20 = .ok (.getfield 9, 3) := by decide +kernel
theorem dX0_addCharacter_23 : decode cX0_addCharacter 23 = .ok (.aload_n 0, 1) := by decide +kernel
theorem dX0_addCharacter_24 : decode cX0_addCharacter 24 = .ok (.getfield 15, 3) := by decide +kernel
theorem dX0_addCharacter_27 : decode cX0_addCharacter 27 = .ok (.iload_n 1, 1) := by decide +kernel
theorem dX0_addCharacter_28 : decode cX0_addCharacter 28 = .ok (.castore, 1) := by decide +kernel
theorem dX0_addCharacter_29 : decode cX0_addCharacter 29 = .ok (.aload_n 0, 1) := by decide +kernel
theorem dX0_addCharacter_30 : decode cX0_addCharacter 30 = .ok (.dup, 1) := by decide +kernel
theorem dX0_addCharacter_31 : decode cX0_addCharacter 31 = .ok (.getfield 15, 3) := by decide +kernel
theorem dX0_addCharacter_34 : decode cX0_addCharacter 34 = .ok (.iconst 1, 1) := by decide +kernel
theorem dX0_addCharacter_35 : decode cX0_addCharacter 35 = .ok (.iadd, 1) := by decide +kernel
theorem dX0_addCharacter_36 : decode cX0_addCharacter 36 = .ok (.putfield 15, 3) := by decide +kernel
theorem dX0_addCharacter_39 : decode cX0_addCharacter 39 = .ok (.aload_n 0, 1) := by decide +kernel
theorem dX0_addCharacter_40 : decode cX0_addCharacter 40 = .ok (.getfield 15, 3) := by decide +kernel
theorem dX0_addCharacter_43 : decode cX0_addCharacter 43 = .ok (.ireturn, 1) := by decide +kernel
theorem dX0_clearText_0 : decode cX0_clearText 0 = .ok (.aload_n 0, 1) := by decide +kernel
theorem dX0_clearText_1 : decode cX0_clearText 1 = .ok (.iconst 0, 1) := by decide +kernel
theorem dX0_clearText_2 : decode cX0_clearText 2 = .ok (.putfield 15, 3) := by decide +kernel
theorem dX0_clearText_5 : decode cX0_clearText 5 = .ok (.return_, 1) := by decide +kernel
theorem dX0_commandCount_0 : decode cX0_commandCount 0 = .ok (.aload_n 0, 1) := by decide +kernel
theorem dX0_commandCount_1 : decode cX0_commandCount 1 = .ok (.getfield 29, 3) := by decide +kernel
theorem dX0_commandCount_4 : decode cX0_commandCount 4 = .ok (.ireturn, 1) := by decide +kernel
theorem dX0_kindOf_0 : decode cX0_kindOf 0 = .ok (.iload_n 1, 1) := by decide +kernel
theorem dX0_kindOf_1 : decode cX0_kindOf 1 = .ok (.ifCond .lt 21, 3) := by decide +kernel
theorem dX0_kindOf_4 : decode cX0_kindOf 4 = .ok (.iload_n 1, 1) := by decide +kernel
theorem dX0_kindOf_5 : decode cX0_kindOf 5 = .ok (.aload_n 0, 1) := by decide +kernel
theorem dX0_kindOf_6 : decode cX0_kindOf 6 = .ok (.getfield 22, 3) := by decide +kernel
theorem dX0_kindOf_9 : decode cX0_kindOf 9 = .ok (.arraylength, 1) := by decide +kernel
theorem dX0_kindOf_10 : decode cX0_kindOf 10 = .ok (.if_icmp .ge 12, 3) := by decide +kernel
theorem dX0_kindOf_13 : decode cX0_kindOf 13 = .ok (.aload_n 0, 1) := by decide +kernel
theorem dX0_kindOf_14 : decode cX0_kindOf 14 = .ok (.getfield 22, 3) := by decide +kernel
theorem dX0_kindOf_17 : decode cX0_kindOf 17 = .ok (.iload_n 1, 1) := by decide +kernel
theorem dX0_kindOf_18 : decode cX0_kindOf 18 = .ok (.iaload, 1) := by decide +kernel
theorem dX0_kindOf_19 : decode cX0_kindOf 19 = .ok (.goto 4, 3) := by decide +kernel
theorem dX0_kindOf_22 : decode cX0_kindOf 22 = .ok (.iconst (-1), 1) := by decide +kernel
theorem dX0_kindOf_23 : decode cX0_kindOf 23 = .ok (.ireturn, 1) := by decide +kernel
theorem dX0_parameterOf_0 : decode cX0_parameterOf 0 = .ok (.iload_n 1, 1) := by decide +kernel
theorem dX0_parameterOf_1 : decode cX0_parameterOf 1 = .ok (.iconst 4, 1) := by decide +kernel
theorem dX0_parameterOf_2 : decode cX0_parameterOf 2 = .ok (.imul, 1) := by decide +kernel
theorem dX0_parameterOf_3 : decode cX0_parameterOf 3 = .ok (.iload_n 2, 1) := by decide +kernel
theorem dX0_parameterOf_4 : decode cX0_parameterOf 4 = .ok (.iadd, 1) := by decide +kernel
theorem dX0_parameterOf_5 : decode cX0_parameterOf 5 = .ok (.istore_n 3, 1) := by decide +kernel
theorem dX0_parameterOf_6 : decode cX0_parameterOf 6 = .ok (.iload_n 3, 1) := by decide +kernel
theorem dX0_parameterOf_7 : decode cX0_parameterOf 7 = .ok (.ifCond .lt 21, 3) := by decide +kernel
theorem dX0_parameterOf_10 : decode cX0_parameterOf 10 = .ok (.iload_n 3, 1) := by decide +kernel
theorem dX0_parameterOf_11 : decode cX0_parameterOf 11 = .ok (.aload_n 0, 1) := by decide +kernel
theorem dX0_parameterOf_12 : decode cX0_parameterOf 12 = .ok (.getfield 26, 3) := by decide +kernel
theorem dX0_parameterOf_15 : decode cX0_parameterOf 15 = .ok (.arraylength, 1) := by decide +kernel
theorem dX0_parameterOf_16 : decode cX0_parameterOf 16 = .ok (.if_icmp .ge 12, 3) := by decide +kernel
theorem dX0_parameterOf_19 : decode cX0_parameterOf 19 = .ok (.aload_n 0, 1) := by decide +kernel
theorem dX0_parameterOf_20 : decode cX0_parameterOf 20 = .ok (.getfield 26, 3) := by decide +kernel
theorem dX0_parameterOf_23 : decode cX0_parameterOf 23 = .ok (.iload_n 3, 1) := by decide +kernel
theorem dX0_parameterOf_24 : decode cX0_parameterOf 24 = .ok (.iaload, 1) := by decide +kernel
theorem dX0_parameterOf_25 : decode cX0_parameterOf 25 = .ok (.goto 4, 3) := by decide +kernel
theorem dX0_parameterOf_28 : decode cX0_parameterOf 28 = .ok (.iconst 0, 1) := by decide +kernel
theorem dX0_parameterOf_29 : decode cX0_parameterOf 29 = .ok (.ireturn, 1) := by decide +kernel
theorem dX0_parse_0 : decode cX0_parse 0 = .ok (.aload_n 0, 1) := by decide +kernel
theorem dX0_parse_1 : decode cX0_parse 1 = .ok (.iconst 0, 1) := by decide +kernel
theorem dX0_parse_2 : decode cX0_parse 2 = .ok (.putfield 19, 3) := by decide +kernel
theorem dX0_parse_5 : decode cX0_parse 5 = .ok (.aload_n 0, 1) := by decide +kernel
theorem dX0_parse_6 : decode cX0_parse 6 = .ok (.iconst 0, 1) := by decide +kernel
theorem dX0_parse_7 : decode cX0_parse 7 = .ok (.putfield 29, 3) := by decide +kernel
theorem dX0_parse_10 : decode cX0_parse 10 = .ok (.iconst 0, 1) := by decide +kernel
theorem dX0_parse_11 : decode cX0_parse 11 = .ok (.istore_n 1, 1) := by decide +kernel
theorem dX0_parse_12 : decode cX0_parse 12 = .ok (.iload_n 1, 1) := by decide +kernel
theorem dX0_parse_13 : decode cX0_parse 13 = .ok (.bipush 8, 2) := by decide +kernel
theorem dX0_parse_15 : decode cX0_parse 15 = .ok (.if_icmp .ge 48, 3) := by decide +kernel
theorem dX0_parse_18 : decode cX0_parse 18 = .ok (.aload_n 0, 1) := by decide +kernel
theorem dX0_parse_19 : decode cX0_parse 19 = .ok (.invokevirtual 35, 3) := by decide +kernel
theorem dX0_parse_22 : decode cX0_parse 22 = .ok (.ifCond .ne 8, 3) := by decide +kernel
theorem dX0_parse_25 : decode cX0_parse 25 = .ok (.aload_n 0, 1) := by decide +kernel
theorem dX0_parse_26 : decode cX0_parse 26 = .ok (.getfield 19, 3) := by decide +kernel
theorem dX0_parse_29 : decode cX0_parse 29 = .ok (.ireturn, 1) := by decide +kernel
theorem dX0_parse_30 : decode cX0_parse 30 = .ok (.aload_n 0, 1) := by decide +kernel
theorem dX0_parse_31 : decode cX0_parse 31 = .ok (.getfield 19, 3) := by decide +kernel
theorem dX0_parse_34 : decode cX0_parse 34 = .ok (.aload_n 0, 1) := by decide +kernel
theorem dX0_parse_35 : decode cX0_parse 35 = .ok (.getfield 15, 3) := by decide +kernel
theorem dX0_parse_38 : decode cX0_parse 38 = .ok (.if_icmp .ne 5, 3) := by decide +kernel
theorem dX0_parse_41 : decode cX0_parse 41 = .ok (.iconst (-1), 1) := by decide +kernel
theorem dX0_parse_42 : decode cX0_parse 42 = .ok (.ireturn, 1) := by decide +kernel
theorem dX0_parse_43 : decode cX0_parse 43 = .ok (.aload_n 0, 1) := by decide +kernel
theorem dX0_parse_44 : decode cX0_parse 44 = .ok (.bipush 59, 2) := by decide +kernel
theorem dX0_parse_46 : decode cX0_parse 46 = .ok (.invokevirtual 39, 3) := by decide +kernel
theorem dX0_parse_49 : decode cX0_parse 49 = .ok (.ifCond .ne 8, 3) := by decide +kernel
theorem dX0_parse_52 : decode cX0_parse 52 = .ok (.aload_n 0, 1) := by decide +kernel
theorem dX0_parse_53 : decode cX0_parse 53 = .ok (.getfield 19, 3) := by decide +kernel
theorem dX0_parse_56 : decode cX0_parse 56 = .ok (.ireturn, 1) := by decide +kernel
theorem dX0_parse_57 : decode cX0_parse 57 = .ok (.iinc 1 1, 3) := by decide +kernel
theorem dX0_parse_60 : decode cX0_parse 60 = .ok (.goto (-48), 3) := by decide +kernel
theorem dX0_parse_63 : decode cX0_parse 63 = .ok (.aload_n 0, 1) := by decide +kernel
theorem dX0_parse_64 : decode cX0_parse 64 = .ok (.getfield 19, 3) := by decide +kernel
theorem dX0_parse_67 : decode cX0_parse 67 = .ok (.ireturn, 1) := by decide +kernel
theorem dX0_readCommand_0 : decode cX0_readCommand 0 = .ok (.aload_n 0, 1) := by decide +kernel
theorem dX0_readCommand_1 : decode cX0_readCommand 1 = .ok (.invokevirtual 43, 3) := by decide +kernel
theorem dX0_readCommand_4 : decode cX0_readCommand 4 = .ok (.istore_n 1, 1) := by decide +kernel
theorem dX0_readCommand_5 : decode cX0_readCommand 5 = .ok (.iload_n 1, 1) := by decide +kernel
theorem dX0_readCommand_6 : decode cX0_readCommand 6 = .ok (.invokestatic 47, 3) := by decide +kernel
theorem dX0_readCommand_9 : decode cX0_readCommand 9 = .ok (.astore_n 2, 1) := by decide +kernel
theorem dX0_readCommand_10 : decode cX0_readCommand 10 = .ok (.aload_n 2, 1) := by decide +kernel
theorem dX0_readCommand_11 : decode cX0_readCommand 11 = .ok (.invokevirtual 51, 3) := by decide +kernel
theorem dX0_readCommand_14 : decode cX0_readCommand 14 = .ok (.ifCond .eq 5, 3) := by decide +kernel
theorem dX0_readCommand_17 : decode cX0_readCommand 17 = .ok (.iconst 0, 1) := by decide +kernel
theorem dX0_readCommand_18 : decode cX0_readCommand 18 = .ok (.ireturn, 1) := by decide +kernel
theorem dX0_readCommand_19 : decode cX0_readCommand 19 = .ok (.aload_n 0, 1) := by decide +kernel
theorem dX0_readCommand_20 : decode cX0_readCommand 20 = .ok (.iconst 0, 1) := by decide +kernel
theorem dX0_readCommand_21 : decode cX0_readCommand 21 = .ok (.putfield 32, 3) := by decide +kernel
theorem dX0_readCommand_24 : decode cX0_readCommand 24 = .ok (.iconst 0, 1) := by decide +kernel
theorem dX0_readCommand_25 : decode cX0_readCommand 25 = .ok (.istore_n 3, 1) := by decide +kernel
theorem dX0_readCommand_26 : decode cX0_readCommand 26 = .ok (.iload_n 3, 1) := by decide +kernel
theorem dX0_readCommand_27 : decode cX0_readCommand 27 = .ok (.aload_n 2, 1) := by decide +kernel
theorem dX0_readCommand_28 : decode cX0_readCommand 28 = .ok (.invokevirtual 56, 3) := by decide +kernel
theorem dX0_readCommand_31 : decode cX0_readCommand 31 = .ok (.if_icmp .ge 23, 3) := by decide +kernel
theorem dX0_readCommand_34 : decode cX0_readCommand 34 = .ok (.aload_n 0, 1) := by decide +kernel
theorem dX0_readCommand_35 : decode cX0_readCommand 35 = .ok (.aload_n 2, 1) := by decide +kernel
theorem dX0_readCommand_36 : decode cX0_readCommand 36 = .ok (.iload_n 3, 1) := by decide +kernel
theorem dX0_readCommand_37 : decode cX0_readCommand 37 = .ok (.invokevirtual 59, 3) := by decide +kernel
theorem dX0_readCommand_40 : decode cX0_readCommand 40 = .ok (.invokevirtual 63, 3) := by decide +kernel
theorem dX0_readCommand_43 : decode cX0_readCommand 43 = .ok (.ifCond .ne 5, 3) := by decide +kernel
theorem dX0_readCommand_46 : decode cX0_readCommand 46 = .ok (.iconst 0, 1) := by decide +kernel
theorem dX0_readCommand_47 : decode cX0_readCommand 47 = .ok (.ireturn, 1) := by decide +kernel
theorem dX0_readCommand_48 : decode cX0_readCommand 48 = .ok (.iinc 3 1, 3) := by decide +kernel
theorem dX0_readCommand_51 : decode cX0_readCommand 51 = .ok (.goto (-25), 3) := by decide +kernel
theorem dX0_readCommand_54 : decode cX0_readCommand 54 = .ok (.aload_n 0, 1) := by decide +kernel
theorem dX0_readCommand_55 : decode cX0_readCommand 55 = .ok (.iload_n 1, 1) := by decide +kernel
theorem dX0_readCommand_56 : decode cX0_readCommand 56 = .ok (.invokevirtual 66, 3) := by decide +kernel
theorem dX0_readCommand_59 : decode cX0_readCommand 59 = .ok (.iconst 1, 1) := by decide +kernel
theorem dX0_readCommand_60 : decode cX0_readCommand 60 = .ok (.ireturn, 1) := by decide +kernel
theorem dX0_kindAhead_0 : decode cX0_kindAhead 0 = .ok (.aload_n 0, 1) := by decide +kernel
theorem dX0_kindAhead_1 : decode cX0_kindAhead 1 = .ok (.aload_n 0, 1) := by decide +kernel
theorem dX0_kindAhead_2 : decode cX0_kindAhead 2 = .ok (.getfield 19, 3) := by decide +kernel
theorem dX0_kindAhead_5 : decode cX0_kindAhead 5 = .ok (.invokevirtual 70, 3) := by decide +kernel
theorem dX0_kindAhead_8 : decode cX0_kindAhead 8 = .ok (.tableswitch 134 97 116 #[96, 134, 124, 100, 134, 131, 134, 134, 134, 126, 134, 134, 134, 134, 134, 98, 134, 134, 128, 122], 96) := by decide +kernel
theorem dX0_kindAhead_104 : decode cX0_kindAhead 104 = .ok (.iconst 0, 1) := by decide +kernel
theorem dX0_kindAhead_105 : decode cX0_kindAhead 105 = .ok (.ireturn, 1) := by decide +kernel
theorem dX0_kindAhead_106 : decode cX0_kindAhead 106 = .ok (.iconst 1, 1) := by decide +kernel
theorem dX0_kindAhead_107 : decode cX0_kindAhead 107 = .ok (.ireturn, 1) := by decide +kernel
theorem dX0_kindAhead_108 : decode cX0_kindAhead 108 = .ok (.aload_n 0, 1) := by decide +kernel
theorem dX0_kindAhead_109 : decode cX0_kindAhead 109 = .ok (.aload_n 0, 1) := by decide +kernel
theorem dX0_kindAhead_110 : decode cX0_kindAhead 110 = .ok (.getfield 19, 3) := by decide +kernel
theorem dX0_kindAhead_113 : decode cX0_kindAhead 113 = .ok (.iconst 1, 1) := by decide +kernel
theorem dX0_kindAhead_114 : decode cX0_kindAhead 114 = .ok (.iadd, 1) := by decide +kernel
theorem dX0_kindAhead_115 : decode cX0_kindAhead 115 = .ok (.invokevirtual 70, 3) := by decide +kernel
theorem dX0_kindAhead_118 : decode cX0_kindAhead 118 = .ok (.bipush 121, 2) := by decide +kernel
theorem dX0_kindAhead_120 : decode cX0_kindAhead 120 = .ok (.if_icmp .ne 8, 3) := by decide +kernel
theorem dX0_kindAhead_123 : decode cX0_kindAhead 123 = .ok (.bipush 8, 2) := by decide +kernel
theorem dX0_kindAhead_125 : decode cX0_kindAhead 125 = .ok (.goto 4, 3) := by decide +kernel
theorem dX0_kindAhead_128 : decode cX0_kindAhead 128 = .ok (.iconst 2, 1) := by decide +kernel
theorem dX0_kindAhead_129 : decode cX0_kindAhead 129 = .ok (.ireturn, 1) := by decide +kernel
theorem dX0_kindAhead_130 : decode cX0_kindAhead 130 = .ok (.iconst 3, 1) := by decide +kernel
theorem dX0_kindAhead_131 : decode cX0_kindAhead 131 = .ok (.ireturn, 1) := by decide +kernel
theorem dX0_kindAhead_132 : decode cX0_kindAhead 132 = .ok (.iconst 4, 1) := by decide +kernel
theorem dX0_kindAhead_133 : decode cX0_kindAhead 133 = .ok (.ireturn, 1) := by decide +kernel
theorem dX0_kindAhead_134 : decode cX0_kindAhead 134 = .ok (.iconst 5, 1) := by decide +kernel
theorem dX0_kindAhead_135 : decode cX0_kindAhead 135 = .ok (.ireturn, 1) := by decide +kernel
theorem dX0_kindAhead_136 : decode cX0_kindAhead 136 = .ok (.bipush 6, 2) := by decide +kernel
theorem dX0_kindAhead_138 : decode cX0_kindAhead 138 = .ok (.ireturn, 1) := by decide +kernel
theorem dX0_kindAhead_139 : decode cX0_kindAhead 139 = .ok (.bipush 7, 2) := by decide +kernel
theorem dX0_kindAhead_141 : decode cX0_kindAhead 141 = .ok (.ireturn, 1) := by decide +kernel
theorem dX0_kindAhead_142 : decode cX0_kindAhead 142 = .ok (.iconst (-1), 1) := by decide +kernel
theorem dX0_kindAhead_143 : decode cX0_kindAhead 143 = .ok (.ireturn, 1) := by decide +kernel
theorem dX0_formOf_0 : decode cX0_formOf 0 = .ok (.iload_n 0, 1) := by decide +kernel
theorem dX0_formOf_1 : decode cX0_formOf 1 = .ok (.tableswitch 78 0 8 #[51, 54, 57, 60, 63, 66, 69, 72, 75], 51) := by decide +kernel
theorem dX0_formOf_52 : decode cX0_formOf 52 = .ok (.ldc 73, 2) := by decide +kernel
theorem dX0_formOf_54 : decode cX0_formOf 54 = .ok (.areturn, 1) := by decide +kernel
theorem dX0_formOf_55 : decode cX0_formOf 55 = .ok (.ldc 75, 2) := by decide +kernel
theorem dX0_formOf_57 : decode cX0_formOf 57 = .ok (.areturn, 1) := by decide +kernel
theorem dX0_formOf_58 : decode cX0_formOf 58 = .ok (.ldc 77, 2) := by decide +kernel
theorem dX0_formOf_60 : decode cX0_formOf 60 = .ok (.areturn, 1) := by decide +kernel
theorem dX0_formOf_61 : decode cX0_formOf 61 = .ok (.ldc 79, 2) := by decide +kernel
theorem dX0_formOf_63 : decode cX0_formOf 63 = .ok (.areturn, 1) := by decide +kernel
theorem dX0_formOf_64 : decode cX0_formOf 64 = .ok (.ldc 81, 2) := by decide +kernel
theorem dX0_formOf_66 : decode cX0_formOf 66 = .ok (.areturn, 1) := by decide +kernel
theorem dX0_formOf_67 : decode cX0_formOf 67 = .ok (.ldc 83, 2) := by decide +kernel
theorem dX0_formOf_69 : decode cX0_formOf 69 = .ok (.areturn, 1) := by decide +kernel
theorem dX0_formOf_70 : decode cX0_formOf 70 = .ok (.ldc 85, 2) := by decide +kernel
theorem dX0_formOf_72 : decode cX0_formOf 72 = .ok (.areturn, 1) := by decide +kernel
theorem dX0_formOf_73 : decode cX0_formOf 73 = .ok (.ldc 87, 2) := by decide +kernel
theorem dX0_formOf_75 : decode cX0_formOf 75 = .ok (.areturn, 1) := by decide +kernel
theorem dX0_formOf_76 : decode cX0_formOf 76 = .ok (.ldc 89, 2) := by decide +kernel
theorem dX0_formOf_78 : decode cX0_formOf 78 = .ok (.areturn, 1) := by decide +kernel
theorem dX0_formOf_79 : decode cX0_formOf 79 = .ok (.ldc 91, 2) := by decide +kernel
theorem dX0_formOf_81 : decode cX0_formOf 81 = .ok (.areturn, 1) := by decide +kernel
theorem dX0_readPiece_0 : decode cX0_readPiece 0 = .ok (.iload_n 1, 1) := by decide +kernel
theorem dX0_readPiece_1 : decode cX0_readPiece 1 = .ok (.lookupswitch 52 #[(67, 47), (68, 35), (78, 41)], 35) := by decide +kernel
theorem dX0_readPiece_36 : decode cX0_readPiece 36 = .ok (.aload_n 0, 1) := by decide +kernel
theorem dX0_readPiece_37 : decode cX0_readPiece 37 = .ok (.iconst 1, 1) := by decide +kernel
theorem dX0_readPiece_38 : decode cX0_readPiece 38 = .ok (.invokevirtual 93, 3) := by decide +kernel
theorem dX0_readPiece_41 : decode cX0_readPiece 41 = .ok (.ireturn, 1) := by decide +kernel
theorem dX0_readPiece_42 : decode cX0_readPiece 42 = .ok (.aload_n 0, 1) := by decide +kernel
theorem dX0_readPiece_43 : decode cX0_readPiece 43 = .ok (.iconst 2, 1) := by decide +kernel
theorem dX0_readPiece_44 : decode cX0_readPiece 44 = .ok (.invokevirtual 93, 3) := by decide +kernel
theorem dX0_readPiece_47 : decode cX0_readPiece 47 = .ok (.ireturn, 1) := by decide +kernel
theorem dX0_readPiece_48 : decode cX0_readPiece 48 = .ok (.aload_n 0, 1) := by decide +kernel
theorem dX0_readPiece_49 : decode cX0_readPiece 49 = .ok (.invokevirtual 97, 3) := by decide +kernel
theorem dX0_readPiece_52 : decode cX0_readPiece 52 = .ok (.ireturn, 1) := by decide +kernel
theorem dX0_readPiece_53 : decode cX0_readPiece 53 = .ok (.aload_n 0, 1) := by decide +kernel
theorem dX0_readPiece_54 : decode cX0_readPiece 54 = .ok (.iload_n 1, 1) := by decide +kernel
theorem dX0_readPiece_55 : decode cX0_readPiece 55 = .ok (.invokevirtual 39, 3) := by decide +kernel
theorem dX0_readPiece_58 : decode cX0_readPiece 58 = .ok (.ireturn, 1) := by decide +kernel
theorem dX0_readDigits_0 : decode cX0_readDigits 0 = .ok (.iconst 0, 1) := by decide +kernel
theorem dX0_readDigits_1 : decode cX0_readDigits 1 = .ok (.istore_n 2, 1) := by decide +kernel
theorem dX0_readDigits_2 : decode cX0_readDigits 2 = .ok (.iconst 0, 1) := by decide +kernel
theorem dX0_readDigits_3 : decode cX0_readDigits 3 = .ok (.istore_n 3, 1) := by decide +kernel
theorem dX0_readDigits_4 : decode cX0_readDigits 4 = .ok (.iload_n 3, 1) := by decide +kernel
theorem dX0_readDigits_5 : decode cX0_readDigits 5 = .ok (.iload_n 1, 1) := by decide +kernel
theorem dX0_readDigits_6 : decode cX0_readDigits 6 = .ok (.if_icmp .ge 50, 3) := by decide +kernel
theorem dX0_readDigits_9 : decode cX0_readDigits 9 = .ok (.aload_n 0, 1) := by decide +kernel
theorem dX0_readDigits_10 : decode cX0_readDigits 10 = .ok (.aload_n 0, 1) := by decide +kernel
theorem dX0_readDigits_11 : decode cX0_readDigits 11 = .ok (.getfield 19, 3) := by decide +kernel
theorem dX0_readDigits_14 : decode cX0_readDigits 14 = .ok (.invokevirtual 70, 3) := by decide +kernel
theorem dX0_readDigits_17 : decode cX0_readDigits 17 = .ok (.invokestatic 100, 3) := by decide +kernel
theorem dX0_readDigits_20 : decode cX0_readDigits 20 = .ok (.ifCond .eq 36, 3) := by decide +kernel
theorem dX0_readDigits_23 : decode cX0_readDigits 23 = .ok (.iload_n 2, 1) := by decide +kernel
theorem dX0_readDigits_24 : decode cX0_readDigits 24 = .ok (.bipush 10, 2) := by decide +kernel
theorem dX0_readDigits_26 : decode cX0_readDigits 26 = .ok (.imul, 1) := by decide +kernel
theorem dX0_readDigits_27 : decode cX0_readDigits 27 = .ok (.aload_n 0, 1) := by decide +kernel
theorem dX0_readDigits_28 : decode cX0_readDigits 28 = .ok (.aload_n 0, 1) := by decide +kernel
theorem dX0_readDigits_29 : decode cX0_readDigits 29 = .ok (.getfield 19, 3) := by decide +kernel
theorem dX0_readDigits_32 : decode cX0_readDigits 32 = .ok (.invokevirtual 70, 3) := by decide +kernel
theorem dX0_readDigits_35 : decode cX0_readDigits 35 = .ok (.bipush 48, 2) := by decide +kernel
theorem dX0_readDigits_37 : decode cX0_readDigits 37 = .ok (.isub, 1) := by decide +kernel
theorem dX0_readDigits_38 : decode cX0_readDigits 38 = .ok (.iadd, 1) := by decide +kernel
theorem dX0_readDigits_39 : decode cX0_readDigits 39 = .ok (.istore_n 2, 1) := by decide +kernel
theorem dX0_readDigits_40 : decode cX0_readDigits 40 = .ok (.iinc 3 1, 3) := by decide +kernel
theorem dX0_readDigits_43 : decode cX0_readDigits 43 = .ok (.aload_n 0, 1) := by decide +kernel
theorem dX0_readDigits_44 : decode cX0_readDigits 44 = .ok (.dup, 1) := by decide +kernel
theorem dX0_readDigits_45 : decode cX0_readDigits 45 = .ok (.getfield 19, 3) := by decide +kernel
theorem dX0_readDigits_48 : decode cX0_readDigits 48 = .ok (.iconst 1, 1) := by decide +kernel
theorem dX0_readDigits_49 : decode cX0_readDigits 49 = .ok (.iadd, 1) := by decide +kernel
theorem dX0_readDigits_50 : decode cX0_readDigits 50 = .ok (.putfield 19, 3) := by decide +kernel
theorem dX0_readDigits_53 : decode cX0_readDigits 53 = .ok (.goto (-49), 3) := by decide +kernel
theorem dX0_readDigits_56 : decode cX0_readDigits 56 = .ok (.iload_n 3, 1) := by decide +kernel
theorem dX0_readDigits_57 : decode cX0_readDigits 57 = .ok (.ifCond .ne 5, 3) := by decide +kernel
theorem dX0_readDigits_60 : decode cX0_readDigits 60 = .ok (.iconst 0, 1) := by decide +kernel
theorem dX0_readDigits_61 : decode cX0_readDigits 61 = .ok (.ireturn, 1) := by decide +kernel
theorem dX0_readDigits_62 : decode cX0_readDigits 62 = .ok (.aload_n 0, 1) := by decide +kernel
theorem dX0_readDigits_63 : decode cX0_readDigits 63 = .ok (.iload_n 2, 1) := by decide +kernel
theorem dX0_readDigits_64 : decode cX0_readDigits 64 = .ok (.invokevirtual 103, 3) := by decide +kernel
theorem dX0_readDigits_67 : decode cX0_readDigits 67 = .ok (.iconst 1, 1) := by decide +kernel
theorem dX0_readDigits_68 : decode cX0_readDigits 68 = .ok (.ireturn, 1) := by decide +kernel
theorem dX0_readColour_0 : decode cX0_readColour 0 = .ok (.aload_n 0, 1) := by decide +kernel
theorem dX0_readColour_1 : decode cX0_readColour 1 = .ok (.aload_n 0, 1) := by decide +kernel
theorem dX0_readColour_2 : decode cX0_readColour 2 = .ok (.getfield 19, 3) := by decide +kernel
theorem dX0_readColour_5 : decode cX0_readColour 5 = .ok (.invokevirtual 70, 3) := by decide +kernel
theorem dX0_readColour_8 : decode cX0_readColour 8 = .ok (.bipush 97, 2) := by decide +kernel
theorem dX0_readColour_10 : decode cX0_readColour 10 = .ok (.isub, 1) := by decide +kernel
theorem dX0_readColour_11 : decode cX0_readColour 11 = .ok (.istore_n 1, 1) := by decide +kernel
theorem dX0_readColour_12 : decode cX0_readColour 12 = .ok (.iload_n 1, 1) := by decide +kernel
theorem dX0_readColour_13 : decode cX0_readColour 13 = .ok (.invokestatic 106, 3) := by decide +kernel
theorem dX0_readColour_16 : decode cX0_readColour 16 = .ok (.ifCond .ne 5, 3) := by decide +kernel
theorem dX0_readColour_19 : decode cX0_readColour 19 = .ok (.iconst 0, 1) := by decide +kernel
theorem dX0_readColour_20 : decode cX0_readColour 20 = .ok (.ireturn, 1) := by decide +kernel
theorem dX0_readColour_21 : decode cX0_readColour 21 = .ok (.aload_n 0, 1) := by decide +kernel
theorem dX0_readColour_22 : decode cX0_readColour 22 = .ok (.iload_n 1, 1) := by decide +kernel
theorem dX0_readColour_23 : decode cX0_readColour 23 = .ok (.invokevirtual 103, 3) := by decide +kernel
theorem dX0_readColour_26 : decode cX0_readColour 26 = .ok (.aload_n 0, 1) := by decide +kernel
theorem dX0_readColour_27 : decode cX0_readColour 27 = .ok (.dup, 1) := by decide +kernel
theorem dX0_readColour_28 : decode cX0_readColour 28 = .ok (.getfield 19, 3) := by decide +kernel
theorem dX0_readColour_31 : decode cX0_readColour 31 = .ok (.iconst 1, 1) := by decide +kernel
theorem dX0_readColour_32 : decode cX0_readColour 32 = .ok (.iadd, 1) := by decide +kernel
theorem dX0_readColour_33 : decode cX0_readColour 33 = .ok (.putfield 19, 3) := by decide +kernel
theorem dX0_readColour_36 : decode cX0_readColour 36 = .ok (.iconst 1, 1) := by decide +kernel
theorem dX0_readColour_37 : decode cX0_readColour 37 = .ok (.ireturn, 1) := by decide +kernel
theorem dX0_readSign_0 : decode cX0_readSign 0 = .ok (.aload_n 0, 1) := by decide +kernel
theorem dX0_readSign_1 : decode cX0_readSign 1 = .ok (.aload_n 0, 1) := by decide +kernel
theorem dX0_readSign_2 : decode cX0_readSign 2 = .ok (.getfield 19, 3) := by decide +kernel
theorem dX0_readSign_5 : decode cX0_readSign 5 = .ok (.invokevirtual 70, 3) := by decide +kernel
theorem dX0_readSign_8 : decode cX0_readSign 8 = .ok (.iload_n 1, 1) := by decide +kernel
theorem dX0_readSign_9 : decode cX0_readSign 9 = .ok (.if_icmp .eq 5, 3) := by decide +kernel
theorem dX0_readSign_12 : decode cX0_readSign 12 = .ok (.iconst 0, 1) := by decide +kernel
theorem dX0_readSign_13 : decode cX0_readSign 13 = .ok (.ireturn, 1) := by decide +kernel
theorem dX0_readSign_14 : decode cX0_readSign 14 = .ok (.aload_n 0, 1) := by decide +kernel
theorem dX0_readSign_15 : decode cX0_readSign 15 = .ok (.dup, 1) := by decide +kernel
theorem dX0_readSign_16 : decode cX0_readSign 16 = .ok (.getfield 19, 3) := by decide +kernel
theorem dX0_readSign_19 : decode cX0_readSign 19 = .ok (.iconst 1, 1) := by decide +kernel
theorem dX0_readSign_20 : decode cX0_readSign 20 = .ok (.iadd, 1) := by decide +kernel
theorem dX0_readSign_21 : decode cX0_readSign 21 = .ok (.putfield 19, 3) := by decide +kernel
theorem dX0_readSign_24 : decode cX0_readSign 24 = .ok (.iconst 1, 1) := by decide +kernel
theorem dX0_readSign_25 : decode cX0_readSign 25 = .ok (.ireturn, 1) := by decide +kernel
theorem dX0_isDigit_0 : decode cX0_isDigit 0 = .ok (.iload_n 0, 1) := by decide +kernel
theorem dX0_isDigit_1 : decode cX0_isDigit 1 = .ok (.bipush 48, 2) := by decide +kernel
theorem dX0_isDigit_3 : decode cX0_isDigit 3 = .ok (.if_icmp .lt 13, 3) := by decide +kernel
theorem dX0_isDigit_6 : decode cX0_isDigit 6 = .ok (.iload_n 0, 1) := by decide +kernel
theorem dX0_isDigit_7 : decode cX0_isDigit 7 = .ok (.bipush 57, 2) := by decide +kernel
theorem dX0_isDigit_9 : decode cX0_isDigit 9 = .ok (.if_icmp .gt 7, 3) := by decide +kernel
theorem dX0_isDigit_12 : decode cX0_isDigit 12 = .ok (.iconst 1, 1) := by decide +kernel
theorem dX0_isDigit_13 : decode cX0_isDigit 13 = .ok (.goto 4, 3) := by decide +kernel
theorem dX0_isDigit_16 : decode cX0_isDigit 16 = .ok (.iconst 0, 1) := by decide +kernel
theorem dX0_isDigit_17 : decode cX0_isDigit 17 = .ok (.ireturn, 1) := by decide +kernel
theorem dX0_signAt_0 : decode cX0_signAt 0 = .ok (.iload_n 1, 1) := by decide +kernel
theorem dX0_signAt_1 : decode cX0_signAt 1 = .ok (.ifCond .lt 29, 3) := by decide +kernel
theorem dX0_signAt_4 : decode cX0_signAt 4 = .ok (.iload_n 1, 1) := by decide +kernel
theorem dX0_signAt_5 : decode cX0_signAt 5 = .ok (.aload_n 0, 1) := by decide +kernel
theorem dX0_signAt_6 : decode cX0_signAt 6 = .ok (.getfield 15, 3) := by decide +kernel
theorem dX0_signAt_9 : decode cX0_signAt 9 = .ok (.if_icmp .ge 21, 3) := by decide +kernel
theorem dX0_signAt_12 : decode cX0_signAt 12 = .ok (.iload_n 1, 1) := by decide +kernel
theorem dX0_signAt_13 : decode cX0_signAt 13 = .ok (.aload_n 0, 1) := by decide +kernel
theorem dX0_signAt_14 : decode cX0_signAt 14 = .ok (.getfield 9, 3) := by decide +kernel
theorem dX0_signAt_17 : decode cX0_signAt 17 = .ok (.arraylength, 1) := by decide +kernel
theorem dX0_signAt_18 : decode cX0_signAt 18 = .ok (.if_icmp .ge 12, 3) := by decide +kernel
theorem dX0_signAt_21 : decode cX0_signAt 21 = .ok (.aload_n 0, 1) := by decide +kernel
theorem dX0_signAt_22 : decode cX0_signAt 22 = .ok (.getfield 9, 3) := by decide +kernel
theorem dX0_signAt_25 : decode cX0_signAt 25 = .ok (.iload_n 1, 1) := by decide +kernel
theorem dX0_signAt_26 : decode cX0_signAt 26 = .ok (.caload, 1) := by decide +kernel
theorem dX0_signAt_27 : decode cX0_signAt 27 = .ok (.goto 4, 3) := by decide +kernel
theorem dX0_signAt_30 : decode cX0_signAt 30 = .ok (.iconst 0, 1) := by decide +kernel
theorem dX0_signAt_31 : decode cX0_signAt 31 = .ok (.ireturn, 1) := by decide +kernel
theorem dX0_addParameter_0 : decode cX0_addParameter 0 = .ok (.aload_n 0, 1) := by decide +kernel
theorem dX0_addParameter_1 : decode cX0_addParameter 1 = .ok (.getfield 29, 3) := by decide +kernel
theorem dX0_addParameter_4 : decode cX0_addParameter 4 = .ok (.iconst 4, 1) := by decide +kernel
theorem dX0_addParameter_5 : decode cX0_addParameter 5 = .ok (.imul, 1) := by decide +kernel
theorem dX0_addParameter_6 : decode cX0_addParameter 6 = .ok (.aload_n 0, 1) := by decide +kernel
theorem dX0_addParameter_7 : decode cX0_addParameter 7 = .ok (.getfield 32, 3) := by decide +kernel
theorem dX0_addParameter_10 : decode cX0_addParameter 10 = .ok (.iadd, 1) := by decide +kernel
theorem dX0_addParameter_11 : decode cX0_addParameter 11 = .ok (.istore_n 2, 1) := by decide +kernel
theorem dX0_addParameter_12 : decode cX0_addParameter 12 = .ok (.iload_n 2, 1) := by decide +kernel
theorem dX0_addParameter_13 : decode cX0_addParameter 13 = .ok (.ifCond .lt 19, 3) := by decide +kernel
theorem dX0_addParameter_16 : decode cX0_addParameter 16 = .ok (.iload_n 2, 1) := by decide +kernel
theorem dX0_addParameter_17 : decode cX0_addParameter 17 = .ok (.aload_n 0, 1) := by decide +kernel
theorem dX0_addParameter_18 : decode cX0_addParameter 18 = .ok (.getfield 26, 3) := by decide +kernel
theorem dX0_addParameter_21 : decode cX0_addParameter 21 = .ok (.arraylength, 1) := by decide +kernel
theorem dX0_addParameter_22 : decode cX0_addParameter 22 = .ok (.if_icmp .ge 10, 3) := by decide +kernel
theorem dX0_addParameter_25 : decode cX0_addParameter 25 = .ok (.aload_n 0, 1) := by decide +kernel
theorem dX0_addParameter_26 : decode cX0_addParameter 26 = .ok (.getfield 26, 3) := by decide +kernel
theorem dX0_addParameter_29 : decode cX0_addParameter 29 = .ok (.iload_n 2, 1) := by decide +kernel
theorem dX0_addParameter_30 : decode cX0_addParameter 30 = .ok (.iload_n 1, 1) := by decide +kernel
theorem dX0_addParameter_31 : decode cX0_addParameter 31 = .ok (.iastore, 1) := by decide +kernel
theorem dX0_addParameter_32 : decode cX0_addParameter 32 = .ok (.aload_n 0, 1) := by decide +kernel
theorem dX0_addParameter_33 : decode cX0_addParameter 33 = .ok (.dup, 1) := by decide +kernel
theorem dX0_addParameter_34 : decode cX0_addParameter 34 = .ok (.getfield 32, 3) := by decide +kernel
theorem dX0_addParameter_37 : decode cX0_addParameter 37 = .ok (.iconst 1, 1) := by decide +kernel
theorem dX0_addParameter_38 : decode cX0_addParameter 38 = .ok (.iadd, 1) := by decide +kernel
theorem dX0_addParameter_39 : decode cX0_addParameter 39 = .ok (.putfield 32, 3) := by decide +kernel
theorem dX0_addParameter_42 : decode cX0_addParameter 42 = .ok (.return_, 1) := by decide +kernel
theorem dX0_addCommand_0 : decode cX0_addCommand 0 = .ok (.aload_n 0, 1) := by decide +kernel
theorem dX0_addCommand_1 : decode cX0_addCommand 1 = .ok (.getfield 29, 3) := by decide +kernel
theorem dX0_addCommand_4 : decode cX0_addCommand 4 = .ok (.ifCond .lt 35, 3) := by decide +kernel
theorem dX0_addCommand_7 : decode cX0_addCommand 7 = .ok (.aload_n 0, 1) := by decide +kernel
theorem dX0_addCommand_8 : decode cX0_addCommand 8 = .ok (.getfield 29, 3) := by decide +kernel
theorem dX0_addCommand_11 : decode cX0_addCommand 11 = .ok (.aload_n 0, 1) := by decide +kernel
theorem dX0_addCommand_12 : decode cX0_addCommand 12 = .ok (.getfield 22, 3) := by decide +kernel
theorem dX0_addCommand_15 : decode cX0_addCommand 15 = .ok (.arraylength, 1) := by decide +kernel
theorem dX0_addCommand_16 : decode cX0_addCommand 16 = .ok (.if_icmp .ge 23, 3) := by decide +kernel
theorem dX0_addCommand_19 : decode cX0_addCommand 19 = .ok (.aload_n 0, 1) := by decide +kernel
theorem dX0_addCommand_20 : decode cX0_addCommand 20 = .ok (.getfield 22, 3) := by decide +kernel
theorem dX0_addCommand_23 : decode cX0_addCommand 23 = .ok (.aload_n 0, 1) := by decide +kernel
theorem dX0_addCommand_24 : decode cX0_addCommand 24 = .ok (.getfield 29, 3) := by decide +kernel
theorem dX0_addCommand_27 : decode cX0_addCommand 27 = .ok (.iload_n 1, 1) := by decide +kernel
theorem dX0_addCommand_28 : decode cX0_addCommand 28 = .ok (.iastore, 1) := by decide +kernel
theorem dX0_addCommand_29 : decode cX0_addCommand 29 = .ok (.aload_n 0, 1) := by decide +kernel
theorem dX0_addCommand_30 : decode cX0_addCommand 30 = .ok (.dup, 1) := by decide +kernel
theorem dX0_addCommand_31 : decode cX0_addCommand 31 = .ok (.getfield 29, 3) := by decide +kernel
theorem dX0_addCommand_34 : decode cX0_addCommand 34 = .ok (.iconst 1, 1) := by decide +kernel
theorem dX0_addCommand_35 : decode cX0_addCommand 35 = .ok (.iadd, 1) := by decide +kernel
theorem dX0_addCommand_36 : decode cX0_addCommand 36 = .ok (.putfield 29, 3) := by decide +kernel
theorem dX0_addCommand_39 : decode cX0_addCommand 39 = .ok (.return_, 1) := by decide +kernel
theorem dX1_init_0 : decode cX1_init 0 = .ok (.aload_n 0, 1) := by decide +kernel
theorem dX1_init_1 : decode cX1_init 1 = .ok (.invokespecial 3, 3) := by decide +kernel
theorem dX1_init_4 : decode cX1_init 4 = .ok (.aload_n 0, 1) := by decide +kernel
theorem dX1_init_5 : decode cX1_init 5 = .ok (.sipush 2480, 3) := by decide +kernel
theorem dX1_init_8 : decode cX1_init 8 = .ok (.newarray .int, 2) := by decide +kernel
theorem dX1_init_10 : decode cX1_init 10 = .ok (.putfield 9, 3) := by decide +kernel
theorem dX1_init_13 : decode cX1_init 13 = .ok (.aload_n 0, 1) := by decide +kernel
theorem dX1_init_14 : decode cX1_init 14 = .ok (.iconst 0, 1) := by decide +kernel
theorem dX1_init_15 : decode cX1_init 15 = .ok (.putfield 15, 3) := by decide +kernel
theorem dX1_init_18 : decode cX1_init 18 = .ok (.aload_n 0, 1) := by decide +kernel
theorem dX1_init_19 : decode cX1_init 19 = .ok (.iconst 0, 1) := by decide +kernel
theorem dX1_init_20 : decode cX1_init 20 = .ok (.putfield 19, 3) := by decide +kernel
theorem dX1_init_23 : decode cX1_init 23 = .ok (.return_, 1) := by decide +kernel
theorem dX1_size_0 : decode cX1_size 0 = .ok (.aload_n 0, 1) := by decide +kernel
theorem dX1_size_1 : decode cX1_size 1 = .ok (.getfield 19, 3) := by decide +kernel
theorem dX1_size_4 : decode cX1_size 4 = .ok (.ireturn, 1) := by decide +kernel
theorem dX1_keep_0 : decode cX1_keep 0 = .ok (.aload_n 1, 1) := by decide +kernel
theorem dX1_keep_1 : decode cX1_keep 1 = .ok (.iconst 0, 1) := by decide +kernel
theorem dX1_keep_2 : decode cX1_keep 2 = .ok (.aload_n 0, 1) := by decide +kernel
theorem dX1_keep_3 : decode cX1_keep 3 = .ok (.getfield 9, 3) := by decide +kernel
theorem dX1_keep_6 : decode cX1_keep 6 = .ok (.aload_n 0, 1) := by decide +kernel
theorem dX1_keep_7 : decode cX1_keep 7 = .ok (.getfield 15, 3) := by decide +kernel
theorem dX1_keep_10 : decode cX1_keep 10 = .ok (.sipush 310, 3) := by decide +kernel
theorem dX1_keep_13 : decode cX1_keep 13 = .ok (.imul, 1) := by decide +kernel
theorem dX1_keep_14 : decode cX1_keep 14 = .ok (.invokestatic 22, 3) := by decide +kernel
theorem dX1_keep_17 : decode cX1_keep 17 = .ok (.aload_n 0, 1) := by decide +kernel
theorem dX1_keep_18 : decode cX1_keep 18 = .ok (.aload_n 0, 1) := by decide +kernel
theorem dX1_keep_19 : decode cX1_keep 19 = .ok (.getfield 15, 3) := by decide +kernel
theorem dX1_keep_22 : decode cX1_keep 22 = .ok (.iconst 1, 1) := by decide +kernel
theorem dX1_keep_23 : decode cX1_keep 23 = .ok (.iadd, 1) := by decide +kernel
theorem dX1_keep_24 : decode cX1_keep 24 = .ok (.bipush 8, 2) := by decide +kernel
theorem dX1_keep_26 : decode cX1_keep 26 = .ok (.if_icmp .ge 12, 3) := by decide +kernel
theorem dX1_keep_29 : decode cX1_keep 29 = .ok (.aload_n 0, 1) := by decide +kernel
theorem dX1_keep_30 : decode cX1_keep 30 = .ok (.getfield 15, 3) := by decide +kernel
theorem dX1_keep_33 : decode cX1_keep 33 = .ok (.iconst 1, 1) := by decide +kernel
theorem dX1_keep_34 : decode cX1_keep 34 = .ok (.iadd, 1) := by decide +kernel
theorem dX1_keep_35 : decode cX1_keep 35 = .ok (.goto 4, 3) := by decide +kernel
theorem dX1_keep_38 : decode cX1_keep 38 = .ok (.iconst 0, 1) := by decide +kernel
theorem dX1_keep_39 : decode cX1_keep 39 = .ok (.putfield 15, 3) := by decide +kernel
theorem dX1_keep_42 : decode cX1_keep 42 = .ok (.aload_n 0, 1) := by decide +kernel
theorem dX1_keep_43 : decode cX1_keep 43 = .ok (.aload_n 0, 1) := by decide +kernel
theorem dX1_keep_44 : decode cX1_keep 44 = .ok (.getfield 19, 3) := by decide +kernel
theorem dX1_keep_47 : decode cX1_keep 47 = .ok (.iconst 1, 1) := by decide +kernel
theorem dX1_keep_48 : decode cX1_keep 48 = .ok (.iadd, 1) := by decide +kernel
theorem dX1_keep_49 : decode cX1_keep 49 = .ok (.bipush 8, 2) := by decide +kernel
theorem dX1_keep_51 : decode cX1_keep 51 = .ok (.invokestatic 26, 3) := by decide +kernel
theorem dX1_keep_54 : decode cX1_keep 54 = .ok (.putfield 19, 3) := by decide +kernel
theorem dX1_keep_57 : decode cX1_keep 57 = .ok (.return_, 1) := by decide +kernel
theorem dX1_takeBack_0 : decode cX1_takeBack 0 = .ok (.aload_n 0, 1) := by decide +kernel
theorem dX1_takeBack_1 : decode cX1_takeBack 1 = .ok (.aload_n 0, 1) := by decide +kernel
theorem dX1_takeBack_2 : decode cX1_takeBack 2 = .ok (.getfield 15, 3) := by decide +kernel
theorem dX1_takeBack_5 : decode cX1_takeBack 5 = .ok (.ifCond .le 12, 3) := by decide +kernel
theorem dX1_takeBack_8 : decode cX1_takeBack 8 = .ok (.aload_n 0, 1) := by decide +kernel
theorem dX1_takeBack_9 : decode cX1_takeBack 9 = .ok (.getfield 15, 3) := by decide +kernel
theorem dX1_takeBack_12 : decode cX1_takeBack 12 = .ok (.iconst 1, 1) := by decide +kernel
theorem dX1_takeBack_13 : decode cX1_takeBack 13 = .ok (.isub, 1) := by decide +kernel
theorem dX1_takeBack_14 : decode cX1_takeBack 14 = .ok (.goto 5, 3) := by decide +kernel
theorem dX1_takeBack_17 : decode cX1_takeBack 17 = .ok (.bipush 7, 2) := by decide +kernel
theorem dX1_takeBack_19 : decode cX1_takeBack 19 = .ok (.putfield 15, 3) := by decide +kernel
theorem dX1_takeBack_22 : decode cX1_takeBack 22 = .ok (.aload_n 0, 1) := by decide +kernel
theorem dX1_takeBack_23 : decode cX1_takeBack 23 = .ok (.dup, 1) := by decide +kernel
theorem dX1_takeBack_24 : decode cX1_takeBack 24 = .ok (.getfield 19, 3) := by decide +kernel
theorem dX1_takeBack_27 : decode cX1_takeBack 27 = .ok (.iconst 1, 1) := by decide +kernel
theorem dX1_takeBack_28 : decode cX1_takeBack 28 = .ok (.isub, 1) := by decide +kernel
theorem dX1_takeBack_29 : decode cX1_takeBack 29 = .ok (.putfield 19, 3) := by decide +kernel
theorem dX1_takeBack_32 : decode cX1_takeBack 32 = .ok (.aload_n 1, 1) := by decide +kernel
theorem dX1_takeBack_33 : decode cX1_takeBack 33 = .ok (.aload_n 0, 1) := by decide +kernel
theorem dX1_takeBack_34 : decode cX1_takeBack 34 = .ok (.getfield 9, 3) := by decide +kernel
theorem dX1_takeBack_37 : decode cX1_takeBack 37 = .ok (.aload_n 0, 1) := by decide +kernel
theorem dX1_takeBack_38 : decode cX1_takeBack 38 = .ok (.getfield 15, 3) := by decide +kernel
theorem dX1_takeBack_41 : decode cX1_takeBack 41 = .ok (.sipush 310, 3) := by decide +kernel
theorem dX1_takeBack_44 : decode cX1_takeBack 44 = .ok (.imul, 1) := by decide +kernel
theorem dX1_takeBack_45 : decode cX1_takeBack 45 = .ok (.invokevirtual 32, 3) := by decide +kernel
theorem dX1_takeBack_48 : decode cX1_takeBack 48 = .ok (.return_, 1) := by decide +kernel
theorem dX1_forget_0 : decode cX1_forget 0 = .ok (.aload_n 0, 1) := by decide +kernel
theorem dX1_forget_1 : decode cX1_forget 1 = .ok (.iconst 0, 1) := by decide +kernel
theorem dX1_forget_2 : decode cX1_forget 2 = .ok (.putfield 19, 3) := by decide +kernel
theorem dX1_forget_5 : decode cX1_forget 5 = .ok (.return_, 1) := by decide +kernel
theorem dX2_init_0 : decode cX2_init 0 = .ok (.aload_n 0, 1) := by decide +kernel
theorem dX2_init_1 : decode cX2_init 1 = .ok (.invokespecial 3, 3) := by decide +kernel
theorem dX2_init_4 : decode cX2_init 4 = .ok (.aload_n 0, 1) := by decide +kernel
theorem dX2_init_5 : decode cX2_init 5 = .ok (.sipush 240, 3) := by decide +kernel
theorem dX2_init_8 : decode cX2_init 8 = .ok (.newarray .char, 2) := by decide +kernel
theorem dX2_init_10 : decode cX2_init 10 = .ok (.putfield 9, 3) := by decide +kernel
theorem dX2_init_13 : decode cX2_init 13 = .ok (.aload_n 0, 1) := by decide +kernel
theorem dX2_init_14 : decode cX2_init 14 = .ok (.iconst 0, 1) := by decide +kernel
theorem dX2_init_15 : decode cX2_init 15 = .ok (.putfield 15, 3) := by decide +kernel
theorem dX2_init_18 : decode cX2_init 18 = .ok (.return_, 1) := by decide +kernel
theorem dX2_size_0 : decode cX2_size 0 = .ok (.aload_n 0, 1) := by decide +kernel
theorem dX2_size_1 : decode cX2_size 1 = .ok (.getfield 15, 3) := by decide +kernel
theorem dX2_size_4 : decode cX2_size 4 = .ok (.ireturn, 1) := by decide +kernel
theorem dX2_clear_0 : decode cX2_clear 0 = .ok (.aload_n 0, 1) := by decide +kernel
theorem dX2_clear_1 : decode cX2_clear 1 = .ok (.iconst 0, 1) := by decide +kernel
theorem dX2_clear_2 : decode cX2_clear 2 = .ok (.putfield 15, 3) := by decide +kernel
theorem dX2_clear_5 : decode cX2_clear 5 = .ok (.return_, 1) := by decide +kernel
theorem dX2_add_0 : decode cX2_add 0 = .ok (.aload_n 0, 1) := by decide +kernel
theorem dX2_add_1 : decode cX2_add 1 = .ok (.getfield 15, 3) := by decide +kernel
theorem dX2_add_4 : decode cX2_add 4 = .ok (.ifCond .lt 35, 3) := by decide +kernel
theorem dX2_add_7 : decode cX2_add 7 = .ok (.aload_n 0, 1) := by decide +kernel
theorem dX2_add_8 : decode cX2_add 8 = .ok (.getfield 15, 3) := by decide +kernel
theorem dX2_add_11 : decode cX2_add 11 = .ok (.aload_n 0, 1) := by decide +kernel
theorem dX2_add_12 : decode cX2_add 12 = .ok (.getfield 9, 3) := by decide +kernel
theorem dX2_add_15 : decode cX2_add 15 = .ok (.arraylength, 1) := by decide +kernel
theorem dX2_add_16 : decode cX2_add 16 = .ok (.if_icmp .ge 23, 3) := by decide +kernel
theorem dX2_add_19 : decode cX2_add 19 = .ok (.aload_n 0, 1) := by decide +kernel
theorem dX2_add_20 : decode cX2_add 20 = .ok (.getfield 9, 3) := by decide +kernel
theorem dX2_add_23 : decode cX2_add 23 = .ok (.aload_n 0, 1) := by decide +kernel
theorem dX2_add_24 : decode cX2_add 24 = .ok (.getfield 15, 3) := by decide +kernel
theorem dX2_add_27 : decode cX2_add 27 = .ok (.iload_n 1, 1) := by decide +kernel
theorem dX2_add_28 : decode cX2_add 28 = .ok (.castore, 1) := by decide +kernel
theorem dX2_add_29 : decode cX2_add 29 = .ok (.aload_n 0, 1) := by decide +kernel
theorem dX2_add_30 : decode cX2_add 30 = .ok (.dup, 1) := by decide +kernel
theorem dX2_add_31 : decode cX2_add 31 = .ok (.getfield 15, 3) := by decide +kernel
theorem dX2_add_34 : decode cX2_add 34 = .ok (.iconst 1, 1) := by decide +kernel
theorem dX2_add_35 : decode cX2_add 35 = .ok (.iadd, 1) := by decide +kernel
theorem dX2_add_36 : decode cX2_add 36 = .ok (.putfield 15, 3) := by decide +kernel
theorem dX2_add_39 : decode cX2_add 39 = .ok (.return_, 1) := by decide +kernel
theorem dX2_addNumber_0 : decode cX2_addNumber 0 = .ok (.iload_n 1, 1) := by decide +kernel
theorem dX2_addNumber_1 : decode cX2_addNumber 1 = .ok (.bipush 10, 2) := by decide +kernel
theorem dX2_addNumber_3 : decode cX2_addNumber 3 = .ok (.if_icmp .lt 15, 3) := by decide +kernel
theorem dX2_addNumber_6 : decode cX2_addNumber 6 = .ok (.aload_n 0, 1) := by decide +kernel
theorem dX2_addNumber_7 : decode cX2_addNumber 7 = .ok (.bipush 48, 2) := by decide +kernel
theorem dX2_addNumber_9 : decode cX2_addNumber 9 = .ok (.iload_n 1, 1) := by decide +kernel
theorem dX2_addNumber_10 : decode cX2_addNumber 10 = .ok (.bipush 10, 2) := by decide +kernel
theorem dX2_addNumber_12 : decode cX2_addNumber 12 = .ok (.idiv, 1) := by decide +kernel
theorem dX2_addNumber_13 : decode cX2_addNumber 13 = .ok (.iadd, 1) := by decide +kernel
theorem dX2_addNumber_14 : decode cX2_addNumber 14 = .ok (.i2c, 1) := by decide +kernel
theorem dX2_addNumber_15 : decode cX2_addNumber 15 = .ok (.invokevirtual 19, 3) := by decide +kernel
theorem dX2_addNumber_18 : decode cX2_addNumber 18 = .ok (.aload_n 0, 1) := by decide +kernel
theorem dX2_addNumber_19 : decode cX2_addNumber 19 = .ok (.bipush 48, 2) := by decide +kernel
theorem dX2_addNumber_21 : decode cX2_addNumber 21 = .ok (.iload_n 1, 1) := by decide +kernel
theorem dX2_addNumber_22 : decode cX2_addNumber 22 = .ok (.bipush 10, 2) := by decide +kernel
theorem dX2_addNumber_24 : decode cX2_addNumber 24 = .ok (.irem, 1) := by decide +kernel
theorem dX2_addNumber_25 : decode cX2_addNumber 25 = .ok (.iadd, 1) := by decide +kernel
theorem dX2_addNumber_26 : decode cX2_addNumber 26 = .ok (.i2c, 1) := by decide +kernel
theorem dX2_addNumber_27 : decode cX2_addNumber 27 = .ok (.invokevirtual 19, 3) := by decide +kernel
theorem dX2_addNumber_30 : decode cX2_addNumber 30 = .ok (.return_, 1) := by decide +kernel
theorem dX2_characterAt_0 : decode cX2_characterAt 0 = .ok (.iload_n 1, 1) := by decide +kernel
theorem dX2_characterAt_1 : decode cX2_characterAt 1 = .ok (.ifCond .lt 21, 3) := by decide +kernel
theorem dX2_characterAt_4 : decode cX2_characterAt 4 = .ok (.iload_n 1, 1) := by decide +kernel
theorem dX2_characterAt_5 : decode cX2_characterAt 5 = .ok (.aload_n 0, 1) := by decide +kernel
theorem dX2_characterAt_6 : decode cX2_characterAt 6 = .ok (.getfield 9, 3) := by decide +kernel
theorem dX2_characterAt_9 : decode cX2_characterAt 9 = .ok (.arraylength, 1) := by decide +kernel
theorem dX2_characterAt_10 : decode cX2_characterAt 10 = .ok (.if_icmp .ge 12, 3) := by decide +kernel
theorem dX2_characterAt_13 : decode cX2_characterAt 13 = .ok (.aload_n 0, 1) := by decide +kernel
theorem dX2_characterAt_14 : decode cX2_characterAt 14 = .ok (.getfield 9, 3) := by decide +kernel
theorem dX2_characterAt_17 : decode cX2_characterAt 17 = .ok (.iload_n 1, 1) := by decide +kernel
theorem dX2_characterAt_18 : decode cX2_characterAt 18 = .ok (.caload, 1) := by decide +kernel
theorem dX2_characterAt_19 : decode cX2_characterAt 19 = .ok (.goto 4, 3) := by decide +kernel
theorem dX2_characterAt_22 : decode cX2_characterAt 22 = .ok (.iconst 0, 1) := by decide +kernel
theorem dX2_characterAt_23 : decode cX2_characterAt 23 = .ok (.ireturn, 1) := by decide +kernel
theorem dX3_init_0 : decode cX3_init 0 = .ok (.aload_n 0, 1) := by decide +kernel
theorem dX3_init_1 : decode cX3_init 1 = .ok (.invokespecial 3, 3) := by decide +kernel
theorem dX3_init_4 : decode cX3_init 4 = .ok (.aload_n 0, 1) := by decide +kernel
theorem dX3_init_5 : decode cX3_init 5 = .ok (.sipush 310, 3) := by decide +kernel
theorem dX3_init_8 : decode cX3_init 8 = .ok (.newarray .int, 2) := by decide +kernel
theorem dX3_init_10 : decode cX3_init 10 = .ok (.putfield 9, 3) := by decide +kernel
theorem dX3_init_13 : decode cX3_init 13 = .ok (.return_, 1) := by decide +kernel
theorem dX3_cellAt_0 : decode cX3_cellAt 0 = .ok (.iload_n 1, 1) := by decide +kernel
theorem dX3_cellAt_1 : decode cX3_cellAt 1 = .ok (.ifCond .lt 21, 3) := by decide +kernel
theorem dX3_cellAt_4 : decode cX3_cellAt 4 = .ok (.iload_n 1, 1) := by decide +kernel
theorem dX3_cellAt_5 : decode cX3_cellAt 5 = .ok (.aload_n 0, 1) := by decide +kernel
theorem dX3_cellAt_6 : decode cX3_cellAt 6 = .ok (.getfield 9, 3) := by decide +kernel
theorem dX3_cellAt_9 : decode cX3_cellAt 9 = .ok (.arraylength, 1) := by decide +kernel
theorem dX3_cellAt_10 : decode cX3_cellAt 10 = .ok (.if_icmp .ge 12, 3) := by decide +kernel
theorem dX3_cellAt_13 : decode cX3_cellAt 13 = .ok (.aload_n 0, 1) := by decide +kernel
theorem dX3_cellAt_14 : decode cX3_cellAt 14 = .ok (.getfield 9, 3) := by decide +kernel
theorem dX3_cellAt_17 : decode cX3_cellAt 17 = .ok (.iload_n 1, 1) := by decide +kernel
theorem dX3_cellAt_18 : decode cX3_cellAt 18 = .ok (.iaload, 1) := by decide +kernel
theorem dX3_cellAt_19 : decode cX3_cellAt 19 = .ok (.goto 4, 3) := by decide +kernel
theorem dX3_cellAt_22 : decode cX3_cellAt 22 = .ok (.iconst 0, 1) := by decide +kernel
theorem dX3_cellAt_23 : decode cX3_cellAt 23 = .ok (.ireturn, 1) := by decide +kernel
theorem dX3_setCell_0 : decode cX3_setCell 0 = .ok (.iload_n 1, 1) := by decide +kernel
theorem dX3_setCell_1 : decode cX3_setCell 1 = .ok (.ifCond .lt 19, 3) := by decide +kernel
theorem dX3_setCell_4 : decode cX3_setCell 4 = .ok (.iload_n 1, 1) := by decide +kernel
theorem dX3_setCell_5 : decode cX3_setCell 5 = .ok (.aload_n 0, 1) := by decide +kernel
theorem dX3_setCell_6 : decode cX3_setCell 6 = .ok (.getfield 9, 3) := by decide +kernel
theorem dX3_setCell_9 : decode cX3_setCell 9 = .ok (.arraylength, 1) := by decide +kernel
theorem dX3_setCell_10 : decode cX3_setCell 10 = .ok (.if_icmp .ge 10, 3) := by decide +kernel
theorem dX3_setCell_13 : decode cX3_setCell 13 = .ok (.aload_n 0, 1) := by decide +kernel
theorem dX3_setCell_14 : decode cX3_setCell 14 = .ok (.getfield 9, 3) := by decide +kernel
theorem dX3_setCell_17 : decode cX3_setCell 17 = .ok (.iload_n 1, 1) := by decide +kernel
theorem dX3_setCell_18 : decode cX3_setCell 18 = .ok (.iload_n 2, 1) := by decide +kernel
theorem dX3_setCell_19 : decode cX3_setCell 19 = .ok (.iastore, 1) := by decide +kernel
theorem dX3_setCell_20 : decode cX3_setCell 20 = .ok (.return_, 1) := by decide +kernel
theorem dX3_copyTo_0 : decode cX3_copyTo 0 = .ok (.aload_n 0, 1) := by decide +kernel
theorem dX3_copyTo_1 : decode cX3_copyTo 1 = .ok (.getfield 9, 3) := by decide +kernel
theorem dX3_copyTo_4 : decode cX3_copyTo 4 = .ok (.iconst 0, 1) := by decide +kernel
theorem dX3_copyTo_5 : decode cX3_copyTo 5 = .ok (.aload_n 1, 1) := by decide +kernel
theorem dX3_copyTo_6 : decode cX3_copyTo 6 = .ok (.iload_n 2, 1) := by decide +kernel
theorem dX3_copyTo_7 : decode cX3_copyTo 7 = .ok (.invokestatic 15, 3) := by decide +kernel
theorem dX3_copyTo_10 : decode cX3_copyTo 10 = .ok (.return_, 1) := by decide +kernel
theorem dX3_copyFrom_0 : decode cX3_copyFrom 0 = .ok (.aload_n 1, 1) := by decide +kernel
theorem dX3_copyFrom_1 : decode cX3_copyFrom 1 = .ok (.iload_n 2, 1) := by decide +kernel
theorem dX3_copyFrom_2 : decode cX3_copyFrom 2 = .ok (.aload_n 0, 1) := by decide +kernel
theorem dX3_copyFrom_3 : decode cX3_copyFrom 3 = .ok (.getfield 9, 3) := by decide +kernel
theorem dX3_copyFrom_6 : decode cX3_copyFrom 6 = .ok (.iconst 0, 1) := by decide +kernel
theorem dX3_copyFrom_7 : decode cX3_copyFrom 7 = .ok (.invokestatic 15, 3) := by decide +kernel
theorem dX3_copyFrom_10 : decode cX3_copyFrom 10 = .ok (.return_, 1) := by decide +kernel
theorem dX3_countOf_0 : decode cX3_countOf 0 = .ok (.aload_n 0, 1) := by decide +kernel
theorem dX3_countOf_1 : decode cX3_countOf 1 = .ok (.sipush 240, 3) := by decide +kernel
theorem dX3_countOf_4 : decode cX3_countOf 4 = .ok (.iload_n 1, 1) := by decide +kernel
theorem dX3_countOf_5 : decode cX3_countOf 5 = .ok (.iadd, 1) := by decide +kernel
theorem dX3_countOf_6 : decode cX3_countOf 6 = .ok (.invokevirtual 19, 3) := by decide +kernel
theorem dX3_countOf_9 : decode cX3_countOf 9 = .ok (.ireturn, 1) := by decide +kernel
theorem dX3_setCount_0 : decode cX3_setCount 0 = .ok (.aload_n 0, 1) := by decide +kernel
theorem dX3_setCount_1 : decode cX3_setCount 1 = .ok (.sipush 240, 3) := by decide +kernel
theorem dX3_setCount_4 : decode cX3_setCount 4 = .ok (.iload_n 1, 1) := by decide +kernel
theorem dX3_setCount_5 : decode cX3_setCount 5 = .ok (.iadd, 1) := by decide +kernel
theorem dX3_setCount_6 : decode cX3_setCount 6 = .ok (.iload_n 2, 1) := by decide +kernel
theorem dX3_setCount_7 : decode cX3_setCount 7 = .ok (.invokevirtual 23, 3) := by decide +kernel
theorem dX3_setCount_10 : decode cX3_setCount 10 = .ok (.return_, 1) := by decide +kernel
theorem dX3_countOfAll_0 : decode cX3_countOfAll 0 = .ok (.iconst 0, 1) := by decide +kernel
theorem dX3_countOfAll_1 : decode cX3_countOfAll 1 = .ok (.istore_n 1, 1) := by decide +kernel
theorem dX3_countOfAll_2 : decode cX3_countOfAll 2 = .ok (.iconst 0, 1) := by decide +kernel
theorem dX3_countOfAll_3 : decode cX3_countOfAll 3 = .ok (.istore_n 2, 1) := by decide +kernel
theorem dX3_countOfAll_4 : decode cX3_countOfAll 4 = .ok (.iload_n 2, 1) := by decide +kernel
theorem dX3_countOfAll_5 : decode cX3_countOfAll 5 = .ok (.iconst 4, 1) := by decide +kernel
theorem dX3_countOfAll_6 : decode cX3_countOfAll 6 = .ok (.if_icmp .ge 17, 3) := by decide +kernel
theorem dX3_countOfAll_9 : decode cX3_countOfAll 9 = .ok (.iload_n 1, 1) := by decide +kernel
theorem dX3_countOfAll_10 : decode cX3_countOfAll 10 = .ok (.aload_n 0, 1) := by decide +kernel
theorem dX3_countOfAll_11 : decode cX3_countOfAll 11 = .ok (.iload_n 2, 1) := by decide +kernel
theorem dX3_countOfAll_12 : decode cX3_countOfAll 12 = .ok (.invokevirtual 27, 3) := by decide +kernel
theorem dX3_countOfAll_15 : decode cX3_countOfAll 15 = .ok (.iadd, 1) := by decide +kernel
theorem dX3_countOfAll_16 : decode cX3_countOfAll 16 = .ok (.istore_n 1, 1) := by decide +kernel
theorem dX3_countOfAll_17 : decode cX3_countOfAll 17 = .ok (.iinc 2 1, 3) := by decide +kernel
theorem dX3_countOfAll_20 : decode cX3_countOfAll 20 = .ok (.goto (-16), 3) := by decide +kernel
theorem dX3_countOfAll_23 : decode cX3_countOfAll 23 = .ok (.iload_n 1, 1) := by decide +kernel
theorem dX3_countOfAll_24 : decode cX3_countOfAll 24 = .ok (.ireturn, 1) := by decide +kernel
theorem dX3_placeOf_0 : decode cX3_placeOf 0 = .ok (.iload_n 0, 1) := by decide +kernel
theorem dX3_placeOf_1 : decode cX3_placeOf 1 = .ok (.bipush 60, 2) := by decide +kernel
theorem dX3_placeOf_3 : decode cX3_placeOf 3 = .ok (.imul, 1) := by decide +kernel
theorem dX3_placeOf_4 : decode cX3_placeOf 4 = .ok (.iload_n 1, 1) := by decide +kernel
theorem dX3_placeOf_5 : decode cX3_placeOf 5 = .ok (.iadd, 1) := by decide +kernel
theorem dX3_placeOf_6 : decode cX3_placeOf 6 = .ok (.ireturn, 1) := by decide +kernel
theorem dX3_segmentAt_0 : decode cX3_segmentAt 0 = .ok (.aload_n 0, 1) := by decide +kernel
theorem dX3_segmentAt_1 : decode cX3_segmentAt 1 = .ok (.iload_n 1, 1) := by decide +kernel
theorem dX3_segmentAt_2 : decode cX3_segmentAt 2 = .ok (.iload_n 2, 1) := by decide +kernel
theorem dX3_segmentAt_3 : decode cX3_segmentAt 3 = .ok (.invokestatic 30, 3) := by decide +kernel
theorem dX3_segmentAt_6 : decode cX3_segmentAt 6 = .ok (.invokevirtual 19, 3) := by decide +kernel
theorem dX3_segmentAt_9 : decode cX3_segmentAt 9 = .ok (.ireturn, 1) := by decide +kernel
theorem dX3_setSegment_0 : decode cX3_setSegment 0 = .ok (.aload_n 0, 1) := by decide +kernel
theorem dX3_setSegment_1 : decode cX3_setSegment 1 = .ok (.iload_n 1, 1) := by decide +kernel
theorem dX3_setSegment_2 : decode cX3_setSegment 2 = .ok (.iload_n 2, 1) := by decide +kernel
theorem dX3_setSegment_3 : decode cX3_setSegment 3 = .ok (.invokestatic 30, 3) := by decide +kernel
theorem dX3_setSegment_6 : decode cX3_setSegment 6 = .ok (.iload_n 3, 1) := by decide +kernel
theorem dX3_setSegment_7 : decode cX3_setSegment 7 = .ok (.invokevirtual 23, 3) := by decide +kernel
theorem dX3_setSegment_10 : decode cX3_setSegment 10 = .ok (.return_, 1) := by decide +kernel
theorem dX3_lengthAt_0 : decode cX3_lengthAt 0 = .ok (.aload_n 0, 1) := by decide +kernel
theorem dX3_lengthAt_1 : decode cX3_lengthAt 1 = .ok (.iload_n 1, 1) := by decide +kernel
theorem dX3_lengthAt_2 : decode cX3_lengthAt 2 = .ok (.iload_n 2, 1) := by decide +kernel
theorem dX3_lengthAt_3 : decode cX3_lengthAt 3 = .ok (.invokevirtual 34, 3) := by decide +kernel
theorem dX3_lengthAt_6 : decode cX3_lengthAt 6 = .ok (.bipush 8, 2) := by decide +kernel
theorem dX3_lengthAt_8 : decode cX3_lengthAt 8 = .ok (.idiv, 1) := by decide +kernel
theorem dX3_lengthAt_9 : decode cX3_lengthAt 9 = .ok (.ireturn, 1) := by decide +kernel
theorem dX3_colourAt_0 : decode cX3_colourAt 0 = .ok (.aload_n 0, 1) := by decide +kernel
theorem dX3_colourAt_1 : decode cX3_colourAt 1 = .ok (.iload_n 1, 1) := by decide +kernel
theorem dX3_colourAt_2 : decode cX3_colourAt 2 = .ok (.iload_n 2, 1) := by decide +kernel
theorem dX3_colourAt_3 : decode cX3_colourAt 3 = .ok (.invokevirtual 34, 3) := by decide +kernel
theorem dX3_colourAt_6 : decode cX3_colourAt 6 = .ok (.bipush 8, 2) := by decide +kernel
theorem dX3_colourAt_8 : decode cX3_colourAt 8 = .ok (.irem, 1) := by decide +kernel
theorem dX3_colourAt_9 : decode cX3_colourAt 9 = .ok (.ireturn, 1) := by decide +kernel
theorem dX3_areTangled_0 : decode cX3_areTangled 0 = .ok (.iload_n 2, 1) := by decide +kernel
theorem dX3_areTangled_1 : decode cX3_areTangled 1 = .ok (.ifCond .lt 35, 3) := by decide +kernel
theorem dX3_areTangled_4 : decode cX3_areTangled 4 = .ok (.iload_n 2, 1) := by decide +kernel
theorem dX3_areTangled_5 : decode cX3_areTangled 5 = .ok (.iconst 1, 1) := by decide +kernel
theorem dX3_areTangled_6 : decode cX3_areTangled 6 = .ok (.iadd, 1) := by decide +kernel
theorem dX3_areTangled_7 : decode cX3_areTangled 7 = .ok (.aload_n 0, 1) := by decide +kernel
theorem dX3_areTangled_8 : decode cX3_areTangled 8 = .ok (.iload_n 1, 1) := by decide +kernel
theorem dX3_areTangled_9 : decode cX3_areTangled 9 = .ok (.invokevirtual 27, 3) := by decide +kernel
theorem dX3_areTangled_12 : decode cX3_areTangled 12 = .ok (.if_icmp .ge 24, 3) := by decide +kernel
theorem dX3_areTangled_15 : decode cX3_areTangled 15 = .ok (.aload_n 0, 1) := by decide +kernel
theorem dX3_areTangled_16 : decode cX3_areTangled 16 = .ok (.iload_n 1, 1) := by decide +kernel
theorem dX3_areTangled_17 : decode cX3_areTangled 17 = .ok (.iload_n 2, 1) := by decide +kernel
theorem dX3_areTangled_18 : decode cX3_areTangled 18 = .ok (.invokevirtual 37, 3) := by decide +kernel
theorem dX3_areTangled_21 : decode cX3_areTangled 21 = .ok (.aload_n 0, 1) := by decide +kernel
theorem dX3_areTangled_22 : decode cX3_areTangled 22 = .ok (.iload_n 1, 1) := by decide +kernel
theorem dX3_areTangled_23 : decode cX3_areTangled 23 = .ok (.iload_n 2, 1) := by decide +kernel
theorem dX3_areTangled_24 : decode cX3_areTangled 24 = .ok (.iconst 1, 1) := by decide +kernel
theorem dX3_areTangled_25 : decode cX3_areTangled 25 = .ok (.iadd, 1) := by decide +kernel
theorem dX3_areTangled_26 : decode cX3_areTangled 26 = .ok (.invokevirtual 37, 3) := by decide +kernel
theorem dX3_areTangled_29 : decode cX3_areTangled 29 = .ok (.if_icmp .ne 7, 3) := by decide +kernel
theorem dX3_areTangled_32 : decode cX3_areTangled 32 = .ok (.iconst 1, 1) := by decide +kernel
theorem dX3_areTangled_33 : decode cX3_areTangled 33 = .ok (.goto 4, 3) := by decide +kernel
theorem dX3_areTangled_36 : decode cX3_areTangled 36 = .ok (.iconst 0, 1) := by decide +kernel
theorem dX3_areTangled_37 : decode cX3_areTangled 37 = .ok (.ireturn, 1) := by decide +kernel
theorem dX3_putIn_0 : decode cX3_putIn 0 = .ok (.aload_n 0, 1) := by decide +kernel
theorem dX3_putIn_1 : decode cX3_putIn 1 = .ok (.iload_n 1, 1) := by decide +kernel
theorem dX3_putIn_2 : decode cX3_putIn 2 = .ok (.invokevirtual 27, 3) := by decide +kernel
theorem dX3_putIn_5 : decode cX3_putIn 5 = .ok (.istore 5, 2) := by decide +kernel
theorem dX3_putIn_7 : decode cX3_putIn 7 = .ok (.iload 5, 2) := by decide +kernel
theorem dX3_putIn_9 : decode cX3_putIn 9 = .ok (.istore 6, 2) := by decide +kernel
theorem dX3_putIn_11 : decode cX3_putIn 11 = .ok (.iload 6, 2) := by decide +kernel
theorem dX3_putIn_13 : decode cX3_putIn 13 = .ok (.iload_n 2, 1) := by decide +kernel
theorem dX3_putIn_14 : decode cX3_putIn 14 = .ok (.if_icmp .le 25, 3) := by decide +kernel
theorem dX3_putIn_17 : decode cX3_putIn 17 = .ok (.aload_n 0, 1) := by decide +kernel
theorem dX3_putIn_18 : decode cX3_putIn 18 = .ok (.iload_n 1, 1) := by decide +kernel
theorem dX3_putIn_19 : decode cX3_putIn 19 = .ok (.iload 6, 2) := by decide +kernel
theorem dX3_putIn_21 : decode cX3_putIn 21 = .ok (.aload_n 0, 1) := by decide +kernel
theorem dX3_putIn_22 : decode cX3_putIn 22 = .ok (.iload_n 1, 1) := by decide +kernel
theorem dX3_putIn_23 : decode cX3_putIn 23 = .ok (.iload 6, 2) := by decide +kernel
theorem dX3_putIn_25 : decode cX3_putIn 25 = .ok (.iconst 1, 1) := by decide +kernel
theorem dX3_putIn_26 : decode cX3_putIn 26 = .ok (.isub, 1) := by decide +kernel
theorem dX3_putIn_27 : decode cX3_putIn 27 = .ok (.invokevirtual 34, 3) := by decide +kernel
theorem dX3_putIn_30 : decode cX3_putIn 30 = .ok (.invokevirtual 40, 3) := by decide +kernel
theorem dX3_putIn_33 : decode cX3_putIn 33 = .ok (.iinc 6 (-1), 3) := by decide +kernel
theorem dX3_putIn_36 : decode cX3_putIn 36 = .ok (.goto (-25), 3) := by decide +kernel
theorem dX3_putIn_39 : decode cX3_putIn 39 = .ok (.aload_n 0, 1) := by decide +kernel
theorem dX3_putIn_40 : decode cX3_putIn 40 = .ok (.iload_n 1, 1) := by decide +kernel
theorem dX3_putIn_41 : decode cX3_putIn 41 = .ok (.iload_n 2, 1) := by decide +kernel
theorem dX3_putIn_42 : decode cX3_putIn 42 = .ok (.iload_n 3, 1) := by decide +kernel
theorem dX3_putIn_43 : decode cX3_putIn 43 = .ok (.bipush 8, 2) := by decide +kernel
theorem dX3_putIn_45 : decode cX3_putIn 45 = .ok (.imul, 1) := by decide +kernel
theorem dX3_putIn_46 : decode cX3_putIn 46 = .ok (.iload 4, 2) := by decide +kernel
theorem dX3_putIn_48 : decode cX3_putIn 48 = .ok (.iadd, 1) := by decide +kernel
theorem dX3_putIn_49 : decode cX3_putIn 49 = .ok (.invokevirtual 40, 3) := by decide +kernel
theorem dX3_putIn_52 : decode cX3_putIn 52 = .ok (.aload_n 0, 1) := by decide +kernel
theorem dX3_putIn_53 : decode cX3_putIn 53 = .ok (.iload_n 1, 1) := by decide +kernel
theorem dX3_putIn_54 : decode cX3_putIn 54 = .ok (.iload 5, 2) := by decide +kernel
theorem dX3_putIn_56 : decode cX3_putIn 56 = .ok (.iconst 1, 1) := by decide +kernel
theorem dX3_putIn_57 : decode cX3_putIn 57 = .ok (.iadd, 1) := by decide +kernel
theorem dX3_putIn_58 : decode cX3_putIn 58 = .ok (.invokevirtual 44, 3) := by decide +kernel
theorem dX3_putIn_61 : decode cX3_putIn 61 = .ok (.iload 5, 2) := by decide +kernel
theorem dX3_putIn_63 : decode cX3_putIn 63 = .ok (.iconst 1, 1) := by decide +kernel
theorem dX3_putIn_64 : decode cX3_putIn 64 = .ok (.iadd, 1) := by decide +kernel
theorem dX3_putIn_65 : decode cX3_putIn 65 = .ok (.ireturn, 1) := by decide +kernel
theorem dX3_takeOut_0 : decode cX3_takeOut 0 = .ok (.aload_n 0, 1) := by decide +kernel
theorem dX3_takeOut_1 : decode cX3_takeOut 1 = .ok (.iload_n 1, 1) := by decide +kernel
theorem dX3_takeOut_2 : decode cX3_takeOut 2 = .ok (.iload_n 2, 1) := by decide +kernel
theorem dX3_takeOut_3 : decode cX3_takeOut 3 = .ok (.invokevirtual 47, 3) := by decide +kernel
theorem dX3_takeOut_6 : decode cX3_takeOut 6 = .ok (.istore_n 3, 1) := by decide +kernel
theorem dX3_takeOut_7 : decode cX3_takeOut 7 = .ok (.aload_n 0, 1) := by decide +kernel
theorem dX3_takeOut_8 : decode cX3_takeOut 8 = .ok (.iload_n 1, 1) := by decide +kernel
theorem dX3_takeOut_9 : decode cX3_takeOut 9 = .ok (.invokevirtual 27, 3) := by decide +kernel
theorem dX3_takeOut_12 : decode cX3_takeOut 12 = .ok (.iconst 1, 1) := by decide +kernel
theorem dX3_takeOut_13 : decode cX3_takeOut 13 = .ok (.isub, 1) := by decide +kernel
theorem dX3_takeOut_14 : decode cX3_takeOut 14 = .ok (.istore 4, 2) := by decide +kernel
theorem dX3_takeOut_16 : decode cX3_takeOut 16 = .ok (.iload_n 2, 1) := by decide +kernel
theorem dX3_takeOut_17 : decode cX3_takeOut 17 = .ok (.istore 5, 2) := by decide +kernel
theorem dX3_takeOut_19 : decode cX3_takeOut 19 = .ok (.iload 5, 2) := by decide +kernel
theorem dX3_takeOut_21 : decode cX3_takeOut 21 = .ok (.iload 4, 2) := by decide +kernel
theorem dX3_takeOut_23 : decode cX3_takeOut 23 = .ok (.if_icmp .ge 25, 3) := by decide +kernel
theorem dX3_takeOut_26 : decode cX3_takeOut 26 = .ok (.aload_n 0, 1) := by decide +kernel
theorem dX3_takeOut_27 : decode cX3_takeOut 27 = .ok (.iload_n 1, 1) := by decide +kernel
theorem dX3_takeOut_28 : decode cX3_takeOut 28 = .ok (.iload 5, 2) := by decide +kernel
theorem dX3_takeOut_30 : decode cX3_takeOut 30 = .ok (.aload_n 0, 1) := by decide +kernel
theorem dX3_takeOut_31 : decode cX3_takeOut 31 = .ok (.iload_n 1, 1) := by decide +kernel
theorem dX3_takeOut_32 : decode cX3_takeOut 32 = .ok (.iload 5, 2) := by decide +kernel
theorem dX3_takeOut_34 : decode cX3_takeOut 34 = .ok (.iconst 1, 1) := by decide +kernel
theorem dX3_takeOut_35 : decode cX3_takeOut 35 = .ok (.iadd, 1) := by decide +kernel
theorem dX3_takeOut_36 : decode cX3_takeOut 36 = .ok (.invokevirtual 34, 3) := by decide +kernel
theorem dX3_takeOut_39 : decode cX3_takeOut 39 = .ok (.invokevirtual 40, 3) := by decide +kernel
theorem dX3_takeOut_42 : decode cX3_takeOut 42 = .ok (.iinc 5 1, 3) := by decide +kernel
theorem dX3_takeOut_45 : decode cX3_takeOut 45 = .ok (.goto (-26), 3) := by decide +kernel
theorem dX3_takeOut_48 : decode cX3_takeOut 48 = .ok (.aload_n 0, 1) := by decide +kernel
theorem dX3_takeOut_49 : decode cX3_takeOut 49 = .ok (.iload_n 1, 1) := by decide +kernel
theorem dX3_takeOut_50 : decode cX3_takeOut 50 = .ok (.iload 4, 2) := by decide +kernel
theorem dX3_takeOut_52 : decode cX3_takeOut 52 = .ok (.invokevirtual 44, 3) := by decide +kernel
theorem dX3_takeOut_55 : decode cX3_takeOut 55 = .ok (.iload_n 3, 1) := by decide +kernel
theorem dX3_takeOut_56 : decode cX3_takeOut 56 = .ok (.ireturn, 1) := by decide +kernel
theorem dX3_setLength_0 : decode cX3_setLength 0 = .ok (.aload_n 0, 1) := by decide +kernel
theorem dX3_setLength_1 : decode cX3_setLength 1 = .ok (.iload_n 1, 1) := by decide +kernel
theorem dX3_setLength_2 : decode cX3_setLength 2 = .ok (.iload_n 2, 1) := by decide +kernel
theorem dX3_setLength_3 : decode cX3_setLength 3 = .ok (.invokevirtual 47, 3) := by decide +kernel
theorem dX3_setLength_6 : decode cX3_setLength 6 = .ok (.istore 4, 2) := by decide +kernel
theorem dX3_setLength_8 : decode cX3_setLength 8 = .ok (.aload_n 0, 1) := by decide +kernel
theorem dX3_setLength_9 : decode cX3_setLength 9 = .ok (.iload_n 1, 1) := by decide +kernel
theorem dX3_setLength_10 : decode cX3_setLength 10 = .ok (.iload_n 2, 1) := by decide +kernel
theorem dX3_setLength_11 : decode cX3_setLength 11 = .ok (.iload_n 3, 1) := by decide +kernel
theorem dX3_setLength_12 : decode cX3_setLength 12 = .ok (.bipush 8, 2) := by decide +kernel
theorem dX3_setLength_14 : decode cX3_setLength 14 = .ok (.imul, 1) := by decide +kernel
theorem dX3_setLength_15 : decode cX3_setLength 15 = .ok (.aload_n 0, 1) := by decide +kernel
theorem dX3_setLength_16 : decode cX3_setLength 16 = .ok (.iload_n 1, 1) := by decide +kernel
theorem dX3_setLength_17 : decode cX3_setLength 17 = .ok (.iload_n 2, 1) := by decide +kernel
theorem dX3_setLength_18 : decode cX3_setLength 18 = .ok (.invokevirtual 37, 3) := by decide +kernel
theorem dX3_setLength_21 : decode cX3_setLength 21 = .ok (.iadd, 1) := by decide +kernel
theorem dX3_setLength_22 : decode cX3_setLength 22 = .ok (.invokevirtual 40, 3) := by decide +kernel
theorem dX3_setLength_25 : decode cX3_setLength 25 = .ok (.iload 4, 2) := by decide +kernel
theorem dX3_setLength_27 : decode cX3_setLength 27 = .ok (.ireturn, 1) := by decide +kernel
theorem dX3_cutOff_0 : decode cX3_cutOff 0 = .ok (.aload_n 0, 1) := by decide +kernel
theorem dX3_cutOff_1 : decode cX3_cutOff 1 = .ok (.iload_n 1, 1) := by decide +kernel
theorem dX3_cutOff_2 : decode cX3_cutOff 2 = .ok (.invokevirtual 27, 3) := by decide +kernel
theorem dX3_cutOff_5 : decode cX3_cutOff 5 = .ok (.iload_n 2, 1) := by decide +kernel
theorem dX3_cutOff_6 : decode cX3_cutOff 6 = .ok (.isub, 1) := by decide +kernel
theorem dX3_cutOff_7 : decode cX3_cutOff 7 = .ok (.istore 4, 2) := by decide +kernel
theorem dX3_cutOff_9 : decode cX3_cutOff 9 = .ok (.aload_n 0, 1) := by decide +kernel
theorem dX3_cutOff_10 : decode cX3_cutOff 10 = .ok (.iload_n 1, 1) := by decide +kernel
theorem dX3_cutOff_11 : decode cX3_cutOff 11 = .ok (.iload_n 2, 1) := by decide +kernel
theorem dX3_cutOff_12 : decode cX3_cutOff 12 = .ok (.iload_n 3, 1) := by decide +kernel
theorem dX3_cutOff_13 : decode cX3_cutOff 13 = .ok (.invokevirtual 50, 3) := by decide +kernel
theorem dX3_cutOff_16 : decode cX3_cutOff 16 = .ok (.aload_n 0, 1) := by decide +kernel
theorem dX3_cutOff_17 : decode cX3_cutOff 17 = .ok (.sipush 308, 3) := by decide +kernel
theorem dX3_cutOff_20 : decode cX3_cutOff 20 = .ok (.aload_n 0, 1) := by decide +kernel
theorem dX3_cutOff_21 : decode cX3_cutOff 21 = .ok (.sipush 308, 3) := by decide +kernel
theorem dX3_cutOff_24 : decode cX3_cutOff 24 = .ok (.invokevirtual 19, 3) := by decide +kernel
theorem dX3_cutOff_27 : decode cX3_cutOff 27 = .ok (.iconst 1, 1) := by decide +kernel
theorem dX3_cutOff_28 : decode cX3_cutOff 28 = .ok (.iadd, 1) := by decide +kernel
theorem dX3_cutOff_29 : decode cX3_cutOff 29 = .ok (.invokevirtual 23, 3) := by decide +kernel
theorem dX3_cutOff_32 : decode cX3_cutOff 32 = .ok (.iload 4, 2) := by decide +kernel
theorem dX3_cutOff_34 : decode cX3_cutOff 34 = .ok (.ireturn, 1) := by decide +kernel
theorem dX3_join_0 : decode cX3_join 0 = .ok (.aload_n 0, 1) := by decide +kernel
theorem dX3_join_1 : decode cX3_join 1 = .ok (.iload_n 2, 1) := by decide +kernel
theorem dX3_join_2 : decode cX3_join 2 = .ok (.iconst 0, 1) := by decide +kernel
theorem dX3_join_3 : decode cX3_join 3 = .ok (.iload_n 1, 1) := by decide +kernel
theorem dX3_join_4 : decode cX3_join 4 = .ok (.invokevirtual 50, 3) := by decide +kernel
theorem dX3_join_7 : decode cX3_join 7 = .ok (.aload_n 0, 1) := by decide +kernel
theorem dX3_join_8 : decode cX3_join 8 = .ok (.sipush 309, 3) := by decide +kernel
theorem dX3_join_11 : decode cX3_join 11 = .ok (.aload_n 0, 1) := by decide +kernel
theorem dX3_join_12 : decode cX3_join 12 = .ok (.sipush 309, 3) := by decide +kernel
theorem dX3_join_15 : decode cX3_join 15 = .ok (.invokevirtual 19, 3) := by decide +kernel
theorem dX3_join_18 : decode cX3_join 18 = .ok (.iconst 1, 1) := by decide +kernel
theorem dX3_join_19 : decode cX3_join 19 = .ok (.iadd, 1) := by decide +kernel
theorem dX3_join_20 : decode cX3_join 20 = .ok (.invokevirtual 23, 3) := by decide +kernel
theorem dX3_join_23 : decode cX3_join 23 = .ok (.aload_n 0, 1) := by decide +kernel
theorem dX3_join_24 : decode cX3_join 24 = .ok (.iload_n 1, 1) := by decide +kernel
theorem dX3_join_25 : decode cX3_join 25 = .ok (.invokevirtual 27, 3) := by decide +kernel
theorem dX3_join_28 : decode cX3_join 28 = .ok (.ireturn, 1) := by decide +kernel
theorem dX3_moveTail_0 : decode cX3_moveTail 0 = .ok (.aload_n 0, 1) := by decide +kernel
theorem dX3_moveTail_1 : decode cX3_moveTail 1 = .ok (.iload_n 1, 1) := by decide +kernel
theorem dX3_moveTail_2 : decode cX3_moveTail 2 = .ok (.invokevirtual 27, 3) := by decide +kernel
theorem dX3_moveTail_5 : decode cX3_moveTail 5 = .ok (.iload_n 2, 1) := by decide +kernel
theorem dX3_moveTail_6 : decode cX3_moveTail 6 = .ok (.isub, 1) := by decide +kernel
theorem dX3_moveTail_7 : decode cX3_moveTail 7 = .ok (.istore 4, 2) := by decide +kernel
theorem dX3_moveTail_9 : decode cX3_moveTail 9 = .ok (.aload_n 0, 1) := by decide +kernel
theorem dX3_moveTail_10 : decode cX3_moveTail 10 = .ok (.iload_n 3, 1) := by decide +kernel
theorem dX3_moveTail_11 : decode cX3_moveTail 11 = .ok (.invokevirtual 27, 3) := by decide +kernel
theorem dX3_moveTail_14 : decode cX3_moveTail 14 = .ok (.istore 5, 2) := by decide +kernel
theorem dX3_moveTail_16 : decode cX3_moveTail 16 = .ok (.iconst 0, 1) := by decide +kernel
theorem dX3_moveTail_17 : decode cX3_moveTail 17 = .ok (.istore 6, 2) := by decide +kernel
theorem dX3_moveTail_19 : decode cX3_moveTail 19 = .ok (.iload 6, 2) := by decide +kernel
theorem dX3_moveTail_21 : decode cX3_moveTail 21 = .ok (.iload 4, 2) := by decide +kernel
theorem dX3_moveTail_23 : decode cX3_moveTail 23 = .ok (.if_icmp .ge 28, 3) := by decide +kernel
theorem dX3_moveTail_26 : decode cX3_moveTail 26 = .ok (.aload_n 0, 1) := by decide +kernel
theorem dX3_moveTail_27 : decode cX3_moveTail 27 = .ok (.iload_n 3, 1) := by decide +kernel
theorem dX3_moveTail_28 : decode cX3_moveTail 28 = .ok (.iload 5, 2) := by decide +kernel
theorem dX3_moveTail_30 : decode cX3_moveTail 30 = .ok (.iload 6, 2) := by decide +kernel
theorem dX3_moveTail_32 : decode cX3_moveTail 32 = .ok (.iadd, 1) := by decide +kernel
theorem dX3_moveTail_33 : decode cX3_moveTail 33 = .ok (.aload_n 0, 1) := by decide +kernel
theorem dX3_moveTail_34 : decode cX3_moveTail 34 = .ok (.iload_n 1, 1) := by decide +kernel
theorem dX3_moveTail_35 : decode cX3_moveTail 35 = .ok (.iload_n 2, 1) := by decide +kernel
theorem dX3_moveTail_36 : decode cX3_moveTail 36 = .ok (.iload 6, 2) := by decide +kernel
theorem dX3_moveTail_38 : decode cX3_moveTail 38 = .ok (.iadd, 1) := by decide +kernel
theorem dX3_moveTail_39 : decode cX3_moveTail 39 = .ok (.invokevirtual 34, 3) := by decide +kernel
theorem dX3_moveTail_42 : decode cX3_moveTail 42 = .ok (.invokevirtual 40, 3) := by decide +kernel
theorem dX3_moveTail_45 : decode cX3_moveTail 45 = .ok (.iinc 6 1, 3) := by decide +kernel
theorem dX3_moveTail_48 : decode cX3_moveTail 48 = .ok (.goto (-29), 3) := by decide +kernel
theorem dX3_moveTail_51 : decode cX3_moveTail 51 = .ok (.aload_n 0, 1) := by decide +kernel
theorem dX3_moveTail_52 : decode cX3_moveTail 52 = .ok (.iload_n 3, 1) := by decide +kernel
theorem dX3_moveTail_53 : decode cX3_moveTail 53 = .ok (.iload 5, 2) := by decide +kernel
theorem dX3_moveTail_55 : decode cX3_moveTail 55 = .ok (.iload 4, 2) := by decide +kernel
theorem dX3_moveTail_57 : decode cX3_moveTail 57 = .ok (.iadd, 1) := by decide +kernel
theorem dX3_moveTail_58 : decode cX3_moveTail 58 = .ok (.invokevirtual 44, 3) := by decide +kernel
theorem dX3_moveTail_61 : decode cX3_moveTail 61 = .ok (.aload_n 0, 1) := by decide +kernel
theorem dX3_moveTail_62 : decode cX3_moveTail 62 = .ok (.iload_n 1, 1) := by decide +kernel
theorem dX3_moveTail_63 : decode cX3_moveTail 63 = .ok (.iload_n 2, 1) := by decide +kernel
theorem dX3_moveTail_64 : decode cX3_moveTail 64 = .ok (.invokevirtual 44, 3) := by decide +kernel
theorem dX3_moveTail_67 : decode cX3_moveTail 67 = .ok (.return_, 1) := by decide +kernel
theorem dX3_swap_0 : decode cX3_swap 0 = .ok (.aload_n 0, 1) := by decide +kernel
theorem dX3_swap_1 : decode cX3_swap 1 = .ok (.iload_n 1, 1) := by decide +kernel
theorem dX3_swap_2 : decode cX3_swap 2 = .ok (.invokevirtual 27, 3) := by decide +kernel
theorem dX3_swap_5 : decode cX3_swap 5 = .ok (.istore_n 3, 1) := by decide +kernel
theorem dX3_swap_6 : decode cX3_swap 6 = .ok (.aload_n 0, 1) := by decide +kernel
theorem dX3_swap_7 : decode cX3_swap 7 = .ok (.iload_n 2, 1) := by decide +kernel
theorem dX3_swap_8 : decode cX3_swap 8 = .ok (.invokevirtual 27, 3) := by decide +kernel
theorem dX3_swap_11 : decode cX3_swap 11 = .ok (.istore 4, 2) := by decide +kernel
theorem dX3_swap_13 : decode cX3_swap 13 = .ok (.iconst 0, 1) := by decide +kernel
theorem dX3_swap_14 : decode cX3_swap 14 = .ok (.istore 5, 2) := by decide +kernel
theorem dX3_swap_16 : decode cX3_swap 16 = .ok (.iload 5, 2) := by decide +kernel
theorem dX3_swap_18 : decode cX3_swap 18 = .ok (.bipush 60, 2) := by decide +kernel
theorem dX3_swap_20 : decode cX3_swap 20 = .ok (.if_icmp .ge 19, 3) := by decide +kernel
theorem dX3_swap_23 : decode cX3_swap 23 = .ok (.aload_n 0, 1) := by decide +kernel
theorem dX3_swap_24 : decode cX3_swap 24 = .ok (.iload_n 1, 1) := by decide +kernel
theorem dX3_swap_25 : decode cX3_swap 25 = .ok (.iload 5, 2) := by decide +kernel
theorem dX3_swap_27 : decode cX3_swap 27 = .ok (.iload_n 2, 1) := by decide +kernel
theorem dX3_swap_28 : decode cX3_swap 28 = .ok (.iload 5, 2) := by decide +kernel
theorem dX3_swap_30 : decode cX3_swap 30 = .ok (.invokevirtual 53, 3) := by decide +kernel
theorem dX3_swap_33 : decode cX3_swap 33 = .ok (.iinc 5 1, 3) := by decide +kernel
theorem dX3_swap_36 : decode cX3_swap 36 = .ok (.goto (-20), 3) := by decide +kernel
theorem dX3_swap_39 : decode cX3_swap 39 = .ok (.aload_n 0, 1) := by decide +kernel
theorem dX3_swap_40 : decode cX3_swap 40 = .ok (.iload_n 1, 1) := by decide +kernel
theorem dX3_swap_41 : decode cX3_swap 41 = .ok (.iload 4, 2) := by decide +kernel
theorem dX3_swap_43 : decode cX3_swap 43 = .ok (.invokevirtual 44, 3) := by decide +kernel
theorem dX3_swap_46 : decode cX3_swap 46 = .ok (.aload_n 0, 1) := by decide +kernel
theorem dX3_swap_47 : decode cX3_swap 47 = .ok (.iload_n 2, 1) := by decide +kernel
theorem dX3_swap_48 : decode cX3_swap 48 = .ok (.iload_n 3, 1) := by decide +kernel
theorem dX3_swap_49 : decode cX3_swap 49 = .ok (.invokevirtual 44, 3) := by decide +kernel
theorem dX3_swap_52 : decode cX3_swap 52 = .ok (.iload 4, 2) := by decide +kernel
theorem dX3_swap_54 : decode cX3_swap 54 = .ok (.ireturn, 1) := by decide +kernel
theorem dX3_swapSegments_0 : decode cX3_swapSegments 0 = .ok (.aload_n 0, 1) := by decide +kernel
theorem dX3_swapSegments_1 : decode cX3_swapSegments 1 = .ok (.iload_n 1, 1) := by decide +kernel
theorem dX3_swapSegments_2 : decode cX3_swapSegments 2 = .ok (.iload_n 2, 1) := by decide +kernel
theorem dX3_swapSegments_3 : decode cX3_swapSegments 3 = .ok (.invokevirtual 34, 3) := by decide +kernel
theorem dX3_swapSegments_6 : decode cX3_swapSegments 6 = .ok (.istore 5, 2) := by decide +kernel
theorem dX3_swapSegments_8 : decode cX3_swapSegments 8 = .ok (.aload_n 0, 1) := by decide +kernel
theorem dX3_swapSegments_9 : decode cX3_swapSegments 9 = .ok (.iload_n 1, 1) := by decide +kernel
theorem dX3_swapSegments_10 : decode cX3_swapSegments 10 = .ok (.iload_n 2, 1) := by decide +kernel
theorem dX3_swapSegments_11 : decode cX3_swapSegments 11 = .ok (.aload_n 0, 1) := by decide +kernel
theorem dX3_swapSegments_12 : decode cX3_swapSegments 12 = .ok (.iload_n 3, 1) := by decide +kernel
theorem dX3_swapSegments_13 : decode cX3_swapSegments 13 = .ok (.iload 4, 2) := by decide +kernel
theorem dX3_swapSegments_15 : decode cX3_swapSegments 15 = .ok (.invokevirtual 34, 3) := by decide +kernel
theorem dX3_swapSegments_18 : decode cX3_swapSegments 18 = .ok (.invokevirtual 40, 3) := by decide +kernel
theorem dX3_swapSegments_21 : decode cX3_swapSegments 21 = .ok (.aload_n 0, 1) := by decide +kernel
theorem dX3_swapSegments_22 : decode cX3_swapSegments 22 = .ok (.iload_n 3, 1) := by decide +kernel
theorem dX3_swapSegments_23 : decode cX3_swapSegments 23 = .ok (.iload 4, 2) := by decide +kernel
theorem dX3_swapSegments_25 : decode cX3_swapSegments 25 = .ok (.iload 5, 2) := by decide +kernel
theorem dX3_swapSegments_27 : decode cX3_swapSegments 27 = .ok (.invokevirtual 40, 3) := by decide +kernel
theorem dX3_swapSegments_30 : decode cX3_swapSegments 30 = .ok (.return_, 1) := by decide +kernel
theorem dX3_reverse_0 : decode cX3_reverse 0 = .ok (.iload_n 2, 1) := by decide +kernel
theorem dX3_reverse_1 : decode cX3_reverse 1 = .ok (.istore 4, 2) := by decide +kernel
theorem dX3_reverse_3 : decode cX3_reverse 3 = .ok (.iload_n 3, 1) := by decide +kernel
theorem dX3_reverse_4 : decode cX3_reverse 4 = .ok (.istore 5, 2) := by decide +kernel
theorem dX3_reverse_6 : decode cX3_reverse 6 = .ok (.iload 4, 2) := by decide +kernel
theorem dX3_reverse_8 : decode cX3_reverse 8 = .ok (.iload 5, 2) := by decide +kernel
theorem dX3_reverse_10 : decode cX3_reverse 10 = .ok (.if_icmp .ge 22, 3) := by decide +kernel
theorem dX3_reverse_13 : decode cX3_reverse 13 = .ok (.aload_n 0, 1) := by decide +kernel
theorem dX3_reverse_14 : decode cX3_reverse 14 = .ok (.iload_n 1, 1) := by decide +kernel
theorem dX3_reverse_15 : decode cX3_reverse 15 = .ok (.iload 4, 2) := by decide +kernel
theorem dX3_reverse_17 : decode cX3_reverse 17 = .ok (.iload_n 1, 1) := by decide +kernel
theorem dX3_reverse_18 : decode cX3_reverse 18 = .ok (.iload 5, 2) := by decide +kernel
theorem dX3_reverse_20 : decode cX3_reverse 20 = .ok (.invokevirtual 53, 3) := by decide +kernel
theorem dX3_reverse_23 : decode cX3_reverse 23 = .ok (.iinc 4 1, 3) := by decide +kernel
theorem dX3_reverse_26 : decode cX3_reverse 26 = .ok (.iinc 5 (-1), 3) := by decide +kernel
theorem dX3_reverse_29 : decode cX3_reverse 29 = .ok (.goto (-23), 3) := by decide +kernel
theorem dX3_reverse_32 : decode cX3_reverse 32 = .ok (.aload_n 0, 1) := by decide +kernel
theorem dX3_reverse_33 : decode cX3_reverse 33 = .ok (.iload_n 1, 1) := by decide +kernel
theorem dX3_reverse_34 : decode cX3_reverse 34 = .ok (.iload_n 2, 1) := by decide +kernel
theorem dX3_reverse_35 : decode cX3_reverse 35 = .ok (.iload_n 3, 1) := by decide +kernel
theorem dX3_reverse_36 : decode cX3_reverse 36 = .ok (.invokevirtual 57, 3) := by decide +kernel
theorem dX3_reverse_39 : decode cX3_reverse 39 = .ok (.ireturn, 1) := by decide +kernel
theorem dX3_paint_0 : decode cX3_paint 0 = .ok (.iconst 0, 1) := by decide +kernel
theorem dX3_paint_1 : decode cX3_paint 1 = .ok (.istore 5, 2) := by decide +kernel
theorem dX3_paint_3 : decode cX3_paint 3 = .ok (.iload_n 2, 1) := by decide +kernel
theorem dX3_paint_4 : decode cX3_paint 4 = .ok (.istore 6, 2) := by decide +kernel
theorem dX3_paint_6 : decode cX3_paint 6 = .ok (.iload 6, 2) := by decide +kernel
theorem dX3_paint_8 : decode cX3_paint 8 = .ok (.iload_n 3, 1) := by decide +kernel
theorem dX3_paint_9 : decode cX3_paint 9 = .ok (.if_icmp .gt 44, 3) := by decide +kernel
theorem dX3_paint_12 : decode cX3_paint 12 = .ok (.aload_n 0, 1) := by decide +kernel
theorem dX3_paint_13 : decode cX3_paint 13 = .ok (.iload_n 1, 1) := by decide +kernel
theorem dX3_paint_14 : decode cX3_paint 14 = .ok (.iload 6, 2) := by decide +kernel
theorem dX3_paint_16 : decode cX3_paint 16 = .ok (.invokevirtual 37, 3) := by decide +kernel
theorem dX3_paint_19 : decode cX3_paint 19 = .ok (.iload 4, 2) := by decide +kernel
theorem dX3_paint_21 : decode cX3_paint 21 = .ok (.if_icmp .eq 6, 3) := by decide +kernel
theorem dX3_paint_24 : decode cX3_paint 24 = .ok (.iinc 5 1, 3) := by decide +kernel
theorem dX3_paint_27 : decode cX3_paint 27 = .ok (.aload_n 0, 1) := by decide +kernel
theorem dX3_paint_28 : decode cX3_paint 28 = .ok (.iload_n 1, 1) := by decide +kernel
theorem dX3_paint_29 : decode cX3_paint 29 = .ok (.iload 6, 2) := by decide +kernel
theorem dX3_paint_31 : decode cX3_paint 31 = .ok (.aload_n 0, 1) := by decide +kernel
theorem dX3_paint_32 : decode cX3_paint 32 = .ok (.iload_n 1, 1) := by decide +kernel
theorem dX3_paint_33 : decode cX3_paint 33 = .ok (.iload 6, 2) := by decide +kernel
theorem dX3_paint_35 : decode cX3_paint 35 = .ok (.invokevirtual 47, 3) := by decide +kernel
theorem dX3_paint_38 : decode cX3_paint 38 = .ok (.bipush 8, 2) := by decide +kernel
theorem dX3_paint_40 : decode cX3_paint 40 = .ok (.imul, 1) := by decide +kernel
theorem dX3_paint_41 : decode cX3_paint 41 = .ok (.iload 4, 2) := by decide +kernel
theorem dX3_paint_43 : decode cX3_paint 43 = .ok (.iadd, 1) := by decide +kernel
theorem dX3_paint_44 : decode cX3_paint 44 = .ok (.invokevirtual 40, 3) := by decide +kernel
theorem dX3_paint_47 : decode cX3_paint 47 = .ok (.iinc 6 1, 3) := by decide +kernel
theorem dX3_paint_50 : decode cX3_paint 50 = .ok (.goto (-44), 3) := by decide +kernel
theorem dX3_paint_53 : decode cX3_paint 53 = .ok (.iload 5, 2) := by decide +kernel
theorem dX3_paint_55 : decode cX3_paint 55 = .ok (.ireturn, 1) := by decide +kernel
theorem dX3_refreshParts_0 : decode cX3_refreshParts 0 = .ok (.iconst 0, 1) := by decide +kernel
theorem dX3_refreshParts_1 : decode cX3_refreshParts 1 = .ok (.istore_n 1, 1) := by decide +kernel
theorem dX3_refreshParts_2 : decode cX3_refreshParts 2 = .ok (.iload_n 1, 1) := by decide +kernel
theorem dX3_refreshParts_3 : decode cX3_refreshParts 3 = .ok (.iconst 4, 1) := by decide +kernel
theorem dX3_refreshParts_4 : decode cX3_refreshParts 4 = .ok (.if_icmp .ge 29, 3) := by decide +kernel
theorem dX3_refreshParts_7 : decode cX3_refreshParts 7 = .ok (.iconst 0, 1) := by decide +kernel
theorem dX3_refreshParts_8 : decode cX3_refreshParts 8 = .ok (.istore_n 2, 1) := by decide +kernel
theorem dX3_refreshParts_9 : decode cX3_refreshParts 9 = .ok (.iload_n 2, 1) := by decide +kernel
theorem dX3_refreshParts_10 : decode cX3_refreshParts 10 = .ok (.bipush 8, 2) := by decide +kernel
theorem dX3_refreshParts_12 : decode cX3_refreshParts 12 = .ok (.if_icmp .ge 15, 3) := by decide +kernel
theorem dX3_refreshParts_15 : decode cX3_refreshParts 15 = .ok (.aload_n 0, 1) := by decide +kernel
theorem dX3_refreshParts_16 : decode cX3_refreshParts 16 = .ok (.iload_n 1, 1) := by decide +kernel
theorem dX3_refreshParts_17 : decode cX3_refreshParts 17 = .ok (.iload_n 2, 1) := by decide +kernel
theorem dX3_refreshParts_18 : decode cX3_refreshParts 18 = .ok (.invokevirtual 61, 3) := by decide +kernel
theorem dX3_refreshParts_21 : decode cX3_refreshParts 21 = .ok (.iinc 2 1, 3) := by decide +kernel
theorem dX3_refreshParts_24 : decode cX3_refreshParts 24 = .ok (.goto (-15), 3) := by decide +kernel
theorem dX3_refreshParts_27 : decode cX3_refreshParts 27 = .ok (.iinc 1 1, 3) := by decide +kernel
theorem dX3_refreshParts_30 : decode cX3_refreshParts 30 = .ok (.goto (-28), 3) := by decide +kernel
theorem dX3_refreshParts_33 : decode cX3_refreshParts 33 = .ok (.return_, 1) := by decide +kernel
theorem dX3_refreshPart_0 : decode cX3_refreshPart 0 = .ok (.iload_n 2, 1) := by decide +kernel
theorem dX3_refreshPart_1 : decode cX3_refreshPart 1 = .ok (.bipush 8, 2) := by decide +kernel
theorem dX3_refreshPart_3 : decode cX3_refreshPart 3 = .ok (.imul, 1) := by decide +kernel
theorem dX3_refreshPart_4 : decode cX3_refreshPart 4 = .ok (.istore_n 3, 1) := by decide +kernel
theorem dX3_refreshPart_5 : decode cX3_refreshPart 5 = .ok (.iload_n 3, 1) := by decide +kernel
theorem dX3_refreshPart_6 : decode cX3_refreshPart 6 = .ok (.bipush 8, 2) := by decide +kernel
theorem dX3_refreshPart_8 : decode cX3_refreshPart 8 = .ok (.iadd, 1) := by decide +kernel
theorem dX3_refreshPart_9 : decode cX3_refreshPart 9 = .ok (.aload_n 0, 1) := by decide +kernel
theorem dX3_refreshPart_10 : decode cX3_refreshPart 10 = .ok (.iload_n 1, 1) := by decide +kernel
theorem dX3_refreshPart_11 : decode cX3_refreshPart 11 = .ok (.invokevirtual 27, 3) := by decide +kernel
theorem dX3_refreshPart_14 : decode cX3_refreshPart 14 = .ok (.invokestatic 64, 3) := by decide +kernel
theorem dX3_refreshPart_17 : decode cX3_refreshPart 17 = .ok (.iconst 1, 1) := by decide +kernel
theorem dX3_refreshPart_18 : decode cX3_refreshPart 18 = .ok (.isub, 1) := by decide +kernel
theorem dX3_refreshPart_19 : decode cX3_refreshPart 19 = .ok (.istore 4, 2) := by decide +kernel
theorem dX3_refreshPart_21 : decode cX3_refreshPart 21 = .ok (.iconst 0, 1) := by decide +kernel
theorem dX3_refreshPart_22 : decode cX3_refreshPart 22 = .ok (.istore 5, 2) := by decide +kernel
theorem dX3_refreshPart_24 : decode cX3_refreshPart 24 = .ok (.iload_n 3, 1) := by decide +kernel
theorem dX3_refreshPart_25 : decode cX3_refreshPart 25 = .ok (.istore 6, 2) := by decide +kernel
theorem dX3_refreshPart_27 : decode cX3_refreshPart 27 = .ok (.iload 6, 2) := by decide +kernel
theorem dX3_refreshPart_29 : decode cX3_refreshPart 29 = .ok (.iload 4, 2) := by decide +kernel
theorem dX3_refreshPart_31 : decode cX3_refreshPart 31 = .ok (.if_icmp .ge 22, 3) := by decide +kernel
theorem dX3_refreshPart_34 : decode cX3_refreshPart 34 = .ok (.aload_n 0, 1) := by decide +kernel
theorem dX3_refreshPart_35 : decode cX3_refreshPart 35 = .ok (.iload_n 1, 1) := by decide +kernel
theorem dX3_refreshPart_36 : decode cX3_refreshPart 36 = .ok (.iload 6, 2) := by decide +kernel
theorem dX3_refreshPart_38 : decode cX3_refreshPart 38 = .ok (.invokevirtual 69, 3) := by decide +kernel
theorem dX3_refreshPart_41 : decode cX3_refreshPart 41 = .ok (.ifCond .eq 6, 3) := by decide +kernel
theorem dX3_refreshPart_44 : decode cX3_refreshPart 44 = .ok (.iinc 5 1, 3) := by decide +kernel
theorem dX3_refreshPart_47 : decode cX3_refreshPart 47 = .ok (.iinc 6 1, 3) := by decide +kernel
theorem dX3_refreshPart_50 : decode cX3_refreshPart 50 = .ok (.goto (-23), 3) := by decide +kernel
theorem dX3_refreshPart_53 : decode cX3_refreshPart 53 = .ok (.aload_n 0, 1) := by decide +kernel
theorem dX3_refreshPart_54 : decode cX3_refreshPart 54 = .ok (.sipush 244, 3) := by decide +kernel
theorem dX3_refreshPart_57 : decode cX3_refreshPart 57 = .ok (.iload_n 1, 1) := by decide +kernel
theorem dX3_refreshPart_58 : decode cX3_refreshPart 58 = .ok (.bipush 8, 2) := by decide +kernel
theorem dX3_refreshPart_60 : decode cX3_refreshPart 60 = .ok (.imul, 1) := by decide +kernel
theorem dX3_refreshPart_61 : decode cX3_refreshPart 61 = .ok (.iadd, 1) := by decide +kernel
theorem dX3_refreshPart_62 : decode cX3_refreshPart 62 = .ok (.iload_n 2, 1) := by decide +kernel
theorem dX3_refreshPart_63 : decode cX3_refreshPart 63 = .ok (.iadd, 1) := by decide +kernel
theorem dX3_refreshPart_64 : decode cX3_refreshPart 64 = .ok (.aload_n 0, 1) := by decide +kernel
theorem dX3_refreshPart_65 : decode cX3_refreshPart 65 = .ok (.iload_n 1, 1) := by decide +kernel
theorem dX3_refreshPart_66 : decode cX3_refreshPart 66 = .ok (.iload_n 3, 1) := by decide +kernel
theorem dX3_refreshPart_67 : decode cX3_refreshPart 67 = .ok (.iload 4, 2) := by decide +kernel
theorem dX3_refreshPart_69 : decode cX3_refreshPart 69 = .ok (.invokevirtual 57, 3) := by decide +kernel
theorem dX3_refreshPart_72 : decode cX3_refreshPart 72 = .ok (.invokevirtual 23, 3) := by decide +kernel
theorem dX3_refreshPart_75 : decode cX3_refreshPart 75 = .ok (.aload_n 0, 1) := by decide +kernel
theorem dX3_refreshPart_76 : decode cX3_refreshPart 76 = .ok (.sipush 276, 3) := by decide +kernel
theorem dX3_refreshPart_79 : decode cX3_refreshPart 79 = .ok (.iload_n 1, 1) := by decide +kernel
theorem dX3_refreshPart_80 : decode cX3_refreshPart 80 = .ok (.bipush 8, 2) := by decide +kernel
theorem dX3_refreshPart_82 : decode cX3_refreshPart 82 = .ok (.imul, 1) := by decide +kernel
theorem dX3_refreshPart_83 : decode cX3_refreshPart 83 = .ok (.iadd, 1) := by decide +kernel
theorem dX3_refreshPart_84 : decode cX3_refreshPart 84 = .ok (.iload_n 2, 1) := by decide +kernel
theorem dX3_refreshPart_85 : decode cX3_refreshPart 85 = .ok (.iadd, 1) := by decide +kernel
theorem dX3_refreshPart_86 : decode cX3_refreshPart 86 = .ok (.iload 5, 2) := by decide +kernel
theorem dX3_refreshPart_88 : decode cX3_refreshPart 88 = .ok (.invokevirtual 23, 3) := by decide +kernel
theorem dX3_refreshPart_91 : decode cX3_refreshPart 91 = .ok (.return_, 1) := by decide +kernel
theorem dX3_sumBefore_0 : decode cX3_sumBefore 0 = .ok (.iload_n 2, 1) := by decide +kernel
theorem dX3_sumBefore_1 : decode cX3_sumBefore 1 = .ok (.bipush 8, 2) := by decide +kernel
theorem dX3_sumBefore_3 : decode cX3_sumBefore 3 = .ok (.idiv, 1) := by decide +kernel
theorem dX3_sumBefore_4 : decode cX3_sumBefore 4 = .ok (.istore_n 3, 1) := by decide +kernel
theorem dX3_sumBefore_5 : decode cX3_sumBefore 5 = .ok (.iconst 0, 1) := by decide +kernel
theorem dX3_sumBefore_6 : decode cX3_sumBefore 6 = .ok (.istore 4, 2) := by decide +kernel
theorem dX3_sumBefore_8 : decode cX3_sumBefore 8 = .ok (.iconst 0, 1) := by decide +kernel
theorem dX3_sumBefore_9 : decode cX3_sumBefore 9 = .ok (.istore 5, 2) := by decide +kernel
theorem dX3_sumBefore_11 : decode cX3_sumBefore 11 = .ok (.iload 5, 2) := by decide +kernel
theorem dX3_sumBefore_13 : decode cX3_sumBefore 13 = .ok (.iload_n 3, 1) := by decide +kernel
theorem dX3_sumBefore_14 : decode cX3_sumBefore 14 = .ok (.if_icmp .ge 29, 3) := by decide +kernel
theorem dX3_sumBefore_17 : decode cX3_sumBefore 17 = .ok (.iload 4, 2) := by decide +kernel
theorem dX3_sumBefore_19 : decode cX3_sumBefore 19 = .ok (.aload_n 0, 1) := by decide +kernel
theorem dX3_sumBefore_20 : decode cX3_sumBefore 20 = .ok (.sipush 244, 3) := by decide +kernel
theorem dX3_sumBefore_23 : decode cX3_sumBefore 23 = .ok (.iload_n 1, 1) := by decide +kernel
theorem dX3_sumBefore_24 : decode cX3_sumBefore 24 = .ok (.bipush 8, 2) := by decide +kernel
theorem dX3_sumBefore_26 : decode cX3_sumBefore 26 = .ok (.imul, 1) := by decide +kernel
theorem dX3_sumBefore_27 : decode cX3_sumBefore 27 = .ok (.iadd, 1) := by decide +kernel
theorem dX3_sumBefore_28 : decode cX3_sumBefore 28 = .ok (.iload 5, 2) := by decide +kernel
theorem dX3_sumBefore_30 : decode cX3_sumBefore 30 = .ok (.iadd, 1) := by decide +kernel
theorem dX3_sumBefore_31 : decode cX3_sumBefore 31 = .ok (.invokevirtual 19, 3) := by decide +kernel
theorem dX3_sumBefore_34 : decode cX3_sumBefore 34 = .ok (.iadd, 1) := by decide +kernel
theorem dX3_sumBefore_35 : decode cX3_sumBefore 35 = .ok (.istore 4, 2) := by decide +kernel
theorem dX3_sumBefore_37 : decode cX3_sumBefore 37 = .ok (.iinc 5 1, 3) := by decide +kernel
theorem dX3_sumBefore_40 : decode cX3_sumBefore 40 = .ok (.goto (-29), 3) := by decide +kernel
theorem dX3_sumBefore_43 : decode cX3_sumBefore 43 = .ok (.iload 4, 2) := by decide +kernel
theorem dX3_sumBefore_45 : decode cX3_sumBefore 45 = .ok (.aload_n 0, 1) := by decide +kernel
theorem dX3_sumBefore_46 : decode cX3_sumBefore 46 = .ok (.iload_n 1, 1) := by decide +kernel
theorem dX3_sumBefore_47 : decode cX3_sumBefore 47 = .ok (.iload_n 3, 1) := by decide +kernel
theorem dX3_sumBefore_48 : decode cX3_sumBefore 48 = .ok (.bipush 8, 2) := by decide +kernel
theorem dX3_sumBefore_50 : decode cX3_sumBefore 50 = .ok (.imul, 1) := by decide +kernel
theorem dX3_sumBefore_51 : decode cX3_sumBefore 51 = .ok (.iload_n 2, 1) := by decide +kernel
theorem dX3_sumBefore_52 : decode cX3_sumBefore 52 = .ok (.iconst 1, 1) := by decide +kernel
theorem dX3_sumBefore_53 : decode cX3_sumBefore 53 = .ok (.isub, 1) := by decide +kernel
theorem dX3_sumBefore_54 : decode cX3_sumBefore 54 = .ok (.invokevirtual 57, 3) := by decide +kernel
theorem dX3_sumBefore_57 : decode cX3_sumBefore 57 = .ok (.iadd, 1) := by decide +kernel
theorem dX3_sumBefore_58 : decode cX3_sumBefore 58 = .ok (.ireturn, 1) := by decide +kernel
theorem dX3_lengthOf_0 : decode cX3_lengthOf 0 = .ok (.aload_n 0, 1) := by decide +kernel
theorem dX3_lengthOf_1 : decode cX3_lengthOf 1 = .ok (.iload_n 1, 1) := by decide +kernel
theorem dX3_lengthOf_2 : decode cX3_lengthOf 2 = .ok (.aload_n 0, 1) := by decide +kernel
theorem dX3_lengthOf_3 : decode cX3_lengthOf 3 = .ok (.iload_n 1, 1) := by decide +kernel
theorem dX3_lengthOf_4 : decode cX3_lengthOf 4 = .ok (.invokevirtual 27, 3) := by decide +kernel
theorem dX3_lengthOf_7 : decode cX3_lengthOf 7 = .ok (.invokevirtual 73, 3) := by decide +kernel
theorem dX3_lengthOf_10 : decode cX3_lengthOf 10 = .ok (.ireturn, 1) := by decide +kernel
theorem dX3_tanglesOf_0 : decode cX3_tanglesOf 0 = .ok (.iconst 0, 1) := by decide +kernel
theorem dX3_tanglesOf_1 : decode cX3_tanglesOf 1 = .ok (.istore_n 2, 1) := by decide +kernel
theorem dX3_tanglesOf_2 : decode cX3_tanglesOf 2 = .ok (.iconst 0, 1) := by decide +kernel
theorem dX3_tanglesOf_3 : decode cX3_tanglesOf 3 = .ok (.istore_n 3, 1) := by decide +kernel
theorem dX3_tanglesOf_4 : decode cX3_tanglesOf 4 = .ok (.iload_n 3, 1) := by decide +kernel
theorem dX3_tanglesOf_5 : decode cX3_tanglesOf 5 = .ok (.bipush 8, 2) := by decide +kernel
theorem dX3_tanglesOf_7 : decode cX3_tanglesOf 7 = .ok (.if_icmp .ge 43, 3) := by decide +kernel
theorem dX3_tanglesOf_10 : decode cX3_tanglesOf 10 = .ok (.iload_n 2, 1) := by decide +kernel
theorem dX3_tanglesOf_11 : decode cX3_tanglesOf 11 = .ok (.aload_n 0, 1) := by decide +kernel
theorem dX3_tanglesOf_12 : decode cX3_tanglesOf 12 = .ok (.sipush 276, 3) := by decide +kernel
theorem dX3_tanglesOf_15 : decode cX3_tanglesOf 15 = .ok (.iload_n 1, 1) := by decide +kernel
theorem dX3_tanglesOf_16 : decode cX3_tanglesOf 16 = .ok (.bipush 8, 2) := by decide +kernel
theorem dX3_tanglesOf_18 : decode cX3_tanglesOf 18 = .ok (.imul, 1) := by decide +kernel
theorem dX3_tanglesOf_19 : decode cX3_tanglesOf 19 = .ok (.iadd, 1) := by decide +kernel
theorem dX3_tanglesOf_20 : decode cX3_tanglesOf 20 = .ok (.iload_n 3, 1) := by decide +kernel
theorem dX3_tanglesOf_21 : decode cX3_tanglesOf 21 = .ok (.iadd, 1) := by decide +kernel
theorem dX3_tanglesOf_22 : decode cX3_tanglesOf 22 = .ok (.invokevirtual 19, 3) := by decide +kernel
theorem dX3_tanglesOf_25 : decode cX3_tanglesOf 25 = .ok (.iadd, 1) := by decide +kernel
theorem dX3_tanglesOf_26 : decode cX3_tanglesOf 26 = .ok (.istore_n 2, 1) := by decide +kernel
theorem dX3_tanglesOf_27 : decode cX3_tanglesOf 27 = .ok (.aload_n 0, 1) := by decide +kernel
theorem dX3_tanglesOf_28 : decode cX3_tanglesOf 28 = .ok (.iload_n 1, 1) := by decide +kernel
theorem dX3_tanglesOf_29 : decode cX3_tanglesOf 29 = .ok (.iload_n 3, 1) := by decide +kernel
theorem dX3_tanglesOf_30 : decode cX3_tanglesOf 30 = .ok (.bipush 8, 2) := by decide +kernel
theorem dX3_tanglesOf_32 : decode cX3_tanglesOf 32 = .ok (.imul, 1) := by decide +kernel
theorem dX3_tanglesOf_33 : decode cX3_tanglesOf 33 = .ok (.iconst 1, 1) := by decide +kernel
theorem dX3_tanglesOf_34 : decode cX3_tanglesOf 34 = .ok (.isub, 1) := by decide +kernel
theorem dX3_tanglesOf_35 : decode cX3_tanglesOf 35 = .ok (.invokevirtual 69, 3) := by decide +kernel
theorem dX3_tanglesOf_38 : decode cX3_tanglesOf 38 = .ok (.ifCond .eq 6, 3) := by decide +kernel
theorem dX3_tanglesOf_41 : decode cX3_tanglesOf 41 = .ok (.iinc 2 1, 3) := by decide +kernel
theorem dX3_tanglesOf_44 : decode cX3_tanglesOf 44 = .ok (.iinc 3 1, 3) := by decide +kernel
theorem dX3_tanglesOf_47 : decode cX3_tanglesOf 47 = .ok (.goto (-43), 3) := by decide +kernel
theorem dX3_tanglesOf_50 : decode cX3_tanglesOf 50 = .ok (.iload_n 2, 1) := by decide +kernel
theorem dX3_tanglesOf_51 : decode cX3_tanglesOf 51 = .ok (.ireturn, 1) := by decide +kernel
theorem dX3_tanglesByScan_0 : decode cX3_tanglesByScan 0 = .ok (.iconst 0, 1) := by decide +kernel
theorem dX3_tanglesByScan_1 : decode cX3_tanglesByScan 1 = .ok (.istore_n 2, 1) := by decide +kernel
theorem dX3_tanglesByScan_2 : decode cX3_tanglesByScan 2 = .ok (.iconst 1, 1) := by decide +kernel
theorem dX3_tanglesByScan_3 : decode cX3_tanglesByScan 3 = .ok (.istore_n 3, 1) := by decide +kernel
theorem dX3_tanglesByScan_4 : decode cX3_tanglesByScan 4 = .ok (.iload_n 3, 1) := by decide +kernel
theorem dX3_tanglesByScan_5 : decode cX3_tanglesByScan 5 = .ok (.aload_n 0, 1) := by decide +kernel
theorem dX3_tanglesByScan_6 : decode cX3_tanglesByScan 6 = .ok (.iload_n 1, 1) := by decide +kernel
theorem dX3_tanglesByScan_7 : decode cX3_tanglesByScan 7 = .ok (.invokevirtual 27, 3) := by decide +kernel
theorem dX3_tanglesByScan_10 : decode cX3_tanglesByScan 10 = .ok (.if_icmp .ge 23, 3) := by decide +kernel
theorem dX3_tanglesByScan_13 : decode cX3_tanglesByScan 13 = .ok (.aload_n 0, 1) := by decide +kernel
theorem dX3_tanglesByScan_14 : decode cX3_tanglesByScan 14 = .ok (.iload_n 1, 1) := by decide +kernel
theorem dX3_tanglesByScan_15 : decode cX3_tanglesByScan 15 = .ok (.iload_n 3, 1) := by decide +kernel
theorem dX3_tanglesByScan_16 : decode cX3_tanglesByScan 16 = .ok (.iconst 1, 1) := by decide +kernel
theorem dX3_tanglesByScan_17 : decode cX3_tanglesByScan 17 = .ok (.isub, 1) := by decide +kernel
theorem dX3_tanglesByScan_18 : decode cX3_tanglesByScan 18 = .ok (.invokevirtual 69, 3) := by decide +kernel
theorem dX3_tanglesByScan_21 : decode cX3_tanglesByScan 21 = .ok (.ifCond .eq 6, 3) := by decide +kernel
theorem dX3_tanglesByScan_24 : decode cX3_tanglesByScan 24 = .ok (.iinc 2 1, 3) := by decide +kernel
theorem dX3_tanglesByScan_27 : decode cX3_tanglesByScan 27 = .ok (.iinc 3 1, 3) := by decide +kernel
theorem dX3_tanglesByScan_30 : decode cX3_tanglesByScan 30 = .ok (.goto (-26), 3) := by decide +kernel
theorem dX3_tanglesByScan_33 : decode cX3_tanglesByScan 33 = .ok (.iload_n 2, 1) := by decide +kernel
theorem dX3_tanglesByScan_34 : decode cX3_tanglesByScan 34 = .ok (.ireturn, 1) := by decide +kernel
theorem dX3_partsAgree_0 : decode cX3_partsAgree 0 = .ok (.aload_n 0, 1) := by decide +kernel
theorem dX3_partsAgree_1 : decode cX3_partsAgree 1 = .ok (.iload_n 1, 1) := by decide +kernel
theorem dX3_partsAgree_2 : decode cX3_partsAgree 2 = .ok (.invokevirtual 76, 3) := by decide +kernel
theorem dX3_partsAgree_5 : decode cX3_partsAgree 5 = .ok (.aload_n 0, 1) := by decide +kernel
theorem dX3_partsAgree_6 : decode cX3_partsAgree 6 = .ok (.iload_n 1, 1) := by decide +kernel
theorem dX3_partsAgree_7 : decode cX3_partsAgree 7 = .ok (.invokevirtual 79, 3) := by decide +kernel
theorem dX3_partsAgree_10 : decode cX3_partsAgree 10 = .ok (.if_icmp .eq 5, 3) := by decide +kernel
theorem dX3_partsAgree_13 : decode cX3_partsAgree 13 = .ok (.iconst 0, 1) := by decide +kernel
theorem dX3_partsAgree_14 : decode cX3_partsAgree 14 = .ok (.ireturn, 1) := by decide +kernel
theorem dX3_partsAgree_15 : decode cX3_partsAgree 15 = .ok (.iconst 0, 1) := by decide +kernel
theorem dX3_partsAgree_16 : decode cX3_partsAgree 16 = .ok (.istore_n 2, 1) := by decide +kernel
theorem dX3_partsAgree_17 : decode cX3_partsAgree 17 = .ok (.iload_n 2, 1) := by decide +kernel
theorem dX3_partsAgree_18 : decode cX3_partsAgree 18 = .ok (.aload_n 0, 1) := by decide +kernel
theorem dX3_partsAgree_19 : decode cX3_partsAgree 19 = .ok (.iload_n 1, 1) := by decide +kernel
theorem dX3_partsAgree_20 : decode cX3_partsAgree 20 = .ok (.invokevirtual 27, 3) := by decide +kernel
theorem dX3_partsAgree_23 : decode cX3_partsAgree 23 = .ok (.if_icmp .gt 29, 3) := by decide +kernel
theorem dX3_partsAgree_26 : decode cX3_partsAgree 26 = .ok (.aload_n 0, 1) := by decide +kernel
theorem dX3_partsAgree_27 : decode cX3_partsAgree 27 = .ok (.iload_n 1, 1) := by decide +kernel
theorem dX3_partsAgree_28 : decode cX3_partsAgree 28 = .ok (.iload_n 2, 1) := by decide +kernel
theorem dX3_partsAgree_29 : decode cX3_partsAgree 29 = .ok (.invokevirtual 73, 3) := by decide +kernel
theorem dX3_partsAgree_32 : decode cX3_partsAgree 32 = .ok (.aload_n 0, 1) := by decide +kernel
theorem dX3_partsAgree_33 : decode cX3_partsAgree 33 = .ok (.iload_n 1, 1) := by decide +kernel
theorem dX3_partsAgree_34 : decode cX3_partsAgree 34 = .ok (.iconst 0, 1) := by decide +kernel
theorem dX3_partsAgree_35 : decode cX3_partsAgree 35 = .ok (.iload_n 2, 1) := by decide +kernel
theorem dX3_partsAgree_36 : decode cX3_partsAgree 36 = .ok (.iconst 1, 1) := by decide +kernel
theorem dX3_partsAgree_37 : decode cX3_partsAgree 37 = .ok (.isub, 1) := by decide +kernel
theorem dX3_partsAgree_38 : decode cX3_partsAgree 38 = .ok (.invokevirtual 57, 3) := by decide +kernel
theorem dX3_partsAgree_41 : decode cX3_partsAgree 41 = .ok (.if_icmp .eq 5, 3) := by decide +kernel
theorem dX3_partsAgree_44 : decode cX3_partsAgree 44 = .ok (.iconst 0, 1) := by decide +kernel
theorem dX3_partsAgree_45 : decode cX3_partsAgree 45 = .ok (.ireturn, 1) := by decide +kernel
theorem dX3_partsAgree_46 : decode cX3_partsAgree 46 = .ok (.iinc 2 1, 3) := by decide +kernel
theorem dX3_partsAgree_49 : decode cX3_partsAgree 49 = .ok (.goto (-32), 3) := by decide +kernel
theorem dX3_partsAgree_52 : decode cX3_partsAgree 52 = .ok (.iconst 1, 1) := by decide +kernel
theorem dX3_partsAgree_53 : decode cX3_partsAgree 53 = .ok (.ireturn, 1) := by decide +kernel
theorem dX3_sumOfRange_0 : decode cX3_sumOfRange 0 = .ok (.iconst 0, 1) := by decide +kernel
theorem dX3_sumOfRange_1 : decode cX3_sumOfRange 1 = .ok (.istore 4, 2) := by decide +kernel
theorem dX3_sumOfRange_3 : decode cX3_sumOfRange 3 = .ok (.iload_n 2, 1) := by decide +kernel
theorem dX3_sumOfRange_4 : decode cX3_sumOfRange 4 = .ok (.istore 5, 2) := by decide +kernel
theorem dX3_sumOfRange_6 : decode cX3_sumOfRange 6 = .ok (.iload 5, 2) := by decide +kernel
theorem dX3_sumOfRange_8 : decode cX3_sumOfRange 8 = .ok (.iload_n 3, 1) := by decide +kernel
theorem dX3_sumOfRange_9 : decode cX3_sumOfRange 9 = .ok (.if_icmp .gt 21, 3) := by decide +kernel
theorem dX3_sumOfRange_12 : decode cX3_sumOfRange 12 = .ok (.iload 4, 2) := by decide +kernel
theorem dX3_sumOfRange_14 : decode cX3_sumOfRange 14 = .ok (.aload_n 0, 1) := by decide +kernel
theorem dX3_sumOfRange_15 : decode cX3_sumOfRange 15 = .ok (.iload_n 1, 1) := by decide +kernel
theorem dX3_sumOfRange_16 : decode cX3_sumOfRange 16 = .ok (.iload 5, 2) := by decide +kernel
theorem dX3_sumOfRange_18 : decode cX3_sumOfRange 18 = .ok (.invokevirtual 47, 3) := by decide +kernel
theorem dX3_sumOfRange_21 : decode cX3_sumOfRange 21 = .ok (.iadd, 1) := by decide +kernel
theorem dX3_sumOfRange_22 : decode cX3_sumOfRange 22 = .ok (.istore 4, 2) := by decide +kernel
theorem dX3_sumOfRange_24 : decode cX3_sumOfRange 24 = .ok (.iinc 5 1, 3) := by decide +kernel
theorem dX3_sumOfRange_27 : decode cX3_sumOfRange 27 = .ok (.goto (-21), 3) := by decide +kernel
theorem dX3_sumOfRange_30 : decode cX3_sumOfRange 30 = .ok (.iload 4, 2) := by decide +kernel
theorem dX3_sumOfRange_32 : decode cX3_sumOfRange 32 = .ok (.ireturn, 1) := by decide +kernel
theorem dX3_positionOfOffset_0 : decode cX3_positionOfOffset 0 = .ok (.iload_n 2, 1) := by decide +kernel
theorem dX3_positionOfOffset_1 : decode cX3_positionOfOffset 1 = .ok (.ifCond .ge 5, 3) := by decide +kernel
theorem dX3_positionOfOffset_4 : decode cX3_positionOfOffset 4 = .ok (.iconst (-1), 1) := by decide +kernel
theorem dX3_positionOfOffset_5 : decode cX3_positionOfOffset 5 = .ok (.ireturn, 1) := by decide +kernel
theorem dX3_positionOfOffset_6 : decode cX3_positionOfOffset 6 = .ok (.iconst 0, 1) := by decide +kernel
theorem dX3_positionOfOffset_7 : decode cX3_positionOfOffset 7 = .ok (.istore_n 3, 1) := by decide +kernel
theorem dX3_positionOfOffset_8 : decode cX3_positionOfOffset 8 = .ok (.iconst 0, 1) := by decide +kernel
theorem dX3_positionOfOffset_9 : decode cX3_positionOfOffset 9 = .ok (.istore 4, 2) := by decide +kernel
theorem dX3_positionOfOffset_11 : decode cX3_positionOfOffset 11 = .ok (.iload 4, 2) := by decide +kernel
theorem dX3_positionOfOffset_13 : decode cX3_positionOfOffset 13 = .ok (.aload_n 0, 1) := by decide +kernel
theorem dX3_positionOfOffset_14 : decode cX3_positionOfOffset 14 = .ok (.iload_n 1, 1) := by decide +kernel
theorem dX3_positionOfOffset_15 : decode cX3_positionOfOffset 15 = .ok (.invokevirtual 27, 3) := by decide +kernel
theorem dX3_positionOfOffset_18 : decode cX3_positionOfOffset 18 = .ok (.if_icmp .ge 27, 3) := by decide +kernel
theorem dX3_positionOfOffset_21 : decode cX3_positionOfOffset 21 = .ok (.iload_n 3, 1) := by decide +kernel
theorem dX3_positionOfOffset_22 : decode cX3_positionOfOffset 22 = .ok (.aload_n 0, 1) := by decide +kernel
theorem dX3_positionOfOffset_23 : decode cX3_positionOfOffset 23 = .ok (.iload_n 1, 1) := by decide +kernel
theorem dX3_positionOfOffset_24 : decode cX3_positionOfOffset 24 = .ok (.iload 4, 2) := by decide +kernel
theorem dX3_positionOfOffset_26 : decode cX3_positionOfOffset 26 = .ok (.invokevirtual 47, 3) := by decide +kernel
theorem dX3_positionOfOffset_29 : decode cX3_positionOfOffset 29 = .ok (.iadd, 1) := by decide +kernel
theorem dX3_positionOfOffset_30 : decode cX3_positionOfOffset 30 = .ok (.istore_n 3, 1) := by decide +kernel
theorem dX3_positionOfOffset_31 : decode cX3_positionOfOffset 31 = .ok (.iload_n 2, 1) := by decide +kernel
theorem dX3_positionOfOffset_32 : decode cX3_positionOfOffset 32 = .ok (.iload_n 3, 1) := by decide +kernel
theorem dX3_positionOfOffset_33 : decode cX3_positionOfOffset 33 = .ok (.if_icmp .ge 6, 3) := by decide +kernel
theorem dX3_positionOfOffset_36 : decode cX3_positionOfOffset 36 = .ok (.iload 4, 2) := by decide +kernel
theorem dX3_positionOfOffset_38 : decode cX3_positionOfOffset 38 = .ok (.ireturn, 1) := by decide +kernel
theorem dX3_positionOfOffset_39 : decode cX3_positionOfOffset 39 = .ok (.iinc 4 1, 3) := by decide +kernel
theorem dX3_positionOfOffset_42 : decode cX3_positionOfOffset 42 = .ok (.goto (-31), 3) := by decide +kernel
theorem dX3_positionOfOffset_45 : decode cX3_positionOfOffset 45 = .ok (.iconst (-1), 1) := by decide +kernel
theorem dX3_positionOfOffset_46 : decode cX3_positionOfOffset 46 = .ok (.ireturn, 1) := by decide +kernel
theorem dX3_longestOfRange_0 : decode cX3_longestOfRange 0 = .ok (.iload_n 2, 1) := by decide +kernel
theorem dX3_longestOfRange_1 : decode cX3_longestOfRange 1 = .ok (.istore 4, 2) := by decide +kernel
theorem dX3_longestOfRange_3 : decode cX3_longestOfRange 3 = .ok (.iload_n 2, 1) := by decide +kernel
theorem dX3_longestOfRange_4 : decode cX3_longestOfRange 4 = .ok (.iconst 1, 1) := by decide +kernel
theorem dX3_longestOfRange_5 : decode cX3_longestOfRange 5 = .ok (.iadd, 1) := by decide +kernel
theorem dX3_longestOfRange_6 : decode cX3_longestOfRange 6 = .ok (.istore 5, 2) := by decide +kernel
theorem dX3_longestOfRange_8 : decode cX3_longestOfRange 8 = .ok (.iload 5, 2) := by decide +kernel
theorem dX3_longestOfRange_10 : decode cX3_longestOfRange 10 = .ok (.iload_n 3, 1) := by decide +kernel
theorem dX3_longestOfRange_11 : decode cX3_longestOfRange 11 = .ok (.if_icmp .gt 30, 3) := by decide +kernel
theorem dX3_longestOfRange_14 : decode cX3_longestOfRange 14 = .ok (.aload_n 0, 1) := by decide +kernel
theorem dX3_longestOfRange_15 : decode cX3_longestOfRange 15 = .ok (.iload_n 1, 1) := by decide +kernel
theorem dX3_longestOfRange_16 : decode cX3_longestOfRange 16 = .ok (.iload 5, 2) := by decide +kernel
theorem dX3_longestOfRange_18 : decode cX3_longestOfRange 18 = .ok (.invokevirtual 47, 3) := by decide +kernel
theorem dX3_longestOfRange_21 : decode cX3_longestOfRange 21 = .ok (.aload_n 0, 1) := by decide +kernel
theorem dX3_longestOfRange_22 : decode cX3_longestOfRange 22 = .ok (.iload_n 1, 1) := by decide +kernel
theorem dX3_longestOfRange_23 : decode cX3_longestOfRange 23 = .ok (.iload 4, 2) := by decide +kernel
theorem dX3_longestOfRange_25 : decode cX3_longestOfRange 25 = .ok (.invokevirtual 47, 3) := by decide +kernel
theorem dX3_longestOfRange_28 : decode cX3_longestOfRange 28 = .ok (.if_icmp .le 7, 3) := by decide +kernel
theorem dX3_longestOfRange_31 : decode cX3_longestOfRange 31 = .ok (.iload 5, 2) := by decide +kernel
theorem dX3_longestOfRange_33 : decode cX3_longestOfRange 33 = .ok (.istore 4, 2) := by decide +kernel
theorem dX3_longestOfRange_35 : decode cX3_longestOfRange 35 = .ok (.iinc 5 1, 3) := by decide +kernel
theorem dX3_longestOfRange_38 : decode cX3_longestOfRange 38 = .ok (.goto (-30), 3) := by decide +kernel
theorem dX3_longestOfRange_41 : decode cX3_longestOfRange 41 = .ok (.iload 4, 2) := by decide +kernel
theorem dX3_longestOfRange_43 : decode cX3_longestOfRange 43 = .ok (.ireturn, 1) := by decide +kernel
theorem dX3_positionOfRank_0 : decode cX3_positionOfRank 0 = .ok (.iconst 0, 1) := by decide +kernel
theorem dX3_positionOfRank_1 : decode cX3_positionOfRank 1 = .ok (.istore_n 3, 1) := by decide +kernel
theorem dX3_positionOfRank_2 : decode cX3_positionOfRank 2 = .ok (.iload_n 3, 1) := by decide +kernel
theorem dX3_positionOfRank_3 : decode cX3_positionOfRank 3 = .ok (.aload_n 0, 1) := by decide +kernel
theorem dX3_positionOfRank_4 : decode cX3_positionOfRank 4 = .ok (.iload_n 1, 1) := by decide +kernel
theorem dX3_positionOfRank_5 : decode cX3_positionOfRank 5 = .ok (.invokevirtual 27, 3) := by decide +kernel
theorem dX3_positionOfRank_8 : decode cX3_positionOfRank 8 = .ok (.if_icmp .ge 21, 3) := by decide +kernel
theorem dX3_positionOfRank_11 : decode cX3_positionOfRank 11 = .ok (.aload_n 0, 1) := by decide +kernel
theorem dX3_positionOfRank_12 : decode cX3_positionOfRank 12 = .ok (.iload_n 1, 1) := by decide +kernel
theorem dX3_positionOfRank_13 : decode cX3_positionOfRank 13 = .ok (.iload_n 3, 1) := by decide +kernel
theorem dX3_positionOfRank_14 : decode cX3_positionOfRank 14 = .ok (.invokevirtual 82, 3) := by decide +kernel
theorem dX3_positionOfRank_17 : decode cX3_positionOfRank 17 = .ok (.iload_n 2, 1) := by decide +kernel
theorem dX3_positionOfRank_18 : decode cX3_positionOfRank 18 = .ok (.if_icmp .ne 5, 3) := by decide +kernel
theorem dX3_positionOfRank_21 : decode cX3_positionOfRank 21 = .ok (.iload_n 3, 1) := by decide +kernel
theorem dX3_positionOfRank_22 : decode cX3_positionOfRank 22 = .ok (.ireturn, 1) := by decide +kernel
theorem dX3_positionOfRank_23 : decode cX3_positionOfRank 23 = .ok (.iinc 3 1, 3) := by decide +kernel
theorem dX3_positionOfRank_26 : decode cX3_positionOfRank 26 = .ok (.goto (-24), 3) := by decide +kernel
theorem dX3_positionOfRank_29 : decode cX3_positionOfRank 29 = .ok (.iconst (-1), 1) := by decide +kernel
theorem dX3_positionOfRank_30 : decode cX3_positionOfRank 30 = .ok (.ireturn, 1) := by decide +kernel
theorem dX3_rankOfSegment_0 : decode cX3_rankOfSegment 0 = .ok (.aload_n 0, 1) := by decide +kernel
theorem dX3_rankOfSegment_1 : decode cX3_rankOfSegment 1 = .ok (.iload_n 1, 1) := by decide +kernel
theorem dX3_rankOfSegment_2 : decode cX3_rankOfSegment 2 = .ok (.iload_n 2, 1) := by decide +kernel
theorem dX3_rankOfSegment_3 : decode cX3_rankOfSegment 3 = .ok (.invokevirtual 47, 3) := by decide +kernel
theorem dX3_rankOfSegment_6 : decode cX3_rankOfSegment 6 = .ok (.istore_n 3, 1) := by decide +kernel
theorem dX3_rankOfSegment_7 : decode cX3_rankOfSegment 7 = .ok (.iconst 0, 1) := by decide +kernel
theorem dX3_rankOfSegment_8 : decode cX3_rankOfSegment 8 = .ok (.istore 4, 2) := by decide +kernel
theorem dX3_rankOfSegment_10 : decode cX3_rankOfSegment 10 = .ok (.iconst 0, 1) := by decide +kernel
theorem dX3_rankOfSegment_11 : decode cX3_rankOfSegment 11 = .ok (.istore 5, 2) := by decide +kernel
theorem dX3_rankOfSegment_13 : decode cX3_rankOfSegment 13 = .ok (.iload 5, 2) := by decide +kernel
theorem dX3_rankOfSegment_15 : decode cX3_rankOfSegment 15 = .ok (.aload_n 0, 1) := by decide +kernel
theorem dX3_rankOfSegment_16 : decode cX3_rankOfSegment 16 = .ok (.iload_n 1, 1) := by decide +kernel
theorem dX3_rankOfSegment_17 : decode cX3_rankOfSegment 17 = .ok (.invokevirtual 27, 3) := by decide +kernel
theorem dX3_rankOfSegment_20 : decode cX3_rankOfSegment 20 = .ok (.if_icmp .ge 39, 3) := by decide +kernel
theorem dX3_rankOfSegment_23 : decode cX3_rankOfSegment 23 = .ok (.aload_n 0, 1) := by decide +kernel
theorem dX3_rankOfSegment_24 : decode cX3_rankOfSegment 24 = .ok (.iload_n 1, 1) := by decide +kernel
theorem dX3_rankOfSegment_25 : decode cX3_rankOfSegment 25 = .ok (.iload 5, 2) := by decide +kernel
theorem dX3_rankOfSegment_27 : decode cX3_rankOfSegment 27 = .ok (.invokevirtual 47, 3) := by decide +kernel
theorem dX3_rankOfSegment_30 : decode cX3_rankOfSegment 30 = .ok (.istore 6, 2) := by decide +kernel
theorem dX3_rankOfSegment_32 : decode cX3_rankOfSegment 32 = .ok (.iload 6, 2) := by decide +kernel
theorem dX3_rankOfSegment_34 : decode cX3_rankOfSegment 34 = .ok (.iload_n 3, 1) := by decide +kernel
theorem dX3_rankOfSegment_35 : decode cX3_rankOfSegment 35 = .ok (.if_icmp .gt 15, 3) := by decide +kernel
theorem dX3_rankOfSegment_38 : decode cX3_rankOfSegment 38 = .ok (.iload 6, 2) := by decide +kernel
theorem dX3_rankOfSegment_40 : decode cX3_rankOfSegment 40 = .ok (.iload_n 3, 1) := by decide +kernel
theorem dX3_rankOfSegment_41 : decode cX3_rankOfSegment 41 = .ok (.if_icmp .ne 12, 3) := by decide +kernel
theorem dX3_rankOfSegment_44 : decode cX3_rankOfSegment 44 = .ok (.iload 5, 2) := by decide +kernel
theorem dX3_rankOfSegment_46 : decode cX3_rankOfSegment 46 = .ok (.iload_n 2, 1) := by decide +kernel
theorem dX3_rankOfSegment_47 : decode cX3_rankOfSegment 47 = .ok (.if_icmp .ge 6, 3) := by decide +kernel
theorem dX3_rankOfSegment_50 : decode cX3_rankOfSegment 50 = .ok (.iinc 4 1, 3) := by decide +kernel
theorem dX3_rankOfSegment_53 : decode cX3_rankOfSegment 53 = .ok (.iinc 5 1, 3) := by decide +kernel
theorem dX3_rankOfSegment_56 : decode cX3_rankOfSegment 56 = .ok (.goto (-43), 3) := by decide +kernel
theorem dX3_rankOfSegment_59 : decode cX3_rankOfSegment 59 = .ok (.iload 4, 2) := by decide +kernel
theorem dX3_rankOfSegment_61 : decode cX3_rankOfSegment 61 = .ok (.ireturn, 1) := by decide +kernel
theorem dX3_longestRunOf_0 : decode cX3_longestRunOf 0 = .ok (.iconst 0, 1) := by decide +kernel
theorem dX3_longestRunOf_1 : decode cX3_longestRunOf 1 = .ok (.istore_n 2, 1) := by decide +kernel
theorem dX3_longestRunOf_2 : decode cX3_longestRunOf 2 = .ok (.iconst 0, 1) := by decide +kernel
theorem dX3_longestRunOf_3 : decode cX3_longestRunOf 3 = .ok (.istore_n 3, 1) := by decide +kernel
theorem dX3_longestRunOf_4 : decode cX3_longestRunOf 4 = .ok (.iconst 0, 1) := by decide +kernel
theorem dX3_longestRunOf_5 : decode cX3_longestRunOf 5 = .ok (.istore 4, 2) := by decide +kernel
theorem dX3_longestRunOf_7 : decode cX3_longestRunOf 7 = .ok (.iload 4, 2) := by decide +kernel
theorem dX3_longestRunOf_9 : decode cX3_longestRunOf 9 = .ok (.aload_n 0, 1) := by decide +kernel
theorem dX3_longestRunOf_10 : decode cX3_longestRunOf 10 = .ok (.iload_n 1, 1) := by decide +kernel
theorem dX3_longestRunOf_11 : decode cX3_longestRunOf 11 = .ok (.invokevirtual 27, 3) := by decide +kernel
theorem dX3_longestRunOf_14 : decode cX3_longestRunOf 14 = .ok (.if_icmp .ge 35, 3) := by decide +kernel
theorem dX3_longestRunOf_17 : decode cX3_longestRunOf 17 = .ok (.aload_n 0, 1) := by decide +kernel
theorem dX3_longestRunOf_18 : decode cX3_longestRunOf 18 = .ok (.iload_n 1, 1) := by decide +kernel
theorem dX3_longestRunOf_19 : decode cX3_longestRunOf 19 = .ok (.iload 4, 2) := by decide +kernel
theorem dX3_longestRunOf_21 : decode cX3_longestRunOf 21 = .ok (.iconst 1, 1) := by decide +kernel
theorem dX3_longestRunOf_22 : decode cX3_longestRunOf 22 = .ok (.isub, 1) := by decide +kernel
theorem dX3_longestRunOf_23 : decode cX3_longestRunOf 23 = .ok (.invokevirtual 69, 3) := by decide +kernel
theorem dX3_longestRunOf_26 : decode cX3_longestRunOf 26 = .ok (.ifCond .eq 9, 3) := by decide +kernel
theorem dX3_longestRunOf_29 : decode cX3_longestRunOf 29 = .ok (.iload_n 3, 1) := by decide +kernel
theorem dX3_longestRunOf_30 : decode cX3_longestRunOf 30 = .ok (.iconst 1, 1) := by decide +kernel
theorem dX3_longestRunOf_31 : decode cX3_longestRunOf 31 = .ok (.iadd, 1) := by decide +kernel
theorem dX3_longestRunOf_32 : decode cX3_longestRunOf 32 = .ok (.goto 4, 3) := by decide +kernel
theorem dX3_longestRunOf_35 : decode cX3_longestRunOf 35 = .ok (.iconst 1, 1) := by decide +kernel
theorem dX3_longestRunOf_36 : decode cX3_longestRunOf 36 = .ok (.istore_n 3, 1) := by decide +kernel
theorem dX3_longestRunOf_37 : decode cX3_longestRunOf 37 = .ok (.iload_n 2, 1) := by decide +kernel
theorem dX3_longestRunOf_38 : decode cX3_longestRunOf 38 = .ok (.iload_n 3, 1) := by decide +kernel
theorem dX3_longestRunOf_39 : decode cX3_longestRunOf 39 = .ok (.invokestatic 85, 3) := by decide +kernel
theorem dX3_longestRunOf_42 : decode cX3_longestRunOf 42 = .ok (.istore_n 2, 1) := by decide +kernel
theorem dX3_longestRunOf_43 : decode cX3_longestRunOf 43 = .ok (.iinc 4 1, 3) := by decide +kernel
theorem dX3_longestRunOf_46 : decode cX3_longestRunOf 46 = .ok (.goto (-39), 3) := by decide +kernel
theorem dX3_longestRunOf_49 : decode cX3_longestRunOf 49 = .ok (.iload_n 2, 1) := by decide +kernel
theorem dX3_longestRunOf_50 : decode cX3_longestRunOf 50 = .ok (.ireturn, 1) := by decide +kernel
theorem dX3_positionOfColour_0 : decode cX3_positionOfColour 0 = .ok (.iload_n 2, 1) := by decide +kernel
theorem dX3_positionOfColour_1 : decode cX3_positionOfColour 1 = .ok (.istore 4, 2) := by decide +kernel
theorem dX3_positionOfColour_3 : decode cX3_positionOfColour 3 = .ok (.iload 4, 2) := by decide +kernel
theorem dX3_positionOfColour_5 : decode cX3_positionOfColour 5 = .ok (.aload_n 0, 1) := by decide +kernel
theorem dX3_positionOfColour_6 : decode cX3_positionOfColour 6 = .ok (.iload_n 1, 1) := by decide +kernel
theorem dX3_positionOfColour_7 : decode cX3_positionOfColour 7 = .ok (.invokevirtual 27, 3) := by decide +kernel
theorem dX3_positionOfColour_10 : decode cX3_positionOfColour 10 = .ok (.if_icmp .ge 23, 3) := by decide +kernel
theorem dX3_positionOfColour_13 : decode cX3_positionOfColour 13 = .ok (.aload_n 0, 1) := by decide +kernel
theorem dX3_positionOfColour_14 : decode cX3_positionOfColour 14 = .ok (.iload_n 1, 1) := by decide +kernel
theorem dX3_positionOfColour_15 : decode cX3_positionOfColour 15 = .ok (.iload 4, 2) := by decide +kernel
theorem dX3_positionOfColour_17 : decode cX3_positionOfColour 17 = .ok (.invokevirtual 37, 3) := by decide +kernel
theorem dX3_positionOfColour_20 : decode cX3_positionOfColour 20 = .ok (.iload_n 3, 1) := by decide +kernel
theorem dX3_positionOfColour_21 : decode cX3_positionOfColour 21 = .ok (.if_icmp .ne 6, 3) := by decide +kernel
theorem dX3_positionOfColour_24 : decode cX3_positionOfColour 24 = .ok (.iload 4, 2) := by decide +kernel
theorem dX3_positionOfColour_26 : decode cX3_positionOfColour 26 = .ok (.ireturn, 1) := by decide +kernel
theorem dX3_positionOfColour_27 : decode cX3_positionOfColour 27 = .ok (.iinc 4 1, 3) := by decide +kernel
theorem dX3_positionOfColour_30 : decode cX3_positionOfColour 30 = .ok (.goto (-27), 3) := by decide +kernel
theorem dX3_positionOfColour_33 : decode cX3_positionOfColour 33 = .ok (.iconst (-1), 1) := by decide +kernel
theorem dX3_positionOfColour_34 : decode cX3_positionOfColour 34 = .ok (.ireturn, 1) := by decide +kernel
theorem dX3_sumOfColour_0 : decode cX3_sumOfColour 0 = .ok (.iconst 0, 1) := by decide +kernel
theorem dX3_sumOfColour_1 : decode cX3_sumOfColour 1 = .ok (.istore_n 3, 1) := by decide +kernel
theorem dX3_sumOfColour_2 : decode cX3_sumOfColour 2 = .ok (.iconst 0, 1) := by decide +kernel
theorem dX3_sumOfColour_3 : decode cX3_sumOfColour 3 = .ok (.istore 4, 2) := by decide +kernel
theorem dX3_sumOfColour_5 : decode cX3_sumOfColour 5 = .ok (.iload 4, 2) := by decide +kernel
theorem dX3_sumOfColour_7 : decode cX3_sumOfColour 7 = .ok (.aload_n 0, 1) := by decide +kernel
theorem dX3_sumOfColour_8 : decode cX3_sumOfColour 8 = .ok (.iload_n 1, 1) := by decide +kernel
theorem dX3_sumOfColour_9 : decode cX3_sumOfColour 9 = .ok (.invokevirtual 27, 3) := by decide +kernel
theorem dX3_sumOfColour_12 : decode cX3_sumOfColour 12 = .ok (.if_icmp .ge 30, 3) := by decide +kernel
theorem dX3_sumOfColour_15 : decode cX3_sumOfColour 15 = .ok (.aload_n 0, 1) := by decide +kernel
theorem dX3_sumOfColour_16 : decode cX3_sumOfColour 16 = .ok (.iload_n 1, 1) := by decide +kernel
theorem dX3_sumOfColour_17 : decode cX3_sumOfColour 17 = .ok (.iload 4, 2) := by decide +kernel
theorem dX3_sumOfColour_19 : decode cX3_sumOfColour 19 = .ok (.invokevirtual 37, 3) := by decide +kernel
theorem dX3_sumOfColour_22 : decode cX3_sumOfColour 22 = .ok (.iload_n 2, 1) := by decide +kernel
theorem dX3_sumOfColour_23 : decode cX3_sumOfColour 23 = .ok (.if_icmp .ne 13, 3) := by decide +kernel
theorem dX3_sumOfColour_26 : decode cX3_sumOfColour 26 = .ok (.iload_n 3, 1) := by decide +kernel
theorem dX3_sumOfColour_27 : decode cX3_sumOfColour 27 = .ok (.aload_n 0, 1) := by decide +kernel
theorem dX3_sumOfColour_28 : decode cX3_sumOfColour 28 = .ok (.iload_n 1, 1) := by decide +kernel
theorem dX3_sumOfColour_29 : decode cX3_sumOfColour 29 = .ok (.iload 4, 2) := by decide +kernel
theorem dX3_sumOfColour_31 : decode cX3_sumOfColour 31 = .ok (.invokevirtual 47, 3) := by decide +kernel
theorem dX3_sumOfColour_34 : decode cX3_sumOfColour 34 = .ok (.iadd, 1) := by decide +kernel
theorem dX3_sumOfColour_35 : decode cX3_sumOfColour 35 = .ok (.istore_n 3, 1) := by decide +kernel
theorem dX3_sumOfColour_36 : decode cX3_sumOfColour 36 = .ok (.iinc 4 1, 3) := by decide +kernel
theorem dX3_sumOfColour_39 : decode cX3_sumOfColour 39 = .ok (.goto (-34), 3) := by decide +kernel
theorem dX3_sumOfColour_42 : decode cX3_sumOfColour 42 = .ok (.iload_n 3, 1) := by decide +kernel
theorem dX3_sumOfColour_43 : decode cX3_sumOfColour 43 = .ok (.ireturn, 1) := by decide +kernel
theorem dX3_colourOfRank_0 : decode cX3_colourOfRank 0 = .ok (.iconst 0, 1) := by decide +kernel
theorem dX3_colourOfRank_1 : decode cX3_colourOfRank 1 = .ok (.istore_n 3, 1) := by decide +kernel
theorem dX3_colourOfRank_2 : decode cX3_colourOfRank 2 = .ok (.iload_n 3, 1) := by decide +kernel
theorem dX3_colourOfRank_3 : decode cX3_colourOfRank 3 = .ok (.bipush 8, 2) := by decide +kernel
theorem dX3_colourOfRank_5 : decode cX3_colourOfRank 5 = .ok (.if_icmp .ge 36, 3) := by decide +kernel
theorem dX3_colourOfRank_8 : decode cX3_colourOfRank 8 = .ok (.aload_n 0, 1) := by decide +kernel
theorem dX3_colourOfRank_9 : decode cX3_colourOfRank 9 = .ok (.iload_n 1, 1) := by decide +kernel
theorem dX3_colourOfRank_10 : decode cX3_colourOfRank 10 = .ok (.iload_n 3, 1) := by decide +kernel
theorem dX3_colourOfRank_11 : decode cX3_colourOfRank 11 = .ok (.invokevirtual 88, 3) := by decide +kernel
theorem dX3_colourOfRank_14 : decode cX3_colourOfRank 14 = .ok (.istore 4, 2) := by decide +kernel
theorem dX3_colourOfRank_16 : decode cX3_colourOfRank 16 = .ok (.iload 4, 2) := by decide +kernel
theorem dX3_colourOfRank_18 : decode cX3_colourOfRank 18 = .ok (.ifCond .le 17, 3) := by decide +kernel
theorem dX3_colourOfRank_21 : decode cX3_colourOfRank 21 = .ok (.aload_n 0, 1) := by decide +kernel
theorem dX3_colourOfRank_22 : decode cX3_colourOfRank 22 = .ok (.iload_n 1, 1) := by decide +kernel
theorem dX3_colourOfRank_23 : decode cX3_colourOfRank 23 = .ok (.iload_n 3, 1) := by decide +kernel
theorem dX3_colourOfRank_24 : decode cX3_colourOfRank 24 = .ok (.iload 4, 2) := by decide +kernel
theorem dX3_colourOfRank_26 : decode cX3_colourOfRank 26 = .ok (.invokevirtual 91, 3) := by decide +kernel
theorem dX3_colourOfRank_29 : decode cX3_colourOfRank 29 = .ok (.iload_n 2, 1) := by decide +kernel
theorem dX3_colourOfRank_30 : decode cX3_colourOfRank 30 = .ok (.if_icmp .ne 5, 3) := by decide +kernel
theorem dX3_colourOfRank_33 : decode cX3_colourOfRank 33 = .ok (.iload_n 3, 1) := by decide +kernel
theorem dX3_colourOfRank_34 : decode cX3_colourOfRank 34 = .ok (.ireturn, 1) := by decide +kernel
theorem dX3_colourOfRank_35 : decode cX3_colourOfRank 35 = .ok (.iinc 3 1, 3) := by decide +kernel
theorem dX3_colourOfRank_38 : decode cX3_colourOfRank 38 = .ok (.goto (-36), 3) := by decide +kernel
theorem dX3_colourOfRank_41 : decode cX3_colourOfRank 41 = .ok (.iconst (-1), 1) := by decide +kernel
theorem dX3_colourOfRank_42 : decode cX3_colourOfRank 42 = .ok (.ireturn, 1) := by decide +kernel
theorem dX3_rankOfColour_0 : decode cX3_rankOfColour 0 = .ok (.iconst 0, 1) := by decide +kernel
theorem dX3_rankOfColour_1 : decode cX3_rankOfColour 1 = .ok (.istore 4, 2) := by decide +kernel
theorem dX3_rankOfColour_3 : decode cX3_rankOfColour 3 = .ok (.iconst 0, 1) := by decide +kernel
theorem dX3_rankOfColour_4 : decode cX3_rankOfColour 4 = .ok (.istore 5, 2) := by decide +kernel
theorem dX3_rankOfColour_6 : decode cX3_rankOfColour 6 = .ok (.iload 5, 2) := by decide +kernel
theorem dX3_rankOfColour_8 : decode cX3_rankOfColour 8 = .ok (.bipush 8, 2) := by decide +kernel
theorem dX3_rankOfColour_10 : decode cX3_rankOfColour 10 = .ok (.if_icmp .ge 39, 3) := by decide +kernel
theorem dX3_rankOfColour_13 : decode cX3_rankOfColour 13 = .ok (.aload_n 0, 1) := by decide +kernel
theorem dX3_rankOfColour_14 : decode cX3_rankOfColour 14 = .ok (.iload_n 1, 1) := by decide +kernel
theorem dX3_rankOfColour_15 : decode cX3_rankOfColour 15 = .ok (.iload 5, 2) := by decide +kernel
theorem dX3_rankOfColour_17 : decode cX3_rankOfColour 17 = .ok (.invokevirtual 88, 3) := by decide +kernel
theorem dX3_rankOfColour_20 : decode cX3_rankOfColour 20 = .ok (.istore 6, 2) := by decide +kernel
theorem dX3_rankOfColour_22 : decode cX3_rankOfColour 22 = .ok (.iload 6, 2) := by decide +kernel
theorem dX3_rankOfColour_24 : decode cX3_rankOfColour 24 = .ok (.iload_n 3, 1) := by decide +kernel
theorem dX3_rankOfColour_25 : decode cX3_rankOfColour 25 = .ok (.if_icmp .gt 15, 3) := by decide +kernel
theorem dX3_rankOfColour_28 : decode cX3_rankOfColour 28 = .ok (.iload 6, 2) := by decide +kernel
theorem dX3_rankOfColour_30 : decode cX3_rankOfColour 30 = .ok (.iload_n 3, 1) := by decide +kernel
theorem dX3_rankOfColour_31 : decode cX3_rankOfColour 31 = .ok (.if_icmp .ne 12, 3) := by decide +kernel
theorem dX3_rankOfColour_34 : decode cX3_rankOfColour 34 = .ok (.iload 5, 2) := by decide +kernel
theorem dX3_rankOfColour_36 : decode cX3_rankOfColour 36 = .ok (.iload_n 2, 1) := by decide +kernel
theorem dX3_rankOfColour_37 : decode cX3_rankOfColour 37 = .ok (.if_icmp .ge 6, 3) := by decide +kernel
theorem dX3_rankOfColour_40 : decode cX3_rankOfColour 40 = .ok (.iinc 4 1, 3) := by decide +kernel
theorem dX3_rankOfColour_43 : decode cX3_rankOfColour 43 = .ok (.iinc 5 1, 3) := by decide +kernel
theorem dX3_rankOfColour_46 : decode cX3_rankOfColour 46 = .ok (.goto (-40), 3) := by decide +kernel
theorem dX3_rankOfColour_49 : decode cX3_rankOfColour 49 = .ok (.iload 4, 2) := by decide +kernel
theorem dX3_rankOfColour_51 : decode cX3_rankOfColour 51 = .ok (.ireturn, 1) := by decide +kernel
theorem dX3_readsTheSameBackwards_0 : decode cX3_readsTheSameBackwards 0 = .ok (.iconst 0, 1) := by decide +kernel
theorem dX3_readsTheSameBackwards_1 : decode cX3_readsTheSameBackwards 1 = .ok (.istore_n 2, 1) := by decide +kernel
theorem dX3_readsTheSameBackwards_2 : decode cX3_readsTheSameBackwards 2 = .ok (.aload_n 0, 1) := by decide +kernel
theorem dX3_readsTheSameBackwards_3 : decode cX3_readsTheSameBackwards 3 = .ok (.iload_n 1, 1) := by decide +kernel
theorem dX3_readsTheSameBackwards_4 : decode cX3_readsTheSameBackwards 4 = .ok (.invokevirtual 27, 3) := by decide +kernel
theorem dX3_readsTheSameBackwards_7 : decode cX3_readsTheSameBackwards 7 = .ok (.iconst 1, 1) := by decide +kernel
theorem dX3_readsTheSameBackwards_8 : decode cX3_readsTheSameBackwards 8 = .ok (.isub, 1) := by decide +kernel
theorem dX3_readsTheSameBackwards_9 : decode cX3_readsTheSameBackwards 9 = .ok (.istore_n 3, 1) := by decide +kernel
theorem dX3_readsTheSameBackwards_10 : decode cX3_readsTheSameBackwards 10 = .ok (.iload_n 2, 1) := by decide +kernel
theorem dX3_readsTheSameBackwards_11 : decode cX3_readsTheSameBackwards 11 = .ok (.iload_n 3, 1) := by decide +kernel
theorem dX3_readsTheSameBackwards_12 : decode cX3_readsTheSameBackwards 12 = .ok (.if_icmp .ge 29, 3) := by decide +kernel
theorem dX3_readsTheSameBackwards_15 : decode cX3_readsTheSameBackwards 15 = .ok (.aload_n 0, 1) := by decide +kernel
theorem dX3_readsTheSameBackwards_16 : decode cX3_readsTheSameBackwards 16 = .ok (.iload_n 1, 1) := by decide +kernel
theorem dX3_readsTheSameBackwards_17 : decode cX3_readsTheSameBackwards 17 = .ok (.iload_n 2, 1) := by decide +kernel
theorem dX3_readsTheSameBackwards_18 : decode cX3_readsTheSameBackwards 18 = .ok (.invokevirtual 34, 3) := by decide +kernel
theorem dX3_readsTheSameBackwards_21 : decode cX3_readsTheSameBackwards 21 = .ok (.aload_n 0, 1) := by decide +kernel
theorem dX3_readsTheSameBackwards_22 : decode cX3_readsTheSameBackwards 22 = .ok (.iload_n 1, 1) := by decide +kernel
theorem dX3_readsTheSameBackwards_23 : decode cX3_readsTheSameBackwards 23 = .ok (.iload_n 3, 1) := by decide +kernel
theorem dX3_readsTheSameBackwards_24 : decode cX3_readsTheSameBackwards 24 = .ok (.invokevirtual 34, 3) := by decide +kernel
theorem dX3_readsTheSameBackwards_27 : decode cX3_readsTheSameBackwards 27 = .ok (.if_icmp .eq 5, 3) := by decide +kernel
theorem dX3_readsTheSameBackwards_30 : decode cX3_readsTheSameBackwards 30 = .ok (.iconst 0, 1) := by decide +kernel
theorem dX3_readsTheSameBackwards_31 : decode cX3_readsTheSameBackwards 31 = .ok (.ireturn, 1) := by decide +kernel
theorem dX3_readsTheSameBackwards_32 : decode cX3_readsTheSameBackwards 32 = .ok (.iinc 2 1, 3) := by decide +kernel
theorem dX3_readsTheSameBackwards_35 : decode cX3_readsTheSameBackwards 35 = .ok (.iinc 3 (-1), 3) := by decide +kernel
theorem dX3_readsTheSameBackwards_38 : decode cX3_readsTheSameBackwards 38 = .ok (.goto (-28), 3) := by decide +kernel
theorem dX3_readsTheSameBackwards_41 : decode cX3_readsTheSameBackwards 41 = .ok (.iconst 1, 1) := by decide +kernel
theorem dX3_readsTheSameBackwards_42 : decode cX3_readsTheSameBackwards 42 = .ok (.ireturn, 1) := by decide +kernel
theorem dX3_sharedBeginning_0 : decode cX3_sharedBeginning 0 = .ok (.aload_n 0, 1) := by decide +kernel
theorem dX3_sharedBeginning_1 : decode cX3_sharedBeginning 1 = .ok (.iload_n 1, 1) := by decide +kernel
theorem dX3_sharedBeginning_2 : decode cX3_sharedBeginning 2 = .ok (.invokevirtual 27, 3) := by decide +kernel
theorem dX3_sharedBeginning_5 : decode cX3_sharedBeginning 5 = .ok (.aload_n 0, 1) := by decide +kernel
theorem dX3_sharedBeginning_6 : decode cX3_sharedBeginning 6 = .ok (.iload_n 2, 1) := by decide +kernel
theorem dX3_sharedBeginning_7 : decode cX3_sharedBeginning 7 = .ok (.invokevirtual 27, 3) := by decide +kernel
theorem dX3_sharedBeginning_10 : decode cX3_sharedBeginning 10 = .ok (.invokestatic 64, 3) := by decide +kernel
theorem dX3_sharedBeginning_13 : decode cX3_sharedBeginning 13 = .ok (.istore_n 3, 1) := by decide +kernel
theorem dX3_sharedBeginning_14 : decode cX3_sharedBeginning 14 = .ok (.iconst 0, 1) := by decide +kernel
theorem dX3_sharedBeginning_15 : decode cX3_sharedBeginning 15 = .ok (.istore 4, 2) := by decide +kernel
theorem dX3_sharedBeginning_17 : decode cX3_sharedBeginning 17 = .ok (.iload 4, 2) := by decide +kernel
theorem dX3_sharedBeginning_19 : decode cX3_sharedBeginning 19 = .ok (.iload_n 3, 1) := by decide +kernel
theorem dX3_sharedBeginning_20 : decode cX3_sharedBeginning 20 = .ok (.if_icmp .ge 29, 3) := by decide +kernel
theorem dX3_sharedBeginning_23 : decode cX3_sharedBeginning 23 = .ok (.aload_n 0, 1) := by decide +kernel
theorem dX3_sharedBeginning_24 : decode cX3_sharedBeginning 24 = .ok (.iload_n 1, 1) := by decide +kernel
theorem dX3_sharedBeginning_25 : decode cX3_sharedBeginning 25 = .ok (.iload 4, 2) := by decide +kernel
theorem dX3_sharedBeginning_27 : decode cX3_sharedBeginning 27 = .ok (.invokevirtual 34, 3) := by decide +kernel
theorem dX3_sharedBeginning_30 : decode cX3_sharedBeginning 30 = .ok (.aload_n 0, 1) := by decide +kernel
theorem dX3_sharedBeginning_31 : decode cX3_sharedBeginning 31 = .ok (.iload_n 2, 1) := by decide +kernel
theorem dX3_sharedBeginning_32 : decode cX3_sharedBeginning 32 = .ok (.iload 4, 2) := by decide +kernel
theorem dX3_sharedBeginning_34 : decode cX3_sharedBeginning 34 = .ok (.invokevirtual 34, 3) := by decide +kernel
theorem dX3_sharedBeginning_37 : decode cX3_sharedBeginning 37 = .ok (.if_icmp .eq 6, 3) := by decide +kernel
theorem dX3_sharedBeginning_40 : decode cX3_sharedBeginning 40 = .ok (.iload 4, 2) := by decide +kernel
theorem dX3_sharedBeginning_42 : decode cX3_sharedBeginning 42 = .ok (.ireturn, 1) := by decide +kernel
theorem dX3_sharedBeginning_43 : decode cX3_sharedBeginning 43 = .ok (.iinc 4 1, 3) := by decide +kernel
theorem dX3_sharedBeginning_46 : decode cX3_sharedBeginning 46 = .ok (.goto (-29), 3) := by decide +kernel
theorem dX3_sharedBeginning_49 : decode cX3_sharedBeginning 49 = .ok (.iload_n 3, 1) := by decide +kernel
theorem dX3_sharedBeginning_50 : decode cX3_sharedBeginning 50 = .ok (.ireturn, 1) := by decide +kernel
theorem dX4_init_0 : decode cX4_init 0 = .ok (.aload_n 0, 1) := by decide +kernel
theorem dX4_init_1 : decode cX4_init 1 = .ok (.invokespecial 3, 3) := by decide +kernel
theorem dX4_init_4 : decode cX4_init 4 = .ok (.aload_n 0, 1) := by decide +kernel
theorem dX4_init_5 : decode cX4_init 5 = .ok (.new 9, 3) := by decide +kernel
theorem dX4_init_8 : decode cX4_init 8 = .ok (.dup, 1) := by decide +kernel
theorem dX4_init_9 : decode cX4_init 9 = .ok (.invokespecial 11, 3) := by decide +kernel
theorem dX4_init_12 : decode cX4_init 12 = .ok (.putfield 12, 3) := by decide +kernel
theorem dX4_init_15 : decode cX4_init 15 = .ok (.aload_n 0, 1) := by decide +kernel
theorem dX4_init_16 : decode cX4_init 16 = .ok (.sipush 310, 3) := by decide +kernel
theorem dX4_init_19 : decode cX4_init 19 = .ok (.newarray .int, 2) := by decide +kernel
theorem dX4_init_21 : decode cX4_init 21 = .ok (.putfield 16, 3) := by decide +kernel
theorem dX4_init_24 : decode cX4_init 24 = .ok (.aload_n 0, 1) := by decide +kernel
theorem dX4_init_25 : decode cX4_init 25 = .ok (.sipush 310, 3) := by decide +kernel
theorem dX4_init_28 : decode cX4_init 28 = .ok (.newarray .int, 2) := by decide +kernel
theorem dX4_init_30 : decode cX4_init 30 = .ok (.putfield 20, 3) := by decide +kernel
theorem dX4_init_33 : decode cX4_init 33 = .ok (.aload_n 0, 1) := by decide +kernel
theorem dX4_init_34 : decode cX4_init 34 = .ok (.iconst 0, 1) := by decide +kernel
theorem dX4_init_35 : decode cX4_init 35 = .ok (.putfield 23, 3) := by decide +kernel
theorem dX4_init_38 : decode cX4_init 38 = .ok (.aload_n 0, 1) := by decide +kernel
theorem dX4_init_39 : decode cX4_init 39 = .ok (.new 27, 3) := by decide +kernel
theorem dX4_init_42 : decode cX4_init 42 = .ok (.dup, 1) := by decide +kernel
theorem dX4_init_43 : decode cX4_init 43 = .ok (.invokespecial 29, 3) := by decide +kernel
theorem dX4_init_46 : decode cX4_init 46 = .ok (.putfield 30, 3) := by decide +kernel
theorem dX4_init_49 : decode cX4_init 49 = .ok (.aload_n 0, 1) := by decide +kernel
theorem dX4_init_50 : decode cX4_init 50 = .ok (.new 34, 3) := by decide +kernel
theorem dX4_init_53 : decode cX4_init 53 = .ok (.dup, 1) := by decide +kernel
theorem dX4_init_54 : decode cX4_init 54 = .ok (.invokespecial 36, 3) := by decide +kernel
theorem dX4_init_57 : decode cX4_init 57 = .ok (.putfield 37, 3) := by decide +kernel
theorem dX4_init_60 : decode cX4_init 60 = .ok (.aload_n 0, 1) := by decide +kernel
theorem dX4_init_61 : decode cX4_init 61 = .ok (.new 41, 3) := by decide +kernel
theorem dX4_init_64 : decode cX4_init 64 = .ok (.dup, 1) := by decide +kernel
theorem dX4_init_65 : decode cX4_init 65 = .ok (.invokespecial 43, 3) := by decide +kernel
theorem dX4_init_68 : decode cX4_init 68 = .ok (.putfield 44, 3) := by decide +kernel
theorem dX4_init_71 : decode cX4_init 71 = .ok (.aload_n 0, 1) := by decide +kernel
theorem dX4_init_72 : decode cX4_init 72 = .ok (.iconst (-1), 1) := by decide +kernel
theorem dX4_init_73 : decode cX4_init 73 = .ok (.putfield 48, 3) := by decide +kernel
theorem dX4_init_76 : decode cX4_init 76 = .ok (.aload_n 0, 1) := by decide +kernel
theorem dX4_init_77 : decode cX4_init 77 = .ok (.iconst (-1), 1) := by decide +kernel
theorem dX4_init_78 : decode cX4_init 78 = .ok (.putfield 52, 3) := by decide +kernel
theorem dX4_init_81 : decode cX4_init 81 = .ok (.return_, 1) := by decide +kernel
theorem dX4_append_0 : decode cX4_append 0 = .ok (.aload_n 0, 1) := by decide +kernel
theorem dX4_append_1 : decode cX4_append 1 = .ok (.iconst 0, 1) := by decide +kernel
theorem dX4_append_2 : decode cX4_append 2 = .ok (.iload_n 1, 1) := by decide +kernel
theorem dX4_append_3 : decode cX4_append 3 = .ok (.iload_n 2, 1) := by decide +kernel
theorem dX4_append_4 : decode cX4_append 4 = .ok (.iload_n 3, 1) := by decide +kernel
theorem dX4_append_5 : decode cX4_append 5 = .ok (.iconst 0, 1) := by decide +kernel
theorem dX4_append_6 : decode cX4_append 6 = .ok (.invokevirtual 55, 3) := by decide +kernel
theorem dX4_append_9 : decode cX4_append 9 = .ok (.ireturn, 1) := by decide +kernel
theorem dX4_insert_0 : decode cX4_insert 0 = .ok (.aload_n 0, 1) := by decide +kernel
theorem dX4_insert_1 : decode cX4_insert 1 = .ok (.iconst 1, 1) := by decide +kernel
theorem dX4_insert_2 : decode cX4_insert 2 = .ok (.iload_n 1, 1) := by decide +kernel
theorem dX4_insert_3 : decode cX4_insert 3 = .ok (.iload_n 2, 1) := by decide +kernel
theorem dX4_insert_4 : decode cX4_insert 4 = .ok (.iload_n 3, 1) := by decide +kernel
theorem dX4_insert_5 : decode cX4_insert 5 = .ok (.iload 4, 2) := by decide +kernel
theorem dX4_insert_7 : decode cX4_insert 7 = .ok (.invokevirtual 55, 3) := by decide +kernel
theorem dX4_insert_10 : decode cX4_insert 10 = .ok (.ireturn, 1) := by decide +kernel
theorem dX4_remove_0 : decode cX4_remove 0 = .ok (.aload_n 0, 1) := by decide +kernel
theorem dX4_remove_1 : decode cX4_remove 1 = .ok (.iconst 2, 1) := by decide +kernel
theorem dX4_remove_2 : decode cX4_remove 2 = .ok (.iload_n 1, 1) := by decide +kernel
theorem dX4_remove_3 : decode cX4_remove 3 = .ok (.iload_n 2, 1) := by decide +kernel
theorem dX4_remove_4 : decode cX4_remove 4 = .ok (.iconst 0, 1) := by decide +kernel
theorem dX4_remove_5 : decode cX4_remove 5 = .ok (.iconst 0, 1) := by decide +kernel
theorem dX4_remove_6 : decode cX4_remove 6 = .ok (.invokevirtual 55, 3) := by decide +kernel
theorem dX4_remove_9 : decode cX4_remove 9 = .ok (.ireturn, 1) := by decide +kernel
theorem dX4_retie_0 : decode cX4_retie 0 = .ok (.aload_n 0, 1) := by decide +kernel
theorem dX4_retie_1 : decode cX4_retie 1 = .ok (.iconst 3, 1) := by decide +kernel
theorem dX4_retie_2 : decode cX4_retie 2 = .ok (.iload_n 1, 1) := by decide +kernel
theorem dX4_retie_3 : decode cX4_retie 3 = .ok (.iload_n 2, 1) := by decide +kernel
theorem dX4_retie_4 : decode cX4_retie 4 = .ok (.iload_n 3, 1) := by decide +kernel
theorem dX4_retie_5 : decode cX4_retie 5 = .ok (.iconst 0, 1) := by decide +kernel
theorem dX4_retie_6 : decode cX4_retie 6 = .ok (.invokevirtual 55, 3) := by decide +kernel
theorem dX4_retie_9 : decode cX4_retie 9 = .ok (.ireturn, 1) := by decide +kernel
theorem dX4_segmentCount_0 : decode cX4_segmentCount 0 = .ok (.iload_n 1, 1) := by decide +kernel
theorem dX4_segmentCount_1 : decode cX4_segmentCount 1 = .ok (.invokestatic 59, 3) := by decide +kernel
theorem dX4_segmentCount_4 : decode cX4_segmentCount 4 = .ok (.invokestatic 63, 3) := by decide +kernel
theorem dX4_segmentCount_7 : decode cX4_segmentCount 7 = .ok (.aload_n 0, 1) := by decide +kernel
theorem dX4_segmentCount_8 : decode cX4_segmentCount 8 = .ok (.getfield 12, 3) := by decide +kernel
theorem dX4_segmentCount_11 : decode cX4_segmentCount 11 = .ok (.iload_n 1, 1) := by decide +kernel
theorem dX4_segmentCount_12 : decode cX4_segmentCount 12 = .ok (.invokevirtual 67, 3) := by decide +kernel
theorem dX4_segmentCount_15 : decode cX4_segmentCount 15 = .ok (.ireturn, 1) := by decide +kernel
theorem dX4_length_0 : decode cX4_length 0 = .ok (.aload_n 0, 1) := by decide +kernel
theorem dX4_length_1 : decode cX4_length 1 = .ok (.iload_n 1, 1) := by decide +kernel
theorem dX4_length_2 : decode cX4_length 2 = .ok (.iload_n 2, 1) := by decide +kernel
theorem dX4_length_3 : decode cX4_length 3 = .ok (.invokevirtual 70, 3) := by decide +kernel
theorem dX4_length_6 : decode cX4_length 6 = .ok (.invokestatic 63, 3) := by decide +kernel
theorem dX4_length_9 : decode cX4_length 9 = .ok (.aload_n 0, 1) := by decide +kernel
theorem dX4_length_10 : decode cX4_length 10 = .ok (.getfield 12, 3) := by decide +kernel
theorem dX4_length_13 : decode cX4_length 13 = .ok (.iload_n 1, 1) := by decide +kernel
theorem dX4_length_14 : decode cX4_length 14 = .ok (.iload_n 2, 1) := by decide +kernel
theorem dX4_length_15 : decode cX4_length 15 = .ok (.invokevirtual 74, 3) := by decide +kernel
theorem dX4_length_18 : decode cX4_length 18 = .ok (.ireturn, 1) := by decide +kernel
theorem dX4_colour_0 : decode cX4_colour 0 = .ok (.aload_n 0, 1) := by decide +kernel
theorem dX4_colour_1 : decode cX4_colour 1 = .ok (.iload_n 1, 1) := by decide +kernel
theorem dX4_colour_2 : decode cX4_colour 2 = .ok (.iload_n 2, 1) := by decide +kernel
theorem dX4_colour_3 : decode cX4_colour 3 = .ok (.invokevirtual 70, 3) := by decide +kernel
theorem dX4_colour_6 : decode cX4_colour 6 = .ok (.invokestatic 63, 3) := by decide +kernel
theorem dX4_colour_9 : decode cX4_colour 9 = .ok (.aload_n 0, 1) := by decide +kernel
theorem dX4_colour_10 : decode cX4_colour 10 = .ok (.getfield 12, 3) := by decide +kernel
theorem dX4_colour_13 : decode cX4_colour 13 = .ok (.iload_n 1, 1) := by decide +kernel
theorem dX4_colour_14 : decode cX4_colour 14 = .ok (.iload_n 2, 1) := by decide +kernel
theorem dX4_colour_15 : decode cX4_colour 15 = .ok (.invokevirtual 77, 3) := by decide +kernel
theorem dX4_colour_18 : decode cX4_colour 18 = .ok (.ireturn, 1) := by decide +kernel
theorem dX4_cut_0 : decode cX4_cut 0 = .ok (.aload_n 0, 1) := by decide +kernel
theorem dX4_cut_1 : decode cX4_cut 1 = .ok (.iconst 4, 1) := by decide +kernel
theorem dX4_cut_2 : decode cX4_cut 2 = .ok (.iload_n 1, 1) := by decide +kernel
theorem dX4_cut_3 : decode cX4_cut 3 = .ok (.iload_n 2, 1) := by decide +kernel
theorem dX4_cut_4 : decode cX4_cut 4 = .ok (.iload_n 3, 1) := by decide +kernel
theorem dX4_cut_5 : decode cX4_cut 5 = .ok (.iconst 0, 1) := by decide +kernel
theorem dX4_cut_6 : decode cX4_cut 6 = .ok (.invokevirtual 55, 3) := by decide +kernel
theorem dX4_cut_9 : decode cX4_cut 9 = .ok (.ireturn, 1) := by decide +kernel
theorem dX4_splice_0 : decode cX4_splice 0 = .ok (.aload_n 0, 1) := by decide +kernel
theorem dX4_splice_1 : decode cX4_splice 1 = .ok (.iconst 5, 1) := by decide +kernel
theorem dX4_splice_2 : decode cX4_splice 2 = .ok (.iload_n 1, 1) := by decide +kernel
theorem dX4_splice_3 : decode cX4_splice 3 = .ok (.iload_n 2, 1) := by decide +kernel
theorem dX4_splice_4 : decode cX4_splice 4 = .ok (.iconst 0, 1) := by decide +kernel
theorem dX4_splice_5 : decode cX4_splice 5 = .ok (.iconst 0, 1) := by decide +kernel
theorem dX4_splice_6 : decode cX4_splice 6 = .ok (.invokevirtual 55, 3) := by decide +kernel
theorem dX4_splice_9 : decode cX4_splice 9 = .ok (.ireturn, 1) := by decide +kernel

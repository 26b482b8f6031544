theorem dX0_init_0 : decode cX0_init 0 = .ok (.aload_n 0, 1) := by decide +kernel
theorem dX0_init_1 : decode cX0_init 1 = .ok (.invokespecial 3, 3) := by decide +kernel
theorem dX0_init_4 : decode cX0_init 4 = .ok (.aload_n 0, 1) := by decide +kernel
theorem dX0_init_5 : decode cX0_init 5 = .ok (.bipush 60, 2) := by decide +kernel
theorem dX0_init_7 : decode cX0_init 7 = .ok (.newarray .char, 2) := by decide +kernel
theorem dX0_init_9 : decode cX0_init 9 = .ok (.putfield 9, 3) := by decide +kernel
theorem dX0_init_12 : decode cX0_init 12 = .ok (.aload_n 0, 1) := by decide +kernel
theorem dX0_init_13 : decode cX0_init 13 = .ok (.iconst 0, 1) := by decide +kernel
theorem dX0_init_14 : decode cX0_init 14 = .ok (.putfield 15, 3) := by decide +kernel
theorem dX0_init_17 : decode cX0_init 17 = .ok (.aload_n 0, 1) := by decide +kernel
theorem dX0_init_18 : decode cX0_init 18 = .ok (.iconst 0, 1) := by decide +kernel
theorem dX0_init_19 : decode cX0_init 19 = .ok (.putfield 19, 3) := by decide +kernel
theorem dX0_init_22 : decode cX0_init 22 = .ok (.aload_n 0, 1) := by decide +kernel
theorem dX0_init_23 : decode cX0_init 23 = .ok (.bipush 8, 2) := by decide +kernel
theorem dX0_init_25 : decode cX0_init 25 = .ok (.newarray .int, 2) := by decide +kernel
theorem dX0_init_27 : decode cX0_init 27 = .ok (.putfield 22, 3) := by decide +kernel
theorem dX0_init_30 : decode cX0_init 30 = .ok (.aload_n 0, 1) := by decide +kernel
theorem dX0_init_31 : decode cX0_init 31 = .ok (.bipush 32, 2) := by decide +kernel
theorem dX0_init_33 : decode cX0_init 33 = .ok (.newarray .int, 2) := by decide +kernel
theorem dX0_init_35 : decode cX0_init 35 = .ok (.putfield 26, 3) := by decide +kernel
theorem dX0_init_38 : decode cX0_init 38 = .ok (.aload_n 0, 1) := by decide +kernel
theorem dX0_init_39 : decode cX0_init 39 = .ok (.iconst 0, 1) := by decide +kernel
theorem dX0_init_40 : decode cX0_init 40 = .ok (.putfield 29, 3) := by decide +kernel
theorem dX0_init_43 : decode cX0_init 43 = .ok (.aload_n 0, 1) := by decide +kernel
theorem dX0_init_44 : decode cX0_init 44 = .ok (.iconst 0, 1) := by decide +kernel
theorem dX0_init_45 : decode cX0_init 45 = .ok (.putfield 32, 3) := by decide +kernel
theorem dX0_init_48 : decode cX0_init 48 = .ok (.return_, 1) := by decide +kernel
theorem dX0_isFull_0 : decode cX0_isFull 0 = .ok (.aload_n 0, 1) := by decide +kernel
theorem dX0_isFull_1 : decode cX0_isFull 1 = .ok (.getfield 15, 3) := by decide +kernel
theorem dX0_isFull_4 : decode cX0_isFull 4 = .ok (.aload_n 0, 1) := by decide +kernel
theorem dX0_isFull_5 : decode cX0_isFull 5 = .ok (.getfield 9, 3) := by decide +kernel
theorem dX0_isFull_8 : decode cX0_isFull 8 = .ok (.arraylength, 1) := by decide +kernel
theorem dX0_isFull_9 : decode cX0_isFull 9 = .ok (.if_icmp .lt 7, 3) := by decide +kernel
theorem dX0_isFull_12 : decode cX0_isFull 12 = .ok (.iconst 1, 1) := by decide +kernel
theorem dX0_isFull_13 : decode cX0_isFull 13 = .ok (.goto 4, 3) := by decide +kernel
theorem dX0_isFull_16 : decode cX0_isFull 16 = .ok (.iconst 0, 1) := by decide +kernel
theorem dX0_isFull_17 : decode cX0_isFull 17 = .ok (.ireturn, 1) := by decide +kernel
theorem dX0_addCharacter_0 : decode cX0_addCharacter 0 = .ok (.aload_n 0, 1) := by decide +kernel
theorem dX0_addCharacter_1 : decode cX0_addCharacter 1 = .ok (.getfield 15, 3) := by decide +kernel
theorem dX0_addCharacter_4 : decode cX0_addCharacter 4 = .ok (.ifCond .lt 35, 3) := by decide +kernel
theorem dX0_addCharacter_7 : decode cX0_addCharacter 7 = .ok (.aload_n 0, 1) := by decide +kernel
theorem dX0_addCharacter_8 : decode cX0_addCharacter 8 = .ok (.getfield 15, 3) := by decide +kernel
theorem dX0_addCharacter_11 : decode cX0_addCharacter 11 = .ok (.aload_n 0, 1) := by decide +kernel
theorem dX0_addCharacter_12 : decode cX0_addCharacter 12 = .ok (.getfield 9, 3) := by decide +kernel
theorem dX0_addCharacter_15 : decode cX0_addCharacter 15 = .ok (.arraylength, 1) := by decide +kernel
theorem dX0_addCharacter_16 : decode cX0_addCharacter 16 = .ok (.if_icmp .ge 23, 3) := by decide +kernel
theorem dX0_addCharacter_19 : decode cX0_addCharacter 19 = .ok (.aload_n 0, 1) := by decide +kernel
theorem dX0_addCharacter_20 : decode cX0_addCharacter 20 = .ok (.getfield 9, 3) := by decide +kernel
theorem dX0_addCharacter_23 : decode cX0_addCharacter 23 = .ok (.aload_n 0, 1) := by decide +kernel
theorem dX0_addCharacter_24 : decode cX0_addCharacter 24 = .ok (.getfield 15, 3) := by decide +kernel
theorem dX0_addCharacter_27 : decode cX0_addCharacter 27 = .ok (.iload_n 1, 1) := by decide +kernel
theorem dX0_addCharacter_28 : decode cX0_addCharacter 28 = .ok (.castore, 1) := by decide +kernel
theorem dX0_addCharacter_29 : decode cX0_addCharacter 29 = .ok (.aload_n 0, 1) := by decide +kernel
theorem dX0_addCharacter_30 : decode cX0_addCharacter 30 = .ok (.dup, 1) := by decide +kernel
theorem dX0_addCharacter_31 : decode cX0_addCharacter 31 = .ok (.getfield 15, 3) := by decide +kernel
theorem dX0_addCharacter_34 : decode cX0_addCharacter 34 = .ok (.iconst 1, 1) := by decide +kernel
theorem dX0_addCharacter_35 : decode cX0_addCharacter 35 = .ok (.iadd, 1) := by decide +kernel
theorem dX0_addCharacter_36 : decode cX0_addCharacter 36 = .ok (.putfield 15, 3) := by decide +kernel
theorem dX0_addCharacter_39 : decode cX0_addCharacter 39 = .ok (.aload_n 0, 1) := by decide +kernel
theorem dX0_addCharacter_40 : decode cX0_addCharacter 40 = .ok (.getfield 15, 3) := by decide +kernel
theorem dX0_addCharacter_43 : decode cX0_addCharacter 43 = .ok (.ireturn, 1) := by decide +kernel
theorem dX0_clearText_0 : decode cX0_clearText 0 = .ok (.aload_n 0, 1) := by decide +kernel
theorem dX0_clearText_1 : decode cX0_clearText 1 = .ok (.iconst 0, 1) := by decide +kernel
theorem dX0_clearText_2 : decode cX0_clearText 2 = .ok (.putfield 15, 3) := by decide +kernel
theorem dX0_clearText_5 : decode cX0_clearText 5 = .ok (.return_, 1) := by decide +kernel
theorem dX0_commandCount_0 : decode cX0_commandCount 0 = .ok (.aload_n 0, 1) := by decide +kernel
theorem dX0_commandCount_1 : decode cX0_commandCount 1 = .ok (.getfield 29, 3) := by decide +kernel
theorem dX0_commandCount_4 : decode cX0_commandCount 4 = .ok (.ireturn, 1) := by decide +kernel
theorem dX0_kindOf_0 : decode cX0_kindOf 0 = .ok (.iload_n 1, 1) := by decide +kernel
theorem dX0_kindOf_1 : decode cX0_kindOf 1 = .ok (.ifCond .lt 21, 3) := by decide +kernel
theorem dX0_kindOf_4 : decode cX0_kindOf 4 = .ok (.iload_n 1, 1) := by decide +kernel
theorem dX0_kindOf_5 : decode cX0_kindOf 5 = .ok (.aload_n 0, 1) := by decide +kernel
theorem dX0_kindOf_6 : decode cX0_kindOf 6 = .ok (.getfield 22, 3) := by decide +kernel
theorem dX0_kindOf_9 : decode cX0_kindOf 9 = .ok (.arraylength, 1) := by decide +kernel
theorem dX0_kindOf_10 : decode cX0_kindOf 10 = .ok (.if_icmp .ge 12, 3) := by decide +kernel
theorem dX0_kindOf_13 : decode cX0_kindOf 13 = .ok (.aload_n 0, 1) := by decide +kernel
theorem dX0_kindOf_14 : decode cX0_kindOf 14 = .ok (.getfield 22, 3) := by decide +kernel
theorem dX0_kindOf_17 : decode cX0_kindOf 17 = .ok (.iload_n 1, 1) := by decide +kernel
theorem dX0_kindOf_18 : decode cX0_kindOf 18 = .ok (.iaload, 1) := by decide +kernel
theorem dX0_kindOf_19 : decode cX0_kindOf 19 = .ok (.goto 4, 3) := by decide +kernel
theorem dX0_kindOf_22 : decode cX0_kindOf 22 = .ok (.iconst (-1), 1) := by decide +kernel
theorem dX0_kindOf_23 : decode cX0_kindOf 23 = .ok (.ireturn, 1) := by decide +kernel
theorem dX0_parameterOf_0 : decode cX0_parameterOf 0 = .ok (.iload_n 1, 1) := by decide +kernel
theorem dX0_parameterOf_1 : decode cX0_parameterOf 1 = .ok (.iconst 4, 1) := by decide +kernel
theorem dX0_parameterOf_2 : decode cX0_parameterOf 2 = .ok (.imul, 1) := by decide +kernel
theorem dX0_parameterOf_3 : decode cX0_parameterOf 3 = .ok (.iload_n 2, 1) := by decide +kernel
theorem dX0_parameterOf_4 : decode cX0_parameterOf 4 = .ok (.iadd, 1) := by decide +kernel
theorem dX0_parameterOf_5 : decode cX0_parameterOf 5 = .ok (.istore_n 3, 1) := by decide +kernel
theorem dX0_parameterOf_6 : decode cX0_parameterOf 6 = .ok (.iload_n 3, 1) := by decide +kernel
theorem dX0_parameterOf_7 : decode cX0_parameterOf 7 = .ok (.ifCond .lt 21, 3) := by decide +kernel
theorem dX0_parameterOf_10 : decode cX0_parameterOf 10 = .ok (.iload_n 3, 1) := by decide +kernel
theorem dX0_parameterOf_11 : decode cX0_parameterOf 11 = .ok (.aload_n 0, 1) := by decide +kernel
theorem dX0_parameterOf_12 : decode cX0_parameterOf 12 = .ok (.getfield 26, 3) := by decide +kernel
theorem dX0_parameterOf_15 : decode cX0_parameterOf 15 = .ok (.arraylength, 1) := by decide +kernel
theorem dX0_parameterOf_16 : decode cX0_parameterOf 16 = .ok (.if_icmp .ge 12, 3) := by decide +kernel
theorem dX0_parameterOf_19 : decode cX0_parameterOf 19 = .ok (.aload_n 0, 1) := by decide +kernel
theorem dX0_parameterOf_20 : decode cX0_parameterOf 20 = .ok (.getfield 26, 3) := by decide +kernel
theorem dX0_parameterOf_23 : decode cX0_parameterOf 23 = .ok (.iload_n 3, 1) := by decide +kernel
theorem dX0_parameterOf_24 : decode cX0_parameterOf 24 = .ok (.iaload, 1) := by decide +kernel
theorem dX0_parameterOf_25 : decode cX0_parameterOf 25 = .ok (.goto 4, 3) := by decide +kernel
theorem dX0_parameterOf_28 : decode cX0_parameterOf 28 = .ok (.iconst 0, 1) := by decide +kernel
theorem dX0_parameterOf_29 : decode cX0_parameterOf 29 = .ok (.ireturn, 1) := by decide +kernel
theorem dX0_parse_0 : decode cX0_parse 0 = .ok (.aload_n 0, 1) := by decide +kernel
theorem dX0_parse_1 : decode cX0_parse 1 = .ok (.iconst 0, 1) := by decide +kernel
theorem dX0_parse_2 : decode cX0_parse 2 = .ok (.putfield 19, 3) := by decide +kernel
theorem dX0_parse_5 : decode cX0_parse 5 = .ok (.aload_n 0, 1) := by decide +kernel
theorem dX0_parse_6 : decode cX0_parse 6 = .ok (.iconst 0, 1) := by decide +kernel
theorem dX0_parse_7 : decode cX0_parse 7 = .ok (.putfield 29, 3) := by decide +kernel
theorem dX0_parse_10 : decode cX0_parse 10 = .ok (.iconst 0, 1) := by decide +kernel
theorem dX0_parse_11 : decode cX0_parse 11 = .ok (.istore_n 1, 1) := by decide +kernel
theorem dX0_parse_12 : decode cX0_parse 12 = .ok (.iload_n 1, 1) := by decide +kernel
theorem dX0_parse_13 : decode cX0_parse 13 = .ok (.bipush 8, 2) := by decide +kernel
theorem dX0_parse_15 : decode cX0_parse 15 = .ok (.if_icmp .ge 48, 3) := by decide +kernel
theorem dX0_parse_18 : decode cX0_parse 18 = .ok (.aload_n 0, 1) := by decide +kernel
theorem dX0_parse_19 : decode cX0_parse 19 = .ok (.invokevirtual 35, 3) := by decide +kernel
theorem dX0_parse_22 : decode cX0_parse 22 = .ok (.ifCond .ne 8, 3) := by decide +kernel
theorem dX0_parse_25 : decode cX0_parse 25 = .ok (.aload_n 0, 1) := by decide +kernel
theorem dX0_parse_26 : decode cX0_parse 26 = .ok (.getfield 19, 3) := by decide +kernel
theorem dX0_parse_29 : decode cX0_parse 29 = .ok (.ireturn, 1) := by decide +kernel
theorem dX0_parse_30 : decode cX0_parse 30 = .ok (.aload_n 0, 1) := by decide +kernel
theorem dX0_parse_31 : decode cX0_parse 31 = .ok (.getfield 19, 3) := by decide +kernel
theorem dX0_parse_34 : decode cX0_parse 34 = .ok (.aload_n 0, 1) := by decide +kernel
theorem dX0_parse_35 : decode cX0_parse 35 = .ok (.getfield 15, 3) := by decide +kernel
theorem dX0_parse_38 : decode cX0_parse 38 = .ok (.if_icmp .ne 5, 3) := by decide +kernel
theorem dX0_parse_41 : decode cX0_parse 41 = .ok (.iconst (-1), 1) := by decide +kernel
theorem dX0_parse_42 : decode cX0_parse 42 = .ok (.ireturn, 1) := by decide +kernel
theorem dX0_parse_43 : decode cX0_parse 43 = .ok (.aload_n 0, 1) := by decide +kernel
theorem dX0_parse_44 : decode cX0_parse 44 = .ok (.bipush 59, 2) := by decide +kernel
theorem dX0_parse_46 : decode cX0_parse 46 = .ok (.invokevirtual 39, 3) := by decide +kernel
theorem dX0_parse_49 : decode cX0_parse 49 = .ok (.ifCond .ne 8, 3) := by decide +kernel
theorem dX0_parse_52 : decode cX0_parse 52 = .ok (.aload_n 0, 1) := by decide +kernel
theorem dX0_parse_53 : decode cX0_parse 53 = .ok (.getfield 19, 3) := by decide +kernel
theorem dX0_parse_56 : decode cX0_parse 56 = .ok (.ireturn, 1) := by decide +kernel
theorem dX0_parse_57 : decode cX0_parse 57 = .ok (.iinc 1 1, 3) := by decide +kernel
theorem dX0_parse_60 : decode cX0_parse 60 = .ok (.goto (-48), 3) := by decide +kernel
theorem dX0_parse_63 : decode cX0_parse 63 = .ok (.aload_n 0, 1) := by decide +kernel
theorem dX0_parse_64 : decode cX0_parse 64 = .ok (.getfield 19, 3) := by decide +kernel
theorem dX0_parse_67 : decode cX0_parse 67 = .ok (.ireturn, 1) := by decide +kernel
theorem dX0_readCommand_0 : decode cX0_readCommand 0 = .ok (.aload_n 0, 1) := by decide +kernel
theorem dX0_readCommand_1 : decode cX0_readCommand 1 = .ok (.invokevirtual 43, 3) := by decide +kernel
theorem dX0_readCommand_4 : decode cX0_readCommand 4 = .ok (.istore_n 1, 1) := by decide +kernel
theorem dX0_readCommand_5 : decode cX0_readCommand 5 = .ok (.iload_n 1, 1) := by decide +kernel
theorem dX0_readCommand_6 : decode cX0_readCommand 6 = .ok (.invokestatic 47, 3) := by decide +kernel
theorem dX0_readCommand_9 : decode cX0_readCommand 9 = .ok (.astore_n 2, 1) := by decide +kernel
theorem dX0_readCommand_10 : decode cX0_readCommand 10 = .ok (.aload_n 2, 1) := by decide +kernel
theorem dX0_readCommand_11 : decode cX0_readCommand 11 = .ok (.invokevirtual 51, 3) := by decide +kernel
theorem dX0_readCommand_14 : decode cX0_readCommand 14 = .ok (.ifCond .eq 5, 3) := by decide +kernel
theorem dX0_readCommand_17 : decode cX0_readCommand 17 = .ok (.iconst 0, 1) := by decide +kernel
theorem dX0_readCommand_18 : decode cX0_readCommand 18 = .ok (.ireturn, 1) := by decide +kernel
theorem dX0_readCommand_19 : decode cX0_readCommand 19 = .ok (.aload_n 0, 1) := by decide +kernel
theorem dX0_readCommand_20 : decode cX0_readCommand 20 = .ok (.iconst 0, 1) := by decide +kernel
theorem dX0_readCommand_21 : decode cX0_readCommand 21 = .ok (.putfield 32, 3) := by decide +kernel
theorem dX0_readCommand_24 : decode cX0_readCommand 24 = .ok (.iconst 0, 1) := by decide +kernel
theorem dX0_readCommand_25 : decode cX0_readCommand 25 = .ok (.istore_n 3, 1) := by decide +kernel
theorem dX0_readCommand_26 : decode cX0_readCommand 26 = .ok (.iload_n 3, 1) := by decide +kernel
theorem dX0_readCommand_27 : decode cX0_readCommand 27 = .ok (.aload_n 2, 1) := by decide +kernel
theorem dX0_readCommand_28 : decode cX0_readCommand 28 = .ok (.invokevirtual 56, 3) := by decide +kernel
theorem dX0_readCommand_31 : decode cX0_readCommand 31 = .ok (.if_icmp .ge 23, 3) := by decide +kernel
theorem dX0_readCommand_34 : decode cX0_readCommand 34 = .ok (.aload_n 0, 1) := by decide +kernel
theorem dX0_readCommand_35 : decode cX0_readCommand 35 = .ok (.aload_n 2, 1) := by decide +kernel
theorem dX0_readCommand_36 : decode cX0_readCommand 36 = .ok (.iload_n 3, 1) := by decide +kernel
theorem dX0_readCommand_37 : decode cX0_readCommand 37 = .ok (.invokevirtual 59, 3) := by decide +kernel
theorem dX0_readCommand_40 : decode cX0_readCommand 40 = .ok (.invokevirtual 63, 3) := by decide +kernel
theorem dX0_readCommand_43 : decode cX0_readCommand 43 = .ok (.ifCond .ne 5, 3) := by decide +kernel
theorem dX0_readCommand_46 : decode cX0_readCommand 46 = .ok (.iconst 0, 1) := by decide +kernel
theorem dX0_readCommand_47 : decode cX0_readCommand 47 = .ok (.ireturn, 1) := by decide +kernel
theorem dX0_readCommand_48 : decode cX0_readCommand 48 = .ok (.iinc 3 1, 3) := by decide +kernel
theorem dX0_readCommand_51 : decode cX0_readCommand 51 = .ok (.goto (-25), 3) := by decide +kernel
theorem dX0_readCommand_54 : decode cX0_readCommand 54 = .ok (.aload_n 0, 1) := by decide +kernel
theorem dX0_readCommand_55 : decode cX0_readCommand 55 = .ok (.iload_n 1, 1) := by decide +kernel
theorem dX0_readCommand_56 : decode cX0_readCommand 56 = .ok (.invokevirtual 66, 3) := by decide +kernel
theorem dX0_readCommand_59 : decode cX0_readCommand 59 = .ok (.iconst 1, 1) := by decide +kernel
theorem dX0_readCommand_60 : decode cX0_readCommand 60 = .ok (.ireturn, 1) := by decide +kernel
theorem dX0_kindAhead_0 : decode cX0_kindAhead 0 = .ok (.aload_n 0, 1) := by decide +kernel
theorem dX0_kindAhead_1 : decode cX0_kindAhead 1 = .ok (.aload_n 0, 1) := by decide +kernel
theorem dX0_kindAhead_2 : decode cX0_kindAhead 2 = .ok (.getfield 19, 3) := by decide +kernel
theorem dX0_kindAhead_5 : decode cX0_kindAhead 5 = .ok (.invokevirtual 70, 3) := by decide +kernel
theorem dX0_kindAhead_8 : decode cX0_kindAhead 8 = .ok (.tableswitch 134 97 116 #[96, 134, 124, 100, 134, 131, 134, 134, 134, 126, 134, 134, 134, 134, 134, 98, 134, 134, 128, 122], 96) := by decide +kernel
theorem dX0_kindAhead_104 : decode cX0_kindAhead 104 = .ok (.iconst 0, 1) := by decide +kernel
theorem dX0_kindAhead_105 : decode cX0_kindAhead 105 = .ok (.ireturn, 1) := by decide +kernel
theorem dX0_kindAhead_106 : decode cX0_kindAhead 106 = .ok (.iconst 1, 1) := by decide +kernel
theorem dX0_kindAhead_107 : decode cX0_kindAhead 107 = .ok (.ireturn, 1) := by decide +kernel
theorem dX0_kindAhead_108 : decode cX0_kindAhead 108 = .ok (.aload_n 0, 1) := by decide +kernel
theorem dX0_kindAhead_109 : decode cX0_kindAhead 109 = .ok (.aload_n 0, 1) := by decide +kernel
theorem dX0_kindAhead_110 : decode cX0_kindAhead 110 = .ok (.getfield 19, 3) := by decide +kernel
theorem dX0_kindAhead_113 : decode cX0_kindAhead 113 = .ok (.iconst 1, 1) := by decide +kernel
theorem dX0_kindAhead_114 : decode cX0_kindAhead 114 = .ok (.iadd, 1) := by decide +kernel
theorem dX0_kindAhead_115 : decode cX0_kindAhead 115 = .ok (.invokevirtual 70, 3) := by decide +kernel
theorem dX0_kindAhead_118 : decode cX0_kindAhead 118 = .ok (.bipush 121, 2) := by decide +kernel
theorem dX0_kindAhead_120 : decode cX0_kindAhead 120 = .ok (.if_icmp .ne 8, 3) := by decide +kernel
theorem dX0_kindAhead_123 : decode cX0_kindAhead 123 = .ok (.bipush 8, 2) := by decide +kernel
theorem dX0_kindAhead_125 : decode cX0_kindAhead 125 = .ok (.goto 4, 3) := by decide +kernel
theorem dX0_kindAhead_128 : decode cX0_kindAhead 128 = .ok (.iconst 2, 1) := by decide +kernel
theorem dX0_kindAhead_129 : decode cX0_kindAhead 129 = .ok (.ireturn, 1) := by decide +kernel
theorem dX0_kindAhead_130 : decode cX0_kindAhead 130 = .ok (.iconst 3, 1) := by decide +kernel
theorem dX0_kindAhead_131 : decode cX0_kindAhead 131 = .ok (.ireturn, 1) := by decide +kernel
theorem dX0_kindAhead_132 : decode cX0_kindAhead 132 = .ok (.iconst 4, 1) := by decide +kernel
theorem dX0_kindAhead_133 : decode cX0_kindAhead 133 = .ok (.ireturn, 1) := by decide +kernel
theorem dX0_kindAhead_134 : decode cX0_kindAhead 134 = .ok (.iconst 5, 1) := by decide +kernel
theorem dX0_kindAhead_135 : decode cX0_kindAhead 135 = .ok (.ireturn, 1) := by decide +kernel
theorem dX0_kindAhead_136 : decode cX0_kindAhead 136 = .ok (.bipush 6, 2) := by decide +kernel
theorem dX0_kindAhead_138 : decode cX0_kindAhead 138 = .ok (.ireturn, 1) := by decide +kernel
theorem dX0_kindAhead_139 : decode cX0_kindAhead 139 = .ok (.bipush 7, 2) := by decide +kernel
theorem dX0_kindAhead_141 : decode cX0_kindAhead 141 = .ok (.ireturn, 1) := by decide +kernel
theorem dX0_kindAhead_142 : decode cX0_kindAhead 142 = .ok (.iconst (-1), 1) := by decide +kernel
theorem dX0_kindAhead_143 : decode cX0_kindAhead 143 = .ok (.ireturn, 1) := by decide +kernel
theorem dX0_formOf_0 : decode cX0_formOf 0 = .ok (.iload_n 0, 1) := by decide +kernel
theorem dX0_formOf_1 : decode cX0_formOf 1 = .ok (.tableswitch 78 0 8 #[51, 54, 57, 60, 63, 66, 69, 72, 75], 51) := by decide +kernel
theorem dX0_formOf_52 : decode cX0_formOf 52 = .ok (.ldc 73, 2) := by decide +kernel
theorem dX0_formOf_54 : decode cX0_formOf 54 = .ok (.areturn, 1) := by decide +kernel
theorem dX0_formOf_55 : decode cX0_formOf 55 = .ok (.ldc 75, 2) := by decide +kernel
theorem dX0_formOf_57 : decode cX0_formOf 57 = .ok (.areturn, 1) := by decide +kernel
theorem dX0_formOf_58 : decode cX0_formOf 58 = .ok (.ldc 77, 2) := by decide +kernel
theorem dX0_formOf_60 : decode cX0_formOf 60 = .ok (.areturn, 1) := by decide +kernel
theorem dX0_formOf_61 : decode cX0_formOf 61 = .ok (.ldc 79, 2) := by decide +kernel
theorem dX0_formOf_63 : decode cX0_formOf 63 = .ok (.areturn, 1) := by decide +kernel
theorem dX0_formOf_64 : decode cX0_formOf 64 = .ok (.ldc 81, 2) := by decide +kernel
theorem dX0_formOf_66 : decode cX0_formOf 66 = .ok (.areturn, 1) := by decide +kernel
theorem dX0_formOf_67 : decode cX0_formOf 67 = .ok (.ldc 83, 2) := by decide +kernel
theorem dX0_formOf_69 : decode cX0_formOf 69 = .ok (.areturn, 1) := by decide +kernel
theorem dX0_formOf_70 : decode cX0_formOf 70 = .ok (.ldc 85, 2) := by decide +kernel
theorem dX0_formOf_72 : decode cX0_formOf 72 = .ok (.areturn, 1) := by decide +kernel
theorem dX0_formOf_73 : decode cX0_formOf 73 = .ok (.ldc 87, 2) := by decide +kernel
theorem dX0_formOf_75 : decode cX0_formOf 75 = .ok (.areturn, 1) := by decide +kernel
theorem dX0_formOf_76 : decode cX0_formOf 76 = .ok (.ldc 89, 2) := by decide +kernel
theorem dX0_formOf_78 : decode cX0_formOf 78 = .ok (.areturn, 1) := by decide +kernel
theorem dX0_formOf_79 : decode cX0_formOf 79 = .ok (.ldc 91, 2) := by decide +kernel
theorem dX0_formOf_81 : decode cX0_formOf 81 = .ok (.areturn, 1) := by decide +kernel
theorem dX0_readPiece_0 : decode cX0_readPiece 0 = .ok (.iload_n 1, 1) := by decide +kernel
theorem dX0_readPiece_1 : decode cX0_readPiece 1 = .ok (.lookupswitch 52 #[(67, 47), (68, 35), (78, 41)], 35) := by decide +kernel
theorem dX0_readPiece_36 : decode cX0_readPiece 36 = .ok (.aload_n 0, 1) := by decide +kernel
theorem dX0_readPiece_37 : decode cX0_readPiece 37 = .ok (.iconst 1, 1) := by decide +kernel
theorem dX0_readPiece_38 : decode cX0_readPiece 38 = .ok (.invokevirtual 93, 3) := by decide +kernel
theorem dX0_readPiece_41 : decode cX0_readPiece 41 = .ok (.ireturn, 1) := by decide +kernel
theorem dX0_readPiece_42 : decode cX0_readPiece 42 = .ok (.aload_n 0, 1) := by decide +kernel
theorem dX0_readPiece_43 : decode cX0_readPiece 43 = .ok (.iconst 2, 1) := by decide +kernel
theorem dX0_readPiece_44 : decode cX0_readPiece 44 = .ok (.invokevirtual 93, 3) := by decide +kernel
theorem dX0_readPiece_47 : decode cX0_readPiece 47 = .ok (.ireturn, 1) := by decide +kernel
theorem dX0_readPiece_48 : decode cX0_readPiece 48 = .ok (.aload_n 0, 1) := by decide +kernel
theorem dX0_readPiece_49 : decode cX0_readPiece 49 = .ok (.invokevirtual 97, 3) := by decide +kernel
theorem dX0_readPiece_52 : decode cX0_readPiece 52 = .ok (.ireturn, 1) := by decide +kernel
theorem dX0_readPiece_53 : decode cX0_readPiece 53 = .ok (.aload_n 0, 1) := by decide +kernel
theorem dX0_readPiece_54 : decode cX0_readPiece 54 = .ok (.iload_n 1, 1) := by decide +kernel
theorem dX0_readPiece_55 : decode cX0_readPiece 55 = .ok (.invokevirtual 39, 3) := by decide +kernel
theorem dX0_readPiece_58 : decode cX0_readPiece 58 = .ok (.ireturn, 1) := by decide +kernel
theorem dX0_readDigits_0 : decode cX0_readDigits 0 = .ok (.iconst 0, 1) := by decide +kernel
theorem dX0_readDigits_1 : decode cX0_readDigits 1 = .ok (.istore_n 2, 1) := by decide +kernel
theorem dX0_readDigits_2 : decode cX0_readDigits 2 = .ok (.iconst 0, 1) := by decide +kernel
theorem dX0_readDigits_3 : decode cX0_readDigits 3 = .ok (.istore_n 3, 1) := by decide +kernel
theorem dX0_readDigits_4 : decode cX0_readDigits 4 = .ok (.iload_n 3, 1) := by decide +kernel
theorem dX0_readDigits_5 : decode cX0_readDigits 5 = .ok (.iload_n 1, 1) := by decide +kernel
theorem dX0_readDigits_6 : decode cX0_readDigits 6 = .ok (.if_icmp .ge 50, 3) := by decide +kernel
theorem dX0_readDigits_9 : decode cX0_readDigits 9 = .ok (.aload_n 0, 1) := by decide +kernel
theorem dX0_readDigits_10 : decode cX0_readDigits 10 = .ok (.aload_n 0, 1) := by decide +kernel
theorem dX0_readDigits_11 : decode cX0_readDigits 11 = .ok (.getfield 19, 3) := by decide +kernel
theorem dX0_readDigits_14 : decode cX0_readDigits 14 = .ok (.invokevirtual 70, 3) := by decide +kernel
theorem dX0_readDigits_17 : decode cX0_readDigits 17 = .ok (.invokestatic 100, 3) := by decide +kernel
theorem dX0_readDigits_20 : decode cX0_readDigits 20 = .ok (.ifCond .eq 36, 3) := by decide +kernel
theorem dX0_readDigits_23 : decode cX0_readDigits 23 = .ok (.iload_n 2, 1) := by decide +kernel
theorem dX0_readDigits_24 : decode cX0_readDigits 24 = .ok (.bipush 10, 2) := by decide +kernel
theorem dX0_readDigits_26 : decode cX0_readDigits 26 = .ok (.imul, 1) := by decide +kernel
theorem dX0_readDigits_27 : decode cX0_readDigits 27 = .ok (.aload_n 0, 1) := by decide +kernel
theorem dX0_readDigits_28 : decode cX0_readDigits 28 = .ok (.aload_n 0, 1) := by decide +kernel
theorem dX0_readDigits_29 : decode cX0_readDigits 29 = .ok (.getfield 19, 3) := by decide +kernel
theorem dX0_readDigits_32 : decode cX0_readDigits 32 = .ok (.invokevirtual 70, 3) := by decide +kernel
theorem dX0_readDigits_35 : decode cX0_readDigits 35 = .ok (.bipush 48, 2) := by decide +kernel
theorem dX0_readDigits_37 : decode cX0_readDigits 37 = .ok (.isub, 1) := by decide +kernel
theorem dX0_readDigits_38 : decode cX0_readDigits 38 = .ok (.iadd, 1) := by decide +kernel
theorem dX0_readDigits_39 : decode cX0_readDigits 39 = .ok (.istore_n 2, 1) := by decide +kernel
theorem dX0_readDigits_40 : decode cX0_readDigits 40 = .ok (.iinc 3 1, 3) := by decide +kernel
theorem dX0_readDigits_43 : decode cX0_readDigits 43 = .ok (.aload_n 0, 1) := by decide +kernel
theorem dX0_readDigits_44 : decode cX0_readDigits 44 = .ok (.dup, 1) := by decide +kernel
theorem dX0_readDigits_45 : decode cX0_readDigits 45 = .ok (.getfield 19, 3) := by decide +kernel
theorem dX0_readDigits_48 : decode cX0_readDigits 48 = .ok (.iconst 1, 1) := by decide +kernel
theorem dX0_readDigits_49 : decode cX0_readDigits 49 = .ok (.iadd, 1) := by decide +kernel
theorem dX0_readDigits_50 : decode cX0_readDigits 50 = .ok (.putfield 19, 3) := by decide +kernel
theorem dX0_readDigits_53 : decode cX0_readDigits 53 = .ok (.goto (-49), 3) := by decide +kernel
theorem dX0_readDigits_56 : decode cX0_readDigits 56 = .ok (.iload_n 3, 1) := by decide +kernel
theorem dX0_readDigits_57 : decode cX0_readDigits 57 = .ok (.ifCond .ne 5, 3) := by decide +kernel
theorem dX0_readDigits_60 : decode cX0_readDigits 60 = .ok (.iconst 0, 1) := by decide +kernel
theorem dX0_readDigits_61 : decode cX0_readDigits 61 = .ok (.ireturn, 1) := by decide +kernel
theorem dX0_readDigits_62 : decode cX0_readDigits 62 = .ok (.aload_n 0, 1) := by decide +kernel
theorem dX0_readDigits_63 : decode cX0_readDigits 63 = .ok (.iload_n 2, 1) := by decide +kernel
theorem dX0_readDigits_64 : decode cX0_readDigits 64 = .ok (.invokevirtual 103, 3) := by decide +kernel
theorem dX0_readDigits_67 : decode cX0_readDigits 67 = .ok (.iconst 1, 1) := by decide +kernel
theorem dX0_readDigits_68 : decode cX0_readDigits 68 = .ok (.ireturn, 1) := by decide +kernel
theorem dX0_readColour_0 : decode cX0_readColour 0 = .ok (.aload_n 0, 1) := by decide +kernel
theorem dX0_readColour_1 : decode cX0_readColour 1 = .ok (.aload_n 0, 1) := by decide +kernel
theorem dX0_readColour_2 : decode cX0_readColour 2 = .ok (.getfield 19, 3) := by decide +kernel
theorem dX0_readColour_5 : decode cX0_readColour 5 = .ok (.invokevirtual 70, 3) := by decide +kernel
theorem dX0_readColour_8 : decode cX0_readColour 8 = .ok (.bipush 97, 2) := by decide +kernel
theorem dX0_readColour_10 : decode cX0_readColour 10 = .ok (.isub, 1) := by decide +kernel
theorem dX0_readColour_11 : decode cX0_readColour 11 = .ok (.istore_n 1, 1) := by decide +kernel
theorem dX0_readColour_12 : decode cX0_readColour 12 = .ok (.iload_n 1, 1) := by decide +kernel
theorem dX0_readColour_13 : decode cX0_readColour 13 = .ok (.invokestatic 106, 3) := by decide +kernel
theorem dX0_readColour_16 : decode cX0_readColour 16 = .ok (.ifCond .ne 5, 3) := by decide +kernel
theorem dX0_readColour_19 : decode cX0_readColour 19 = .ok (.iconst 0, 1) := by decide +kernel
theorem dX0_readColour_20 : decode cX0_readColour 20 = .ok (.ireturn, 1) := by decide +kernel
theorem dX0_readColour_21 : decode cX0_readColour 21 = .ok (.aload_n 0, 1) := by decide +kernel
theorem dX0_readColour_22 : decode cX0_readColour 22 = .ok (.iload_n 1, 1) := by decide +kernel
theorem dX0_readColour_23 : decode cX0_readColour 23 = .ok (.invokevirtual 103, 3) := by decide +kernel
theorem dX0_readColour_26 : decode cX0_readColour 26 = .ok (.aload_n 0, 1) := by decide +kernel
theorem dX0_readColour_27 : decode cX0_readColour 27 = .ok (.dup, 1) := by decide +kernel
theorem dX0_readColour_28 : decode cX0_readColour 28 = .ok (.getfield 19, 3) := by decide +kernel
theorem dX0_readColour_31 : decode cX0_readColour 31 = .ok (.iconst 1, 1) := by decide +kernel
theorem dX0_readColour_32 : decode cX0_readColour 32 = .ok (.iadd, 1) := by decide +kernel
theorem dX0_readColour_33 : decode cX0_readColour 33 = .ok (.putfield 19, 3) := by decide +kernel
theorem dX0_readColour_36 : decode cX0_readColour 36 = .ok (.iconst 1, 1) := by decide +kernel
theorem dX0_readColour_37 : decode cX0_readColour 37 = .ok (.ireturn, 1) := by decide +kernel
theorem dX0_readSign_0 : decode cX0_readSign 0 = .ok (.aload_n 0, 1) := by decide +kernel
theorem dX0_readSign_1 : decode cX0_readSign 1 = .ok (.aload_n 0, 1) := by decide +kernel
theorem dX0_readSign_2 : decode cX0_readSign 2 = .ok (.getfield 19, 3) := by decide +kernel
theorem dX0_readSign_5 : decode cX0_readSign 5 = .ok (.invokevirtual 70, 3) := by decide +kernel
theorem dX0_readSign_8 : decode cX0_readSign 8 = .ok (.iload_n 1, 1) := by decide +kernel
theorem dX0_readSign_9 : decode cX0_readSign 9 = .ok (.if_icmp .eq 5, 3) := by decide +kernel
theorem dX0_readSign_12 : decode cX0_readSign 12 = .ok (.iconst 0, 1) := by decide +kernel
theorem dX0_readSign_13 : decode cX0_readSign 13 = .ok (.ireturn, 1) := by decide +kernel
theorem dX0_readSign_14 : decode cX0_readSign 14 = .ok (.aload_n 0, 1) := by decide +kernel
theorem dX0_readSign_15 : decode cX0_readSign 15 = .ok (.dup, 1) := by decide +kernel
theorem dX0_readSign_16 : decode cX0_readSign 16 = .ok (.getfield 19, 3) := by decide +kernel
theorem dX0_readSign_19 : decode cX0_readSign 19 = .ok (.iconst 1, 1) := by decide +kernel
theorem dX0_readSign_20 : decode cX0_readSign 20 = .ok (.iadd, 1) := by decide +kernel
theorem dX0_readSign_21 : decode cX0_readSign 21 = .ok (.putfield 19, 3) := by decide +kernel
theorem dX0_readSign_24 : decode cX0_readSign 24 = .ok (.iconst 1, 1) := by decide +kernel
theorem dX0_readSign_25 : decode cX0_readSign 25 = .ok (.ireturn, 1) := by decide +kernel
theorem dX0_isDigit_0 : decode cX0_isDigit 0 = .ok (.iload_n 0, 1) := by decide +kernel
theorem dX0_isDigit_1 : decode cX0_isDigit 1 = .ok (.bipush 48, 2) := by decide +kernel
theorem dX0_isDigit_3 : decode cX0_isDigit 3 = .ok (.if_icmp .lt 13, 3) := by decide +kernel
theorem dX0_isDigit_6 : decode cX0_isDigit 6 = .ok (.iload_n 0, 1) := by decide +kernel
theorem dX0_isDigit_7 : decode cX0_isDigit 7 = .ok (.bipush 57, 2) := by decide +kernel
theorem dX0_isDigit_9 : decode cX0_isDigit 9 = .ok (.if_icmp .gt 7, 3) := by decide +kernel
theorem dX0_isDigit_12 : decode cX0_isDigit 12 = .ok (.iconst 1, 1) := by decide +kernel
theorem dX0_isDigit_13 : decode cX0_isDigit 13 = .ok (.goto 4, 3) := by decide +kernel
theorem dX0_isDigit_16 : decode cX0_isDigit 16 = .ok (.iconst 0, 1) := by decide +kernel
theorem dX0_isDigit_17 : decode cX0_isDigit 17 = .ok (.ireturn, 1) := by decide +kernel
theorem dX0_signAt_0 : decode cX0_signAt 0 = .ok (.iload_n 1, 1) := by decide +kernel
theorem dX0_signAt_1 : decode cX0_signAt 1 = .ok (.ifCond .lt 29, 3) := by decide +kernel
theorem dX0_signAt_4 : decode cX0_signAt 4 = .ok (.iload_n 1, 1) := by decide +kernel
theorem dX0_signAt_5 : decode cX0_signAt 5 = .ok (.aload_n 0, 1) := by decide +kernel
theorem dX0_signAt_6 : decode cX0_signAt 6 = .ok (.getfield 15, 3) := by decide +kernel
theorem dX0_signAt_9 : decode cX0_signAt 9 = .ok (.if_icmp .ge 21, 3) := by decide +kernel
theorem dX0_signAt_12 : decode cX0_signAt 12 = .ok (.iload_n 1, 1) := by decide +kernel
theorem dX0_signAt_13 : decode cX0_signAt 13 = .ok (.aload_n 0, 1) := by decide +kernel
theorem dX0_signAt_14 : decode cX0_signAt 14 = .ok (.getfield 9, 3) := by decide +kernel
theorem dX0_signAt_17 : decode cX0_signAt 17 = .ok (.arraylength, 1) := by decide +kernel
theorem dX0_signAt_18 : decode cX0_signAt 18 = .ok (.if_icmp .ge 12, 3) := by decide +kernel
theorem dX0_signAt_21 : decode cX0_signAt 21 = .ok (.aload_n 0, 1) := by decide +kernel
theorem dX0_signAt_22 : decode cX0_signAt 22 = .ok (.getfield 9, 3) := by decide +kernel
theorem dX0_signAt_25 : decode cX0_signAt 25 = .ok (.iload_n 1, 1) := by decide +kernel
theorem dX0_signAt_26 : decode cX0_signAt 26 = .ok (.caload, 1) := by decide +kernel
theorem dX0_signAt_27 : decode cX0_signAt 27 = .ok (.goto 4, 3) := by decide +kernel
theorem dX0_signAt_30 : decode cX0_signAt 30 = .ok (.iconst 0, 1) := by decide +kernel
theorem dX0_signAt_31 : decode cX0_signAt 31 = .ok (.ireturn, 1) := by decide +kernel
theorem dX0_addParameter_0 : decode cX0_addParameter 0 = .ok (.aload_n 0, 1) := by decide +kernel
theorem dX0_addParameter_1 : decode cX0_addParameter 1 = .ok (.getfield 29, 3) := by decide +kernel
theorem dX0_addParameter_4 : decode cX0_addParameter 4 = .ok (.iconst 4, 1) := by decide +kernel
theorem dX0_addParameter_5 : decode cX0_addParameter 5 = .ok (.imul, 1) := by decide +kernel
theorem dX0_addParameter_6 : decode cX0_addParameter 6 = .ok (.aload_n 0, 1) := by decide +kernel
theorem dX0_addParameter_7 : decode cX0_addParameter 7 = .ok (.getfield 32, 3) := by decide +kernel
theorem dX0_addParameter_10 : decode cX0_addParameter 10 = .ok (.iadd, 1) := by decide +kernel
theorem dX0_addParameter_11 : decode cX0_addParameter 11 = .ok (.istore_n 2, 1) := by decide +kernel
theorem dX0_addParameter_12 : decode cX0_addParameter 12 = .ok (.iload_n 2, 1) := by decide +kernel
theorem dX0_addParameter_13 : decode cX0_addParameter 13 = .ok (.ifCond .lt 19, 3) := by decide +kernel
theorem dX0_addParameter_16 : decode cX0_addParameter 16 = .ok (.iload_n 2, 1) := by decide +kernel
theorem dX0_addParameter_17 : decode cX0_addParameter 17 = .ok (.aload_n 0, 1) := by decide +kernel
theorem dX0_addParameter_18 : decode cX0_addParameter 18 = .ok (.getfield 26, 3) := by decide +kernel
theorem dX0_addParameter_21 : decode cX0_addParameter 21 = .ok (.arraylength, 1) := by decide +kernel
theorem dX0_addParameter_22 : decode cX0_addParameter 22 = .ok (.if_icmp .ge 10, 3) := by decide +kernel
theorem dX0_addParameter_25 : decode cX0_addParameter 25 = .ok (.aload_n 0, 1) := by decide +kernel
theorem dX0_addParameter_26 : decode cX0_addParameter 26 = .ok (.getfield 26, 3) := by decide +kernel
theorem dX0_addParameter_29 : decode cX0_addParameter 29 = .ok (.iload_n 2, 1) := by decide +kernel
theorem dX0_addParameter_30 : decode cX0_addParameter 30 = .ok (.iload_n 1, 1) := by decide +kernel
theorem dX0_addParameter_31 : decode cX0_addParameter 31 = .ok (.iastore, 1) := by decide +kernel
theorem dX0_addParameter_32 : decode cX0_addParameter 32 = .ok (.aload_n 0, 1) := by decide +kernel
theorem dX0_addParameter_33 : decode cX0_addParameter 33 = .ok (.dup, 1) := by decide +kernel
theorem dX0_addParameter_34 : decode cX0_addParameter 34 = .ok (.getfield 32, 3) := by decide +kernel
theorem dX0_addParameter_37 : decode cX0_addParameter 37 = .ok (.iconst 1, 1) := by decide +kernel
theorem dX0_addParameter_38 : decode cX0_addParameter 38 = .ok (.iadd, 1) := by decide +kernel
theorem dX0_addParameter_39 : decode cX0_addParameter 39 = .ok (.putfield 32, 3) := by decide +kernel
theorem dX0_addParameter_42 : decode cX0_addParameter 42 = .ok (.return_, 1) := by decide +kernel
theorem dX0_addCommand_0 : decode cX0_addCommand 0 = .ok (.aload_n 0, 1) := by decide +kernel
theorem dX0_addCommand_1 : decode cX0_addCommand 1 = .ok (.getfield 29, 3) := by decide +kernel
theorem dX0_addCommand_4 : decode cX0_addCommand 4 = .ok (.ifCond .lt 35, 3) := by decide +kernel
theorem dX0_addCommand_7 : decode cX0_addCommand 7 = .ok (.aload_n 0, 1) := by decide +kernel
theorem dX0_addCommand_8 : decode cX0_addCommand 8 = .ok (.getfield 29, 3) := by decide +kernel
theorem dX0_addCommand_11 : decode cX0_addCommand 11 = .ok (.aload_n 0, 1) := by decide +kernel
theorem dX0_addCommand_12 : decode cX0_addCommand 12 = .ok (.getfield 22, 3) := by decide +kernel
theorem dX0_addCommand_15 : decode cX0_addCommand 15 = .ok (.arraylength, 1) := by decide +kernel
theorem dX0_addCommand_16 : decode cX0_addCommand 16 = .ok (.if_icmp .ge 23, 3) := by decide +kernel
theorem dX0_addCommand_19 : decode cX0_addCommand 19 = .ok (.aload_n 0, 1) := by decide +kernel
theorem dX0_addCommand_20 : decode cX0_addCommand 20 = .ok (.getfield 22, 3) := by decide +kernel
theorem dX0_addCommand_23 : decode cX0_addCommand 23 = .ok (.aload_n 0, 1) := by decide +kernel
theorem dX0_addCommand_24 : decode cX0_addCommand 24 = .ok (.getfield 29, 3) := by decide +kernel
theorem dX0_addCommand_27 : decode cX0_addCommand 27 = .ok (.iload_n 1, 1) := by decide +kernel
theorem dX0_addCommand_28 : decode cX0_addCommand 28 = .ok (.iastore, 1) := by decide +kernel
theorem dX0_addCommand_29 : decode cX0_addCommand 29 = .ok (.aload_n 0, 1) := by decide +kernel
theorem dX0_addCommand_30 : decode cX0_addCommand 30 = .ok (.dup, 1) := by decide +kernel
theorem dX0_addCommand_31 : decode cX0_addCommand 31 = .ok (.getfield 29, 3) := by decide +kernel
theorem dX0_addCommand_34 : decode cX0_addCommand 34 = .ok (.iconst 1, 1) := by decide +kernel
theorem dX0_addCommand_35 : decode cX0_addCommand 35 = .ok (.iadd, 1) := by decide +kernel
theorem dX0_addCommand_36 : decode cX0_addCommand 36 = .ok (.putfield 29, 3) := by decide +kernel
theorem dX0_addCommand_39 : decode cX0_addCommand 39 = .ok (.return_, 1) := by decide +kernel
theorem dX1_init_0 : decode cX1_init 0 = .ok (.aload_n 0, 1) := by decide +kernel
theorem dX1_init_1 : decode cX1_init 1 = .ok (.invokespecial 3, 3) := by decide +kernel
theorem dX1_init_4 : decode cX1_init 4 = .ok (.aload_n 0, 1) := by decide +kernel
theorem dX1_init_5 : decode cX1_init 5 = .ok (.sipush 2480, 3) := by decide +kernel
theorem dX1_init_8 : decode cX1_init 8 = .ok (.newarray .int, 2) := by decide +kernel
theorem dX1_init_10 : decode cX1_init 10 = .ok (.putfield 9, 3) := by decide +kernel
theorem dX1_init_13 : decode cX1_init 13 = .ok (.aload_n 0, 1) := by decide +kernel
theorem dX1_init_14 : decode cX1_init 14 = .ok (.iconst 0, 1) := by decide +kernel
theorem dX1_init_15 : decode cX1_init 15 = .ok (.putfield 15, 3) := by decide +kernel
theorem dX1_init_18 : decode cX1_init 18 = .ok (.aload_n 0, 1) := by decide +kernel
theorem dX1_init_19 : decode cX1_init 19 = .ok (.iconst 0, 1) := by decide +kernel
theorem dX1_init_20 : decode cX1_init 20 = .ok (.putfield 19, 3) := by decide +kernel
theorem dX1_init_23 : decode cX1_init 23 = .ok (.return_, 1) := by decide +kernel
theorem dX1_size_0 : decode cX1_size 0 = .ok (.aload_n 0, 1) := by decide +kernel
theorem dX1_size_1 : decode cX1_size 1 = .ok (.getfield 19, 3) := by decide +kernel
theorem dX1_size_4 : decode cX1_size 4 = .ok (.ireturn, 1) := by decide +kernel
theorem dX1_keep_0 : decode cX1_keep 0 = .ok (.aload_n 1, 1) := by decide +kernel
theorem dX1_keep_1 : decode cX1_keep 1 = .ok (.iconst 0, 1) := by decide +kernel
theorem dX1_keep_2 : decode cX1_keep 2 = .ok (.aload_n 0, 1) := by decide +kernel
theorem dX1_keep_3 : decode cX1_keep 3 = .ok (.getfield 9, 3) := by decide +kernel
theorem dX1_keep_6 : decode cX1_keep 6 = .ok (.aload_n 0, 1) := by decide +kernel
theorem dX1_keep_7 : decode cX1_keep 7 = .ok (.getfield 15, 3) := by decide +kernel
theorem dX1_keep_10 : decode cX1_keep 10 = .ok (.sipush 310, 3) := by decide +kernel
theorem dX1_keep_13 : decode cX1_keep 13 = .ok (.imul, 1) := by decide +kernel
theorem dX1_keep_14 : decode cX1_keep 14 = .ok (.invokestatic 22, 3) := by decide +kernel
theorem dX1_keep_17 : decode cX1_keep 17 = .ok (.aload_n 0, 1) := by decide +kernel
theorem dX1_keep_18 : decode cX1_keep 18 = .ok (.aload_n 0, 1) := by decide +kernel
theorem dX1_keep_19 : decode cX1_keep 19 = .ok (.getfield 15, 3) := by decide +kernel
theorem dX1_keep_22 : decode cX1_keep 22 = .ok (.iconst 1, 1) := by decide +kernel
theorem dX1_keep_23 : decode cX1_keep 23 = .ok (.iadd, 1) := by decide +kernel
theorem dX1_keep_24 : decode cX1_keep 24 = .ok (.bipush 8, 2) := by decide +kernel
theorem dX1_keep_26 : decode cX1_keep 26 = .ok (.if_icmp .ge 12, 3) := by decide +kernel
theorem dX1_keep_29 : decode cX1_keep 29 = .ok (.aload_n 0, 1) := by decide +kernel
theorem dX1_keep_30 : decode cX1_keep 30 = .ok (.getfield 15, 3) := by decide +kernel
theorem dX1_keep_33 : decode cX1_keep 33 = .ok (.iconst 1, 1) := by decide +kernel
theorem dX1_keep_34 : decode cX1_keep 34 = .ok (.iadd, 1) := by decide +kernel
theorem dX1_keep_35 : decode cX1_keep 35 = .ok (.goto 4, 3) := by decide +kernel
theorem dX1_keep_38 : decode cX1_keep 38 = .ok (.iconst 0, 1) := by decide +kernel
theorem dX1_keep_39 : decode cX1_keep 39 = .ok (.putfield 15, 3) := by decide +kernel
theorem dX1_keep_42 : decode cX1_keep 42 = .ok (.aload_n 0, 1) := by decide +kernel
theorem dX1_keep_43 : decode cX1_keep 43 = .ok (.aload_n 0, 1) := by decide +kernel
theorem dX1_keep_44 : decode cX1_keep 44 = .ok (.getfield 19, 3) := by decide +kernel
theorem dX1_keep_47 : decode cX1_keep 47 = .ok (.iconst 1, 1) := by decide +kernel
theorem dX1_keep_48 : decode cX1_keep 48 = .ok (.iadd, 1) := by decide +kernel
theorem dX1_keep_49 : decode cX1_keep 49 = .ok (.bipush 8, 2) := by decide +kernel
theorem dX1_keep_51 : decode cX1_keep 51 = .ok (.invokestatic 26, 3) := by decide +kernel
theorem dX1_keep_54 : decode cX1_keep 54 = .ok (.putfield 19, 3) := by decide +kernel
theorem dX1_keep_57 : decode cX1_keep 57 = .ok (.return_, 1) := by decide +kernel
theorem dX1_takeBack_0 : decode cX1_takeBack 0 = .ok (.aload_n 0, 1) := by decide +kernel
theorem dX1_takeBack_1 : decode cX1_takeBack 1 = .ok (.aload_n 0, 1) := by decide +kernel
theorem dX1_takeBack_2 : decode cX1_takeBack 2 = .ok (.getfield 15, 3) := by decide +kernel
theorem dX1_takeBack_5 : decode cX1_takeBack 5 = .ok (.ifCond .le 12, 3) := by decide +kernel
theorem dX1_takeBack_8 : decode cX1_takeBack 8 = .ok (.aload_n 0, 1) := by decide +kernel
theorem dX1_takeBack_9 : decode cX1_takeBack 9 = .ok (.getfield 15, 3) := by decide +kernel
theorem dX1_takeBack_12 : decode cX1_takeBack 12 = .ok (.iconst 1, 1) := by decide +kernel
theorem dX1_takeBack_13 : decode cX1_takeBack 13 = .ok (.isub, 1) := by decide +kernel
theorem dX1_takeBack_14 : decode cX1_takeBack 14 = .ok (.goto 5, 3) := by decide +kernel
theorem dX1_takeBack_17 : decode cX1_takeBack 17 = .ok (.bipush 7, 2) := by decide +kernel
theorem dX1_takeBack_19 : decode cX1_takeBack 19 = .ok (.putfield 15, 3) := by decide +kernel
theorem dX1_takeBack_22 : decode cX1_takeBack 22 = .ok (.aload_n 0, 1) := by decide +kernel
theorem dX1_takeBack_23 : decode cX1_takeBack 23 = .ok (.dup, 1) := by decide +kernel
theorem dX1_takeBack_24 : decode cX1_takeBack 24 = .ok (.getfield 19, 3) := by decide +kernel
theorem dX1_takeBack_27 : decode cX1_takeBack 27 = .ok (.iconst 1, 1) := by decide +kernel
theorem dX1_takeBack_28 : decode cX1_takeBack 28 = .ok (.isub, 1) := by decide +kernel
theorem dX1_takeBack_29 : decode cX1_takeBack 29 = .ok (.putfield 19, 3) := by decide +kernel
theorem dX1_takeBack_32 : decode cX1_takeBack 32 = .ok (.aload_n 1, 1) := by decide +kernel
theorem dX1_takeBack_33 : decode cX1_takeBack 33 = .ok (.aload_n 0, 1) := by decide +kernel
theorem dX1_takeBack_34 : decode cX1_takeBack 34 = .ok (.getfield 9, 3) := by decide +kernel
theorem dX1_takeBack_37 : decode cX1_takeBack 37 = .ok (.aload_n 0, 1) := by decide +kernel
theorem dX1_takeBack_38 : decode cX1_takeBack 38 = .ok (.getfield 15, 3) := by decide +kernel
theorem dX1_takeBack_41 : decode cX1_takeBack 41 = .ok (.sipush 310, 3) := by decide +kernel
theorem dX1_takeBack_44 : decode cX1_takeBack 44 = .ok (.imul, 1) := by decide +kernel
theorem dX1_takeBack_45 : decode cX1_takeBack 45 = .ok (.invokevirtual 32, 3) := by decide +kernel
theorem dX1_takeBack_48 : decode cX1_takeBack 48 = .ok (.return_, 1) := by decide +kernel
theorem dX1_forget_0 : decode cX1_forget 0 = .ok (.aload_n 0, 1) := by decide +kernel
theorem dX1_forget_1 : decode cX1_forget 1 = .ok (.iconst 0, 1) := by decide +kernel
theorem dX1_forget_2 : decode cX1_forget 2 = .ok (.putfield 19, 3) := by decide +kernel
theorem dX1_forget_5 : decode cX1_forget 5 = .ok (.return_, 1) := by decide +kernel
theorem dX2_init_0 : decode cX2_init 0 = .ok (.aload_n 0, 1) := by decide +kernel
theorem dX2_init_1 : decode cX2_init 1 = .ok (.invokespecial 3, 3) := by decide +kernel
theorem dX2_init_4 : decode cX2_init 4 = .ok (.aload_n 0, 1) := by decide +kernel
theorem dX2_init_5 : decode cX2_init 5 = .ok (.sipush 240, 3) := by decide +kernel
theorem dX2_init_8 : decode cX2_init 8 = .ok (.newarray .char, 2) := by decide +kernel
theorem dX2_init_10 : decode cX2_init 10 = .ok (.putfield 9, 3) := by decide +kernel
theorem dX2_init_13 : decode cX2_init 13 = .ok (.aload_n 0, 1) := by decide +kernel
theorem dX2_init_14 : decode cX2_init 14 = .ok (.iconst 0, 1) := by decide +kernel
theorem dX2_init_15 : decode cX2_init 15 = .ok (.putfield 15, 3) := by decide +kernel
theorem dX2_init_18 : decode cX2_init 18 = .ok (.return_, 1) := by decide +kernel
theorem dX2_size_0 : decode cX2_size 0 = .ok (.aload_n 0, 1) := by decide +kernel
theorem dX2_size_1 : decode cX2_size 1 = .ok (.getfield 15, 3) := by decide +kernel
theorem dX2_size_4 : decode cX2_size 4 = .ok (.ireturn, 1) := by decide +kernel
theorem dX2_clear_0 : decode cX2_clear 0 = .ok (.aload_n 0, 1) := by decide +kernel
theorem dX2_clear_1 : decode cX2_clear 1 = .ok (.iconst 0, 1) := by decide +kernel
theorem dX2_clear_2 : decode cX2_clear 2 = .ok (.putfield 15, 3) := by decide +kernel
theorem dX2_clear_5 : decode cX2_clear 5 = .ok (.return_, 1) := by decide +kernel
theorem dX2_add_0 : decode cX2_add 0 = .ok (.aload_n 0, 1) := by decide +kernel
theorem dX2_add_1 : decode cX2_add 1 = .ok (.getfield 15, 3) := by decide +kernel
theorem dX2_add_4 : decode cX2_add 4 = .ok (.ifCond .lt 35, 3) := by decide +kernel
theorem dX2_add_7 : decode cX2_add 7 = .ok (.aload_n 0, 1) := by decide +kernel
theorem dX2_add_8 : decode cX2_add 8 = .ok (.getfield 15, 3) := by decide +kernel
theorem dX2_add_11 : decode cX2_add 11 = .ok (.aload_n 0, 1) := by decide +kernel
theorem dX2_add_12 : decode cX2_add 12 = .ok (.getfield 9, 3) := by decide +kernel
theorem dX2_add_15 : decode cX2_add 15 = .ok (.arraylength, 1) := by decide +kernel
theorem dX2_add_16 : decode cX2_add 16 = .ok (.if_icmp .ge 23, 3) := by decide +kernel
theorem dX2_add_19 : decode cX2_add 19 = .ok (.aload_n 0, 1) := by decide +kernel
theorem dX2_add_20 : decode cX2_add 20 = .ok (.getfield 9, 3) := by decide +kernel
theorem dX2_add_23 : decode cX2_add 23 = .ok (.aload_n 0, 1) := by decide +kernel
theorem dX2_add_24 : decode cX2_add 24 = .ok (.getfield 15, 3) := by decide +kernel
theorem dX2_add_27 : decode cX2_add 27 = .ok (.iload_n 1, 1) := by decide +kernel
theorem dX2_add_28 : decode cX2_add 28 = .ok (.castore, 1) := by decide +kernel
theorem dX2_add_29 : decode cX2_add 29 = .ok (.aload_n 0, 1) := by decide +kernel
theorem dX2_add_30 : decode cX2_add 30 = .ok (.dup, 1) := by decide +kernel
theorem dX2_add_31 : decode cX2_add 31 = .ok (.getfield 15, 3) := by decide +kernel
theorem dX2_add_34 : decode cX2_add 34 = .ok (.iconst 1, 1) := by decide +kernel
theorem dX2_add_35 : decode cX2_add 35 = .ok (.iadd, 1) := by decide +kernel
theorem dX2_add_36 : decode cX2_add 36 = .ok (.putfield 15, 3) := by decide +kernel
theorem dX2_add_39 : decode cX2_add 39 = .ok (.return_, 1) := by decide +kernel
theorem dX2_addNumber_0 : decode cX2_addNumber 0 = .ok (.iload_n 1, 1) := by decide +kernel
theorem dX2_addNumber_1 : decode cX2_addNumber 1 = .ok (.bipush 10, 2) := by decide +kernel
theorem dX2_addNumber_3 : decode cX2_addNumber 3 = .ok (.if_icmp .lt 15, 3) := by decide +kernel
theorem dX2_addNumber_6 : decode cX2_addNumber 6 = .ok (.aload_n 0, 1) := by decide +kernel
theorem dX2_addNumber_7 : decode cX2_addNumber 7 = .ok (.bipush 48, 2) := by decide +kernel
theorem dX2_addNumber_9 : decode cX2_addNumber 9 = .ok (.iload_n 1, 1) := by decide +kernel
theorem dX2_addNumber_10 : decode cX2_addNumber 10 = .ok (.bipush 10, 2) := by decide +kernel
theorem dX2_addNumber_12 : decode cX2_addNumber 12 = .ok (.idiv, 1) := by decide +kernel
theorem dX2_addNumber_13 : decode cX2_addNumber 13 = .ok (.iadd, 1) := by decide +kernel
theorem dX2_addNumber_14 : decode cX2_addNumber 14 = .ok (.i2c, 1) := by decide +kernel
theorem dX2_addNumber_15 : decode cX2_addNumber 15 = .ok (.invokevirtual 19, 3) := by decide +kernel
theorem dX2_addNumber_18 : decode cX2_addNumber 18 = .ok (.aload_n 0, 1) := by decide +kernel
theorem dX2_addNumber_19 : decode cX2_addNumber 19 = .ok (.bipush 48, 2) := by decide +kernel
theorem dX2_addNumber_21 : decode cX2_addNumber 21 = .ok (.iload_n 1, 1) := by decide +kernel
theorem dX2_addNumber_22 : decode cX2_addNumber 22 = .ok (.bipush 10, 2) := by decide +kernel
theorem dX2_addNumber_24 : decode cX2_addNumber 24 = .ok (.irem, 1) := by decide +kernel
theorem dX2_addNumber_25 : decode cX2_addNumber 25 = .ok (.iadd, 1) := by decide +kernel
theorem dX2_addNumber_26 : decode cX2_addNumber 26 = .ok (.i2c, 1) := by decide +kernel
theorem dX2_addNumber_27 : decode cX2_addNumber 27 = .ok (.invokevirtual 19, 3) := by decide +kernel
theorem dX2_addNumber_30 : decode cX2_addNumber 30 = .ok (.return_, 1) := by decide +kernel
theorem dX2_characterAt_0 : decode cX2_characterAt 0 = .ok (.iload_n 1, 1) := by decide +kernel
theorem dX2_characterAt_1 : decode cX2_characterAt 1 = .ok (.ifCond .lt 21, 3) := by decide +kernel
theorem dX2_characterAt_4 : decode cX2_characterAt 4 = .ok (.iload_n 1, 1) := by decide +kernel
theorem dX2_characterAt_5 : decode cX2_characterAt 5 = .ok (.aload_n 0, 1) := by decide +kernel
theorem dX2_characterAt_6 : decode cX2_characterAt 6 = .ok (.getfield 9, 3) := by decide +kernel
theorem dX2_characterAt_9 : decode cX2_characterAt 9 = .ok (.arraylength, 1) := by decide +kernel
theorem dX2_characterAt_10 : decode cX2_characterAt 10 = .ok (.if_icmp .ge 12, 3) := by decide +kernel
theorem dX2_characterAt_13 : decode cX2_characterAt 13 = .ok (.aload_n 0, 1) := by decide +kernel
theorem dX2_characterAt_14 : decode cX2_characterAt 14 = .ok (.getfield 9, 3) := by decide +kernel
theorem dX2_characterAt_17 : decode cX2_characterAt 17 = .ok (.iload_n 1, 1) := by decide +kernel
theorem dX2_characterAt_18 : decode cX2_characterAt 18 = .ok (.caload, 1) := by decide +kernel
theorem dX2_characterAt_19 : decode cX2_characterAt 19 = .ok (.goto 4, 3) := by decide +kernel
theorem dX2_characterAt_22 : decode cX2_characterAt 22 = .ok (.iconst 0, 1) := by decide +kernel
theorem dX2_characterAt_23 : decode cX2_characterAt 23 = .ok (.ireturn, 1) := by decide +kernel
theorem dX3_init_0 : decode cX3_init 0 = .ok (.aload_n 0, 1) := by decide +kernel
theorem dX3_init_1 : decode cX3_init 1 = .ok (.invokespecial 3, 3) := by decide +kernel
theorem dX3_init_4 : decode cX3_init 4 = .ok (.aload_n 0, 1) := by decide +kernel
theorem dX3_init_5 : decode cX3_init 5 = .ok (.sipush 310, 3) := by decide +kernel
theorem dX3_init_8 : decode cX3_init 8 = .ok (.newarray .int, 2) := by decide +kernel
theorem dX3_init_10 : decode cX3_init 10 = .ok (.putfield 9, 3) := by decide +kernel
theorem dX3_init_13 : decode cX3_init 13 = .ok (.return_, 1) := by decide +kernel
theorem dX3_cellAt_0 : decode cX3_cellAt 0 = .ok (.iload_n 1, 1) := by decide +kernel
theorem dX3_cellAt_1 : decode cX3_cellAt 1 = .ok (.ifCond .lt 21, 3) := by decide +kernel
theorem dX3_cellAt_4 : decode cX3_cellAt 4 = .ok (.iload_n 1, 1) := by decide +kernel
theorem dX3_cellAt_5 : decode cX3_cellAt 5 = .ok (.aload_n 0, 1) := by decide +kernel
theorem dX3_cellAt_6 : decode cX3_cellAt 6 = .ok (.getfield 9, 3) := by decide +kernel
theorem dX3_cellAt_9 : decode cX3_cellAt 9 = .ok (.arraylength, 1) := by decide +kernel
theorem dX3_cellAt_10 : decode cX3_cellAt 10 = .ok (.if_icmp .ge 12, 3) := by decide +kernel
theorem dX3_cellAt_13 : decode cX3_cellAt 13 = .ok (.aload_n 0, 1) := by decide +kernel
theorem dX3_cellAt_14 : decode cX3_cellAt 14 = .ok (.getfield 9, 3) := by decide +kernel
theorem dX3_cellAt_17 : decode cX3_cellAt 17 = .ok (.iload_n 1, 1) := by decide +kernel
theorem dX3_cellAt_18 : decode cX3_cellAt 18 = .ok (.iaload, 1) := by decide +kernel
theorem dX3_cellAt_19 : decode cX3_cellAt 19 = .ok (.goto 4, 3) := by decide +kernel
theorem dX3_cellAt_22 : decode cX3_cellAt 22 = .ok (.iconst 0, 1) := by decide +kernel
theorem dX3_cellAt_23 : decode cX3_cellAt 23 = .ok (.ireturn, 1) := by decide +kernel
theorem dX3_setCell_0 : decode cX3_setCell 0 = .ok (.iload_n 1, 1) := by decide +kernel
theorem dX3_setCell_1 : decode cX3_setCell 1 = .ok (.ifCond .lt 19, 3) := by decide +kernel
theorem dX3_setCell_4 : decode cX3_setCell 4 = .ok (.iload_n 1, 1) := by decide +kernel
theorem dX3_setCell_5 : decode cX3_setCell 5 = .ok (.aload_n 0, 1) := by decide +kernel
theorem dX3_setCell_6 : decode cX3_setCell 6 = .ok (.getfield 9, 3) := by decide +kernel
theorem dX3_setCell_9 : decode cX3_setCell 9 = .ok (.arraylength, 1) := by decide +kernel
theorem dX3_setCell_10 : decode cX3_setCell 10 = .ok (.if_icmp .ge 10, 3) := by decide +kernel
theorem dX3_setCell_13 : decode cX3_setCell 13 = .ok (.aload_n 0, 1) := by decide +kernel
theorem dX3_setCell_14 : decode cX3_setCell 14 = .ok (.getfield 9, 3) := by decide +kernel
theorem dX3_setCell_17 : decode cX3_setCell 17 = .ok (.iload_n 1, 1) := by decide +kernel
theorem dX3_setCell_18 : decode cX3_setCell 18 = .ok (.iload_n 2, 1) := by decide +kernel
theorem dX3_setCell_19 : decode cX3_setCell 19 = .ok (.iastore, 1) := by decide +kernel
theorem dX3_setCell_20 : decode cX3_setCell 20 = .ok (.return_, 1) := by decide +kernel
theorem dX3_copyTo_0 : decode cX3_copyTo 0 = .ok (.aload_n 0, 1) := by decide +kernel
theorem dX3_copyTo_1 : decode cX3_copyTo 1 = .ok (.getfield 9, 3) := by decide +kernel
theorem dX3_copyTo_4 : decode cX3_copyTo 4 = .ok (.iconst 0, 1) := by decide +kernel
theorem dX3_copyTo_5 : decode cX3_copyTo 5 = .ok (.aload_n 1, 1) := by decide +kernel
theorem dX3_copyTo_6 : decode cX3_copyTo 6 = .ok (.iload_n 2, 1) := by decide +kernel
theorem dX3_copyTo_7 : decode cX3_copyTo 7 = .ok (.invokestatic 15, 3) := by decide +kernel
theorem dX3_copyTo_10 : decode cX3_copyTo 10 = .ok (.return_, 1) := by decide +kernel
theorem dX3_copyFrom_0 : decode cX3_copyFrom 0 = .ok (.aload_n 1, 1) := by decide +kernel
theorem dX3_copyFrom_1 : decode cX3_copyFrom 1 = .ok (.iload_n 2, 1) := by decide +kernel
theorem dX3_copyFrom_2 : decode cX3_copyFrom 2 = .ok (.aload_n 0, 1) := by decide +kernel
theorem dX3_copyFrom_3 : decode cX3_copyFrom 3 = .ok (.getfield 9, 3) := by decide +kernel
theorem dX3_copyFrom_6 : decode cX3_copyFrom 6 = .ok (.iconst 0, 1) := by decide +kernel
theorem dX3_copyFrom_7 : decode cX3_copyFrom 7 = .ok (.invokestatic 15, 3) := by decide +kernel
theorem dX3_copyFrom_10 : decode cX3_copyFrom 10 = .ok (.return_, 1) := by decide +kernel
theorem dX3_countOf_0 : decode cX3_countOf 0 = .ok (.aload_n 0, 1) := by decide +kernel
theorem dX3_countOf_1 : decode cX3_countOf 1 = .ok (.sipush 240, 3) := by decide +kernel
theorem dX3_countOf_4 : decode cX3_countOf 4 = .ok (.iload_n 1, 1) := by decide +kernel
theorem dX3_countOf_5 : decode cX3_countOf 5 = .ok (.iadd, 1) := by decide +kernel
theorem dX3_countOf_6 : decode cX3_countOf 6 = .ok (.invokevirtual 19, 3) := by decide +kernel
theorem dX3_countOf_9 : decode cX3_countOf 9 = .ok (.ireturn, 1) := by decide +kernel
theorem dX3_setCount_0 : decode cX3_setCount 0 = .ok (.aload_n 0, 1) := by decide +kernel
theorem dX3_setCount_1 : decode cX3_setCount 1 = .ok (.sipush 240, 3) := by decide +kernel
theorem dX3_setCount_4 : decode cX3_setCount 4 = .ok (.iload_n 1, 1) := by decide +kernel
theorem dX3_setCount_5 : decode cX3_setCount 5 = .ok (.iadd, 1) := by decide +kernel
theorem dX3_setCount_6 : decode cX3_setCount 6 = .ok (.iload_n 2, 1) := by decide +kernel
theorem dX3_setCount_7 : decode cX3_setCount 7 = .ok (.invokevirtual 23, 3) := by decide +kernel
theorem dX3_setCount_10 : decode cX3_setCount 10 = .ok (.return_, 1) := by decide +kernel
theorem dX3_countOfAll_0 : decode cX3_countOfAll 0 = .ok (.iconst 0, 1) := by decide +kernel
theorem dX3_countOfAll_1 : decode cX3_countOfAll 1 = .ok (.istore_n 1, 1) := by decide +kernel
theorem dX3_countOfAll_2 : decode cX3_countOfAll 2 = .ok (.iconst 0, 1) := by decide +kernel
theorem dX3_countOfAll_3 : decode cX3_countOfAll 3 = .ok (.istore_n 2, 1) := by decide +kernel
theorem dX3_countOfAll_4 : decode cX3_countOfAll 4 = .ok (.iload_n 2, 1) := by decide +kernel
theorem dX3_countOfAll_5 : decode cX3_countOfAll 5 = .ok (.iconst 4, 1) := by decide +kernel
theorem dX3_countOfAll_6 : decode cX3_countOfAll 6 = .ok (.if_icmp .ge 17, 3) := by decide +kernel
theorem dX3_countOfAll_9 : decode cX3_countOfAll 9 = .ok (.iload_n 1, 1) := by decide +kernel
theorem dX3_countOfAll_10 : decode cX3_countOfAll 10 = .ok (.aload_n 0, 1) := by decide +kernel
theorem dX3_countOfAll_11 : decode cX3_countOfAll 11 = .ok (.iload_n 2, 1) := by decide +kernel
theorem dX3_countOfAll_12 : decode cX3_countOfAll 12 = .ok (.invokevirtual 27, 3) := by decide +kernel
theorem dX3_countOfAll_15 : decode cX3_countOfAll 15 = .ok (.iadd, 1) := by decide +kernel
theorem dX3_countOfAll_16 : decode cX3_countOfAll 16 = .ok (.istore_n 1, 1) := by decide +kernel
theorem dX3_countOfAll_17 : decode cX3_countOfAll 17 = .ok (.iinc 2 1, 3) := by decide +kernel
theorem dX3_countOfAll_20 : decode cX3_countOfAll 20 = .ok (.goto (-16), 3) := by decide +kernel
theorem dX3_countOfAll_23 : decode cX3_countOfAll 23 = .ok (.iload_n 1, 1) := by decide +kernel
theorem dX3_countOfAll_24 : decode cX3_countOfAll 24 = .ok (.ireturn, 1) := by decide +kernel
theorem dX3_placeOf_0 : decode cX3_placeOf 0 = .ok (.iload_n 0, 1) := by decide +kernel
theorem dX3_placeOf_1 : decode cX3_placeOf 1 = .ok (.bipush 60, 2) := by decide +kernel
theorem dX3_placeOf_3 : decode cX3_placeOf 3 = .ok (.imul, 1) := by decide +kernel
theorem dX3_placeOf_4 : decode cX3_placeOf 4 = .ok (.iload_n 1, 1) := by decide +kernel
theorem dX3_placeOf_5 : decode cX3_placeOf 5 = .ok (.iadd, 1) := by decide +kernel
theorem dX3_placeOf_6 : decode cX3_placeOf 6 = .ok (.ireturn, 1) := by decide +kernel
theorem dX3_segmentAt_0 : decode cX3_segmentAt 0 = .ok (.aload_n 0, 1) := by decide +kernel
theorem dX3_segmentAt_1 : decode cX3_segmentAt 1 = .ok (.iload_n 1, 1) := by decide +kernel
theorem dX3_segmentAt_2 : decode cX3_segmentAt 2 = .ok (.iload_n 2, 1) := by decide +kernel
theorem dX3_segmentAt_3 : decode cX3_segmentAt 3 = .ok (.invokestatic 30, 3) := by decide +kernel
theorem dX3_segmentAt_6 : decode cX3_segmentAt 6 = .ok (.invokevirtual 19, 3) := by decide +kernel
theorem dX3_segmentAt_9 : decode cX3_segmentAt 9 = .ok (.ireturn, 1) := by decide +kernel
theorem dX3_setSegment_0 : decode cX3_setSegment 0 = .ok (.aload_n 0, 1) := by decide +kernel
theorem dX3_setSegment_1 : decode cX3_setSegment 1 = .ok (.iload_n 1, 1) := by decide +kernel
theorem dX3_setSegment_2 : decode cX3_setSegment 2 = .ok (.iload_n 2, 1) := by decide +kernel
theorem dX3_setSegment_3 : decode cX3_setSegment 3 = .ok (.invokestatic 30, 3) := by decide +kernel
theorem dX3_setSegment_6 : decode cX3_setSegment 6 = .ok (.iload_n 3, 1) := by decide +kernel
theorem dX3_setSegment_7 : decode cX3_setSegment 7 = .ok (.invokevirtual 23, 3) := by decide +kernel
theorem dX3_setSegment_10 : decode cX3_setSegment 10 = .ok (.return_, 1) := by decide +kernel
theorem dX3_lengthAt_0 : decode cX3_lengthAt 0 = .ok (.aload_n 0, 1) := by decide +kernel
theorem dX3_lengthAt_1 : decode cX3_lengthAt 1 = .ok (.iload_n 1, 1) := by decide +kernel
theorem dX3_lengthAt_2 : decode cX3_lengthAt 2 = .ok (.iload_n 2, 1) := by decide +kernel
theorem dX3_lengthAt_3 : decode cX3_lengthAt 3 = .ok (.invokevirtual 34, 3) := by decide +kernel
theorem dX3_lengthAt_6 : decode cX3_lengthAt 6 = .ok (.bipush 8, 2) := by decide +kernel
theorem dX3_lengthAt_8 : decode cX3_lengthAt 8 = .ok (.idiv, 1) := by decide +kernel
theorem dX3_lengthAt_9 : decode cX3_lengthAt 9 = .ok (.ireturn, 1) := by decide +kernel
theorem dX3_colourAt_0 : decode cX3_colourAt 0 = .ok (.aload_n 0, 1) := by decide +kernel
theorem dX3_colourAt_1 : decode cX3_colourAt 1 = .ok (.iload_n 1, 1) := by decide +kernel
theorem dX3_colourAt_2 : decode cX3_colourAt 2 = .ok (.iload_n 2, 1) := by decide +kernel
theorem dX3_colourAt_3 : decode cX3_colourAt 3 = .ok (.invokevirtual 34, 3) := by decide +kernel
theorem dX3_colourAt_6 : decode cX3_colourAt 6 = .ok (.bipush 8, 2) := by decide +kernel
theorem dX3_colourAt_8 : decode cX3_colourAt 8 = .ok (.irem, 1) := by decide +kernel
theorem dX3_colourAt_9 : decode cX3_colourAt 9 = .ok (.ireturn, 1) := by decide +kernel
theorem dX3_areTangled_0 : decode cX3_areTangled 0 = .ok (.iload_n 2, 1) := by decide +kernel
theorem dX3_areTangled_1 : decode cX3_areTangled 1 = .ok (.ifCond .lt 35, 3) := by decide +kernel
theorem dX3_areTangled_4 : decode cX3_areTangled 4 = .ok (.iload_n 2, 1) := by decide +kernel
theorem dX3_areTangled_5 : decode cX3_areTangled 5 = .ok (.iconst 1, 1) := by decide +kernel
theorem dX3_areTangled_6 : decode cX3_areTangled 6 = .ok (.iadd, 1) := by decide +kernel
theorem dX3_areTangled_7 : decode cX3_areTangled 7 = .ok (.aload_n 0, 1) := by decide +kernel
theorem dX3_areTangled_8 : decode cX3_areTangled 8 = .ok (.iload_n 1, 1) := by decide +kernel
theorem dX3_areTangled_9 : decode cX3_areTangled 9 = .ok (.invokevirtual 27, 3) := by decide +kernel
theorem dX3_areTangled_12 : decode cX3_areTangled 12 = .ok (.if_icmp .ge 24, 3) := by decide +kernel
theorem dX3_areTangled_15 : decode cX3_areTangled 15 = .ok (.aload_n 0, 1) := by decide +kernel
theorem dX3_areTangled_16 : decode cX3_areTangled 16 = .ok (.iload_n 1, 1) := by decide +kernel
theorem dX3_areTangled_17 : decode cX3_areTangled 17 = .ok (.iload_n 2, 1) := by decide +kernel
theorem dX3_areTangled_18 : decode cX3_areTangled 18 = .ok (.invokevirtual 37, 3) := by decide +kernel
theorem dX3_areTangled_21 : decode cX3_areTangled 21 = .ok (.aload_n 0, 1) := by decide +kernel
theorem dX3_areTangled_22 : decode cX3_areTangled 22 = .ok (.iload_n 1, 1) := by decide +kernel
theorem dX3_areTangled_23 : decode cX3_areTangled 23 = .ok (.iload_n 2, 1) := by decide +kernel
theorem dX3_areTangled_24 : decode cX3_areTangled 24 = .ok (.iconst 1, 1) := by decide +kernel
theorem dX3_areTangled_25 : decode cX3_areTangled 25 = .ok (.iadd, 1) := by decide +kernel
theorem dX3_areTangled_26 : decode cX3_areTangled 26 = .ok (.invokevirtual 37, 3) := by decide +kernel
theorem dX3_areTangled_29 : decode cX3_areTangled 29 = .ok (.if_icmp .ne 7, 3) := by decide +kernel
theorem dX3_areTangled_32 : decode cX3_areTangled 32 = .ok (.iconst 1, 1) := by decide +kernel
theorem dX3_areTangled_33 : decode cX3_areTangled 33 = .ok (.goto 4, 3) := by decide +kernel
theorem dX3_areTangled_36 : decode cX3_areTangled 36 = .ok (.iconst 0, 1) := by decide +kernel
theorem dX3_areTangled_37 : decode cX3_areTangled 37 = .ok (.ireturn, 1) := by decide +kernel
theorem dX3_putIn_0 : decode cX3_putIn 0 = .ok (.aload_n 0, 1) := by decide +kernel
theorem dX3_putIn_1 : decode cX3_putIn 1 = .ok (.iload_n 1, 1) := by decide +kernel
theorem dX3_putIn_2 : decode cX3_putIn 2 = .ok (.invokevirtual 27, 3) := by decide +kernel
theorem dX3_putIn_5 : decode cX3_putIn 5 = .ok (.istore 5, 2) := by decide +kernel
theorem dX3_putIn_7 : decode cX3_putIn 7 = .ok (.iload 5, 2) := by decide +kernel
theorem dX3_putIn_9 : decode cX3_putIn 9 = .ok (.istore 6, 2) := by decide +kernel
theorem dX3_putIn_11 : decode cX3_putIn 11 = .ok (.iload 6, 2) := by decide +kernel
theorem dX3_putIn_13 : decode cX3_putIn 13 = .ok (.iload_n 2, 1) := by decide +kernel
theorem dX3_putIn_14 : decode cX3_putIn 14 = .ok (.if_icmp .le 25, 3) := by decide +kernel
theorem dX3_putIn_17 : decode cX3_putIn 17 = .ok (.aload_n 0, 1) := by decide +kernel
theorem dX3_putIn_18 : decode cX3_putIn 18 = .ok (.iload_n 1, 1) := by decide +kernel
theorem dX3_putIn_19 : decode cX3_putIn 19 = .ok (.iload 6, 2) := by decide +kernel
theorem dX3_putIn_21 : decode cX3_putIn 21 = .ok (.aload_n 0, 1) := by decide +kernel
theorem dX3_putIn_22 : decode cX3_putIn 22 = .ok (.iload_n 1, 1) := by decide +kernel
theorem dX3_putIn_23 : decode cX3_putIn 23 = .ok (.iload 6, 2) := by decide +kernel
theorem dX3_putIn_25 : decode cX3_putIn 25 = .ok (.iconst 1, 1) := by decide +kernel
theorem dX3_putIn_26 : decode cX3_putIn 26 = .ok (.isub, 1) := by decide +kernel
theorem dX3_putIn_27 : decode cX3_putIn 27 = .ok (.invokevirtual 34, 3) := by decide +kernel
theorem dX3_putIn_30 : decode cX3_putIn 30 = .ok (.invokevirtual 40, 3) := by decide +kernel
theorem dX3_putIn_33 : decode cX3_putIn 33 = .ok (.iinc 6 (-1), 3) := by decide +kernel
theorem dX3_putIn_36 : decode cX3_putIn 36 = .ok (.goto (-25), 3) := by decide +kernel
theorem dX3_putIn_39 : decode cX3_putIn 39 = .ok (.aload_n 0, 1) := by decide +kernel
theorem dX3_putIn_40 : decode cX3_putIn 40 = .ok (.iload_n 1, 1) := by decide +kernel
theorem dX3_putIn_41 : decode cX3_putIn 41 = .ok (.iload_n 2, 1) := by decide +kernel
theorem dX3_putIn_42 : decode cX3_putIn 42 = .ok (.iload_n 3, 1) := by decide +kernel
theorem dX3_putIn_43 : decode cX3_putIn 43 = .ok (.bipush 8, 2) := by decide +kernel
theorem dX3_putIn_45 : decode cX3_putIn 45 = .ok (.imul, 1) := by decide +kernel
theorem dX3_putIn_46 : decode cX3_putIn 46 = .ok (.iload 4, 2) := by decide +kernel
theorem dX3_putIn_48 : decode cX3_putIn 48 = .ok (.iadd, 1) := by decide +kernel
theorem dX3_putIn_49 : decode cX3_putIn 49 = .ok (.invokevirtual 40, 3) := by decide +kernel
theorem dX3_putIn_52 : decode cX3_putIn 52 = .ok (.aload_n 0, 1) := by decide +kernel
theorem dX3_putIn_53 : decode cX3_putIn 53 = .ok (.iload_n 1, 1) := by decide +kernel
theorem dX3_putIn_54 : decode cX3_putIn 54 = .ok (.iload 5, 2) := by decide +kernel
theorem dX3_putIn_56 : decode cX3_putIn 56 = .ok (.iconst 1, 1) := by decide +kernel
theorem dX3_putIn_57 : decode cX3_putIn 57 = .ok (.iadd, 1) := by decide +kernel
theorem dX3_putIn_58 : decode cX3_putIn 58 = .ok (.invokevirtual 44, 3) := by decide +kernel
theorem dX3_putIn_61 : decode cX3_putIn 61 = .ok (.iload 5, 2) := by decide +kernel
theorem dX3_putIn_63 : decode cX3_putIn 63 = .ok (.iconst 1, 1) := by decide +kernel
theorem dX3_putIn_64 : decode cX3_putIn 64 = .ok (.iadd, 1) := by decide +kernel
theorem dX3_putIn_65 : decode cX3_putIn 65 = .ok (.ireturn, 1) := by decide +kernel
theorem dX3_takeOut_0 : decode cX3_takeOut 0 = .ok (.aload_n 0, 1) := by decide +kernel
theorem dX3_takeOut_1 : decode cX3_takeOut 1 = .ok (.iload_n 1, 1) := by decide +kernel
theorem dX3_takeOut_2 : decode cX3_takeOut 2 = .ok (.iload_n 2, 1) := by decide +kernel
theorem dX3_takeOut_3 : decode cX3_takeOut 3 = .ok (.invokevirtual 47, 3) := by decide +kernel
theorem dX3_takeOut_6 : decode cX3_takeOut 6 = .ok (.istore_n 3, 1) := by decide +kernel
theorem dX3_takeOut_7 : decode cX3_takeOut 7 = .ok (.aload_n 0, 1) := by decide +kernel
theorem dX3_takeOut_8 : decode cX3_takeOut 8 = .ok (.iload_n 1, 1) := by decide +kernel
theorem dX3_takeOut_9 : decode cX3_takeOut 9 = .ok (.invokevirtual 27, 3) := by decide +kernel
theorem dX3_takeOut_12 : decode cX3_takeOut 12 = .ok (.iconst 1, 1) := by decide +kernel
theorem dX3_takeOut_13 : decode cX3_takeOut 13 = .ok (.isub, 1) := by decide +kernel
theorem dX3_takeOut_14 : decode cX3_takeOut 14 = .ok (.istore 4, 2) := by decide +kernel
theorem dX3_takeOut_16 : decode cX3_takeOut 16 = .ok (.iload_n 2, 1) := by decide +kernel
theorem dX3_takeOut_17 : decode cX3_takeOut 17 = .ok (.istore 5, 2) := by decide +kernel
theorem dX3_takeOut_19 : decode cX3_takeOut 19 = .ok (.iload 5, 2) := by decide +kernel
theorem dX3_takeOut_21 : decode cX3_takeOut 21 = .ok (.iload 4, 2) := by decide +kernel
theorem dX3_takeOut_23 : decode cX3_takeOut 23 = .ok (.if_icmp .ge 25, 3) := by decide +kernel
theorem dX3_takeOut_26 : decode cX3_takeOut 26 = .ok (.aload_n 0, 1) := by decide +kernel
theorem dX3_takeOut_27 : decode cX3_takeOut 27 = .ok (.iload_n 1, 1) := by decide +kernel
theorem dX3_takeOut_28 : decode cX3_takeOut 28 = .ok (.iload 5, 2) := by decide +kernel
theorem dX3_takeOut_30 : decode cX3_takeOut 30 = .ok (.aload_n 0, 1) := by decide +kernel
theorem dX3_takeOut_31 : decode cX3_takeOut 31 = .ok (.iload_n 1, 1) := by decide +kernel
theorem dX3_takeOut_32 : decode cX3_takeOut 32 = .ok (.iload 5, 2) := by decide +kernel
theorem dX3_takeOut_34 : decode cX3_takeOut 34 = .ok (.iconst 1, 1) := by decide +kernel
theorem dX3_takeOut_35 : decode cX3_takeOut 35 = .ok (.iadd, 1) := by decide +kernel
theorem dX3_takeOut_36 : decode cX3_takeOut 36 = .ok (.invokevirtual 34, 3) := by decide +kernel
theorem dX3_takeOut_39 : decode cX3_takeOut 39 = .ok (.invokevirtual 40, 3) := by decide +kernel
theorem dX3_takeOut_42 : decode cX3_takeOut 42 = .ok (.iinc 5 1, 3) := by decide +kernel
theorem dX3_takeOut_45 : decode cX3_takeOut 45 = .ok (.goto (-26), 3) := by decide +kernel
theorem dX3_takeOut_48 : decode cX3_takeOut 48 = .ok (.aload_n 0, 1) := by decide +kernel
theorem dX3_takeOut_49 : decode cX3_takeOut 49 = .ok (.iload_n 1, 1) := by decide +kernel
theorem dX3_takeOut_50 : decode cX3_takeOut 50 = .ok (.iload 4, 2) := by decide +kernel
theorem dX3_takeOut_52 : decode cX3_takeOut 52 = .ok (.invokevirtual 44, 3) := by decide +kernel
theorem dX3_takeOut_55 : decode cX3_takeOut 55 = .ok (.iload_n 3, 1) := by decide +kernel
theorem dX3_takeOut_56 : decode cX3_takeOut 56 = .ok (.ireturn, 1) := by decide +kernel
theorem dX3_setLength_0 : decode cX3_setLength 0 = .ok (.aload_n 0, 1) := by decide +kernel
theorem dX3_setLength_1 : decode cX3_setLength 1 = .ok (.iload_n 1, 1) := by decide +kernel
theorem dX3_setLength_2 : decode cX3_setLength 2 = .ok (.iload_n 2, 1) := by decide +kernel
theorem dX3_setLength_3 : decode cX3_setLength 3 = .ok (.invokevirtual 47, 3) := by decide +kernel
theorem dX3_setLength_6 : decode cX3_setLength 6 = .ok (.istore 4, 2) := by decide +kernel
theorem dX3_setLength_8 : decode cX3_setLength 8 = .ok (.aload_n 0, 1) := by decide +kernel
theorem dX3_setLength_9 : decode cX3_setLength 9 = .ok (.iload_n 1, 1) := by decide +kernel
theorem dX3_setLength_10 : decode cX3_setLength 10 = .ok (.iload_n 2, 1) := by decide +kernel
theorem dX3_setLength_11 : decode cX3_setLength 11 = .ok (.iload_n 3, 1) := by decide +kernel
theorem dX3_setLength_12 : decode cX3_setLength 12 = .ok (.bipush 8, 2) := by decide +kernel
theorem dX3_setLength_14 : decode cX3_setLength 14 = .ok (.imul, 1) := by decide +kernel
theorem dX3_setLength_15 : decode cX3_setLength 15 = .ok (.aload_n 0, 1) := by decide +kernel
theorem dX3_setLength_16 : decode cX3_setLength 16 = .ok (.iload_n 1, 1) := by decide +kernel
theorem dX3_setLength_17 : decode cX3_setLength 17 = .ok (.iload_n 2, 1) := by decide +kernel
theorem dX3_setLength_18 : decode cX3_setLength 18 = .ok (.invokevirtual 37, 3) := by decide +kernel
theorem dX3_setLength_21 : decode cX3_setLength 21 = .ok (.iadd, 1) := by decide +kernel
theorem dX3_setLength_22 : decode cX3_setLength 22 = .ok (.invokevirtual 40, 3) := by decide +kernel
theorem dX3_setLength_25 : decode cX3_setLength 25 = .ok (.iload 4, 2) := by decide +kernel
theorem dX3_setLength_27 : decode cX3_setLength 27 = .ok (.ireturn, 1) := by decide +kernel
theorem dX3_cutOff_0 : decode cX3_cutOff 0 = .ok (.aload_n 0, 1) := by decide +kernel
theorem dX3_cutOff_1 : decode cX3_cutOff 1 = .ok (.iload_n 1, 1) := by decide +kernel
theorem dX3_cutOff_2 : decode cX3_cutOff 2 = .ok (.invokevirtual 27, 3) := by decide +kernel
theorem dX3_cutOff_5 : decode cX3_cutOff 5 = .ok (.iload_n 2, 1) := by decide +kernel
theorem dX3_cutOff_6 : decode cX3_cutOff 6 = .ok (.isub, 1) := by decide +kernel
theorem dX3_cutOff_7 : decode cX3_cutOff 7 = .ok (.istore 4, 2) := by decide +kernel
theorem dX3_cutOff_9 : decode cX3_cutOff 9 = .ok (.aload_n 0, 1) := by decide +kernel
theorem dX3_cutOff_10 : decode cX3_cutOff 10 = .ok (.iload_n 1, 1) := by decide +kernel
theorem dX3_cutOff_11 : decode cX3_cutOff 11 = .ok (.iload_n 2, 1) := by decide +kernel
theorem dX3_cutOff_12 : decode cX3_cutOff 12 = .ok (.iload_n 3, 1) := by decide +kernel
theorem dX3_cutOff_13 : decode cX3_cutOff 13 = .ok (.invokevirtual 50, 3) := by decide +kernel
theorem dX3_cutOff_16 : decode cX3_cutOff 16 = .ok (.aload_n 0, 1) := by decide +kernel
theorem dX3_cutOff_17 : decode cX3_cutOff 17 = .ok (.sipush 308, 3) := by decide +kernel
theorem dX3_cutOff_20 : decode cX3_cutOff 20 = .ok (.aload_n 0, 1) := by decide +kernel
theorem dX3_cutOff_21 : decode cX3_cutOff 21 = .ok (.sipush 308, 3) := by decide +kernel
theorem dX3_cutOff_24 : decode cX3_cutOff 24 = .ok (.invokevirtual 19, 3) := by decide +kernel
theorem dX3_cutOff_27 : decode cX3_cutOff 27 = .ok (.iconst 1, 1) := by decide +kernel
theorem dX3_cutOff_28 : decode cX3_cutOff 28 = .ok (.iadd, 1) := by decide +kernel
theorem dX3_cutOff_29 : decode cX3_cutOff 29 = .ok (.invokevirtual 23, 3) := by decide +kernel
theorem dX3_cutOff_32 : decode cX3_cutOff 32 = .ok (.iload 4, 2) := by decide +kernel
theorem dX3_cutOff_34 : decode cX3_cutOff 34 = .ok (.ireturn, 1) := by decide +kernel
theorem dX3_join_0 : decode cX3_join 0 = .ok (.aload_n 0, 1) := by decide +kernel
theorem dX3_join_1 : decode cX3_join 1 = .ok (.iload_n 2, 1) := by decide +kernel
theorem dX3_join_2 : decode cX3_join 2 = .ok (.iconst 0, 1) := by decide +kernel
theorem dX3_join_3 : decode cX3_join 3 = .ok (.iload_n 1, 1) := by decide +kernel
theorem dX3_join_4 : decode cX3_join 4 = .ok (.invokevirtual 50, 3) := by decide +kernel
theorem dX3_join_7 : decode cX3_join 7 = .ok (.aload_n 0, 1) := by decide +kernel
theorem dX3_join_8 : decode cX3_join 8 = .ok (.sipush 309, 3) := by decide +kernel
theorem dX3_join_11 : decode cX3_join 11 = .ok (.aload_n 0, 1) := by decide +kernel
theorem dX3_join_12 : decode cX3_join 12 = .ok (.sipush 309, 3) := by decide +kernel
theorem dX3_join_15 : decode cX3_join 15 = .ok (.invokevirtual 19, 3) := by decide +kernel
theorem dX3_join_18 : decode cX3_join 18 = .ok (.iconst 1, 1) := by decide +kernel
theorem dX3_join_19 : decode cX3_join 19 = .ok (.iadd, 1) := by decide +kernel
theorem dX3_join_20 : decode cX3_join 20 = .ok (.invokevirtual 23, 3) := by decide +kernel
theorem dX3_join_23 : decode cX3_join 23 = .ok (.aload_n 0, 1) := by decide +kernel
theorem dX3_join_24 : decode cX3_join 24 = .ok (.iload_n 1, 1) := by decide +kernel
theorem dX3_join_25 : decode cX3_join 25 = .ok (.invokevirtual 27, 3) := by decide +kernel
theorem dX3_join_28 : decode cX3_join 28 = .ok (.ireturn, 1) := by decide +kernel
theorem dX3_moveTail_0 : decode cX3_moveTail 0 = .ok (.aload_n 0, 1) := by decide +kernel
theorem dX3_moveTail_1 : decode cX3_moveTail 1 = .ok (.iload_n 1, 1) := by decide +kernel
theorem dX3_moveTail_2 : decode cX3_moveTail 2 = .ok (.invokevirtual 27, 3) := by decide +kernel
theorem dX3_moveTail_5 : decode cX3_moveTail 5 = .ok (.iload_n 2, 1) := by decide +kernel
theorem dX3_moveTail_6 : decode cX3_moveTail 6 = .ok (.isub, 1) := by decide +kernel
theorem dX3_moveTail_7 : decode cX3_moveTail 7 = .ok (.istore 4, 2) := by decide +kernel
theorem dX3_moveTail_9 : decode cX3_moveTail 9 = .ok (.aload_n 0, 1) := by decide +kernel
theorem dX3_moveTail_10 : decode cX3_moveTail 10 = .ok (.iload_n 3, 1) := by decide +kernel
theorem dX3_moveTail_11 : decode cX3_moveTail 11 = .ok (.invokevirtual 27, 3) := by decide +kernel
theorem dX3_moveTail_14 : decode cX3_moveTail 14 = .ok (.istore 5, 2) := by decide +kernel
theorem dX3_moveTail_16 : decode cX3_moveTail 16 = .ok (.iconst 0, 1) := by decide +kernel
theorem dX3_moveTail_17 : decode cX3_moveTail 17 = .ok (.istore 6, 2) := by decide +kernel
theorem dX3_moveTail_19 : decode cX3_moveTail 19 = .ok (.iload 6, 2) := by decide +kernel
theorem dX3_moveTail_21 : decode cX3_moveTail 21 = .ok (.iload 4, 2) := by decide +kernel
theorem dX3_moveTail_23 : decode cX3_moveTail 23 = .ok (.if_icmp .ge 28, 3) := by decide +kernel
theorem dX3_moveTail_26 : decode cX3_moveTail 26 = .ok (.aload_n 0, 1) := by decide +kernel
theorem dX3_moveTail_27 : decode cX3_moveTail 27 = .ok (.iload_n 3, 1) := by decide +kernel
theorem dX3_moveTail_28 : decode cX3_moveTail 28 = .ok (.iload 5, 2) := by decide +kernel
theorem dX3_moveTail_30 : decode cX3_moveTail 30 = .ok (.iload 6, 2) := by decide +kernel
theorem dX3_moveTail_32 : decode cX3_moveTail 32 = .ok (.iadd, 1) := by decide +kernel
theorem dX3_moveTail_33 : decode cX3_moveTail 33 = .ok (.aload_n 0, 1) := by decide +kernel
theorem dX3_moveTail_34 : decode cX3_moveTail 34 = .ok (.iload_n 1, 1) := by decide +kernel
theorem dX3_moveTail_35 : decode cX3_moveTail 35 = .ok (.iload_n 2, 1) := by decide +kernel
theorem dX3_moveTail_36 : decode cX3_moveTail 36 = .ok (.iload 6, 2) := by decide +kernel
theorem dX3_moveTail_38 : decode cX3_moveTail 38 = .ok (.iadd, 1) := by decide +kernel
theorem dX3_moveTail_39 : decode cX3_moveTail 39 = .ok (.invokevirtual 34, 3) := by decide +kernel
theorem dX3_moveTail_42 : decode cX3_moveTail 42 = .ok (.invokevirtual 40, 3) := by decide +kernel
theorem dX3_moveTail_45 : decode cX3_moveTail 45 = .ok (.iinc 6 1, 3) := by decide +kernel
theorem dX3_moveTail_48 : decode cX3_moveTail 48 = .ok (.goto (-29), 3) := by decide +kernel
theorem dX3_moveTail_51 : decode cX3_moveTail 51 = .ok (.aload_n 0, 1) := by decide +kernel
theorem dX3_moveTail_52 : decode cX3_moveTail 52 = .ok (.iload_n 3, 1) := by decide +kernel
theorem dX3_moveTail_53 : decode cX3_moveTail 53 = .ok (.iload 5, 2) := by decide +kernel
theorem dX3_moveTail_55 : decode cX3_moveTail 55 = .ok (.iload 4, 2) := by decide +kernel
theorem dX3_moveTail_57 : decode cX3_moveTail 57 = .ok (.iadd, 1) := by decide +kernel
theorem dX3_moveTail_58 : decode cX3_moveTail 58 = .ok (.invokevirtual 44, 3) := by decide +kernel
theorem dX3_moveTail_61 : decode cX3_moveTail 61 = .ok (.aload_n 0, 1) := by decide +kernel
theorem dX3_moveTail_62 : decode cX3_moveTail 62 = .ok (.iload_n 1, 1) := by decide +kernel
theorem dX3_moveTail_63 : decode cX3_moveTail 63 = .ok (.iload_n 2, 1) := by decide +kernel
theorem dX3_moveTail_64 : decode cX3_moveTail 64 = .ok (.invokevirtual 44, 3) := by decide +kernel
theorem dX3_moveTail_67 : decode cX3_moveTail 67 = .ok (.return_, 1) := by decide +kernel
theorem dX3_swap_0 : decode cX3_swap 0 = .ok (.aload_n 0, 1) := by decide +kernel
theorem dX3_swap_1 : decode cX3_swap 1 = .ok (.iload_n 1, 1) := by decide +kernel
theorem dX3_swap_2 : decode cX3_swap 2 = .ok (.invokevirtual 27, 3) := by decide +kernel
theorem dX3_swap_5 : decode cX3_swap 5 = .ok (.istore_n 3, 1) := by decide +kernel
theorem dX3_swap_6 : decode cX3_swap 6 = .ok (.aload_n 0, 1) := by decide +kernel
theorem dX3_swap_7 : decode cX3_swap 7 = .ok (.iload_n 2, 1) := by decide +kernel
theorem dX3_swap_8 : decode cX3_swap 8 = .ok (.invokevirtual 27, 3) := by decide +kernel
theorem dX3_swap_11 : decode cX3_swap 11 = .ok (.istore 4, 2) := by decide +kernel
theorem dX3_swap_13 : decode cX3_swap 13 = .ok (.iconst 0, 1) := by decide +kernel
theorem dX3_swap_14 : decode cX3_swap 14 = .ok (.istore 5, 2) := by decide +kernel
theorem dX3_swap_16 : decode cX3_swap 16 = .ok (.iload 5, 2) := by decide +kernel
theorem dX3_swap_18 : decode cX3_swap 18 = .ok (.bipush 60, 2) := by decide +kernel
theorem dX3_swap_20 : decode cX3_swap 20 = .ok (.if_icmp .ge 19, 3) := by decide +kernel
theorem dX3_swap_23 : decode cX3_swap 23 = .ok (.aload_n 0, 1) := by decide +kernel
theorem dX3_swap_24 : decode cX3_swap 24 = .ok (.iload_n 1, 1) := by decide +kernel
theorem dX3_swap_25 : decode cX3_swap 25 = .ok (.iload 5, 2) := by decide +kernel
theorem dX3_swap_27 : decode cX3_swap 27 = .ok (.iload_n 2, 1) := by decide +kernel
theorem dX3_swap_28 : decode cX3_swap 28 = .ok (.iload 5, 2) := by decide +kernel
theorem dX3_swap_30 : decode cX3_swap 30 = .ok (.invokevirtual 53, 3) := by decide +kernel
theorem dX3_swap_33 : decode cX3_swap 33 = .ok (.iinc 5 1, 3) := by decide +kernel
theorem dX3_swap_36 : decode cX3_swap 36 = .ok (.goto (-20), 3) := by decide +kernel
theorem dX3_swap_39 : decode cX3_swap 39 = .ok (.aload_n 0, 1) := by decide +kernel
theorem dX3_swap_40 : decode cX3_swap 40 = .ok (.iload_n 1, 1) := by decide +kernel
theorem dX3_swap_41 : decode cX3_swap 41 = .ok (.iload 4, 2) := by decide +kernel
theorem dX3_swap_43 : decode cX3_swap 43 = .ok (.invokevirtual 44, 3) := by decide +kernel
theorem dX3_swap_46 : decode cX3_swap 46 = .ok (.aload_n 0, 1) := by decide +kernel
theorem dX3_swap_47 : decode cX3_swap 47 = .ok (.iload_n 2, 1) := by decide +kernel
theorem dX3_swap_48 : decode cX3_swap 48 = .ok (.iload_n 3, 1) := by decide +kernel
theorem dX3_swap_49 : decode cX3_swap 49 = .ok (.invokevirtual 44, 3) := by decide +kernel
theorem dX3_swap_52 : decode cX3_swap 52 = .ok (.iload 4, 2) := by decide +kernel
theorem dX3_swap_54 : decode cX3_swap 54 = .ok (.ireturn, 1) := by decide +kernel
theorem dX3_swapSegments_0 : decode cX3_swapSegments 0 = .ok (.aload_n 0, 1) := by decide +kernel
theorem dX3_swapSegments_1 : decode cX3_swapSegments 1 = .ok (.iload_n 1, 1) := by decide +kernel
theorem dX3_swapSegments_2 : decode cX3_swapSegments 2 = .ok (.iload_n 2, 1) := by decide +kernel
theorem dX3_swapSegments_3 : decode cX3_swapSegments 3 = .ok (.invokevirtual 34, 3) := by decide +kernel
theorem dX3_swapSegments_6 : decode cX3_swapSegments 6 = .ok (.istore 5, 2) := by decide +kernel
theorem dX3_swapSegments_8 : decode cX3_swapSegments 8 = .ok (.aload_n 0, 1) := by decide +kernel
theorem dX3_swapSegments_9 : decode cX3_swapSegments 9 = .ok (.iload_n 1, 1) := by decide +kernel
theorem dX3_swapSegments_10 : decode cX3_swapSegments 10 = .ok (.iload_n 2, 1) := by decide +kernel
theorem dX3_swapSegments_11 : decode cX3_swapSegments 11 = .ok (.aload_n 0, 1) := by decide +kernel
theorem dX3_swapSegments_12 : decode cX3_swapSegments 12 = .ok (.iload_n 3, 1) := by decide +kernel
theorem dX3_swapSegments_13 : decode cX3_swapSegments 13 = .ok (.iload 4, 2) := by decide +kernel
theorem dX3_swapSegments_15 : decode cX3_swapSegments 15 = .ok (.invokevirtual 34, 3) := by decide +kernel
theorem dX3_swapSegments_18 : decode cX3_swapSegments 18 = .ok (.invokevirtual 40, 3) := by decide +kernel
theorem dX3_swapSegments_21 : decode cX3_swapSegments 21 = .ok (.aload_n 0, 1) := by decide +kernel
theorem dX3_swapSegments_22 : decode cX3_swapSegments 22 = .ok (.iload_n 3, 1) := by decide +kernel
theorem dX3_swapSegments_23 : decode cX3_swapSegments 23 = .ok (.iload 4, 2) := by decide +kernel
theorem dX3_swapSegments_25 : decode cX3_swapSegments 25 = .ok (.iload 5, 2) := by decide +kernel
theorem dX3_swapSegments_27 : decode cX3_swapSegments 27 = .ok (.invokevirtual 40, 3) := by decide +kernel
theorem dX3_swapSegments_30 : decode cX3_swapSegments 30 = .ok (.return_, 1) := by decide +kernel
theorem dX3_reverse_0 : decode cX3_reverse 0 = .ok (.iload_n 2, 1) := by decide +kernel
theorem dX3_reverse_1 : decode cX3_reverse 1 = .ok (.istore 4, 2) := by decide +kernel
theorem dX3_reverse_3 : decode cX3_reverse 3 = .ok (.iload_n 3, 1) := by decide +kernel
theorem dX3_reverse_4 : decode cX3_reverse 4 = .ok (.istore 5, 2) := by decide +kernel
theorem dX3_reverse_6 : decode cX3_reverse 6 = .ok (.iload 4, 2) := by decide +kernel
theorem dX3_reverse_8 : decode cX3_reverse 8 = .ok (.iload 5, 2) := by decide +kernel
theorem dX3_reverse_10 : decode cX3_reverse 10 = .ok (.if_icmp .ge 22, 3) := by decide +kernel
theorem dX3_reverse_13 : decode cX3_reverse 13 = .ok (.aload_n 0, 1) := by decide +kernel
theorem dX3_reverse_14 : decode cX3_reverse 14 = .ok (.iload_n 1, 1) := by decide +kernel
theorem dX3_reverse_15 : decode cX3_reverse 15 = .ok (.iload 4, 2) := by decide +kernel
theorem dX3_reverse_17 : decode cX3_reverse 17 = .ok (.iload_n 1, 1) := by decide +kernel
theorem dX3_reverse_18 : decode cX3_reverse 18 = .ok (.iload 5, 2) := by decide +kernel
theorem dX3_reverse_20 : decode cX3_reverse 20 = .ok (.invokevirtual 53, 3) := by decide +kernel
theorem dX3_reverse_23 : decode cX3_reverse 23 = .ok (.iinc 4 1, 3) := by decide +kernel
theorem dX3_reverse_26 : decode cX3_reverse 26 = .ok (.iinc 5 (-1), 3) := by decide +kernel
theorem dX3_reverse_29 : decode cX3_reverse 29 = .ok (.goto (-23), 3) := by decide +kernel
theorem dX3_reverse_32 : decode cX3_reverse 32 = .ok (.aload_n 0, 1) := by decide +kernel
theorem dX3_reverse_33 : decode cX3_reverse 33 = .ok (.iload_n 1, 1) := by decide +kernel
theorem dX3_reverse_34 : decode cX3_reverse 34 = .ok (.iload_n 2, 1) := by decide +kernel
theorem dX3_reverse_35 : decode cX3_reverse 35 = .ok (.iload_n 3, 1) := by decide +kernel
theorem dX3_reverse_36 : decode cX3_reverse 36 = .ok (.invokevirtual 57, 3) := by decide +kernel
theorem dX3_reverse_39 : decode cX3_reverse 39 = .ok (.ireturn, 1) := by decide +kernel
theorem dX3_paint_0 : decode cX3_paint 0 = .ok (.iconst 0, 1) := by decide +kernel
theorem dX3_paint_1 : decode cX3_paint 1 = .ok (.istore 5, 2) := by decide +kernel
theorem dX3_paint_3 : decode cX3_paint 3 = .ok (.iload_n 2, 1) := by decide +kernel
theorem dX3_paint_4 : decode cX3_paint 4 = .ok (.istore 6, 2) := by decide +kernel
theorem dX3_paint_6 : decode cX3_paint 6 = .ok (.iload 6, 2) := by decide +kernel
theorem dX3_paint_8 : decode cX3_paint 8 = .ok (.iload_n 3, 1) := by decide +kernel
theorem dX3_paint_9 : decode cX3_paint 9 = .ok (.if_icmp .gt 44, 3) := by decide +kernel
theorem dX3_paint_12 : decode cX3_paint 12 = .ok (.aload_n 0, 1) := by decide +kernel
theorem dX3_paint_13 : decode cX3_paint 13 = .ok (.iload_n 1, 1) := by decide +kernel
theorem dX3_paint_14 : decode cX3_paint 14 = .ok (.iload 6, 2) := by decide +kernel
theorem dX3_paint_16 : decode cX3_paint 16 = .ok (.invokevirtual 37, 3) := by decide +kernel
theorem dX3_paint_19 : decode cX3_paint 19 = .ok (.iload 4, 2) := by decide +kernel
theorem dX3_paint_21 : decode cX3_paint 21 = .ok (.if_icmp .eq 6, 3) := by decide +kernel
theorem dX3_paint_24 : decode cX3_paint 24 = .ok (.iinc 5 1, 3) := by decide +kernel
theorem dX3_paint_27 : decode cX3_paint 27 = .ok (.aload_n 0, 1) := by decide +kernel
theorem dX3_paint_28 : decode cX3_paint 28 = .ok (.iload_n 1, 1) := by decide +kernel
theorem dX3_paint_29 : decode cX3_paint 29 = .ok (.iload 6, 2) := by decide +kernel
theorem dX3_paint_31 : decode cX3_paint 31 = .ok (.aload_n 0, 1) := by decide +kernel
theorem dX3_paint_32 : decode cX3_paint 32 = .ok (.iload_n 1, 1) := by decide +kernel
theorem dX3_paint_33 : decode cX3_paint 33 = .ok (.iload 6, 2) := by decide +kernel
theorem dX3_paint_35 : decode cX3_paint 35 = .ok (.invokevirtual 47, 3) := by decide +kernel
theorem dX3_paint_38 : decode cX3_paint 38 = .ok (.bipush 8, 2) := by decide +kernel
theorem dX3_paint_40 : decode cX3_paint 40 = .ok (.imul, 1) := by decide +kernel
theorem dX3_paint_41 : decode cX3_paint 41 = .ok (.iload 4, 2) := by decide +kernel
theorem dX3_paint_43 : decode cX3_paint 43 = .ok (.iadd, 1) := by decide +kernel
theorem dX3_paint_44 : decode cX3_paint 44 = .ok (.invokevirtual 40, 3) := by decide +kernel
theorem dX3_paint_47 : decode cX3_paint 47 = .ok (.iinc 6 1, 3) := by decide +kernel
theorem dX3_paint_50 : decode cX3_paint 50 = .ok (.goto (-44), 3) := by decide +kernel
theorem dX3_paint_53 : decode cX3_paint 53 = .ok (.iload 5, 2) := by decide +kernel
theorem dX3_paint_55 : decode cX3_paint 55 = .ok (.ireturn, 1) := by decide +kernel
theorem dX3_refreshParts_0 : decode cX3_refreshParts 0 = .ok (.iconst 0, 1) := by decide +kernel
theorem dX3_refreshParts_1 : decode cX3_refreshParts 1 = .ok (.istore_n 1, 1) := by decide +kernel
theorem dX3_refreshParts_2 : decode cX3_refreshParts 2 = .ok (.iload_n 1, 1) := by decide +kernel
theorem dX3_refreshParts_3 : decode cX3_refreshParts 3 = .ok (.iconst 4, 1) := by decide +kernel
theorem dX3_refreshParts_4 : decode cX3_refreshParts 4 = .ok (.if_icmp .ge 29, 3) := by decide +kernel
theorem dX3_refreshParts_7 : decode cX3_refreshParts 7 = .ok (.iconst 0, 1) := by decide +kernel
theorem dX3_refreshParts_8 : decode cX3_refreshParts 8 = .ok (.istore_n 2, 1) := by decide +kernel
theorem dX3_refreshParts_9 : decode cX3_refreshParts 9 = .ok (.iload_n 2, 1) := by decide +kernel
theorem dX3_refreshParts_10 : decode cX3_refreshParts 10 = .ok (.bipush 8, 2) := by decide +kernel
theorem dX3_refreshParts_12 : decode cX3_refreshParts 12 = .ok (.if_icmp .ge 15, 3) := by decide +kernel
theorem dX3_refreshParts_15 : decode cX3_refreshParts 15 = .ok (.aload_n 0, 1) := by decide +kernel
theorem dX3_refreshParts_16 : decode cX3_refreshParts 16 = .ok (.iload_n 1, 1) := by decide +kernel
theorem dX3_refreshParts_17 : decode cX3_refreshParts 17 = .ok (.iload_n 2, 1) := by decide +kernel
theorem dX3_refreshParts_18 : decode cX3_refreshParts 18 = .ok (.invokevirtual 61, 3) := by decide +kernel
theorem dX3_refreshParts_21 : decode cX3_refreshParts 21 = .ok (.iinc 2 1, 3) := by decide +kernel
theorem dX3_refreshParts_24 : decode cX3_refreshParts 24 = .ok (.goto (-15), 3) := by decide +kernel
theorem dX3_refreshParts_27 : decode cX3_refreshParts 27 = .ok (.iinc 1 1, 3) := by decide +kernel
theorem dX3_refreshParts_30 : decode cX3_refreshParts 30 = .ok (.goto (-28), 3) := by decide +kernel
theorem dX3_refreshParts_33 : decode cX3_refreshParts 33 = .ok (.return_, 1) := by decide +kernel
theorem dX3_refreshPart_0 : decode cX3_refreshPart 0 = .ok (.iload_n 2, 1) := by decide +kernel
theorem dX3_refreshPart_1 : decode cX3_refreshPart 1 = .ok (.bipush 8, 2) := by decide +kernel
theorem dX3_refreshPart_3 : decode cX3_refreshPart 3 = .ok (.imul, 1) := by decide +kernel
theorem dX3_refreshPart_4 : decode cX3_refreshPart 4 = .ok (.istore_n 3, 1) := by decide +kernel
theorem dX3_refreshPart_5 : decode cX3_refreshPart 5 = .ok (.iload_n 3, 1) := by decide +kernel
theorem dX3_refreshPart_6 : decode cX3_refreshPart 6 = .ok (.bipush 8, 2) := by decide +kernel
theorem dX3_refreshPart_8 : decode cX3_refreshPart 8 = .ok (.iadd, 1) := by decide +kernel
theorem dX3_refreshPart_9 : decode cX3_refreshPart 9 = .ok (.aload_n 0, 1) := by decide +kernel
theorem dX3_refreshPart_10 : decode cX3_refreshPart 10 = .ok (.iload_n 1, 1) := by decide +kernel
theorem dX3_refreshPart_11 : decode cX3_refreshPart 11 = .ok (.invokevirtual 27, 3) := by decide +kernel
theorem dX3_refreshPart_14 : decode cX3_refreshPart 14 = .ok (.invokestatic 64, 3) := by decide +kernel
theorem dX3_refreshPart_17 : decode cX3_refreshPart 17 = .ok (.iconst 1, 1) := by decide +kernel
theorem dX3_refreshPart_18 : decode cX3_refreshPart 18 = .ok (.isub, 1) := by decide +kernel
theorem dX3_refreshPart_19 : decode cX3_refreshPart 19 = .ok (.istore 4, 2) := by decide +kernel
theorem dX3_refreshPart_21 : decode cX3_refreshPart 21 = .ok (.iconst 0, 1) := by decide +kernel
theorem dX3_refreshPart_22 : decode cX3_refreshPart 22 = .ok (.istore 5, 2) := by decide +kernel
theorem dX3_refreshPart_24 : decode cX3_refreshPart 24 = .ok (.iload_n 3, 1) := by decide +kernel
theorem dX3_refreshPart_25 : decode cX3_refreshPart 25 = .ok (.istore 6, 2) := by decide +kernel
theorem dX3_refreshPart_27 : decode cX3_refreshPart 27 = .ok (.iload 6, 2) := by decide +kernel
theorem dX3_refreshPart_29 : decode cX3_refreshPart 29 = .ok (.iload 4, 2) := by decide +kernel
theorem dX3_refreshPart_31 : decode cX3_refreshPart 31 = .ok (.if_icmp .ge 22, 3) := by decide +kernel
theorem dX3_refreshPart_34 : decode cX3_refreshPart 34 = .ok (.aload_n 0, 1) := by decide +kernel
theorem dX3_refreshPart_35 : decode cX3_refreshPart 35 = .ok (.iload_n 1, 1) := by decide +kernel
theorem dX3_refreshPart_36 : decode cX3_refreshPart 36 = .ok (.iload 6, 2) := by decide +kernel
theorem dX3_refreshPart_38 : decode cX3_refreshPart 38 = .ok (.invokevirtual 69, 3) := by decide +kernel
theorem dX3_refreshPart_41 : decode cX3_refreshPart 41 = .ok (.ifCond .eq 6, 3) := by decide +kernel
theorem dX3_refreshPart_44 : decode cX3_refreshPart 44 = .ok (.iinc 5 1, 3) := by decide +kernel
theorem dX3_refreshPart_47 : decode cX3_refreshPart 47 = .ok (.iinc 6 1, 3) := by decide +kernel
theorem dX3_refreshPart_50 : decode cX3_refreshPart 50 = .ok (.goto (-23), 3) := by decide +kernel
theorem dX3_refreshPart_53 : decode cX3_refreshPart 53 = .ok (.aload_n 0, 1) := by decide +kernel
theorem dX3_refreshPart_54 : decode cX3_refreshPart 54 = .ok (.sipush 244, 3) := by decide +kernel
theorem dX3_refreshPart_57 : decode cX3_refreshPart 57 = .ok (.iload_n 1, 1) := by decide +kernel
theorem dX3_refreshPart_58 : decode cX3_refreshPart 58 = .ok (.bipush 8, 2) := by decide +kernel
theorem dX3_refreshPart_60 : decode cX3_refreshPart 60 = .ok (.imul, 1) := by decide +kernel
theorem dX3_refreshPart_61 : decode cX3_refreshPart 61 = .ok (.iadd, 1) := by decide +kernel
theorem dX3_refreshPart_62 : decode cX3_refreshPart 62 = .ok (.iload_n 2, 1) := by decide +kernel
theorem dX3_refreshPart_63 : decode cX3_refreshPart 63 = .ok (.iadd, 1) := by decide +kernel
theorem dX3_refreshPart_64 : decode cX3_refreshPart 64 = .ok (.aload_n 0, 1) := by decide +kernel
theorem dX3_refreshPart_65 : decode cX3_refreshPart 65 = .ok (.iload_n 1, 1) := by decide +kernel
theorem dX3_refreshPart_66 : decode cX3_refreshPart 66 = .ok (.iload_n 3, 1) := by decide +kernel
theorem dX3_refreshPart_67 : decode cX3_refreshPart 67 = .ok (.iload 4, 2) := by decide +kernel
theorem dX3_refreshPart_69 : decode cX3_refreshPart 69 = .ok (.invokevirtual 57, 3) := by decide +kernel
theorem dX3_refreshPart_72 : decode cX3_refreshPart 72 = .ok (.invokevirtual 23, 3) := by decide +kernel
theorem dX3_refreshPart_75 : decode cX3_refreshPart 75 = .ok (.aload_n 0, 1) := by decide +kernel
theorem dX3_refreshPart_76 : decode cX3_refreshPart 76 = .ok (.sipush 276, 3) := by decide +kernel
theorem dX3_refreshPart_79 : decode cX3_refreshPart 79 = .ok (.iload_n 1, 1) := by decide +kernel
theorem dX3_refreshPart_80 : decode cX3_refreshPart 80 = .ok (.bipush 8, 2) := by decide +kernel
theorem dX3_refreshPart_82 : decode cX3_refreshPart 82 = .ok (.imul, 1) := by decide +kernel
theorem dX3_refreshPart_83 : decode cX3_refreshPart 83 = .ok (.iadd, 1) := by decide +kernel
theorem dX3_refreshPart_84 : decode cX3_refreshPart 84 = .ok (.iload_n 2, 1) := by decide +kernel
theorem dX3_refreshPart_85 : decode cX3_refreshPart 85 = .ok (.iadd, 1) := by decide +kernel
theorem dX3_refreshPart_86 : decode cX3_refreshPart 86 = .ok (.iload 5, 2) := by decide +kernel
theorem dX3_refreshPart_88 : decode cX3_refreshPart 88 = .ok (.invokevirtual 23, 3) := by decide +kernel
theorem dX3_refreshPart_91 : decode cX3_refreshPart 91 = .ok (.return_, 1) := by decide +kernel
theorem dX3_sumBefore_0 : decode cX3_sumBefore 0 = .ok (.iload_n 2, 1) := by decide +kernel
theorem dX3_sumBefore_1 : decode cX3_sumBefore 1 = .ok (.bipush 8, 2) := by decide +kernel
theorem dX3_sumBefore_3 : decode cX3_sumBefore 3 = .ok (.idiv, 1) := by decide +kernel
theorem dX3_sumBefore_4 : decode cX3_sumBefore 4 = .ok (.istore_n 3, 1) := by decide +kernel
theorem dX3_sumBefore_5 : decode cX3_sumBefore 5 = .ok (.iconst 0, 1) := by decide +kernel
theorem dX3_sumBefore_6 : decode cX3_sumBefore 6 = .ok (.istore 4, 2) := by decide +kernel
theorem dX3_sumBefore_8 : decode cX3_sumBefore 8 = .ok (.iconst 0, 1) := by decide +kernel
theorem dX3_sumBefore_9 : decode cX3_sumBefore 9 = .ok (.istore 5, 2) := by decide +kernel
theorem dX3_sumBefore_11 : decode cX3_sumBefore 11 = .ok (.iload 5, 2) := by decide +kernel
theorem dX3_sumBefore_13 : decode cX3_sumBefore 13 = .ok (.iload_n 3, 1) := by decide +kernel
theorem dX3_sumBefore_14 : decode cX3_sumBefore 14 = .ok (.if_icmp .ge 29, 3) := by decide +kernel
theorem dX3_sumBefore_17 : decode cX3_sumBefore 17 = .ok (.iload 4, 2) := by decide +kernel
theorem dX3_sumBefore_19 : decode cX3_sumBefore 19 = .ok (.aload_n 0, 1) := by decide +kernel
theorem dX3_sumBefore_20 : decode cX3_sumBefore 20 = .ok (.sipush 244, 3) := by decide +kernel
theorem dX3_sumBefore_23 : decode cX3_sumBefore 23 = .ok (.iload_n 1, 1) := by decide +kernel
theorem dX3_sumBefore_24 : decode cX3_sumBefore 24 = .ok (.bipush 8, 2) := by decide +kernel
theorem dX3_sumBefore_26 : decode cX3_sumBefore 26 = .ok (.imul, 1) := by decide +kernel
theorem dX3_sumBefore_27 : decode cX3_sumBefore 27 = .ok (.iadd, 1) := by decide +kernel
theorem dX3_sumBefore_28 : decode cX3_sumBefore 28 = .ok (.iload 5, 2) := by decide +kernel
theorem dX3_sumBefore_30 : decode cX3_sumBefore 30 = .ok (.iadd, 1) := by decide +kernel
theorem dX3_sumBefore_31 : decode cX3_sumBefore 31 = .ok (.invokevirtual 19, 3) := by decide +kernel
theorem dX3_sumBefore_34 : decode cX3_sumBefore 34 = .ok (.iadd, 1) := by decide +kernel
theorem dX3_sumBefore_35 : decode cX3_sumBefore 35 = .ok (.istore 4, 2) := by decide +kernel
theorem dX3_sumBefore_37 : decode cX3_sumBefore 37 = .ok (.iinc 5 1, 3) := by decide +kernel
theorem dX3_sumBefore_40 : decode cX3_sumBefore 40 = .ok (.goto (-29), 3) := by decide +kernel
theorem dX3_sumBefore_43 : decode cX3_sumBefore 43 = .ok (.iload 4, 2) := by decide +kernel
theorem dX3_sumBefore_45 : decode cX3_sumBefore 45 = .ok (.aload_n 0, 1) := by decide +kernel
theorem dX3_sumBefore_46 : decode cX3_sumBefore 46 = .ok (.iload_n 1, 1) := by decide +kernel
theorem dX3_sumBefore_47 : decode cX3_sumBefore 47 = .ok (.iload_n 3, 1) := by decide +kernel
theorem dX3_sumBefore_48 : decode cX3_sumBefore 48 = .ok (.bipush 8, 2) := by decide +kernel
theorem dX3_sumBefore_50 : decode cX3_sumBefore 50 = .ok (.imul, 1) := by decide +kernel
theorem dX3_sumBefore_51 : decode cX3_sumBefore 51 = .ok (.iload_n 2, 1) := by decide +kernel
theorem dX3_sumBefore_52 : decode cX3_sumBefore 52 = .ok (.iconst 1, 1) := by decide +kernel
theorem dX3_sumBefore_53 : decode cX3_sumBefore 53 = .ok (.isub, 1) := by decide +kernel
theorem dX3_sumBefore_54 : decode cX3_sumBefore 54 = .ok (.invokevirtual 57, 3) := by decide +kernel
theorem dX3_sumBefore_57 : decode cX3_sumBefore 57 = .ok (.iadd, 1) := by decide +kernel
theorem dX3_sumBefore_58 : decode cX3_sumBefore 58 = .ok (.ireturn, 1) := by decide +kernel
theorem dX3_lengthOf_0 : decode cX3_lengthOf 0 = .ok (.aload_n 0, 1) := by decide +kernel
theorem dX3_lengthOf_1 : decode cX3_lengthOf 1 = .ok (.iload_n 1, 1) := by decide +kernel
theorem dX3_lengthOf_2 : decode cX3_lengthOf 2 = .ok (.aload_n 0, 1) := by decide +kernel
theorem dX3_lengthOf_3 : decode cX3_lengthOf 3 = .ok (.iload_n 1, 1) := by decide +kernel
theorem dX3_lengthOf_4 : decode cX3_lengthOf 4 = .ok (.invokevirtual 27, 3) := by decide +kernel
theorem dX3_lengthOf_7 : decode cX3_lengthOf 7 = .ok (.invokevirtual 73, 3) := by decide +kernel
theorem dX3_lengthOf_10 : decode cX3_lengthOf 10 = .ok (.ireturn, 1) := by decide +kernel
theorem dX3_tanglesOf_0 : decode cX3_tanglesOf 0 = .ok (.iconst 0, 1) := by decide +kernel
theorem dX3_tanglesOf_1 : decode cX3_tanglesOf 1 = .ok (.istore_n 2, 1) := by decide +kernel
theorem dX3_tanglesOf_2 : decode cX3_tanglesOf 2 = .ok (.iconst 0, 1) := by decide +kernel
theorem dX3_tanglesOf_3 : decode cX3_tanglesOf 3 = .ok (.istore_n 3, 1) := by decide +kernel
theorem dX3_tanglesOf_4 : decode cX3_tanglesOf 4 = .ok (.iload_n 3, 1) := by decide +kernel
theorem dX3_tanglesOf_5 : decode cX3_tanglesOf 5 = .ok (.bipush 8, 2) := by decide +kernel
theorem dX3_tanglesOf_7 : decode cX3_tanglesOf 7 = .ok (.if_icmp .ge 43, 3) := by decide +kernel
theorem dX3_tanglesOf_10 : decode cX3_tanglesOf 10 = .ok (.iload_n 2, 1) := by decide +kernel
theorem dX3_tanglesOf_11 : decode cX3_tanglesOf 11 = .ok (.aload_n 0, 1) := by decide +kernel
theorem dX3_tanglesOf_12 : decode cX3_tanglesOf 12 = .ok (.sipush 276, 3) := by decide +kernel
theorem dX3_tanglesOf_15 : decode cX3_tanglesOf 15 = .ok (.iload_n 1, 1) := by decide +kernel
theorem dX3_tanglesOf_16 : decode cX3_tanglesOf 16 = .ok (.bipush 8, 2) := by decide +kernel
theorem dX3_tanglesOf_18 : decode cX3_tanglesOf 18 = .ok (.imul, 1) := by decide +kernel
theorem dX3_tanglesOf_19 : decode cX3_tanglesOf 19 = .ok (.iadd, 1) := by decide +kernel
theorem dX3_tanglesOf_20 : decode cX3_tanglesOf 20 = .ok (.iload_n 3, 1) := by decide +kernel
theorem dX3_tanglesOf_21 : decode cX3_tanglesOf 21 = .ok (.iadd, 1) := by decide +kernel
theorem dX3_tanglesOf_22 : decode cX3_tanglesOf 22 = .ok (.invokevirtual 19, 3) := by decide +kernel
theorem dX3_tanglesOf_25 : decode cX3_tanglesOf 25 = .ok (.iadd, 1) := by decide +kernel
theorem dX3_tanglesOf_26 : decode cX3_tanglesOf 26 = .ok (.istore_n 2, 1) := by decide +kernel
theorem dX3_tanglesOf_27 : decode cX3_tanglesOf 27 = .ok (.aload_n 0, 1) := by decide +kernel
theorem dX3_tanglesOf_28 : decode cX3_tanglesOf 28 = .ok (.iload_n 1, 1) := by decide +kernel
theorem dX3_tanglesOf_29 : decode cX3_tanglesOf 29 = .ok (.iload_n 3, 1) := by decide +kernel
theorem dX3_tanglesOf_30 : decode cX3_tanglesOf 30 = .ok (.bipush 8, 2) := by decide +kernel
theorem dX3_tanglesOf_32 : decode cX3_tanglesOf 32 = .ok (.imul, 1) := by decide +kernel
theorem dX3_tanglesOf_33 : decode cX3_tanglesOf 33 = .ok (.iconst 1, 1) := by decide +kernel
theorem dX3_tanglesOf_34 : decode cX3_tanglesOf 34 = .ok (.isub, 1) := by decide +kernel
theorem dX3_tanglesOf_35 : decode cX3_tanglesOf 35 = .ok (.invokevirtual 69, 3) := by decide +kernel
theorem dX3_tanglesOf_38 : decode cX3_tanglesOf 38 = .ok (.ifCond .eq 6, 3) := by decide +kernel
theorem dX3_tanglesOf_41 : decode cX3_tanglesOf 41 = .ok (.iinc 2 1, 3) := by decide +kernel
theorem dX3_tanglesOf_44 : decode cX3_tanglesOf 44 = .ok (.iinc 3 1, 3) := by decide +kernel
theorem dX3_tanglesOf_47 : decode cX3_tanglesOf 47 = .ok (.goto (-43), 3) := by decide +kernel
theorem dX3_tanglesOf_50 : decode cX3_tanglesOf 50 = .ok (.iload_n 2, 1) := by decide +kernel
theorem dX3_tanglesOf_51 : decode cX3_tanglesOf 51 = .ok (.ireturn, 1) := by decide +kernel
theorem dX3_tanglesByScan_0 : decode cX3_tanglesByScan 0 = .ok (.iconst 0, 1) := by decide +kernel
theorem dX3_tanglesByScan_1 : decode cX3_tanglesByScan 1 = .ok (.istore_n 2, 1) := by decide +kernel
theorem dX3_tanglesByScan_2 : decode cX3_tanglesByScan 2 = .ok (.iconst 1, 1) := by decide +kernel
theorem dX3_tanglesByScan_3 : decode cX3_tanglesByScan 3 = .ok (.istore_n 3, 1) := by decide +kernel
theorem dX3_tanglesByScan_4 : decode cX3_tanglesByScan 4 = .ok (.iload_n 3, 1) := by decide +kernel
theorem dX3_tanglesByScan_5 : decode cX3_tanglesByScan 5 = .ok (.aload_n 0, 1) := by decide +kernel
theorem dX3_tanglesByScan_6 : decode cX3_tanglesByScan 6 = .ok (.iload_n 1, 1) := by decide +kernel
theorem dX3_tanglesByScan_7 : decode cX3_tanglesByScan 7 = .ok (.invokevirtual 27, 3) := by decide +kernel
theorem dX3_tanglesByScan_10 : decode cX3_tanglesByScan 10 = .ok (.if_icmp .ge 23, 3) := by decide +kernel
theorem dX3_tanglesByScan_13 : decode cX3_tanglesByScan 13 = .ok (.aload_n 0, 1) := by decide +kernel
theorem dX3_tanglesByScan_14 : decode cX3_tanglesByScan 14 = .ok (.iload_n 1, 1) := by decide +kernel
theorem dX3_tanglesByScan_15 : decode cX3_tanglesByScan 15 = .ok (.iload_n 3, 1) := by decide +kernel
theorem dX3_tanglesByScan_16 : decode cX3_tanglesByScan 16 = .ok (.iconst 1, 1) := by decide +kernel
theorem dX3_tanglesByScan_17 : decode cX3_tanglesByScan 17 = .ok (.isub, 1) := by decide +kernel
theorem dX3_tanglesByScan_18 : decode cX3_tanglesByScan 18 = .ok (.invokevirtual 69, 3) := by decide +kernel
theorem dX3_tanglesByScan_21 : decode cX3_tanglesByScan 21 = .ok (.ifCond .eq 6, 3) := by decide +kernel
theorem dX3_tanglesByScan_24 : decode cX3_tanglesByScan 24 = .ok (.iinc 2 1, 3) := by decide +kernel
theorem dX3_tanglesByScan_27 : decode cX3_tanglesByScan 27 = .ok (.iinc 3 1, 3) := by decide +kernel
theorem dX3_tanglesByScan_30 : decode cX3_tanglesByScan 30 = .ok (.goto (-26), 3) := by decide +kernel
theorem dX3_tanglesByScan_33 : decode cX3_tanglesByScan 33 = .ok (.iload_n 2, 1) := by decide +kernel
theorem dX3_tanglesByScan_34 : decode cX3_tanglesByScan 34 = .ok (.ireturn, 1) := by decide +kernel
theorem dX3_partsAgree_0 : decode cX3_partsAgree 0 = .ok (.aload_n 0, 1) := by decide +kernel
theorem dX3_partsAgree_1 : decode cX3_partsAgree 1 = .ok (.iload_n 1, 1) := by decide +kernel
theorem dX3_partsAgree_2 : decode cX3_partsAgree 2 = .ok (.invokevirtual 76, 3) := by decide +kernel
theorem dX3_partsAgree_5 : decode cX3_partsAgree 5 = .ok (.aload_n 0, 1) := by decide +kernel
theorem dX3_partsAgree_6 : decode cX3_partsAgree 6 = .ok (.iload_n 1, 1) := by decide +kernel
theorem dX3_partsAgree_7 : decode cX3_partsAgree 7 = .ok (.invokevirtual 79, 3) := by decide +kernel
theorem dX3_partsAgree_10 : decode cX3_partsAgree 10 = .ok (.if_icmp .eq 5, 3) := by decide +kernel
theorem dX3_partsAgree_13 : decode cX3_partsAgree 13 = .ok (.iconst 0, 1) := by decide +kernel
theorem dX3_partsAgree_14 : decode cX3_partsAgree 14 = .ok (.ireturn, 1) := by decide +kernel
theorem dX3_partsAgree_15 : decode cX3_partsAgree 15 = .ok (.iconst 0, 1) := by decide +kernel
theorem dX3_partsAgree_16 : decode cX3_partsAgree 16 = .ok (.istore_n 2, 1) := by decide +kernel
theorem dX3_partsAgree_17 : decode cX3_partsAgree 17 = .ok (.iload_n 2, 1) := by decide +kernel
theorem dX3_partsAgree_18 : decode cX3_partsAgree 18 = .ok (.aload_n 0, 1) := by decide +kernel
theorem dX3_partsAgree_19 : decode cX3_partsAgree 19 = .ok (.iload_n 1, 1) := by decide +kernel
theorem dX3_partsAgree_20 : decode cX3_partsAgree 20 = .ok (.invokevirtual 27, 3) := by decide +kernel
theorem dX3_partsAgree_23 : decode cX3_partsAgree 23 = .ok (.if_icmp .gt 29, 3) := by decide +kernel
theorem dX3_partsAgree_26 : decode cX3_partsAgree 26 = .ok (.aload_n 0, 1) := by decide +kernel
theorem dX3_partsAgree_27 : decode cX3_partsAgree 27 = .ok (.iload_n 1, 1) := by decide +kernel
theorem dX3_partsAgree_28 : decode cX3_partsAgree 28 = .ok (.iload_n 2, 1) := by decide +kernel
theorem dX3_partsAgree_29 : decode cX3_partsAgree 29 = .ok (.invokevirtual 73, 3) := by decide +kernel
theorem dX3_partsAgree_32 : decode cX3_partsAgree 32 = .ok (.aload_n 0, 1) := by decide +kernel
theorem dX3_partsAgree_33 : decode cX3_partsAgree 33 = .ok (.iload_n 1, 1) := by decide +kernel
theorem dX3_partsAgree_34 : decode cX3_partsAgree 34 = .ok (.iconst 0, 1) := by decide +kernel
theorem dX3_partsAgree_35 : decode cX3_partsAgree 35 = .ok (.iload_n 2, 1) := by decide +kernel
theorem dX3_partsAgree_36 : decode cX3_partsAgree 36 = .ok (.iconst 1, 1) := by decide +kernel
theorem dX3_partsAgree_37 : decode cX3_partsAgree 37 = .ok (.isub, 1) := by decide +kernel
theorem dX3_partsAgree_38 : decode cX3_partsAgree 38 = .ok (.invokevirtual 57, 3) := by decide +kernel
theorem dX3_partsAgree_41 : decode cX3_partsAgree 41 = .ok (.if_icmp .eq 5, 3) := by decide +kernel
theorem dX3_partsAgree_44 : decode cX3_partsAgree 44 = .ok (.iconst 0, 1) := by decide +kernel
theorem dX3_partsAgree_45 : decode cX3_partsAgree 45 = .ok (.ireturn, 1) := by decide +kernel
theorem dX3_partsAgree_46 : decode cX3_partsAgree 46 = .ok (.iinc 2 1, 3) := by decide +kernel
theorem dX3_partsAgree_49 : decode cX3_partsAgree 49 = .ok (.goto (-32), 3) := by decide +kernel
theorem dX3_partsAgree_52 : decode cX3_partsAgree 52 = .ok (.iconst 1, 1) := by decide +kernel
theorem dX3_partsAgree_53 : decode cX3_partsAgree 53 = .ok (.ireturn, 1) := by decide +kernel
theorem dX3_sumOfRange_0 : decode cX3_sumOfRange 0 = .ok (.iconst 0, 1) := by decide +kernel
theorem dX3_sumOfRange_1 : decode cX3_sumOfRange 1 = .ok (.istore 4, 2) := by decide +kernel
theorem dX3_sumOfRange_3 : decode cX3_sumOfRange 3 = .ok (.iload_n 2, 1) := by decide +kernel
theorem dX3_sumOfRange_4 : decode cX3_sumOfRange 4 = .ok (.istore 5, 2) := by decide +kernel
theorem dX3_sumOfRange_6 : decode cX3_sumOfRange 6 = .ok (.iload 5, 2) := by decide +kernel
theorem dX3_sumOfRange_8 : decode cX3_sumOfRange 8 = .ok (.iload_n 3, 1) := by decide +kernel
theorem dX3_sumOfRange_9 : decode cX3_sumOfRange 9 = .ok (.if_icmp .gt 21, 3) := by decide +kernel
theorem dX3_sumOfRange_12 : decode cX3_sumOfRange 12 = .ok (.iload 4, 2) := by decide +kernel
theorem dX3_sumOfRange_14 : decode cX3_sumOfRange 14 = .ok (.aload_n 0, 1) := by decide +kernel
theorem dX3_sumOfRange_15 : decode cX3_sumOfRange 15 = .ok (.iload_n 1, 1) := by decide +kernel
theorem dX3_sumOfRange_16 : decode cX3_sumOfRange 16 = .ok (.iload 5, 2) := by decide +kernel
theorem dX3_sumOfRange_18 : decode cX3_sumOfRange 18 = .ok (.invokevirtual 47, 3) := by decide +kernel
theorem dX3_sumOfRange_21 : decode cX3_sumOfRange 21 = .ok (.iadd, 1) := by decide +kernel
theorem dX3_sumOfRange_22 : decode cX3_sumOfRange 22 = .ok (.istore 4, 2) := by decide +kernel
theorem dX3_sumOfRange_24 : decode cX3_sumOfRange 24 = .ok (.iinc 5 1, 3) := by decide +kernel
theorem dX3_sumOfRange_27 : decode cX3_sumOfRange 27 = .ok (.goto (-21), 3) := by decide +kernel
theorem dX3_sumOfRange_30 : decode cX3_sumOfRange 30 = .ok (.iload 4, 2) := by decide +kernel
theorem dX3_sumOfRange_32 : decode cX3_sumOfRange 32 = .ok (.ireturn, 1) := by decide +kernel
theorem dX3_positionOfOffset_0 : decode cX3_positionOfOffset 0 = .ok (.iload_n 2, 1) := by decide +kernel
theorem dX3_positionOfOffset_1 : decode cX3_positionOfOffset 1 = .ok (.ifCond .ge 5, 3) := by decide +kernel
theorem dX3_positionOfOffset_4 : decode cX3_positionOfOffset 4 = .ok (.iconst (-1), 1) := by decide +kernel
theorem dX3_positionOfOffset_5 : decode cX3_positionOfOffset 5 = .ok (.ireturn, 1) := by decide +kernel
theorem dX3_positionOfOffset_6 : decode cX3_positionOfOffset 6 = .ok (.iconst 0, 1) := by decide +kernel
theorem dX3_positionOfOffset_7 : decode cX3_positionOfOffset 7 = .ok (.istore_n 3, 1) := by decide +kernel
theorem dX3_positionOfOffset_8 : decode cX3_positionOfOffset 8 = .ok (.iconst 0, 1) := by decide +kernel
theorem dX3_positionOfOffset_9 : decode cX3_positionOfOffset 9 = .ok (.istore 4, 2) := by decide +kernel
theorem dX3_positionOfOffset_11 : decode cX3_positionOfOffset 11 = .ok (.iload 4, 2) := by decide +kernel
theorem dX3_positionOfOffset_13 : decode cX3_positionOfOffset 13 = .ok (.aload_n 0, 1) := by decide +kernel
theorem dX3_positionOfOffset_14 : decode cX3_positionOfOffset 14 = .ok (.iload_n 1, 1) := by decide +kernel
theorem dX3_positionOfOffset_15 : decode cX3_positionOfOffset 15 = .ok (.invokevirtual 27, 3) := by decide +kernel
theorem dX3_positionOfOffset_18 : decode cX3_positionOfOffset 18 = .ok (.if_icmp .ge 27, 3) := by decide +kernel
theorem dX3_positionOfOffset_21 : decode cX3_positionOfOffset 21 = .ok (.iload_n 3, 1) := by decide +kernel
theorem dX3_positionOfOffset_22 : decode cX3_positionOfOffset 22 = .ok (.aload_n 0, 1) := by decide +kernel
theorem dX3_positionOfOffset_23 : decode cX3_positionOfOffset 23 = .ok (.iload_n 1, 1) := by decide +kernel
theorem dX3_positionOfOffset_24 : decode cX3_positionOfOffset 24 = .ok (.iload 4, 2) := by decide +kernel
theorem dX3_positionOfOffset_26 : decode cX3_positionOfOffset 26 = .ok (.invokevirtual 47, 3) := by decide +kernel
theorem dX3_positionOfOffset_29 : decode cX3_positionOfOffset 29 = .ok (.iadd, 1) := by decide +kernel
theorem dX3_positionOfOffset_30 : decode cX3_positionOfOffset 30 = .ok (.istore_n 3, 1) := by decide +kernel
theorem dX3_positionOfOffset_31 : decode cX3_positionOfOffset 31 = .ok (.iload_n 2, 1) := by decide +kernel
theorem dX3_positionOfOffset_32 : decode cX3_positionOfOffset 32 = .ok (.iload_n 3, 1) := by decide +kernel
theorem dX3_positionOfOffset_33 : decode cX3_positionOfOffset 33 = .ok (.if_icmp .ge 6, 3) := by decide +kernel
theorem dX3_positionOfOffset_36 : decode cX3_positionOfOffset 36 = .ok (.iload 4, 2) := by decide +kernel
theorem dX3_positionOfOffset_38 : decode cX3_positionOfOffset 38 = .ok (.ireturn, 1) := by decide +kernel
theorem dX3_positionOfOffset_39 : decode cX3_positionOfOffset 39 = .ok (.iinc 4 1, 3) := by decide +kernel
theorem dX3_positionOfOffset_42 : decode cX3_positionOfOffset 42 = .ok (.goto (-31), 3) := by decide +kernel
theorem dX3_positionOfOffset_45 : decode cX3_positionOfOffset 45 = .ok (.iconst (-1), 1) := by decide +kernel
theorem dX3_positionOfOffset_46 : decode cX3_positionOfOffset 46 = .ok (.ireturn, 1) := by decide +kernel
theorem dX3_longestOfRange_0 : decode cX3_longestOfRange 0 = .ok (.iload_n 2, 1) := by decide +kernel
theorem dX3_longestOfRange_1 : decode cX3_longestOfRange 1 = .ok (.istore 4, 2) := by decide +kernel
theorem dX3_longestOfRange_3 : decode cX3_longestOfRange 3 = .ok (.iload_n 2, 1) := by decide +kernel
theorem dX3_longestOfRange_4 : decode cX3_longestOfRange 4 = .ok (.iconst 1, 1) := by decide +kernel
theorem dX3_longestOfRange_5 : decode cX3_longestOfRange 5 = .ok (.iadd, 1) := by decide +kernel
theorem dX3_longestOfRange_6 : decode cX3_longestOfRange 6 = .ok (.istore 5, 2) := by decide +kernel
theorem dX3_longestOfRange_8 : decode cX3_longestOfRange 8 = .ok (.iload 5, 2) := by decide +kernel
theorem dX3_longestOfRange_10 : decode cX3_longestOfRange 10 = .ok (.iload_n 3, 1) := by decide +kernel
theorem dX3_longestOfRange_11 : decode cX3_longestOfRange 11 = .ok (.if_icmp .gt 30, 3) := by decide +kernel
theorem dX3_longestOfRange_14 : decode cX3_longestOfRange 14 = .ok (.aload_n 0, 1) := by decide +kernel
theorem dX3_longestOfRange_15 : decode cX3_longestOfRange 15 = .ok (.iload_n 1, 1) := by decide +kernel
theorem dX3_longestOfRange_16 : decode cX3_longestOfRange 16 = .ok (.iload 5, 2) := by decide +kernel
theorem dX3_longestOfRange_18 : decode cX3_longestOfRange 18 = .ok (.invokevirtual 47, 3) := by decide +kernel
theorem dX3_longestOfRange_21 : decode cX3_longestOfRange 21 = .ok (.aload_n 0, 1) := by decide +kernel
theorem dX3_longestOfRange_22 : decode cX3_longestOfRange 22 = .ok (.iload_n 1, 1) := by decide +kernel
theorem dX3_longestOfRange_23 : decode cX3_longestOfRange 23 = .ok (.iload 4, 2) := by decide +kernel
theorem dX3_longestOfRange_25 : decode cX3_longestOfRange 25 = .ok (.invokevirtual 47, 3) := by decide +kernel
theorem dX3_longestOfRange_28 : decode cX3_longestOfRange 28 = .ok (.if_icmp .le 7, 3) := by decide +kernel
theorem dX3_longestOfRange_31 : decode cX3_longestOfRange 31 = .ok (.iload 5, 2) := by decide +kernel
theorem dX3_longestOfRange_33 : decode cX3_longestOfRange 33 = .ok (.istore 4, 2) := by decide +kernel
theorem dX3_longestOfRange_35 : decode cX3_longestOfRange 35 = .ok (.iinc 5 1, 3) := by decide +kernel
theorem dX3_longestOfRange_38 : decode cX3_longestOfRange 38 = .ok (.goto (-30), 3) := by decide +kernel
theorem dX3_longestOfRange_41 : decode cX3_longestOfRange 41 = .ok (.iload 4, 2) := by decide +kernel
theorem dX3_longestOfRange_43 : decode cX3_longestOfRange 43 = .ok (.ireturn, 1) := by decide +kernel
theorem dX3_positionOfRank_0 : decode cX3_positionOfRank 0 = .ok (.iconst 0, 1) := by decide +kernel
theorem dX3_positionOfRank_1 : decode cX3_positionOfRank 1 = .ok (.istore_n 3, 1) := by decide +kernel
theorem dX3_positionOfRank_2 : decode cX3_positionOfRank 2 = .ok (.iload_n 3, 1) := by decide +kernel
theorem dX3_positionOfRank_3 : decode cX3_positionOfRank 3 = .ok (.aload_n 0, 1) := by decide +kernel
theorem dX3_positionOfRank_4 : decode cX3_positionOfRank 4 = .ok (.iload_n 1, 1) := by decide +kernel
theorem dX3_positionOfRank_5 : decode cX3_positionOfRank 5 = .ok (.invokevirtual 27, 3) := by decide +kernel
theorem dX3_positionOfRank_8 : decode cX3_positionOfRank 8 = .ok (.if_icmp .ge 21, 3) := by decide +kernel
theorem dX3_positionOfRank_11 : decode cX3_positionOfRank 11 = .ok (.aload_n 0, 1) := by decide +kernel
theorem dX3_positionOfRank_12 : decode cX3_positionOfRank 12 = .ok (.iload_n 1, 1) := by decide +kernel
theorem dX3_positionOfRank_13 : decode cX3_positionOfRank 13 = .ok (.iload_n 3, 1) := by decide +kernel
theorem dX3_positionOfRank_14 : decode cX3_positionOfRank 14 = .ok (.invokevirtual 82, 3) := by decide +kernel
theorem dX3_positionOfRank_17 : decode cX3_positionOfRank 17 = .ok (.iload_n 2, 1) := by decide +kernel
theorem dX3_positionOfRank_18 : decode cX3_positionOfRank 18 = .ok (.if_icmp .ne 5, 3) := by decide +kernel
theorem dX3_positionOfRank_21 : decode cX3_positionOfRank 21 = .ok (.iload_n 3, 1) := by decide +kernel
theorem dX3_positionOfRank_22 : decode cX3_positionOfRank 22 = .ok (.ireturn, 1) := by decide +kernel
theorem dX3_positionOfRank_23 : decode cX3_positionOfRank 23 = .ok (.iinc 3 1, 3) := by decide +kernel
theorem dX3_positionOfRank_26 : decode cX3_positionOfRank 26 = .ok (.goto (-24), 3) := by decide +kernel
theorem dX3_positionOfRank_29 : decode cX3_positionOfRank 29 = .ok (.iconst (-1), 1) := by decide +kernel
theorem dX3_positionOfRank_30 : decode cX3_positionOfRank 30 = .ok (.ireturn, 1) := by decide +kernel
theorem dX3_rankOfSegment_0 : decode cX3_rankOfSegment 0 = .ok (.aload_n 0, 1) := by decide +kernel
theorem dX3_rankOfSegment_1 : decode cX3_rankOfSegment 1 = .ok (.iload_n 1, 1) := by decide +kernel
theorem dX3_rankOfSegment_2 : decode cX3_rankOfSegment 2 = .ok (.iload_n 2, 1) := by decide +kernel
theorem dX3_rankOfSegment_3 : decode cX3_rankOfSegment 3 = .ok (.invokevirtual 47, 3) := by decide +kernel
theorem dX3_rankOfSegment_6 : decode cX3_rankOfSegment 6 = .ok (.istore_n 3, 1) := by decide +kernel
theorem dX3_rankOfSegment_7 : decode cX3_rankOfSegment 7 = .ok (.iconst 0, 1) := by decide +kernel
theorem dX3_rankOfSegment_8 : decode cX3_rankOfSegment 8 = .ok (.istore 4, 2) := by decide +kernel
theorem dX3_rankOfSegment_10 : decode cX3_rankOfSegment 10 = .ok (.iconst 0, 1) := by decide +kernel
theorem dX3_rankOfSegment_11 : decode cX3_rankOfSegment 11 = .ok (.istore 5, 2) := by decide +kernel
theorem dX3_rankOfSegment_13 : decode cX3_rankOfSegment 13 = .ok (.iload 5, 2) := by decide +kernel
theorem dX3_rankOfSegment_15 : decode cX3_rankOfSegment 15 = .ok (.aload_n 0, 1) := by decide +kernel
theorem dX3_rankOfSegment_16 : decode cX3_rankOfSegment 16 = .ok (.iload_n 1, 1) := by decide +kernel
theorem dX3_rankOfSegment_17 : decode cX3_rankOfSegment 17 = .ok (.invokevirtual 27, 3) := by decide +kernel
theorem dX3_rankOfSegment_20 : decode cX3_rankOfSegment 20 = .ok (.if_icmp .ge 39, 3) := by decide +kernel
theorem dX3_rankOfSegment_23 : decode cX3_rankOfSegment 23 = .ok (.aload_n 0, 1) := by decide +kernel
theorem dX3_rankOfSegment_24 : decode cX3_rankOfSegment 24 = .ok (.iload_n 1, 1) := by decide +kernel
theorem dX3_rankOfSegment_25 : decode cX3_rankOfSegment 25 = .ok (.iload 5, 2) := by decide +kernel
theorem dX3_rankOfSegment_27 : decode cX3_rankOfSegment 27 = .ok (.invokevirtual 47, 3) := by decide +kernel
theorem dX3_rankOfSegment_30 : decode cX3_rankOfSegment 30 = .ok (.istore 6, 2) := by decide +kernel
theorem dX3_rankOfSegment_32 : decode cX3_rankOfSegment 32 = .ok (.iload 6, 2) := by decide +kernel
theorem dX3_rankOfSegment_34 : decode cX3_rankOfSegment 34 = .ok (.iload_n 3, 1) := by decide +kernel
theorem dX3_rankOfSegment_35 : decode cX3_rankOfSegment 35 = .ok (.if_icmp .gt 15, 3) := by decide +kernel
theorem dX3_rankOfSegment_38 : decode cX3_rankOfSegment 38 = .ok (.iload 6, 2) := by decide +kernel
theorem dX3_rankOfSegment_40 : decode cX3_rankOfSegment 40 = .ok (.iload_n 3, 1) := by decide +kernel
theorem dX3_rankOfSegment_41 : decode cX3_rankOfSegment 41 = .ok (.if_icmp .ne 12, 3) := by decide +kernel
theorem dX3_rankOfSegment_44 : decode cX3_rankOfSegment 44 = .ok (.iload 5, 2) := by decide +kernel
theorem dX3_rankOfSegment_46 : decode cX3_rankOfSegment 46 = .ok (.iload_n 2, 1) := by decide +kernel
theorem dX3_rankOfSegment_47 : decode cX3_rankOfSegment 47 = .ok (.if_icmp .ge 6, 3) := by decide +kernel
theorem dX3_rankOfSegment_50 : decode cX3_rankOfSegment 50 = .ok (.iinc 4 1, 3) := by decide +kernel
theorem dX3_rankOfSegment_53 : decode cX3_rankOfSegment 53 = .ok (.iinc 5 1, 3) := by decide +kernel
theorem dX3_rankOfSegment_56 : decode cX3_rankOfSegment 56 = .ok (.goto (-43), 3) := by decide +kernel
theorem dX3_rankOfSegment_59 : decode cX3_rankOfSegment 59 = .ok (.iload 4, 2) := by decide +kernel
theorem dX3_rankOfSegment_61 : decode cX3_rankOfSegment 61 = .ok (.ireturn, 1) := by decide +kernel
theorem dX3_longestRunOf_0 : decode cX3_longestRunOf 0 = .ok (.iconst 0, 1) := by decide +kernel
theorem dX3_longestRunOf_1 : decode cX3_longestRunOf 1 = .ok (.istore_n 2, 1) := by decide +kernel
theorem dX3_longestRunOf_2 : decode cX3_longestRunOf 2 = .ok (.iconst 0, 1) := by decide +kernel
theorem dX3_longestRunOf_3 : decode cX3_longestRunOf 3 = .ok (.istore_n 3, 1) := by decide +kernel
theorem dX3_longestRunOf_4 : decode cX3_longestRunOf 4 = .ok (.iconst 0, 1) := by decide +kernel
theorem dX3_longestRunOf_5 : decode cX3_longestRunOf 5 = .ok (.istore 4, 2) := by decide +kernel
theorem dX3_longestRunOf_7 : decode cX3_longestRunOf 7 = .ok (.iload 4, 2) := by decide +kernel
theorem dX3_longestRunOf_9 : decode cX3_longestRunOf 9 = .ok (.aload_n 0, 1) := by decide +kernel
theorem dX3_longestRunOf_10 : decode cX3_longestRunOf 10 = .ok (.iload_n 1, 1) := by decide +kernel
theorem dX3_longestRunOf_11 : decode cX3_longestRunOf 11 = .ok (.invokevirtual 27, 3) := by decide +kernel
theorem dX3_longestRunOf_14 : decode cX3_longestRunOf 14 = .ok (.if_icmp .ge 35, 3) := by decide +kernel
theorem dX3_longestRunOf_17 : decode cX3_longestRunOf 17 = .ok (.aload_n 0, 1) := by decide +kernel
theorem dX3_longestRunOf_18 : decode cX3_longestRunOf 18 = .ok (.iload_n 1, 1) := by decide +kernel
theorem dX3_longestRunOf_19 : decode cX3_longestRunOf 19 = .ok (.iload 4, 2) := by decide +kernel
theorem dX3_longestRunOf_21 : decode cX3_longestRunOf 21 = .ok (.iconst 1, 1) := by decide +kernel
theorem dX3_longestRunOf_22 : decode cX3_longestRunOf 22 = .ok (.isub, 1) := by decide +kernel
theorem dX3_longestRunOf_23 : decode cX3_longestRunOf 23 = .ok (.invokevirtual 69, 3) := by decide +kernel
theorem dX3_longestRunOf_26 : decode cX3_longestRunOf 26 = .ok (.ifCond .eq 9, 3) := by decide +kernel
theorem dX3_longestRunOf_29 : decode cX3_longestRunOf 29 = .ok (.iload_n 3, 1) := by decide +kernel
theorem dX3_longestRunOf_30 : decode cX3_longestRunOf 30 = .ok (.iconst 1, 1) := by decide +kernel
theorem dX3_longestRunOf_31 : decode cX3_longestRunOf 31 = .ok (.iadd, 1) := by decide +kernel
theorem dX3_longestRunOf_32 : decode cX3_longestRunOf 32 = .ok (.goto 4, 3) := by decide +kernel
theorem dX3_longestRunOf_35 : decode cX3_longestRunOf 35 = .ok (.iconst 1, 1) := by decide +kernel
theorem dX3_longestRunOf_36 : decode cX3_longestRunOf 36 = .ok (.istore_n 3, 1) := by decide +kernel
theorem dX3_longestRunOf_37 : decode cX3_longestRunOf 37 = .ok (.iload_n 2, 1) := by decide +kernel
theorem dX3_longestRunOf_38 : decode cX3_longestRunOf 38 = .ok (.iload_n 3, 1) := by decide +kernel
theorem dX3_longestRunOf_39 : decode cX3_longestRunOf 39 = .ok (.invokestatic 85, 3) := by decide +kernel
theorem dX3_longestRunOf_42 : decode cX3_longestRunOf 42 = .ok (.istore_n 2, 1) := by decide +kernel
theorem dX3_longestRunOf_43 : decode cX3_longestRunOf 43 = .ok (.iinc 4 1, 3) := by decide +kernel
theorem dX3_longestRunOf_46 : decode cX3_longestRunOf 46 = .ok (.goto (-39), 3) := by decide +kernel
theorem dX3_longestRunOf_49 : decode cX3_longestRunOf 49 = .ok (.iload_n 2, 1) := by decide +kernel
theorem dX3_longestRunOf_50 : decode cX3_longestRunOf 50 = .ok (.ireturn, 1) := by decide +kernel
theorem dX3_positionOfColour_0 : decode cX3_positionOfColour 0 = .ok (.iload_n 2, 1) := by decide +kernel
theorem dX3_positionOfColour_1 : decode cX3_positionOfColour 1 = .ok (.istore 4, 2) := by decide +kernel
theorem dX3_positionOfColour_3 : decode cX3_positionOfColour 3 = .ok (.iload 4, 2) := by decide +kernel
theorem dX3_positionOfColour_5 : decode cX3_positionOfColour 5 = .ok (.aload_n 0, 1) := by decide +kernel
theorem dX3_positionOfColour_6 : decode cX3_positionOfColour 6 = .ok (.iload_n 1, 1) := by decide +kernel
theorem dX3_positionOfColour_7 : decode cX3_positionOfColour 7 = .ok (.invokevirtual 27, 3) := by decide +kernel
theorem dX3_positionOfColour_10 : decode cX3_positionOfColour 10 = .ok (.if_icmp .ge 23, 3) := by decide +kernel
theorem dX3_positionOfColour_13 : decode cX3_positionOfColour 13 = .ok (.aload_n 0, 1) := by decide +kernel
theorem dX3_positionOfColour_14 : decode cX3_positionOfColour 14 = .ok (.iload_n 1, 1) := by decide +kernel
theorem dX3_positionOfColour_15 : decode cX3_positionOfColour 15 = .ok (.iload 4, 2) := by decide +kernel
theorem dX3_positionOfColour_17 : decode cX3_positionOfColour 17 = .ok (.invokevirtual 37, 3) := by decide +kernel
theorem dX3_positionOfColour_20 : decode cX3_positionOfColour 20 = .ok (.iload_n 3, 1) := by decide +kernel
theorem dX3_positionOfColour_21 : decode cX3_positionOfColour 21 = .ok (.if_icmp .ne 6, 3) := by decide +kernel
theorem dX3_positionOfColour_24 : decode cX3_positionOfColour 24 = .ok (.iload 4, 2) := by decide +kernel
theorem dX3_positionOfColour_26 : decode cX3_positionOfColour 26 = .ok (.ireturn, 1) := by decide +kernel
theorem dX3_positionOfColour_27 : decode cX3_positionOfColour 27 = .ok (.iinc 4 1, 3) := by decide +kernel
theorem dX3_positionOfColour_30 : decode cX3_positionOfColour 30 = .ok (.goto (-27), 3) := by decide +kernel
theorem dX3_positionOfColour_33 : decode cX3_positionOfColour 33 = .ok (.iconst (-1), 1) := by decide +kernel
theorem dX3_positionOfColour_34 : decode cX3_positionOfColour 34 = .ok (.ireturn, 1) := by decide +kernel
theorem dX3_sumOfColour_0 : decode cX3_sumOfColour 0 = .ok (.iconst 0, 1) := by decide +kernel
theorem dX3_sumOfColour_1 : decode cX3_sumOfColour 1 = .ok (.istore_n 3, 1) := by decide +kernel
theorem dX3_sumOfColour_2 : decode cX3_sumOfColour 2 = .ok (.iconst 0, 1) := by decide +kernel
theorem dX3_sumOfColour_3 : decode cX3_sumOfColour 3 = .ok (.istore 4, 2) := by decide +kernel
theorem dX3_sumOfColour_5 : decode cX3_sumOfColour 5 = .ok (.iload 4, 2) := by decide +kernel
theorem dX3_sumOfColour_7 : decode cX3_sumOfColour 7 = .ok (.aload_n 0, 1) := by decide +kernel
theorem dX3_sumOfColour_8 : decode cX3_sumOfColour 8 = .ok (.iload_n 1, 1) := by decide +kernel
theorem dX3_sumOfColour_9 : decode cX3_sumOfColour 9 = .ok (.invokevirtual 27, 3) := by decide +kernel
theorem dX3_sumOfColour_12 : decode cX3_sumOfColour 12 = .ok (.if_icmp .ge 30, 3) := by decide +kernel
theorem dX3_sumOfColour_15 : decode cX3_sumOfColour 15 = .ok (.aload_n 0, 1) := by decide +kernel
theorem dX3_sumOfColour_16 : decode cX3_sumOfColour 16 = .ok (.iload_n 1, 1) := by decide +kernel
theorem dX3_sumOfColour_17 : decode cX3_sumOfColour 17 = .ok (.iload 4, 2) := by decide +kernel
theorem dX3_sumOfColour_19 : decode cX3_sumOfColour 19 = .ok (.invokevirtual 37, 3) := by decide +kernel
theorem dX3_sumOfColour_22 : decode cX3_sumOfColour 22 = .ok (.iload_n 2, 1) := by decide +kernel
theorem dX3_sumOfColour_23 : decode cX3_sumOfColour 23 = .ok (.if_icmp .ne 13, 3) := by decide +kernel
theorem dX3_sumOfColour_26 : decode cX3_sumOfColour 26 = .ok (.iload_n 3, 1) := by decide +kernel
theorem dX3_sumOfColour_27 : decode cX3_sumOfColour 27 = .ok (.aload_n 0, 1) := by decide +kernel
theorem dX3_sumOfColour_28 : decode cX3_sumOfColour 28 = .ok (.iload_n 1, 1) := by decide +kernel
theorem dX3_sumOfColour_29 : decode cX3_sumOfColour 29 = .ok (.iload 4, 2) := by decide +kernel
theorem dX3_sumOfColour_31 : decode cX3_sumOfColour 31 = .ok (.invokevirtual 47, 3) := by decide +kernel
theorem dX3_sumOfColour_34 : decode cX3_sumOfColour 34 = .ok (.iadd, 1) := by decide +kernel
theorem dX3_sumOfColour_35 : decode cX3_sumOfColour 35 = .ok (.istore_n 3, 1) := by decide +kernel
theorem dX3_sumOfColour_36 : decode cX3_sumOfColour 36 = .ok (.iinc 4 1, 3) := by decide +kernel
theorem dX3_sumOfColour_39 : decode cX3_sumOfColour 39 = .ok (.goto (-34), 3) := by decide +kernel
theorem dX3_sumOfColour_42 : decode cX3_sumOfColour 42 = .ok (.iload_n 3, 1) := by decide +kernel
theorem dX3_sumOfColour_43 : decode cX3_sumOfColour 43 = .ok (.ireturn, 1) := by decide +kernel
theorem dX3_colourOfRank_0 : decode cX3_colourOfRank 0 = .ok (.iconst 0, 1) := by decide +kernel
theorem dX3_colourOfRank_1 : decode cX3_colourOfRank 1 = .ok (.istore_n 3, 1) := by decide +kernel
theorem dX3_colourOfRank_2 : decode cX3_colourOfRank 2 = .ok (.iload_n 3, 1) := by decide +kernel
theorem dX3_colourOfRank_3 : decode cX3_colourOfRank 3 = .ok (.bipush 8, 2) := by decide +kernel
theorem dX3_colourOfRank_5 : decode cX3_colourOfRank 5 = .ok (.if_icmp .ge 36, 3) := by decide +kernel
theorem dX3_colourOfRank_8 : decode cX3_colourOfRank 8 = .ok (.aload_n 0, 1) := by decide +kernel
theorem dX3_colourOfRank_9 : decode cX3_colourOfRank 9 = .ok (.iload_n 1, 1) := by decide +kernel
theorem dX3_colourOfRank_10 : decode cX3_colourOfRank 10 = .ok (.iload_n 3, 1) := by decide +kernel
theorem dX3_colourOfRank_11 : decode cX3_colourOfRank 11 = .ok (.invokevirtual 88, 3) := by decide +kernel
theorem dX3_colourOfRank_14 : decode cX3_colourOfRank 14 = .ok (.istore 4, 2) := by decide +kernel
theorem dX3_colourOfRank_16 : decode cX3_colourOfRank 16 = .ok (.iload 4, 2) := by decide +kernel
theorem dX3_colourOfRank_18 : decode cX3_colourOfRank 18 = .ok (.ifCond .le 17, 3) := by decide +kernel
theorem dX3_colourOfRank_21 : decode cX3_colourOfRank 21 = .ok (.aload_n 0, 1) := by decide +kernel
theorem dX3_colourOfRank_22 : decode cX3_colourOfRank 22 = .ok (.iload_n 1, 1) := by decide +kernel
theorem dX3_colourOfRank_23 : decode cX3_colourOfRank 23 = .ok (.iload_n 3, 1) := by decide +kernel
theorem dX3_colourOfRank_24 : decode cX3_colourOfRank 24 = .ok (.iload 4, 2) := by decide +kernel
theorem dX3_colourOfRank_26 : decode cX3_colourOfRank 26 = .ok (.invokevirtual 91, 3) := by decide +kernel
theorem dX3_colourOfRank_29 : decode cX3_colourOfRank 29 = .ok (.iload_n 2, 1) := by decide +kernel
theorem dX3_colourOfRank_30 : decode cX3_colourOfRank 30 = .ok (.if_icmp .ne 5, 3) := by decide +kernel
theorem dX3_colourOfRank_33 : decode cX3_colourOfRank 33 = .ok (.iload_n 3, 1) := by decide +kernel
theorem dX3_colourOfRank_34 : decode cX3_colourOfRank 34 = .ok (.ireturn, 1) := by decide +kernel
theorem dX3_colourOfRank_35 : decode cX3_colourOfRank 35 = .ok (.iinc 3 1, 3) := by decide +kernel
theorem dX3_colourOfRank_38 : decode cX3_colourOfRank 38 = .ok (.goto (-36), 3) := by decide +kernel
theorem dX3_colourOfRank_41 : decode cX3_colourOfRank 41 = .ok (.iconst (-1), 1) := by decide +kernel
theorem dX3_colourOfRank_42 : decode cX3_colourOfRank 42 = .ok (.ireturn, 1) := by decide +kernel
theorem dX3_rankOfColour_0 : decode cX3_rankOfColour 0 = .ok (.iconst 0, 1) := by decide +kernel
theorem dX3_rankOfColour_1 : decode cX3_rankOfColour 1 = .ok (.istore 4, 2) := by decide +kernel
theorem dX3_rankOfColour_3 : decode cX3_rankOfColour 3 = .ok (.iconst 0, 1) := by decide +kernel
theorem dX3_rankOfColour_4 : decode cX3_rankOfColour 4 = .ok (.istore 5, 2) := by decide +kernel
theorem dX3_rankOfColour_6 : decode cX3_rankOfColour 6 = .ok (.iload 5, 2) := by decide +kernel
theorem dX3_rankOfColour_8 : decode cX3_rankOfColour 8 = .ok (.bipush 8, 2) := by decide +kernel
theorem dX3_rankOfColour_10 : decode cX3_rankOfColour 10 = .ok (.if_icmp .ge 39, 3) := by decide +kernel
theorem dX3_rankOfColour_13 : decode cX3_rankOfColour 13 = .ok (.aload_n 0, 1) := by decide +kernel
theorem dX3_rankOfColour_14 : decode cX3_rankOfColour 14 = .ok (.iload_n 1, 1) := by decide +kernel
theorem dX3_rankOfColour_15 : decode cX3_rankOfColour 15 = .ok (.iload 5, 2) := by decide +kernel
theorem dX3_rankOfColour_17 : decode cX3_rankOfColour 17 = .ok (.invokevirtual 88, 3) := by decide +kernel
theorem dX3_rankOfColour_20 : decode cX3_rankOfColour 20 = .ok (.istore 6, 2) := by decide +kernel
theorem dX3_rankOfColour_22 : decode cX3_rankOfColour 22 = .ok (.iload 6, 2) := by decide +kernel
theorem dX3_rankOfColour_24 : decode cX3_rankOfColour 24 = .ok (.iload_n 3, 1) := by decide +kernel
theorem dX3_rankOfColour_25 : decode cX3_rankOfColour 25 = .ok (.if_icmp .gt 15, 3) := by decide +kernel
theorem dX3_rankOfColour_28 : decode cX3_rankOfColour 28 = .ok (.iload 6, 2) := by decide +kernel
theorem dX3_rankOfColour_30 : decode cX3_rankOfColour 30 = .ok (.iload_n 3, 1) := by decide +kernel
theorem dX3_rankOfColour_31 : decode cX3_rankOfColour 31 = .ok (.if_icmp .ne 12, 3) := by decide +kernel
theorem dX3_rankOfColour_34 : decode cX3_rankOfColour 34 = .ok (.iload 5, 2) := by decide +kernel
theorem dX3_rankOfColour_36 : decode cX3_rankOfColour 36 = .ok (.iload_n 2, 1) := by decide +kernel
theorem dX3_rankOfColour_37 : decode cX3_rankOfColour 37 = .ok (.if_icmp .ge 6, 3) := by decide +kernel
theorem dX3_rankOfColour_40 : decode cX3_rankOfColour 40 = .ok (.iinc 4 1, 3) := by decide +kernel
theorem dX3_rankOfColour_43 : decode cX3_rankOfColour 43 = .ok (.iinc 5 1, 3) := by decide +kernel
theorem dX3_rankOfColour_46 : decode cX3_rankOfColour 46 = .ok (.goto (-40), 3) := by decide +kernel
theorem dX3_rankOfColour_49 : decode cX3_rankOfColour 49 = .ok (.iload 4, 2) := by decide +kernel
theorem dX3_rankOfColour_51 : decode cX3_rankOfColour 51 = .ok (.ireturn, 1) := by decide +kernel
theorem dX3_readsTheSameBackwards_0 : decode cX3_readsTheSameBackwards 0 = .ok (.iconst 0, 1) := by decide +kernel
theorem dX3_readsTheSameBackwards_1 : decode cX3_readsTheSameBackwards 1 = .ok (.istore_n 2, 1) := by decide +kernel
theorem dX3_readsTheSameBackwards_2 : decode cX3_readsTheSameBackwards 2 = .ok (.aload_n 0, 1) := by decide +kernel
theorem dX3_readsTheSameBackwards_3 : decode cX3_readsTheSameBackwards 3 = .ok (.iload_n 1, 1) := by decide +kernel
theorem dX3_readsTheSameBackwards_4 : decode cX3_readsTheSameBackwards 4 = .ok (.invokevirtual 27, 3) := by decide +kernel
theorem dX3_readsTheSameBackwards_7 : decode cX3_readsTheSameBackwards 7 = .ok (.iconst 1, 1) := by decide +kernel
theorem dX3_readsTheSameBackwards_8 : decode cX3_readsTheSameBackwards 8 = .ok (.isub, 1) := by decide +kernel
theorem dX3_readsTheSameBackwards_9 : decode cX3_readsTheSameBackwards 9 = .ok (.istore_n 3, 1) := by decide +kernel
theorem dX3_readsTheSameBackwards_10 : decode cX3_readsTheSameBackwards 10 = .ok (.iload_n 2, 1) := by decide +kernel
theorem dX3_readsTheSameBackwards_11 : decode cX3_readsTheSameBackwards 11 = .ok (.iload_n 3, 1) := by decide +kernel
theorem dX3_readsTheSameBackwards_12 : decode cX3_readsTheSameBackwards 12 = .ok (.if_icmp .ge 29, 3) := by decide +kernel
theorem dX3_readsTheSameBackwards_15 : decode cX3_readsTheSameBackwards 15 = .ok (.aload_n 0, 1) := by decide +kernel
theorem dX3_readsTheSameBackwards_16 : decode cX3_readsTheSameBackwards 16 = .ok (.iload_n 1, 1) := by decide +kernel
theorem dX3_readsTheSameBackwards_17 : decode cX3_readsTheSameBackwards 17 = .ok (.iload_n 2, 1) := by decide +kernel
theorem dX3_readsTheSameBackwards_18 : decode cX3_readsTheSameBackwards 18 = .ok (.invokevirtual 34, 3) := by decide +kernel
theorem dX3_readsTheSameBackwards_21 : decode cX3_readsTheSameBackwards 21 = .ok (.aload_n 0, 1) := by decide +kernel
theorem dX3_readsTheSameBackwards_22 : decode cX3_readsTheSameBackwards 22 = .ok (.iload_n 1, 1) := by decide +kernel
theorem dX3_readsTheSameBackwards_23 : decode cX3_readsTheSameBackwards 23 = .ok (.iload_n 3, 1) := by decide +kernel
theorem dX3_readsTheSameBackwards_24 : decode cX3_readsTheSameBackwards 24 = .ok (.invokevirtual 34, 3) := by decide +kernel
theorem dX3_readsTheSameBackwards_27 : decode cX3_readsTheSameBackwards 27 = .ok (.if_icmp .eq 5, 3) := by decide +kernel
theorem dX3_readsTheSameBackwards_30 : decode cX3_readsTheSameBackwards 30 = .ok (.iconst 0, 1) := by decide +kernel
theorem dX3_readsTheSameBackwards_31 : decode cX3_readsTheSameBackwards 31 = .ok (.ireturn, 1) := by decide +kernel
theorem dX3_readsTheSameBackwards_32 : decode cX3_readsTheSameBackwards 32 = .ok (.iinc 2 1, 3) := by decide +kernel
theorem dX3_readsTheSameBackwards_35 : decode cX3_readsTheSameBackwards 35 = .ok (.iinc 3 (-1), 3) := by decide +kernel
theorem dX3_readsTheSameBackwards_38 : decode cX3_readsTheSameBackwards 38 = .ok (.goto (-28), 3) := by decide +kernel
theorem dX3_readsTheSameBackwards_41 : decode cX3_readsTheSameBackwards 41 = .ok (.iconst 1, 1) := by decide +kernel
theorem dX3_readsTheSameBackwards_42 : decode cX3_readsTheSameBackwards 42 = .ok (.ireturn, 1) := by decide +kernel
theorem dX3_sharedBeginning_0 : decode cX3_sharedBeginning 0 = .ok (.aload_n 0, 1) := by decide +kernel
theorem dX3_sharedBeginning_1 : decode cX3_sharedBeginning 1 = .ok (.iload_n 1, 1) := by decide +kernel
theorem dX3_sharedBeginning_2 : decode cX3_sharedBeginning 2 = .ok (.invokevirtual 27, 3) := by decide +kernel
theorem dX3_sharedBeginning_5 : decode cX3_sharedBeginning 5 = .ok (.aload_n 0, 1) := by decide +kernel
theorem dX3_sharedBeginning_6 : decode cX3_sharedBeginning 6 = .ok (.iload_n 2, 1) := by decide +kernel
theorem dX3_sharedBeginning_7 : decode cX3_sharedBeginning 7 = .ok (.invokevirtual 27, 3) := by decide +kernel
theorem dX3_sharedBeginning_10 : decode cX3_sharedBeginning 10 = .ok (.invokestatic 64, 3) := by decide +kernel
theorem dX3_sharedBeginning_13 : decode cX3_sharedBeginning 13 = .ok (.istore_n 3, 1) := by decide +kernel
theorem dX3_sharedBeginning_14 : decode cX3_sharedBeginning 14 = .ok (.iconst 0, 1) := by decide +kernel
theorem dX3_sharedBeginning_15 : decode cX3_sharedBeginning 15 = .ok (.istore 4, 2) := by decide +kernel
theorem dX3_sharedBeginning_17 : decode cX3_sharedBeginning 17 = .ok (.iload 4, 2) := by decide +kernel
theorem dX3_sharedBeginning_19 : decode cX3_sharedBeginning 19 = .ok (.iload_n 3, 1) := by decide +kernel
theorem dX3_sharedBeginning_20 : decode cX3_sharedBeginning 20 = .ok (.if_icmp .ge 29, 3) := by decide +kernel
theorem dX3_sharedBeginning_23 : decode cX3_sharedBeginning 23 = .ok (.aload_n 0, 1) := by decide +kernel
theorem dX3_sharedBeginning_24 : decode cX3_sharedBeginning 24 = .ok (.iload_n 1, 1) := by decide +kernel
theorem dX3_sharedBeginning_25 : decode cX3_sharedBeginning 25 = .ok (.iload 4, 2) := by decide +kernel
theorem dX3_sharedBeginning_27 : decode cX3_sharedBeginning 27 = .ok (.invokevirtual 34, 3) := by decide +kernel
theorem dX3_sharedBeginning_30 : decode cX3_sharedBeginning 30 = .ok (.aload_n 0, 1) := by decide +kernel
theorem dX3_sharedBeginning_31 : decode cX3_sharedBeginning 31 = .ok (.iload_n 2, 1) := by decide +kernel
theorem dX3_sharedBeginning_32 : decode cX3_sharedBeginning 32 = .ok (.iload 4, 2) := by decide +kernel
theorem dX3_sharedBeginning_34 : decode cX3_sharedBeginning 34 = .ok (.invokevirtual 34, 3) := by decide +kernel
theorem dX3_sharedBeginning_37 : decode cX3_sharedBeginning 37 = .ok (.if_icmp .eq 6, 3) := by decide +kernel
theorem dX3_sharedBeginning_40 : decode cX3_sharedBeginning 40 = .ok (.iload 4, 2) := by decide +kernel
theorem dX3_sharedBeginning_42 : decode cX3_sharedBeginning 42 = .ok (.ireturn, 1) := by decide +kernel
theorem dX3_sharedBeginning_43 : decode cX3_sharedBeginning 43 = .ok (.iinc 4 1, 3) := by decide +kernel
theorem dX3_sharedBeginning_46 : decode cX3_sharedBeginning 46 = .ok (.goto (-29), 3) := by decide +kernel
theorem dX3_sharedBeginning_49 : decode cX3_sharedBeginning 49 = .ok (.iload_n 3, 1) := by decide +kernel
theorem dX3_sharedBeginning_50 : decode cX3_sharedBeginning 50 = .ok (.ireturn, 1) := by decide +kernel
theorem dX4_init_0 : decode cX4_init 0 = .ok (.aload_n 0, 1) := by decide +kernel
theorem dX4_init_1 : decode cX4_init 1 = .ok (.invokespecial 3, 3) := by decide +kernel
theorem dX4_init_4 : decode cX4_init 4 = .ok (.aload_n 0, 1) := by decide +kernel
theorem dX4_init_5 : decode cX4_init 5 = .ok (.new 9, 3) := by decide +kernel
theorem dX4_init_8 : decode cX4_init 8 = .ok (.dup, 1) := by decide +kernel
theorem dX4_init_9 : decode cX4_init 9 = .ok (.invokespecial 11, 3) := by decide +kernel
theorem dX4_init_12 : decode cX4_init 12 = .ok (.putfield 12, 3) := by decide +kernel
theorem dX4_init_15 : decode cX4_init 15 = .ok (.aload_n 0, 1) := by decide +kernel
theorem dX4_init_16 : decode cX4_init 16 = .ok (.sipush 310, 3) := by decide +kernel
theorem dX4_init_19 : decode cX4_init 19 = .ok (.newarray .int, 2) := by decide +kernel
theorem dX4_init_21 : decode cX4_init 21 = .ok (.putfield 16, 3) := by decide +kernel
theorem dX4_init_24 : decode cX4_init 24 = .ok (.aload_n 0, 1) := by decide +kernel
theorem dX4_init_25 : decode cX4_init 25 = .ok (.sipush 310, 3) := by decide +kernel
theorem dX4_init_28 : decode cX4_init 28 = .ok (.newarray .int, 2) := by decide +kernel
theorem dX4_init_30 : decode cX4_init 30 = .ok (.putfield 20, 3) := by decide +kernel
theorem dX4_init_33 : decode cX4_init 33 = .ok (.aload_n 0, 1) := by decide +kernel
theorem dX4_init_34 : decode cX4_init 34 = .ok (.iconst 0, 1) := by decide +kernel
theorem dX4_init_35 : decode cX4_init 35 = .ok (.putfield 23, 3) := by decide +kernel
theorem dX4_init_38 : decode cX4_init 38 = .ok (.aload_n 0, 1) := by decide +kernel
theorem dX4_init_39 : decode cX4_init 39 = .ok (.new 27, 3) := by decide +kernel
theorem dX4_init_42 : decode cX4_init 42 = .ok (.dup, 1) := by decide +kernel
theorem dX4_init_43 : decode cX4_init 43 = .ok (.invokespecial 29, 3) := by decide +kernel
theorem dX4_init_46 : decode cX4_init 46 = .ok (.putfield 30, 3) := by decide +kernel
theorem dX4_init_49 : decode cX4_init 49 = .ok (.aload_n 0, 1) := by decide +kernel
theorem dX4_init_50 : decode cX4_init 50 = .ok (.new 34, 3) := by decide +kernel
theorem dX4_init_53 : decode cX4_init 53 = .ok (.dup, 1) := by decide +kernel
theorem dX4_init_54 : decode cX4_init 54 = .ok (.invokespecial 36, 3) := by decide +kernel
theorem dX4_init_57 : decode cX4_init 57 = .ok (.putfield 37, 3) := by decide +kernel
theorem dX4_init_60 : decode cX4_init 60 = .ok (.aload_n 0, 1) := by decide +kernel
theorem dX4_init_61 : decode cX4_init 61 = .ok (.new 41, 3) := by decide +kernel
theorem dX4_init_64 : decode cX4_init 64 = .ok (.dup, 1) := by decide +kernel
theorem dX4_init_65 : decode cX4_init 65 = .ok (.invokespecial 43, 3) := by decide +kernel
theorem dX4_init_68 : decode cX4_init 68 = .ok (.putfield 44, 3) := by decide +kernel
theorem dX4_init_71 : decode cX4_init 71 = .ok (.aload_n 0, 1) := by decide +kernel
theorem dX4_init_72 : decode cX4_init 72 = .ok (.iconst (-1), 1) := by decide +kernel
theorem dX4_init_73 : decode cX4_init 73 = .ok (.putfield 48, 3) := by decide +kernel
theorem dX4_init_76 : decode cX4_init 76 = .ok (.aload_n 0, 1) := by decide +kernel
theorem dX4_init_77 : decode cX4_init 77 = .ok (.iconst (-1), 1) := by decide +kernel
theorem dX4_init_78 : decode cX4_init 78 = .ok (.putfield 52, 3) := by decide +kernel
theorem dX4_init_81 : decode cX4_init 81 = .ok (.return_, 1) := by decide +kernel
theorem dX4_append_0 : decode cX4_append 0 = .ok (.aload_n 0, 1) := by decide +kernel
theorem dX4_append_1 : decode cX4_append 1 = .ok (.iconst 0, 1) := by decide +kernel
theorem dX4_append_2 : decode cX4_append 2 = .ok (.iload_n 1, 1) := by decide +kernel
theorem dX4_append_3 : decode cX4_append 3 = .ok (.iload_n 2, 1) := by decide +kernel
theorem dX4_append_4 : decode cX4_append 4 = .ok (.iload_n 3, 1) := by decide +kernel
theorem dX4_append_5 : decode cX4_append 5 = .ok (.iconst 0, 1) := by decide +kernel
theorem dX4_append_6 : decode cX4_append 6 = .ok (.invokevirtual 55, 3) := by decide +kernel
theorem dX4_append_9 : decode cX4_append 9 = .ok (.ireturn, 1) := by decide +kernel
theorem dX4_insert_0 : decode cX4_insert 0 = .ok (.aload_n 0, 1) := by decide +kernel
theorem dX4_insert_1 : decode cX4_insert 1 = .ok (.iconst 1, 1) := by decide +kernel
theorem dX4_insert_2 : decode cX4_insert 2 = .ok (.iload_n 1, 1) := by decide +kernel
theorem dX4_insert_3 : decode cX4_insert 3 = .ok (.iload_n 2, 1) := by decide +kernel
theorem dX4_insert_4 : decode cX4_insert 4 = .ok (.iload_n 3, 1) := by decide +kernel
theorem dX4_insert_5 : decode cX4_insert 5 = .ok (.iload 4, 2) := by decide +kernel
theorem dX4_insert_7 : decode cX4_insert 7 = .ok (.invokevirtual 55, 3) := by decide +kernel
theorem dX4_insert_10 : decode cX4_insert 10 = .ok (.ireturn, 1) := by decide +kernel
theorem dX4_remove_0 : decode cX4_remove 0 = .ok (.aload_n 0, 1) := by decide +kernel
theorem dX4_remove_1 : decode cX4_remove 1 = .ok (.iconst 2, 1) := by decide +kernel
theorem dX4_remove_2 : decode cX4_remove 2 = .ok (.iload_n 1, 1) := by decide +kernel
theorem dX4_remove_3 : decode cX4_remove 3 = .ok (.iload_n 2, 1) := by decide +kernel
theorem dX4_remove_4 : decode cX4_remove 4 = .ok (.iconst 0, 1) := by decide +kernel
theorem dX4_remove_5 : decode cX4_remove 5 = .ok (.iconst 0, 1) := by decide +kernel
theorem dX4_remove_6 : decode cX4_remove 6 = .ok (.invokevirtual 55, 3) := by decide +kernel
theorem dX4_remove_9 : decode cX4_remove 9 = .ok (.ireturn, 1) := by decide +kernel
theorem dX4_retie_0 : decode cX4_retie 0 = .ok (.aload_n 0, 1) := by decide +kernel
theorem dX4_retie_1 : decode cX4_retie 1 = .ok (.iconst 3, 1) := by decide +kernel
theorem dX4_retie_2 : decode cX4_retie 2 = .ok (.iload_n 1, 1) := by decide +kernel
theorem dX4_retie_3 : decode cX4_retie 3 = .ok (.iload_n 2, 1) := by decide +kernel
theorem dX4_retie_4 : decode cX4_retie 4 = .ok (.iload_n 3, 1) := by decide +kernel
theorem dX4_retie_5 : decode cX4_retie 5 = .ok (.iconst 0, 1) := by decide +kernel
theorem dX4_retie_6 : decode cX4_retie 6 = .ok (.invokevirtual 55, 3) := by decide +kernel
theorem dX4_retie_9 : decode cX4_retie 9 = .ok (.ireturn, 1) := by decide +kernel
theorem dX4_segmentCount_0 : decode cX4_segmentCount 0 = .ok (.iload_n 1, 1) := by decide +kernel
theorem dX4_segmentCount_1 : decode cX4_segmentCount 1 = .ok (.invokestatic 59, 3) := by decide +kernel
theorem dX4_segmentCount_4 : decode cX4_segmentCount 4 = .ok (.invokestatic 63, 3) := by decide +kernel
theorem dX4_segmentCount_7 : decode cX4_segmentCount 7 = .ok (.aload_n 0, 1) := by decide +kernel
theorem dX4_segmentCount_8 : decode cX4_segmentCount 8 = .ok (.getfield 12, 3) := by decide +kernel
theorem dX4_segmentCount_11 : decode cX4_segmentCount 11 = .ok (.iload_n 1, 1) := by decide +kernel
theorem dX4_segmentCount_12 : decode cX4_segmentCount 12 = .ok (.invokevirtual 67, 3) := by decide +kernel
theorem dX4_segmentCount_15 : decode cX4_segmentCount 15 = .ok (.ireturn, 1) := by decide +kernel
theorem dX4_length_0 : decode cX4_length 0 = .ok (.aload_n 0, 1) := by decide +kernel
theorem dX4_length_1 : decode cX4_length 1 = .ok (.iload_n 1, 1) := by decide +kernel
theorem dX4_length_2 : decode cX4_length 2 = .ok (.iload_n 2, 1) := by decide +kernel
theorem dX4_length_3 : decode cX4_length 3 = .ok (.invokevirtual 70, 3) := by decide +kernel
theorem dX4_length_6 : decode cX4_length 6 = .ok (.invokestatic 63, 3) := by decide +kernel
theorem dX4_length_9 : decode cX4_length 9 = .ok (.aload_n 0, 1) := by decide +kernel
theorem dX4_length_10 : decode cX4_length 10 = .ok (.getfield 12, 3) := by decide +kernel
theorem dX4_length_13 : decode cX4_length 13 = .ok (.iload_n 1, 1) := by decide +kernel
theorem dX4_length_14 : decode cX4_length 14 = .ok (.iload_n 2, 1) := by decide +kernel
theorem dX4_length_15 : decode cX4_length 15 = .ok (.invokevirtual 74, 3) := by decide +kernel
theorem dX4_length_18 : decode cX4_length 18 = .ok (.ireturn, 1) := by decide +kernel
theorem dX4_colour_0 : decode cX4_colour 0 = .ok (.aload_n 0, 1) := by decide +kernel
theorem dX4_colour_1 : decode cX4_colour 1 = .ok (.iload_n 1, 1) := by decide +kernel
theorem dX4_colour_2 : decode cX4_colour 2 = .ok (.iload_n 2, 1) := by decide +kernel
theorem dX4_colour_3 : decode cX4_colour 3 = .ok (.invokevirtual 70, 3) := by decide +kernel
theorem dX4_colour_6 : decode cX4_colour 6 = .ok (.invokestatic 63, 3) := by decide +kernel
theorem dX4_colour_9 : decode cX4_colour 9 = .ok (.aload_n 0, 1) := by decide +kernel
theorem dX4_colour_10 : decode cX4_colour 10 = .ok (.getfield 12, 3) := by decide +kernel
theorem dX4_colour_13 : decode cX4_colour 13 = .ok (.iload_n 1, 1) := by decide +kernel
theorem dX4_colour_14 : decode cX4_colour 14 = .ok (.iload_n 2, 1) := by decide +kernel
theorem dX4_colour_15 : decode cX4_colour 15 = .ok (.invokevirtual 77, 3) := by decide +kernel
theorem dX4_colour_18 : decode cX4_colour 18 = .ok (.ireturn, 1) := by decide +kernel
theorem dX4_cut_0 : decode cX4_cut 0 = .ok (.aload_n 0, 1) := by decide +kernel
theorem dX4_cut_1 : decode cX4_cut 1 = .ok (.iconst 4, 1) := by decide +kernel
theorem dX4_cut_2 : decode cX4_cut 2 = .ok (.iload_n 1, 1) := by decide +kernel
theorem dX4_cut_3 : decode cX4_cut 3 = .ok (.iload_n 2, 1) := by decide +kernel
theorem dX4_cut_4 : decode cX4_cut 4 = .ok (.iload_n 3, 1) := by decide +kernel
theorem dX4_cut_5 : decode cX4_cut 5 = .ok (.iconst 0, 1) := by decide +kernel
theorem dX4_cut_6 : decode cX4_cut 6 = .ok (.invokevirtual 55, 3) := by decide +kernel
theorem dX4_cut_9 : decode cX4_cut 9 = .ok (.ireturn, 1) := by decide +kernel
theorem dX4_splice_0 : decode cX4_splice 0 = .ok (.aload_n 0, 1) := by decide +kernel
theorem dX4_splice_1 : decode cX4_splice 1 = .ok (.iconst 5, 1) := by decide +kernel
theorem dX4_splice_2 : decode cX4_splice 2 = .ok (.iload_n 1, 1) := by decide +kernel
theorem dX4_splice_3 : decode cX4_splice 3 = .ok (.iload_n 2, 1) := by decide +kernel
theorem dX4_splice_4 : decode cX4_splice 4 = .ok (.iconst 0, 1) := by decide +kernel
theorem dX4_splice_5 : decode cX4_splice 5 = .ok (.iconst 0, 1) := by decide +kernel
theorem dX4_splice_6 : decode cX4_splice 6 = .ok (.invokevirtual 55, 3) := by decide +kernel
theorem dX4_splice_9 : decode cX4_splice 9 = .ok (.ireturn, 1) := by decide +kernel
theorem dX4_exchange_0 : decode cX4_exchange 0 = .ok (.aload_n 0, 1) := by decide +kernel
theorem dX4_exchange_1 : decode cX4_exchange 1 = .ok (.bipush 6, 2) := by decide +kernel
theorem dX4_exchange_3 : decode cX4_exchange 3 = .ok (.iload_n 1, 1) := by decide +kernel
theorem dX4_exchange_4 : decode cX4_exchange 4 = .ok (.iload_n 2, 1) := by decide +kernel
theorem dX4_exchange_5 : decode cX4_exchange 5 = .ok (.iconst 0, 1) := by decide +kernel
theorem dX4_exchange_6 : decode cX4_exchange 6 = .ok (.iconst 0, 1) := by decide +kernel
theorem dX4_exchange_7 : decode cX4_exchange 7 = .ok (.invokevirtual 55, 3) := by decide +kernel
theorem dX4_exchange_10 : decode cX4_exchange 10 = .ok (.ireturn, 1) := by decide +kernel
theorem dX4_flip_0 : decode cX4_flip 0 = .ok (.aload_n 0, 1) := by decide +kernel
theorem dX4_flip_1 : decode cX4_flip 1 = .ok (.bipush 7, 2) := by decide +kernel
theorem dX4_flip_3 : decode cX4_flip 3 = .ok (.iload_n 1, 1) := by decide +kernel
theorem dX4_flip_4 : decode cX4_flip 4 = .ok (.iload_n 2, 1) := by decide +kernel
theorem dX4_flip_5 : decode cX4_flip 5 = .ok (.iload_n 3, 1) := by decide +kernel
theorem dX4_flip_6 : decode cX4_flip 6 = .ok (.iconst 0, 1) := by decide +kernel
theorem dX4_flip_7 : decode cX4_flip 7 = .ok (.invokevirtual 55, 3) := by decide +kernel
theorem dX4_flip_10 : decode cX4_flip 10 = .ok (.ireturn, 1) := by decide +kernel
theorem dX4_dye_0 : decode cX4_dye 0 = .ok (.aload_n 0, 1) := by decide +kernel
theorem dX4_dye_1 : decode cX4_dye 1 = .ok (.bipush 8, 2) := by decide +kernel
theorem dX4_dye_3 : decode cX4_dye 3 = .ok (.iload_n 1, 1) := by decide +kernel
theorem dX4_dye_4 : decode cX4_dye 4 = .ok (.iload_n 2, 1) := by decide +kernel
theorem dX4_dye_5 : decode cX4_dye 5 = .ok (.iload_n 3, 1) := by decide +kernel
theorem dX4_dye_6 : decode cX4_dye 6 = .ok (.iload 4, 2) := by decide +kernel
theorem dX4_dye_8 : decode cX4_dye 8 = .ok (.invokevirtual 55, 3) := by decide +kernel
theorem dX4_dye_11 : decode cX4_dye 11 = .ok (.ireturn, 1) := by decide +kernel
theorem dX4_reelLength_0 : decode cX4_reelLength 0 = .ok (.iload_n 1, 1) := by decide +kernel
theorem dX4_reelLength_1 : decode cX4_reelLength 1 = .ok (.invokestatic 59, 3) := by decide +kernel
theorem dX4_reelLength_4 : decode cX4_reelLength 4 = .ok (.invokestatic 63, 3) := by decide +kernel
theorem dX4_reelLength_7 : decode cX4_reelLength 7 = .ok (.aload_n 0, 1) := by decide +kernel
theorem dX4_reelLength_8 : decode cX4_reelLength 8 = .ok (.getfield 12, 3) := by decide +kernel
theorem dX4_reelLength_11 : decode cX4_reelLength 11 = .ok (.iload_n 1, 1) := by decide +kernel
theorem dX4_reelLength_12 : decode cX4_reelLength 12 = .ok (.invokevirtual 80, 3) := by decide +kernel
theorem dX4_reelLength_15 : decode cX4_reelLength 15 = .ok (.ireturn, 1) := by decide +kernel
theorem dX4_lengthBefore_0 : decode cX4_lengthBefore 0 = .ok (.aload_n 0, 1) := by decide +kernel
theorem dX4_lengthBefore_1 : decode cX4_lengthBefore 1 = .ok (.iload_n 1, 1) := by decide +kernel
theorem dX4_lengthBefore_2 : decode cX4_lengthBefore 2 = .ok (.iload_n 2, 1) := by decide +kernel
theorem dX4_lengthBefore_3 : decode cX4_lengthBefore 3 = .ok (.invokevirtual 83, 3) := by decide +kernel
theorem dX4_lengthBefore_6 : decode cX4_lengthBefore 6 = .ok (.invokestatic 63, 3) := by decide +kernel
theorem dX4_lengthBefore_9 : decode cX4_lengthBefore 9 = .ok (.aload_n 0, 1) := by decide +kernel
theorem dX4_lengthBefore_10 : decode cX4_lengthBefore 10 = .ok (.getfield 12, 3) := by decide +kernel
theorem dX4_lengthBefore_13 : decode cX4_lengthBefore 13 = .ok (.iload_n 1, 1) := by decide +kernel
theorem dX4_lengthBefore_14 : decode cX4_lengthBefore 14 = .ok (.iload_n 2, 1) := by decide +kernel
theorem dX4_lengthBefore_15 : decode cX4_lengthBefore 15 = .ok (.invokevirtual 86, 3) := by decide +kernel
theorem dX4_lengthBefore_18 : decode cX4_lengthBefore 18 = .ok (.ireturn, 1) := by decide +kernel
theorem dX4_lengthBeforeByScan_0 : decode cX4_lengthBeforeByScan 0 = .ok (.aload_n 0, 1) := by decide +kernel
theorem dX4_lengthBeforeByScan_1 : decode cX4_lengthBeforeByScan 1 = .ok (.iload_n 1, 1) := by decide +kernel
theorem dX4_lengthBeforeByScan_2 : decode cX4_lengthBeforeByScan 2 = .ok (.iload_n 2, 1) := by decide +kernel
theorem dX4_lengthBeforeByScan_3 : decode cX4_lengthBeforeByScan 3 = .ok (.invokevirtual 83, 3) := by decide +kernel
theorem dX4_lengthBeforeByScan_6 : decode cX4_lengthBeforeByScan 6 = .ok (.invokestatic 63, 3) := by decide +kernel
theorem dX4_lengthBeforeByScan_9 : decode cX4_lengthBeforeByScan 9 = .ok (.aload_n 0, 1) := by decide +kernel
theorem dX4_lengthBeforeByScan_10 : decode cX4_lengthBeforeByScan 10 = .ok (.getfield 12, 3) := by decide +kernel
theorem dX4_lengthBeforeByScan_13 : decode cX4_lengthBeforeByScan 13 = .ok (.iload_n 1, 1) := by decide +kernel
theorem dX4_lengthBeforeByScan_14 : decode cX4_lengthBeforeByScan 14 = .ok (.iconst 0, 1) := by decide +kernel
theorem dX4_lengthBeforeByScan_15 : decode cX4_lengthBeforeByScan 15 = .ok (.iload_n 2, 1) := by decide +kernel
theorem dX4_lengthBeforeByScan_16 : decode cX4_lengthBeforeByScan 16 = .ok (.iconst 1, 1) := by decide +kernel
theorem dX4_lengthBeforeByScan_17 : decode cX4_lengthBeforeByScan 17 = .ok (.isub, 1) := by decide +kernel
theorem dX4_lengthBeforeByScan_18 : decode cX4_lengthBeforeByScan 18 = .ok (.invokevirtual 89, 3) := by decide +kernel
theorem dX4_lengthBeforeByScan_21 : decode cX4_lengthBeforeByScan 21 = .ok (.ireturn, 1) := by decide +kernel
theorem dX4_positionAt_0 : decode cX4_positionAt 0 = .ok (.iload_n 1, 1) := by decide +kernel
theorem dX4_positionAt_1 : decode cX4_positionAt 1 = .ok (.invokestatic 59, 3) := by decide +kernel
theorem dX4_positionAt_4 : decode cX4_positionAt 4 = .ok (.invokestatic 63, 3) := by decide +kernel
theorem dX4_positionAt_7 : decode cX4_positionAt 7 = .ok (.aload_n 0, 1) := by decide +kernel
theorem dX4_positionAt_8 : decode cX4_positionAt 8 = .ok (.getfield 12, 3) := by decide +kernel
theorem dX4_positionAt_11 : decode cX4_positionAt 11 = .ok (.iload_n 1, 1) := by decide +kernel
theorem dX4_positionAt_12 : decode cX4_positionAt 12 = .ok (.iload_n 2, 1) := by decide +kernel
theorem dX4_positionAt_13 : decode cX4_positionAt 13 = .ok (.invokevirtual 93, 3) := by decide +kernel
theorem dX4_positionAt_16 : decode cX4_positionAt 16 = .ok (.invokestatic 96, 3) := by decide +kernel
theorem dX4_positionAt_19 : decode cX4_positionAt 19 = .ok (.ireturn, 1) := by decide +kernel
theorem dX4_rangeLength_0 : decode cX4_rangeLength 0 = .ok (.aload_n 0, 1) := by decide +kernel
theorem dX4_rangeLength_1 : decode cX4_rangeLength 1 = .ok (.iload_n 1, 1) := by decide +kernel
theorem dX4_rangeLength_2 : decode cX4_rangeLength 2 = .ok (.iload_n 2, 1) := by decide +kernel
theorem dX4_rangeLength_3 : decode cX4_rangeLength 3 = .ok (.iload_n 3, 1) := by decide +kernel
theorem dX4_rangeLength_4 : decode cX4_rangeLength 4 = .ok (.invokevirtual 99, 3) := by decide +kernel
theorem dX4_rangeLength_7 : decode cX4_rangeLength 7 = .ok (.invokestatic 63, 3) := by decide +kernel
theorem dX4_rangeLength_10 : decode cX4_rangeLength 10 = .ok (.aload_n 0, 1) := by decide +kernel
theorem dX4_rangeLength_11 : decode cX4_rangeLength 11 = .ok (.getfield 12, 3) := by decide +kernel
theorem dX4_rangeLength_14 : decode cX4_rangeLength 14 = .ok (.iload_n 1, 1) := by decide +kernel
theorem dX4_rangeLength_15 : decode cX4_rangeLength 15 = .ok (.iload_n 2, 1) := by decide +kernel
theorem dX4_rangeLength_16 : decode cX4_rangeLength 16 = .ok (.iload_n 3, 1) := by decide +kernel
theorem dX4_rangeLength_17 : decode cX4_rangeLength 17 = .ok (.invokevirtual 89, 3) := by decide +kernel
theorem dX4_rangeLength_20 : decode cX4_rangeLength 20 = .ok (.ireturn, 1) := by decide +kernel
theorem dX4_longestInRange_0 : decode cX4_longestInRange 0 = .ok (.aload_n 0, 1) := by decide +kernel
theorem dX4_longestInRange_1 : decode cX4_longestInRange 1 = .ok (.iload_n 1, 1) := by decide +kernel
theorem dX4_longestInRange_2 : decode cX4_longestInRange 2 = .ok (.iload_n 2, 1) := by decide +kernel
theorem dX4_longestInRange_3 : decode cX4_longestInRange 3 = .ok (.iload_n 3, 1) := by decide +kernel
theorem dX4_longestInRange_4 : decode cX4_longestInRange 4 = .ok (.invokevirtual 99, 3) := by decide +kernel
theorem dX4_longestInRange_7 : decode cX4_longestInRange 7 = .ok (.invokestatic 63, 3) := by decide +kernel
theorem dX4_longestInRange_10 : decode cX4_longestInRange 10 = .ok (.aload_n 0, 1) := by decide +kernel
theorem dX4_longestInRange_11 : decode cX4_longestInRange 11 = .ok (.getfield 12, 3) := by decide +kernel
theorem dX4_longestInRange_14 : decode cX4_longestInRange 14 = .ok (.iload_n 1, 1) := by decide +kernel
theorem dX4_longestInRange_15 : decode cX4_longestInRange 15 = .ok (.iload_n 2, 1) := by decide +kernel
theorem dX4_longestInRange_16 : decode cX4_longestInRange 16 = .ok (.iload_n 3, 1) := by decide +kernel
theorem dX4_longestInRange_17 : decode cX4_longestInRange 17 = .ok (.invokevirtual 102, 3) := by decide +kernel
theorem dX4_longestInRange_20 : decode cX4_longestInRange 20 = .ok (.ireturn, 1) := by decide +kernel
theorem dX4_segmentAtRank_0 : decode cX4_segmentAtRank 0 = .ok (.iload_n 1, 1) := by decide +kernel
theorem dX4_segmentAtRank_1 : decode cX4_segmentAtRank 1 = .ok (.invokestatic 59, 3) := by decide +kernel
theorem dX4_segmentAtRank_4 : decode cX4_segmentAtRank 4 = .ok (.invokestatic 63, 3) := by decide +kernel
theorem dX4_segmentAtRank_7 : decode cX4_segmentAtRank 7 = .ok (.aload_n 0, 1) := by decide +kernel
theorem dX4_segmentAtRank_8 : decode cX4_segmentAtRank 8 = .ok (.getfield 12, 3) := by decide +kernel
theorem dX4_segmentAtRank_11 : decode cX4_segmentAtRank 11 = .ok (.iload_n 1, 1) := by decide +kernel
theorem dX4_segmentAtRank_12 : decode cX4_segmentAtRank 12 = .ok (.iload_n 2, 1) := by decide +kernel
theorem dX4_segmentAtRank_13 : decode cX4_segmentAtRank 13 = .ok (.invokevirtual 105, 3) := by decide +kernel
theorem dX4_segmentAtRank_16 : decode cX4_segmentAtRank 16 = .ok (.invokestatic 96, 3) := by decide +kernel
theorem dX4_segmentAtRank_19 : decode cX4_segmentAtRank 19 = .ok (.ireturn, 1) := by decide +kernel
theorem dX4_totalLength_0 : decode cX4_totalLength 0 = .ok (.lconst 0, 1) := by decide +kernel
theorem dX4_totalLength_1 : decode cX4_totalLength 1 = .ok (.lstore_n 1, 1) := by decide +kernel
theorem dX4_totalLength_2 : decode cX4_totalLength 2 = .ok (.iconst 0, 1) := by decide +kernel
theorem dX4_totalLength_3 : decode cX4_totalLength 3 = .ok (.istore_n 3, 1) := by decide +kernel
theorem dX4_totalLength_4 : decode cX4_totalLength 4 = .ok (.iload_n 3, 1) := by decide +kernel
theorem dX4_totalLength_5 : decode cX4_totalLength 5 = .ok (.iconst 4, 1) := by decide +kernel
theorem dX4_totalLength_6 : decode cX4_totalLength 6 = .ok (.if_icmp .ge 21, 3) := by decide +kernel
theorem dX4_totalLength_9 : decode cX4_totalLength 9 = .ok (.lload_n 1, 1) := by decide +kernel
theorem dX4_totalLength_10 : decode cX4_totalLength 10 = .ok (.aload_n 0, 1) := by decide +kernel
theorem dX4_totalLength_11 : decode cX4_totalLength 11 = .ok (.getfield 12, 3) := by decide +kernel
theorem dX4_totalLength_14 : decode cX4_totalLength 14 = .ok (.iload_n 3, 1) := by decide +kernel
theorem dX4_totalLength_15 : decode cX4_totalLength 15 = .ok (.invokevirtual 80, 3) := by decide +kernel
theorem dX4_totalLength_18 : decode cX4_totalLength 18 = .ok (.i2l, 1) := by decide +kernel
theorem dX4_totalLength_19 : decode cX4_totalLength 19 = .ok (.ladd, 1) := by decide +kernel
theorem dX4_totalLength_20 : decode cX4_totalLength 20 = .ok (.lstore_n 1, 1) := by decide +kernel
theorem dX4_totalLength_21 : decode cX4_totalLength 21 = .ok (.iinc 3 1, 3) := by decide +kernel
theorem dX4_totalLength_24 : decode cX4_totalLength 24 = .ok (.goto (-20), 3) := by decide +kernel
theorem dX4_totalLength_27 : decode cX4_totalLength 27 = .ok (.lload_n 1, 1) := by decide +kernel
theorem dX4_totalLength_28 : decode cX4_totalLength 28 = .ok (.lreturn, 1) := by decide +kernel
theorem dX4_tangleCount_0 : decode cX4_tangleCount 0 = .ok (.iload_n 1, 1) := by decide +kernel
theorem dX4_tangleCount_1 : decode cX4_tangleCount 1 = .ok (.invokestatic 59, 3) := by decide +kernel
theorem dX4_tangleCount_4 : decode cX4_tangleCount 4 = .ok (.invokestatic 63, 3) := by decide +kernel
theorem dX4_tangleCount_7 : decode cX4_tangleCount 7 = .ok (.aload_n 0, 1) := by decide +kernel
theorem dX4_tangleCount_8 : decode cX4_tangleCount 8 = .ok (.getfield 12, 3) := by decide +kernel
theorem dX4_tangleCount_11 : decode cX4_tangleCount 11 = .ok (.iload_n 1, 1) := by decide +kernel
theorem dX4_tangleCount_12 : decode cX4_tangleCount 12 = .ok (.invokevirtual 108, 3) := by decide +kernel
theorem dX4_tangleCount_15 : decode cX4_tangleCount 15 = .ok (.ireturn, 1) := by decide +kernel
theorem dX4_tangleCountByScan_0 : decode cX4_tangleCountByScan 0 = .ok (.iload_n 1, 1) := by decide +kernel
theorem dX4_tangleCountByScan_1 : decode cX4_tangleCountByScan 1 = .ok (.invokestatic 59, 3) := by decide +kernel
theorem dX4_tangleCountByScan_4 : decode cX4_tangleCountByScan 4 = .ok (.invokestatic 63, 3) := by decide +kernel
theorem dX4_tangleCountByScan_7 : decode cX4_tangleCountByScan 7 = .ok (.aload_n 0, 1) := by decide +kernel
theorem dX4_tangleCountByScan_8 : decode cX4_tangleCountByScan 8 = .ok (.getfield 12, 3) := by decide +kernel
theorem dX4_tangleCountByScan_11 : decode cX4_tangleCountByScan 11 = .ok (.iload_n 1, 1) := by decide +kernel
theorem dX4_tangleCountByScan_12 : decode cX4_tangleCountByScan 12 = .ok (.invokevirtual 111, 3) := by decide +kernel
theorem dX4_tangleCountByScan_15 : decode cX4_tangleCountByScan 15 = .ok (.ireturn, 1) := by decide +kernel
theorem dX4_isTangled_0 : decode cX4_isTangled 0 = .ok (.aload_n 0, 1) := by decide +kernel
theorem dX4_isTangled_1 : decode cX4_isTangled 1 = .ok (.iload_n 1, 1) := by decide +kernel
theorem dX4_isTangled_2 : decode cX4_isTangled 2 = .ok (.iload_n 2, 1) := by decide +kernel
theorem dX4_isTangled_3 : decode cX4_isTangled 3 = .ok (.invokevirtual 70, 3) := by decide +kernel
theorem dX4_isTangled_6 : decode cX4_isTangled 6 = .ok (.invokestatic 63, 3) := by decide +kernel
theorem dX4_isTangled_9 : decode cX4_isTangled 9 = .ok (.aload_n 0, 1) := by decide +kernel
theorem dX4_isTangled_10 : decode cX4_isTangled 10 = .ok (.getfield 12, 3) := by decide +kernel
theorem dX4_isTangled_13 : decode cX4_isTangled 13 = .ok (.iload_n 1, 1) := by decide +kernel
theorem dX4_isTangled_14 : decode cX4_isTangled 14 = .ok (.iload_n 2, 1) := by decide +kernel
theorem dX4_isTangled_15 : decode cX4_isTangled 15 = .ok (.iconst 1, 1) := by decide +kernel
theorem dX4_isTangled_16 : decode cX4_isTangled 16 = .ok (.isub, 1) := by decide +kernel
theorem dX4_isTangled_17 : decode cX4_isTangled 17 = .ok (.invokevirtual 114, 3) := by decide +kernel
theorem dX4_isTangled_20 : decode cX4_isTangled 20 = .ok (.ifCond .ne 15, 3) := by decide +kernel
theorem dX4_isTangled_23 : decode cX4_isTangled 23 = .ok (.aload_n 0, 1) := by decide +kernel
theorem dX4_isTangled_24 : decode cX4_isTangled 24 = .ok (.getfield 12, 3) := by decide +kernel
theorem dX4_isTangled_27 : decode cX4_isTangled 27 = .ok (.iload_n 1, 1) := by decide +kernel
theorem dX4_isTangled_28 : decode cX4_isTangled 28 = .ok (.iload_n 2, 1) := by decide +kernel
theorem dX4_isTangled_29 : decode cX4_isTangled 29 = .ok (.invokevirtual 114, 3) := by decide +kernel
theorem dX4_isTangled_32 : decode cX4_isTangled 32 = .ok (.ifCond .eq 7, 3) := by decide +kernel
theorem dX4_isTangled_35 : decode cX4_isTangled 35 = .ok (.iconst 1, 1) := by decide +kernel
theorem dX4_isTangled_36 : decode cX4_isTangled 36 = .ok (.goto 4, 3) := by decide +kernel
theorem dX4_isTangled_39 : decode cX4_isTangled 39 = .ok (.iconst 0, 1) := by decide +kernel
theorem dX4_isTangled_40 : decode cX4_isTangled 40 = .ok (.ireturn, 1) := by decide +kernel
theorem dX4_longestRun_0 : decode cX4_longestRun 0 = .ok (.iload_n 1, 1) := by decide +kernel
theorem dX4_longestRun_1 : decode cX4_longestRun 1 = .ok (.invokestatic 59, 3) := by decide +kernel
theorem dX4_longestRun_4 : decode cX4_longestRun 4 = .ok (.invokestatic 63, 3) := by decide +kernel
theorem dX4_longestRun_7 : decode cX4_longestRun 7 = .ok (.aload_n 0, 1) := by decide +kernel
theorem dX4_longestRun_8 : decode cX4_longestRun 8 = .ok (.getfield 12, 3) := by decide +kernel
theorem dX4_longestRun_11 : decode cX4_longestRun 11 = .ok (.iload_n 1, 1) := by decide +kernel
theorem dX4_longestRun_12 : decode cX4_longestRun 12 = .ok (.invokevirtual 118, 3) := by decide +kernel
theorem dX4_longestRun_15 : decode cX4_longestRun 15 = .ok (.ireturn, 1) := by decide +kernel
theorem dX4_nextOfColour_0 : decode cX4_nextOfColour 0 = .ok (.aload_n 0, 1) := by decide +kernel
theorem dX4_nextOfColour_1 : decode cX4_nextOfColour 1 = .ok (.iload_n 1, 1) := by decide +kernel
theorem dX4_nextOfColour_2 : decode cX4_nextOfColour 2 = .ok (.iload_n 2, 1) := by decide +kernel
theorem dX4_nextOfColour_3 : decode cX4_nextOfColour 3 = .ok (.invokevirtual 70, 3) := by decide +kernel
theorem dX4_nextOfColour_6 : decode cX4_nextOfColour 6 = .ok (.invokestatic 63, 3) := by decide +kernel
theorem dX4_nextOfColour_9 : decode cX4_nextOfColour 9 = .ok (.iload_n 3, 1) := by decide +kernel
theorem dX4_nextOfColour_10 : decode cX4_nextOfColour 10 = .ok (.invokestatic 121, 3) := by decide +kernel
theorem dX4_nextOfColour_13 : decode cX4_nextOfColour 13 = .ok (.invokestatic 63, 3) := by decide +kernel
theorem dX4_nextOfColour_16 : decode cX4_nextOfColour 16 = .ok (.aload_n 0, 1) := by decide +kernel
theorem dX4_nextOfColour_17 : decode cX4_nextOfColour 17 = .ok (.getfield 12, 3) := by decide +kernel
theorem dX4_nextOfColour_20 : decode cX4_nextOfColour 20 = .ok (.iload_n 1, 1) := by decide +kernel
theorem dX4_nextOfColour_21 : decode cX4_nextOfColour 21 = .ok (.iload_n 2, 1) := by decide +kernel
theorem dX4_nextOfColour_22 : decode cX4_nextOfColour 22 = .ok (.iload_n 3, 1) := by decide +kernel
theorem dX4_nextOfColour_23 : decode cX4_nextOfColour 23 = .ok (.invokevirtual 124, 3) := by decide +kernel
theorem dX4_nextOfColour_26 : decode cX4_nextOfColour 26 = .ok (.invokestatic 96, 3) := by decide +kernel
theorem dX4_nextOfColour_29 : decode cX4_nextOfColour 29 = .ok (.ireturn, 1) := by decide +kernel
theorem dX4_colourLength_0 : decode cX4_colourLength 0 = .ok (.iload_n 1, 1) := by decide +kernel
theorem dX4_colourLength_1 : decode cX4_colourLength 1 = .ok (.invokestatic 59, 3) := by decide +kernel
theorem dX4_colourLength_4 : decode cX4_colourLength 4 = .ok (.invokestatic 63, 3) := by decide +kernel
theorem dX4_colourLength_7 : decode cX4_colourLength 7 = .ok (.iload_n 2, 1) := by decide +kernel
theorem dX4_colourLength_8 : decode cX4_colourLength 8 = .ok (.invokestatic 121, 3) := by decide +kernel
theorem dX4_colourLength_11 : decode cX4_colourLength 11 = .ok (.invokestatic 63, 3) := by decide +kernel
theorem dX4_colourLength_14 : decode cX4_colourLength 14 = .ok (.aload_n 0, 1) := by decide +kernel
theorem dX4_colourLength_15 : decode cX4_colourLength 15 = .ok (.getfield 12, 3) := by decide +kernel
theorem dX4_colourLength_18 : decode cX4_colourLength 18 = .ok (.iload_n 1, 1) := by decide +kernel
theorem dX4_colourLength_19 : decode cX4_colourLength 19 = .ok (.iload_n 2, 1) := by decide +kernel
theorem dX4_colourLength_20 : decode cX4_colourLength 20 = .ok (.invokevirtual 127, 3) := by decide +kernel
theorem dX4_colourLength_23 : decode cX4_colourLength 23 = .ok (.ireturn, 1) := by decide +kernel
theorem dX4_colourAtRank_0 : decode cX4_colourAtRank 0 = .ok (.iload_n 1, 1) := by decide +kernel
theorem dX4_colourAtRank_1 : decode cX4_colourAtRank 1 = .ok (.invokestatic 59, 3) := by decide +kernel
theorem dX4_colourAtRank_4 : decode cX4_colourAtRank 4 = .ok (.invokestatic 63, 3) := by decide +kernel
theorem dX4_colourAtRank_7 : decode cX4_colourAtRank 7 = .ok (.aload_n 0, 1) := by decide +kernel
theorem dX4_colourAtRank_8 : decode cX4_colourAtRank 8 = .ok (.getfield 12, 3) := by decide +kernel
theorem dX4_colourAtRank_11 : decode cX4_colourAtRank 11 = .ok (.iload_n 1, 1) := by decide +kernel
theorem dX4_colourAtRank_12 : decode cX4_colourAtRank 12 = .ok (.iload_n 2, 1) := by decide +kernel
theorem dX4_colourAtRank_13 : decode cX4_colourAtRank 13 = .ok (.invokevirtual 130, 3) := by decide +kernel
theorem dX4_colourAtRank_16 : decode cX4_colourAtRank 16 = .ok (.invokestatic 96, 3) := by decide +kernel
theorem dX4_colourAtRank_19 : decode cX4_colourAtRank 19 = .ok (.ireturn, 1) := by decide +kernel
theorem dX4_isSymmetric_0 : decode cX4_isSymmetric 0 = .ok (.iload_n 1, 1) := by decide +kernel
theorem dX4_isSymmetric_1 : decode cX4_isSymmetric 1 = .ok (.invokestatic 59, 3) := by decide +kernel
theorem dX4_isSymmetric_4 : decode cX4_isSymmetric 4 = .ok (.invokestatic 63, 3) := by decide +kernel
theorem dX4_isSymmetric_7 : decode cX4_isSymmetric 7 = .ok (.aload_n 0, 1) := by decide +kernel
theorem dX4_isSymmetric_8 : decode cX4_isSymmetric 8 = .ok (.getfield 12, 3) := by decide +kernel
theorem dX4_isSymmetric_11 : decode cX4_isSymmetric 11 = .ok (.iload_n 1, 1) := by decide +kernel
theorem dX4_isSymmetric_12 : decode cX4_isSymmetric 12 = .ok (.invokevirtual 133, 3) := by decide +kernel
theorem dX4_isSymmetric_15 : decode cX4_isSymmetric 15 = .ok (.ireturn, 1) := by decide +kernel
theorem dX4_commonBeginning_0 : decode cX4_commonBeginning 0 = .ok (.iload_n 1, 1) := by decide +kernel
theorem dX4_commonBeginning_1 : decode cX4_commonBeginning 1 = .ok (.iload_n 2, 1) := by decide +kernel
theorem dX4_commonBeginning_2 : decode cX4_commonBeginning 2 = .ok (.invokestatic 137, 3) := by decide +kernel
theorem dX4_commonBeginning_5 : decode cX4_commonBeginning 5 = .ok (.invokestatic 63, 3) := by decide +kernel
theorem dX4_commonBeginning_8 : decode cX4_commonBeginning 8 = .ok (.aload_n 0, 1) := by decide +kernel
theorem dX4_commonBeginning_9 : decode cX4_commonBeginning 9 = .ok (.getfield 12, 3) := by decide +kernel
theorem dX4_commonBeginning_12 : decode cX4_commonBeginning 12 = .ok (.iload_n 1, 1) := by decide +kernel
theorem dX4_commonBeginning_13 : decode cX4_commonBeginning 13 = .ok (.iload_n 2, 1) := by decide +kernel
theorem dX4_commonBeginning_14 : decode cX4_commonBeginning 14 = .ok (.invokevirtual 140, 3) := by decide +kernel
theorem dX4_commonBeginning_17 : decode cX4_commonBeginning 17 = .ok (.ireturn, 1) := by decide +kernel
theorem dX4_areEqual_0 : decode cX4_areEqual 0 = .ok (.iload_n 1, 1) := by decide +kernel
theorem dX4_areEqual_1 : decode cX4_areEqual 1 = .ok (.iload_n 2, 1) := by decide +kernel
theorem dX4_areEqual_2 : decode cX4_areEqual 2 = .ok (.invokestatic 137, 3) := by decide +kernel
theorem dX4_areEqual_5 : decode cX4_areEqual 5 = .ok (.invokestatic 63, 3) := by decide +kernel
theorem dX4_areEqual_8 : decode cX4_areEqual 8 = .ok (.aload_n 0, 1) := by decide +kernel
theorem dX4_areEqual_9 : decode cX4_areEqual 9 = .ok (.getfield 12, 3) := by decide +kernel
theorem dX4_areEqual_12 : decode cX4_areEqual 12 = .ok (.iload_n 1, 1) := by decide +kernel
theorem dX4_areEqual_13 : decode cX4_areEqual 13 = .ok (.invokevirtual 67, 3) := by decide +kernel
theorem dX4_areEqual_16 : decode cX4_areEqual 16 = .ok (.istore_n 3, 1) := by decide +kernel
theorem dX4_areEqual_17 : decode cX4_areEqual 17 = .ok (.iload_n 3, 1) := by decide +kernel
theorem dX4_areEqual_18 : decode cX4_areEqual 18 = .ok (.aload_n 0, 1) := by decide +kernel
theorem dX4_areEqual_19 : decode cX4_areEqual 19 = .ok (.getfield 12, 3) := by decide +kernel
theorem dX4_areEqual_22 : decode cX4_areEqual 22 = .ok (.iload_n 2, 1) := by decide +kernel
theorem dX4_areEqual_23 : decode cX4_areEqual 23 = .ok (.invokevirtual 67, 3) := by decide +kernel
theorem dX4_areEqual_26 : decode cX4_areEqual 26 = .ok (.if_icmp .ne 20, 3) := by decide +kernel
theorem dX4_areEqual_29 : decode cX4_areEqual 29 = .ok (.iload_n 3, 1) := by decide +kernel
theorem dX4_areEqual_30 : decode cX4_areEqual 30 = .ok (.aload_n 0, 1) := by decide +kernel
theorem dX4_areEqual_31 : decode cX4_areEqual 31 = .ok (.getfield 12, 3) := by decide +kernel
theorem dX4_areEqual_34 : decode cX4_areEqual 34 = .ok (.iload_n 1, 1) := by decide +kernel
theorem dX4_areEqual_35 : decode cX4_areEqual 35 = .ok (.iload_n 2, 1) := by decide +kernel
theorem dX4_areEqual_36 : decode cX4_areEqual 36 = .ok (.invokevirtual 140, 3) := by decide +kernel
theorem dX4_areEqual_39 : decode cX4_areEqual 39 = .ok (.if_icmp .ne 7, 3) := by decide +kernel
theorem dX4_areEqual_42 : decode cX4_areEqual 42 = .ok (.iconst 1, 1) := by decide +kernel
theorem dX4_areEqual_43 : decode cX4_areEqual 43 = .ok (.goto 4, 3) := by decide +kernel
theorem dX4_areEqual_46 : decode cX4_areEqual 46 = .ok (.iconst 0, 1) := by decide +kernel
theorem dX4_areEqual_47 : decode cX4_areEqual 47 = .ok (.ireturn, 1) := by decide +kernel
theorem dX4_cutCount_0 : decode cX4_cutCount 0 = .ok (.aload_n 0, 1) := by decide +kernel
theorem dX4_cutCount_1 : decode cX4_cutCount 1 = .ok (.getfield 12, 3) := by decide +kernel
theorem dX4_cutCount_4 : decode cX4_cutCount 4 = .ok (.sipush 308, 3) := by decide +kernel
theorem dX4_cutCount_7 : decode cX4_cutCount 7 = .ok (.invokevirtual 143, 3) := by decide +kernel
theorem dX4_cutCount_10 : decode cX4_cutCount 10 = .ok (.ireturn, 1) := by decide +kernel
theorem dX4_spliceCount_0 : decode cX4_spliceCount 0 = .ok (.aload_n 0, 1) := by decide +kernel
theorem dX4_spliceCount_1 : decode cX4_spliceCount 1 = .ok (.getfield 12, 3) := by decide +kernel
theorem dX4_spliceCount_4 : decode cX4_spliceCount 4 = .ok (.sipush 309, 3) := by decide +kernel
theorem dX4_spliceCount_7 : decode cX4_spliceCount 7 = .ok (.invokevirtual 143, 3) := by decide +kernel
theorem dX4_spliceCount_10 : decode cX4_spliceCount 10 = .ok (.ireturn, 1) := by decide +kernel
theorem dX4_type_0 : decode cX4_type 0 = .ok (.iload_n 1, 1) := by decide +kernel
theorem dX4_type_1 : decode cX4_type 1 = .ok (.bipush 32, 2) := by decide +kernel
theorem dX4_type_3 : decode cX4_type 3 = .ok (.if_icmp .lt 9, 3) := by decide +kernel
theorem dX4_type_6 : decode cX4_type 6 = .ok (.iload_n 1, 1) := by decide +kernel
theorem dX4_type_7 : decode cX4_type 7 = .ok (.bipush 126, 2) := by decide +kernel
theorem dX4_type_9 : decode cX4_type 9 = .ok (.if_icmp .le 13, 3) := by decide +kernel
theorem dX4_type_12 : decode cX4_type 12 = .ok (.new 146, 3) := by decide +kernel
theorem dX4_type_15 : decode cX4_type 15 = .ok (.dup, 1) := by decide +kernel
theorem dX4_type_16 : decode cX4_type 16 = .ok (.ldc 148, 2) := by decide +kernel
theorem dX4_type_18 : decode cX4_type 18 = .ok (.invokespecial 150, 3) := by decide +kernel
theorem dX4_type_21 : decode cX4_type 21 = .ok (.athrow, 1) := by decide +kernel
theorem dX4_type_22 : decode cX4_type 22 = .ok (.aload_n 0, 1) := by decide +kernel
theorem dX4_type_23 : decode cX4_type 23 = .ok (.getfield 37, 3) := by decide +kernel
theorem dX4_type_26 : decode cX4_type 26 = .ok (.invokevirtual 153, 3) := by decide +kernel
theorem dX4_type_29 : decode cX4_type 29 = .ok (.ifCond .eq 13, 3) := by decide +kernel
theorem dX4_type_32 : decode cX4_type 32 = .ok (.new 157, 3) := by decide +kernel
theorem dX4_type_35 : decode cX4_type 35 = .ok (.dup, 1) := by decide +kernel
theorem dX4_type_36 : decode cX4_type 36 = .ok (.ldc 159, 2) := by decide +kernel
theorem dX4_type_38 : decode cX4_type 38 = .ok (.invokespecial 161, 3) := by decide +kernel
theorem dX4_type_41 : decode cX4_type 41 = .ok (.athrow, 1) := by decide +kernel
theorem dX4_type_42 : decode cX4_type 42 = .ok (.aload_n 0, 1) := by decide +kernel
theorem dX4_type_43 : decode cX4_type 43 = .ok (.getfield 37, 3) := by decide +kernel
theorem dX4_type_46 : decode cX4_type 46 = .ok (.iload_n 1, 1) := by decide +kernel
theorem dX4_type_47 : decode cX4_type 47 = .ok (.invokevirtual 162, 3) := by decide +kernel
theorem dX4_type_50 : decode cX4_type 50 = .ok (.ireturn, 1) := by decide +kernel
theorem dX4_run_0 : decode cX4_run 0 = .ok (.aload_n 0, 1) := by decide +kernel
theorem dX4_run_1 : decode cX4_run 1 = .ok (.getfield 37, 3) := by decide +kernel
theorem dX4_run_4 : decode cX4_run 4 = .ok (.invokevirtual 166, 3) := by decide +kernel
theorem dX4_run_7 : decode cX4_run 7 = .ok (.istore_n 1, 1) := by decide +kernel
theorem dX4_run_8 : decode cX4_run 8 = .ok (.aload_n 0, 1) := by decide +kernel
theorem dX4_run_9 : decode cX4_run 9 = .ok (.getfield 37, 3) := by decide +kernel
theorem dX4_run_12 : decode cX4_run 12 = .ok (.invokevirtual 170, 3) := by decide +kernel
theorem dX4_run_15 : decode cX4_run 15 = .ok (.iload_n 1, 1) := by decide +kernel
theorem dX4_run_16 : decode cX4_run 16 = .ok (.iconst (-1), 1) := by decide +kernel
theorem dX4_run_17 : decode cX4_run 17 = .ok (.if_icmp .eq 18, 3) := by decide +kernel
theorem dX4_run_20 : decode cX4_run 20 = .ok (.aload_n 0, 1) := by decide +kernel
theorem dX4_run_21 : decode cX4_run 21 = .ok (.iload_n 1, 1) := by decide +kernel
theorem dX4_run_22 : decode cX4_run 22 = .ok (.putfield 48, 3) := by decide +kernel
theorem dX4_run_25 : decode cX4_run 25 = .ok (.new 146, 3) := by decide +kernel
theorem dX4_run_28 : decode cX4_run 28 = .ok (.dup, 1) := by decide +kernel
theorem dX4_run_29 : decode cX4_run 29 = .ok (.ldc 173, 2) := by decide +kernel
theorem dX4_run_31 : decode cX4_run 31 = .ok (.invokespecial 150, 3) := by decide +kernel
theorem dX4_run_34 : decode cX4_run 34 = .ok (.athrow, 1) := by decide +kernel
theorem dX4_run_35 : decode cX4_run 35 = .ok (.aload_n 0, 1) := by decide +kernel
theorem dX4_run_36 : decode cX4_run 36 = .ok (.getfield 12, 3) := by decide +kernel
theorem dX4_run_39 : decode cX4_run 39 = .ok (.aload_n 0, 1) := by decide +kernel
theorem dX4_run_40 : decode cX4_run 40 = .ok (.getfield 16, 3) := by decide +kernel
theorem dX4_run_43 : decode cX4_run 43 = .ok (.iconst 0, 1) := by decide +kernel
theorem dX4_run_44 : decode cX4_run 44 = .ok (.invokevirtual 175, 3) := by decide +kernel
theorem dX4_run_47 : decode cX4_run 47 = .ok (.aload_n 0, 1) := by decide +kernel
theorem dX4_run_48 : decode cX4_run 48 = .ok (.invokevirtual 179, 3) := by decide +kernel
theorem dX4_run_51 : decode cX4_run 51 = .ok (.istore_n 2, 1) := by decide +kernel
theorem dX4_run_52 : decode cX4_run 52 = .ok (.iload_n 2, 1) := by decide +kernel
theorem dX4_run_53 : decode cX4_run 53 = .ok (.iconst (-1), 1) := by decide +kernel
theorem dX4_run_54 : decode cX4_run 54 = .ok (.if_icmp .eq 30, 3) := by decide +kernel
theorem dX4_run_57 : decode cX4_run 57 = .ok (.aload_n 0, 1) := by decide +kernel
theorem dX4_run_58 : decode cX4_run 58 = .ok (.getfield 12, 3) := by decide +kernel
theorem dX4_run_61 : decode cX4_run 61 = .ok (.aload_n 0, 1) := by decide +kernel
theorem dX4_run_62 : decode cX4_run 62 = .ok (.getfield 16, 3) := by decide +kernel
theorem dX4_run_65 : decode cX4_run 65 = .ok (.iconst 0, 1) := by decide +kernel
theorem dX4_run_66 : decode cX4_run 66 = .ok (.invokevirtual 182, 3) := by decide +kernel
theorem dX4_run_69 : decode cX4_run 69 = .ok (.aload_n 0, 1) := by decide +kernel
theorem dX4_run_70 : decode cX4_run 70 = .ok (.iload_n 2, 1) := by decide +kernel
theorem dX4_run_71 : decode cX4_run 71 = .ok (.putfield 52, 3) := by decide +kernel
theorem dX4_run_74 : decode cX4_run 74 = .ok (.new 157, 3) := by decide +kernel
theorem dX4_run_77 : decode cX4_run 77 = .ok (.dup, 1) := by decide +kernel
theorem dX4_run_78 : decode cX4_run 78 = .ok (.ldc 185, 2) := by decide +kernel
theorem dX4_run_80 : decode cX4_run 80 = .ok (.invokespecial 161, 3) := by decide +kernel
theorem dX4_run_83 : decode cX4_run 83 = .ok (.athrow, 1) := by decide +kernel
theorem dX4_run_84 : decode cX4_run 84 = .ok (.aload_n 0, 1) := by decide +kernel
theorem dX4_run_85 : decode cX4_run 85 = .ok (.getfield 30, 3) := by decide +kernel
theorem dX4_run_88 : decode cX4_run 88 = .ok (.aload_n 0, 1) := by decide +kernel
theorem dX4_run_89 : decode cX4_run 89 = .ok (.getfield 16, 3) := by decide +kernel
theorem dX4_run_92 : decode cX4_run 92 = .ok (.invokevirtual 187, 3) := by decide +kernel
theorem dX4_run_95 : decode cX4_run 95 = .ok (.aload_n 0, 1) := by decide +kernel
theorem dX4_run_96 : decode cX4_run 96 = .ok (.getfield 12, 3) := by decide +kernel
theorem dX4_run_99 : decode cX4_run 99 = .ok (.invokevirtual 191, 3) := by decide +kernel
theorem dX4_run_102 : decode cX4_run 102 = .ok (.aload_n 0, 1) := by decide +kernel
theorem dX4_run_103 : decode cX4_run 103 = .ok (.getfield 37, 3) := by decide +kernel
theorem dX4_run_106 : decode cX4_run 106 = .ok (.invokevirtual 194, 3) := by decide +kernel
theorem dX4_run_109 : decode cX4_run 109 = .ok (.ireturn, 1) := by decide +kernel
theorem dX4_errorPosition_0 : decode cX4_errorPosition 0 = .ok (.aload_n 0, 1) := by decide +kernel
theorem dX4_errorPosition_1 : decode cX4_errorPosition 1 = .ok (.getfield 48, 3) := by decide +kernel
theorem dX4_errorPosition_4 : decode cX4_errorPosition 4 = .ok (.invokestatic 96, 3) := by decide +kernel
theorem dX4_errorPosition_7 : decode cX4_errorPosition 7 = .ok (.ireturn, 1) := by decide +kernel
theorem dX4_failedCommand_0 : decode cX4_failedCommand 0 = .ok (.aload_n 0, 1) := by decide +kernel
theorem dX4_failedCommand_1 : decode cX4_failedCommand 1 = .ok (.getfield 52, 3) := by decide +kernel
theorem dX4_failedCommand_4 : decode cX4_failedCommand 4 = .ok (.invokestatic 96, 3) := by decide +kernel
theorem dX4_failedCommand_7 : decode cX4_failedCommand 7 = .ok (.ireturn, 1) := by decide +kernel
theorem dX4_describeReel_0 : decode cX4_describeReel 0 = .ok (.iload_n 1, 1) := by decide +kernel
theorem dX4_describeReel_1 : decode cX4_describeReel 1 = .ok (.invokestatic 59, 3) := by decide +kernel
theorem dX4_describeReel_4 : decode cX4_describeReel 4 = .ok (.invokestatic 63, 3) := by decide +kernel
theorem dX4_describeReel_7 : decode cX4_describeReel 7 = .ok (.aload_n 0, 1) := by decide +kernel
theorem dX4_describeReel_8 : decode cX4_describeReel 8 = .ok (.getfield 44, 3) := by decide +kernel
theorem dX4_describeReel_11 : decode cX4_describeReel 11 = .ok (.invokevirtual 197, 3) := by decide +kernel
theorem dX4_describeReel_14 : decode cX4_describeReel 14 = .ok (.iconst 0, 1) := by decide +kernel
theorem dX4_describeReel_15 : decode cX4_describeReel 15 = .ok (.istore_n 2, 1) := by decide +kernel
theorem dX4_describeReel_16 : decode cX4_describeReel 16 = .ok (.iload_n 2, 1) := by decide +kernel
theorem dX4_describeReel_17 : decode cX4_describeReel 17 = .ok (.aload_n 0, 1) := by decide +kernel
theorem dX4_describeReel_18 : decode cX4_describeReel 18 = .ok (.getfield 12, 3) := by decide +kernel
theorem dX4_describeReel_21 : decode cX4_describeReel 21 = .ok (.iload_n 1, 1) := by decide +kernel
theorem dX4_describeReel_22 : decode cX4_describeReel 22 = .ok (.invokevirtual 67, 3) := by decide +kernel
theorem dX4_describeReel_25 : decode cX4_describeReel 25 = .ok (.if_icmp .ge 77, 3) := by decide +kernel
theorem dX4_describeReel_28 : decode cX4_describeReel 28 = .ok (.iload_n 2, 1) := by decide +kernel
theorem dX4_describeReel_29 : decode cX4_describeReel 29 = .ok (.ifCond .le 31, 3) := by decide +kernel
theorem dX4_describeReel_32 : decode cX4_describeReel 32 = .ok (.aload_n 0, 1) := by decide +kernel
theorem dX4_describeReel_33 : decode cX4_describeReel 33 = .ok (.getfield 44, 3) := by decide +kernel
theorem dX4_describeReel_36 : decode cX4_describeReel 36 = .ok (.aload_n 0, 1) := by decide +kernel
theorem dX4_describeReel_37 : decode cX4_describeReel 37 = .ok (.getfield 12, 3) := by decide +kernel
theorem dX4_describeReel_40 : decode cX4_describeReel 40 = .ok (.iload_n 1, 1) := by decide +kernel
theorem dX4_describeReel_41 : decode cX4_describeReel 41 = .ok (.iload_n 2, 1) := by decide +kernel
theorem dX4_describeReel_42 : decode cX4_describeReel 42 = .ok (.iconst 1, 1) := by decide +kernel
theorem dX4_describeReel_43 : decode cX4_describeReel 43 = .ok (.isub, 1) := by decide +kernel
theorem dX4_describeReel_44 : decode cX4_describeReel 44 = .ok (.invokevirtual 114, 3) := by decide +kernel
theorem dX4_describeReel_47 : decode cX4_describeReel 47 = .ok (.ifCond .eq 8, 3) := by decide +kernel
theorem dX4_describeReel_50 : decode cX4_describeReel 50 = .ok (.bipush 61, 2) := by decide +kernel
theorem dX4_describeReel_52 : decode cX4_describeReel 52 = .ok (.goto 5, 3) := by decide +kernel
theorem dX4_describeReel_55 : decode cX4_describeReel 55 = .ok (.bipush 45, 2) := by decide +kernel
theorem dX4_describeReel_57 : decode cX4_describeReel 57 = .ok (.invokevirtual 200, 3) := by decide +kernel
theorem dX4_describeReel_60 : decode cX4_describeReel 60 = .ok (.aload_n 0, 1) := by decide +kernel
theorem dX4_describeReel_61 : decode cX4_describeReel 61 = .ok (.getfield 44, 3) := by decide +kernel
theorem dX4_describeReel_64 : decode cX4_describeReel 64 = .ok (.aload_n 0, 1) := by decide +kernel
theorem dX4_describeReel_65 : decode cX4_describeReel 65 = .ok (.getfield 12, 3) := by decide +kernel
theorem dX4_describeReel_68 : decode cX4_describeReel 68 = .ok (.iload_n 1, 1) := by decide +kernel
theorem dX4_describeReel_69 : decode cX4_describeReel 69 = .ok (.iload_n 2, 1) := by decide +kernel
theorem dX4_describeReel_70 : decode cX4_describeReel 70 = .ok (.invokevirtual 74, 3) := by decide +kernel
theorem dX4_describeReel_73 : decode cX4_describeReel 73 = .ok (.invokevirtual 204, 3) := by decide +kernel
theorem dX4_describeReel_76 : decode cX4_describeReel 76 = .ok (.aload_n 0, 1) := by decide +kernel
theorem dX4_describeReel_77 : decode cX4_describeReel 77 = .ok (.getfield 44, 3) := by decide +kernel
theorem dX4_describeReel_80 : decode cX4_describeReel 80 = .ok (.bipush 97, 2) := by decide +kernel
theorem dX4_describeReel_82 : decode cX4_describeReel 82 = .ok (.aload_n 0, 1) := by decide +kernel
theorem dX4_describeReel_83 : decode cX4_describeReel 83 = .ok (.getfield 12, 3) := by decide +kernel
theorem dX4_describeReel_86 : decode cX4_describeReel 86 = .ok (.iload_n 1, 1) := by decide +kernel
theorem dX4_describeReel_87 : decode cX4_describeReel 87 = .ok (.iload_n 2, 1) := by decide +kernel
theorem dX4_describeReel_88 : decode cX4_describeReel 88 = .ok (.invokevirtual 77, 3) := by decide +kernel
theorem dX4_describeReel_91 : decode cX4_describeReel 91 = .ok (.iadd, 1) := by decide +kernel
theorem dX4_describeReel_92 : decode cX4_describeReel 92 = .ok (.i2c, 1) := by decide +kernel
theorem dX4_describeReel_93 : decode cX4_describeReel 93 = .ok (.invokevirtual 200, 3) := by decide +kernel
theorem dX4_describeReel_96 : decode cX4_describeReel 96 = .ok (.iinc 2 1, 3) := by decide +kernel
theorem dX4_describeReel_99 : decode cX4_describeReel 99 = .ok (.goto (-83), 3) := by decide +kernel
theorem dX4_describeReel_102 : decode cX4_describeReel 102 = .ok (.aload_n 0, 1) := by decide +kernel
theorem dX4_describeReel_103 : decode cX4_describeReel 103 = .ok (.getfield 44, 3) := by decide +kernel
theorem dX4_describeReel_106 : decode cX4_describeReel 106 = .ok (.invokevirtual 207, 3) := by decide +kernel
theorem dX4_describeReel_109 : decode cX4_describeReel 109 = .ok (.ireturn, 1) := by decide +kernel
theorem dX4_lineAt_0 : decode cX4_lineAt 0 = .ok (.iload_n 1, 1) := by decide +kernel
theorem dX4_lineAt_1 : decode cX4_lineAt 1 = .ok (.ifCond .lt 14, 3) := by decide +kernel
theorem dX4_lineAt_4 : decode cX4_lineAt 4 = .ok (.iload_n 1, 1) := by decide +kernel
theorem dX4_lineAt_5 : decode cX4_lineAt 5 = .ok (.aload_n 0, 1) := by decide +kernel
theorem dX4_lineAt_6 : decode cX4_lineAt 6 = .ok (.getfield 44, 3) := by decide +kernel
theorem dX4_lineAt_9 : decode cX4_lineAt 9 = .ok (.invokevirtual 207, 3) := by decide +kernel
theorem dX4_lineAt_12 : decode cX4_lineAt 12 = .ok (.if_icmp .lt 13, 3) := by decide +kernel
theorem dX4_lineAt_15 : decode cX4_lineAt 15 = .ok (.new 210, 3) := by decide +kernel
theorem dX4_lineAt_18 : decode cX4_lineAt 18 = .ok (.dup, 1) := by decide +kernel
theorem dX4_lineAt_19 : decode cX4_lineAt 19 = .ok (.ldc 212, 2) := by decide +kernel
theorem dX4_lineAt_21 : decode cX4_lineAt 21 = .ok (.invokespecial 214, 3) := by decide +kernel
theorem dX4_lineAt_24 : decode cX4_lineAt 24 = .ok (.athrow, 1) := by decide +kernel
theorem dX4_lineAt_25 : decode cX4_lineAt 25 = .ok (.aload_n 0, 1) := by decide +kernel
theorem dX4_lineAt_26 : decode cX4_lineAt 26 = .ok (.getfield 44, 3) := by decide +kernel
theorem dX4_lineAt_29 : decode cX4_lineAt 29 = .ok (.iload_n 1, 1) := by decide +kernel
theorem dX4_lineAt_30 : decode cX4_lineAt 30 = .ok (.invokevirtual 215, 3) := by decide +kernel
theorem dX4_lineAt_33 : decode cX4_lineAt 33 = .ok (.ireturn, 1) := by decide +kernel
theorem dX4_meanLength_0 : decode cX4_meanLength 0 = .ok (.iload_n 1, 1) := by decide +kernel
theorem dX4_meanLength_1 : decode cX4_meanLength 1 = .ok (.invokestatic 59, 3) := by decide +kernel
theorem dX4_meanLength_4 : decode cX4_meanLength 4 = .ok (.invokestatic 63, 3) := by decide +kernel
theorem dX4_meanLength_7 : decode cX4_meanLength 7 = .ok (.aload_n 0, 1) := by decide +kernel
theorem dX4_meanLength_8 : decode cX4_meanLength 8 = .ok (.getfield 12, 3) := by decide +kernel
theorem dX4_meanLength_11 : decode cX4_meanLength 11 = .ok (.iload_n 1, 1) := by decide +kernel
theorem dX4_meanLength_12 : decode cX4_meanLength 12 = .ok (.invokevirtual 67, 3) := by decide +kernel
theorem dX4_meanLength_15 : decode cX4_meanLength 15 = .ok (.istore_n 2, 1) := by decide +kernel
theorem dX4_meanLength_16 : decode cX4_meanLength 16 = .ok (.iload_n 2, 1) := by decide +kernel
theorem dX4_meanLength_17 : decode cX4_meanLength 17 = .ok (.ifCond .ne 13, 3) := by decide +kernel
theorem dX4_meanLength_20 : decode cX4_meanLength 20 = .ok (.new 219, 3) := by decide +kernel
theorem dX4_meanLength_23 : decode cX4_meanLength 23 = .ok (.dup, 1) := by decide +kernel
theorem dX4_meanLength_24 : decode cX4_meanLength 24 = .ok (.ldc 221, 2) := by decide +kernel
theorem dX4_meanLength_26 : decode cX4_meanLength 26 = .ok (.invokespecial 223, 3) := by decide +kernel
theorem dX4_meanLength_29 : decode cX4_meanLength 29 = .ok (.athrow, 1) := by decide +kernel
theorem dX4_meanLength_30 : decode cX4_meanLength 30 = .ok (.aload_n 0, 1) := by decide +kernel
theorem dX4_meanLength_31 : decode cX4_meanLength 31 = .ok (.getfield 12, 3) := by decide +kernel
theorem dX4_meanLength_34 : decode cX4_meanLength 34 = .ok (.iload_n 1, 1) := by decide +kernel
theorem dX4_meanLength_35 : decode cX4_meanLength 35 = .ok (.invokevirtual 80, 3) := by decide +kernel
theorem dX4_meanLength_38 : decode cX4_meanLength 38 = .ok (.i2d, 1) := by decide +kernel
theorem dX4_meanLength_39 : decode cX4_meanLength 39 = .ok (.iload_n 2, 1) := by decide +kernel
theorem dX4_meanLength_40 : decode cX4_meanLength 40 = .ok (.i2d, 1) := by decide +kernel
theorem dX4_meanLength_41 : decode cX4_meanLength 41 = .ok (.ddiv, 1) := by decide +kernel
theorem dX4_meanLength_42 : decode cX4_meanLength 42 = .ok (.dreturn, 1) := by decide +kernel
theorem dX4_colourShare_0 : decode cX4_colourShare 0 = .ok (.iload_n 1, 1) := by decide +kernel
theorem dX4_colourShare_1 : decode cX4_colourShare 1 = .ok (.invokestatic 59, 3) := by decide +kernel
theorem dX4_colourShare_4 : decode cX4_colourShare 4 = .ok (.invokestatic 63, 3) := by decide +kernel
theorem dX4_colourShare_7 : decode cX4_colourShare 7 = .ok (.iload_n 2, 1) := by decide +kernel
theorem dX4_colourShare_8 : decode cX4_colourShare 8 = .ok (.invokestatic 121, 3) := by decide +kernel
theorem dX4_colourShare_11 : decode cX4_colourShare 11 = .ok (.invokestatic 63, 3) := by decide +kernel
theorem dX4_colourShare_14 : decode cX4_colourShare 14 = .ok (.aload_n 0, 1) := by decide +kernel
theorem dX4_colourShare_15 : decode cX4_colourShare 15 = .ok (.getfield 12, 3) := by decide +kernel
theorem dX4_colourShare_18 : decode cX4_colourShare 18 = .ok (.iload_n 1, 1) := by decide +kernel
theorem dX4_colourShare_19 : decode cX4_colourShare 19 = .ok (.invokevirtual 80, 3) := by decide +kernel
theorem dX4_colourShare_22 : decode cX4_colourShare 22 = .ok (.istore_n 3, 1) := by decide +kernel
theorem dX4_colourShare_23 : decode cX4_colourShare 23 = .ok (.iload_n 3, 1) := by decide +kernel
theorem dX4_colourShare_24 : decode cX4_colourShare 24 = .ok (.ifCond .ne 13, 3) := by decide +kernel
theorem dX4_colourShare_27 : decode cX4_colourShare 27 = .ok (.new 219, 3) := by decide +kernel
theorem dX4_colourShare_30 : decode cX4_colourShare 30 = .ok (.dup, 1) := by decide +kernel
theorem dX4_colourShare_31 : decode cX4_colourShare 31 = .ok (.ldc 221, 2) := by decide +kernel
theorem dX4_colourShare_33 : decode cX4_colourShare 33 = .ok (.invokespecial 223, 3) := by decide +kernel
theorem dX4_colourShare_36 : decode cX4_colourShare 36 = .ok (.athrow, 1) := by decide +kernel
theorem dX4_colourShare_37 : decode cX4_colourShare 37 = .ok (.aload_n 0, 1) := by decide +kernel
theorem dX4_colourShare_38 : decode cX4_colourShare 38 = .ok (.getfield 12, 3) := by decide +kernel
theorem dX4_colourShare_41 : decode cX4_colourShare 41 = .ok (.iload_n 1, 1) := by decide +kernel
theorem dX4_colourShare_42 : decode cX4_colourShare 42 = .ok (.iload_n 2, 1) := by decide +kernel
theorem dX4_colourShare_43 : decode cX4_colourShare 43 = .ok (.invokevirtual 127, 3) := by decide +kernel
theorem dX4_colourShare_46 : decode cX4_colourShare 46 = .ok (.i2f, 1) := by decide +kernel
theorem dX4_colourShare_47 : decode cX4_colourShare 47 = .ok (.iload_n 3, 1) := by decide +kernel
theorem dX4_colourShare_48 : decode cX4_colourShare 48 = .ok (.i2f, 1) := by decide +kernel
theorem dX4_colourShare_49 : decode cX4_colourShare 49 = .ok (.fdiv, 1) := by decide +kernel
theorem dX4_colourShare_50 : decode cX4_colourShare 50 = .ok (.freturn, 1) := by decide +kernel
theorem dX4_isConsistent_0 : decode cX4_isConsistent 0 = .ok (.iconst 0, 1) := by decide +kernel
theorem dX4_isConsistent_1 : decode cX4_isConsistent 1 = .ok (.istore_n 1, 1) := by decide +kernel
theorem dX4_isConsistent_2 : decode cX4_isConsistent 2 = .ok (.iload_n 1, 1) := by decide +kernel
theorem dX4_isConsistent_3 : decode cX4_isConsistent 3 = .ok (.iconst 4, 1) := by decide +kernel
theorem dX4_isConsistent_4 : decode cX4_isConsistent 4 = .ok (.if_icmp .ge 22, 3) := by decide +kernel
theorem dX4_isConsistent_7 : decode cX4_isConsistent 7 = .ok (.aload_n 0, 1) := by decide +kernel
theorem dX4_isConsistent_8 : decode cX4_isConsistent 8 = .ok (.getfield 12, 3) := by decide +kernel
theorem dX4_isConsistent_11 : decode cX4_isConsistent 11 = .ok (.iload_n 1, 1) := by decide +kernel
theorem dX4_isConsistent_12 : decode cX4_isConsistent 12 = .ok (.invokevirtual 224, 3) := by decide +kernel
theorem dX4_isConsistent_15 : decode cX4_isConsistent 15 = .ok (.ifCond .ne 5, 3) := by decide +kernel
theorem dX4_isConsistent_18 : decode cX4_isConsistent 18 = .ok (.iconst 0, 1) := by decide +kernel
theorem dX4_isConsistent_19 : decode cX4_isConsistent 19 = .ok (.ireturn, 1) := by decide +kernel
theorem dX4_isConsistent_20 : decode cX4_isConsistent 20 = .ok (.iinc 1 1, 3) := by decide +kernel
theorem dX4_isConsistent_23 : decode cX4_isConsistent 23 = .ok (.goto (-21), 3) := by decide +kernel
theorem dX4_isConsistent_26 : decode cX4_isConsistent 26 = .ok (.iconst 1, 1) := by decide +kernel
theorem dX4_isConsistent_27 : decode cX4_isConsistent 27 = .ok (.ireturn, 1) := by decide +kernel
theorem dX4_undo_0 : decode cX4_undo 0 = .ok (.aload_n 0, 1) := by decide +kernel
theorem dX4_undo_1 : decode cX4_undo 1 = .ok (.getfield 30, 3) := by decide +kernel
theorem dX4_undo_4 : decode cX4_undo 4 = .ok (.invokevirtual 227, 3) := by decide +kernel
theorem dX4_undo_7 : decode cX4_undo 7 = .ok (.ifCond .ne 13, 3) := by decide +kernel
theorem dX4_undo_10 : decode cX4_undo 10 = .ok (.new 157, 3) := by decide +kernel
theorem dX4_undo_13 : decode cX4_undo 13 = .ok (.dup, 1) := by decide +kernel
theorem dX4_undo_14 : decode cX4_undo 14 = .ok (.ldc 228, 2) := by decide +kernel
theorem dX4_undo_16 : decode cX4_undo 16 = .ok (.invokespecial 161, 3) := by decide +kernel
theorem dX4_undo_19 : decode cX4_undo 19 = .ok (.athrow, 1) := by decide +kernel
theorem dX4_undo_20 : decode cX4_undo 20 = .ok (.aload_n 0, 1) := by decide +kernel
theorem dX4_undo_21 : decode cX4_undo 21 = .ok (.getfield 30, 3) := by decide +kernel
theorem dX4_undo_24 : decode cX4_undo 24 = .ok (.aload_n 0, 1) := by decide +kernel
theorem dX4_undo_25 : decode cX4_undo 25 = .ok (.getfield 12, 3) := by decide +kernel
theorem dX4_undo_28 : decode cX4_undo 28 = .ok (.invokevirtual 230, 3) := by decide +kernel
theorem dX4_undo_31 : decode cX4_undo 31 = .ok (.aload_n 0, 1) := by decide +kernel
theorem dX4_undo_32 : decode cX4_undo 32 = .ok (.getfield 30, 3) := by decide +kernel
theorem dX4_undo_35 : decode cX4_undo 35 = .ok (.invokevirtual 227, 3) := by decide +kernel
theorem dX4_undo_38 : decode cX4_undo 38 = .ok (.ireturn, 1) := by decide +kernel
theorem dX4_save_0 : decode cX4_save 0 = .ok (.aload_n 0, 1) := by decide +kernel
theorem dX4_save_1 : decode cX4_save 1 = .ok (.getfield 12, 3) := by decide +kernel
theorem dX4_save_4 : decode cX4_save 4 = .ok (.aload_n 0, 1) := by decide +kernel
theorem dX4_save_5 : decode cX4_save 5 = .ok (.getfield 20, 3) := by decide +kernel
theorem dX4_save_8 : decode cX4_save 8 = .ok (.iconst 0, 1) := by decide +kernel
theorem dX4_save_9 : decode cX4_save 9 = .ok (.invokevirtual 175, 3) := by decide +kernel
theorem dX4_save_12 : decode cX4_save 12 = .ok (.aload_n 0, 1) := by decide +kernel
theorem dX4_save_13 : decode cX4_save 13 = .ok (.iconst 1, 1) := by decide +kernel
theorem dX4_save_14 : decode cX4_save 14 = .ok (.putfield 23, 3) := by decide +kernel
theorem dX4_save_17 : decode cX4_save 17 = .ok (.aload_n 0, 1) := by decide +kernel
theorem dX4_save_18 : decode cX4_save 18 = .ok (.getfield 12, 3) := by decide +kernel
theorem dX4_save_21 : decode cX4_save 21 = .ok (.invokevirtual 234, 3) := by decide +kernel
theorem dX4_save_24 : decode cX4_save 24 = .ok (.ireturn, 1) := by decide +kernel
theorem dX4_restore_0 : decode cX4_restore 0 = .ok (.aload_n 0, 1) := by decide +kernel
theorem dX4_restore_1 : decode cX4_restore 1 = .ok (.getfield 23, 3) := by decide +kernel
theorem dX4_restore_4 : decode cX4_restore 4 = .ok (.ifCond .ne 13, 3) := by decide +kernel
theorem dX4_restore_7 : decode cX4_restore 7 = .ok (.new 157, 3) := by decide +kernel
theorem dX4_restore_10 : decode cX4_restore 10 = .ok (.dup, 1) := by decide +kernel
theorem dX4_restore_11 : decode cX4_restore 11 = .ok (.ldc 237, 2) := by decide +kernel
theorem dX4_restore_13 : decode cX4_restore 13 = .ok (.invokespecial 161, 3) := by decide +kernel
theorem dX4_restore_16 : decode cX4_restore 16 = .ok (.athrow, 1) := by decide +kernel
theorem dX4_restore_17 : decode cX4_restore 17 = .ok (.aload_n 0, 1) := by decide +kernel
theorem dX4_restore_18 : decode cX4_restore 18 = .ok (.getfield 12, 3) := by decide +kernel
theorem dX4_restore_21 : decode cX4_restore 21 = .ok (.aload_n 0, 1) := by decide +kernel
theorem dX4_restore_22 : decode cX4_restore 22 = .ok (.getfield 20, 3) := by decide +kernel
theorem dX4_restore_25 : decode cX4_restore 25 = .ok (.iconst 0, 1) := by decide +kernel
theorem dX4_restore_26 : decode cX4_restore 26 = .ok (.invokevirtual 182, 3) := by decide +kernel
theorem dX4_restore_29 : decode cX4_restore 29 = .ok (.aload_n 0, 1) := by decide +kernel
theorem dX4_restore_30 : decode cX4_restore 30 = .ok (.getfield 30, 3) := by decide +kernel
theorem dX4_restore_33 : decode cX4_restore 33 = .ok (.invokevirtual 239, 3) := by decide +kernel
theorem dX4_restore_36 : decode cX4_restore 36 = .ok (.aload_n 0, 1) := by decide +kernel
theorem dX4_restore_37 : decode cX4_restore 37 = .ok (.getfield 12, 3) := by decide +kernel
theorem dX4_restore_40 : decode cX4_restore 40 = .ok (.invokevirtual 234, 3) := by decide +kernel
theorem dX4_restore_43 : decode cX4_restore 43 = .ok (.ireturn, 1) := by decide +kernel
theorem dX4_raise_0 : decode cX4_raise 0 = .ok (.iload_n 0, 1) := by decide +kernel
theorem dX4_raise_1 : decode cX4_raise 1 = .ok (.tableswitch 57 1 3 #[27, 37, 47], 27) := by decide +kernel
theorem dX4_raise_28 : decode cX4_raise 28 = .ok (.new 210, 3) := by decide +kernel
theorem dX4_raise_31 : decode cX4_raise 31 = .ok (.dup, 1) := by decide +kernel
theorem dX4_raise_32 : decode cX4_raise 32 = .ok (.ldc 242, 2) := by decide +kernel
theorem dX4_raise_34 : decode cX4_raise 34 = .ok (.invokespecial 214, 3) := by decide +kernel
theorem dX4_raise_37 : decode cX4_raise 37 = .ok (.athrow, 1) := by decide +kernel
theorem dX4_raise_38 : decode cX4_raise 38 = .ok (.new 146, 3) := by decide +kernel
theorem dX4_raise_41 : decode cX4_raise 41 = .ok (.dup, 1) := by decide +kernel
theorem dX4_raise_42 : decode cX4_raise 42 = .ok (.ldc 244, 2) := by decide +kernel
theorem dX4_raise_44 : decode cX4_raise 44 = .ok (.invokespecial 150, 3) := by decide +kernel
theorem dX4_raise_47 : decode cX4_raise 47 = .ok (.athrow, 1) := by decide +kernel
theorem dX4_raise_48 : decode cX4_raise 48 = .ok (.new 157, 3) := by decide +kernel
theorem dX4_raise_51 : decode cX4_raise 51 = .ok (.dup, 1) := by decide +kernel
theorem dX4_raise_52 : decode cX4_raise 52 = .ok (.ldc 246, 2) := by decide +kernel
theorem dX4_raise_54 : decode cX4_raise 54 = .ok (.invokespecial 161, 3) := by decide +kernel
theorem dX4_raise_57 : decode cX4_raise 57 = .ok (.athrow, 1) := by decide +kernel
theorem dX4_raise_58 : decode cX4_raise 58 = .ok (.return_, 1) := by decide +kernel
theorem dX4_found_0 : decode cX4_found 0 = .ok (.iload_n 0, 1) := by decide +kernel
theorem dX4_found_1 : decode cX4_found 1 = .ok (.iconst (-1), 1) := by decide +kernel
theorem dX4_found_2 : decode cX4_found 2 = .ok (.if_icmp .ne 13, 3) := by decide +kernel
theorem dX4_found_5 : decode cX4_found 5 = .ok (.new 248, 3) := by decide +kernel
theorem dX4_found_8 : decode cX4_found 8 = .ok (.dup, 1) := by decide +kernel
theorem dX4_found_9 : decode cX4_found 9 = .ok (.ldc 250, 2) := by decide +kernel
theorem dX4_found_11 : decode cX4_found 11 = .ok (.invokespecial 252, 3) := by decide +kernel
theorem dX4_found_14 : decode cX4_found 14 = .ok (.athrow, 1) := by decide +kernel
theorem dX4_found_15 : decode cX4_found 15 = .ok (.iload_n 0, 1) := by decide +kernel
theorem dX4_found_16 : decode cX4_found 16 = .ok (.ireturn, 1) := by decide +kernel
theorem dX4_isReel_0 : decode cX4_isReel 0 = .ok (.iload_n 0, 1) := by decide +kernel
theorem dX4_isReel_1 : decode cX4_isReel 1 = .ok (.ifCond .lt 12, 3) := by decide +kernel
theorem dX4_isReel_4 : decode cX4_isReel 4 = .ok (.iload_n 0, 1) := by decide +kernel
theorem dX4_isReel_5 : decode cX4_isReel 5 = .ok (.iconst 4, 1) := by decide +kernel
theorem dX4_isReel_6 : decode cX4_isReel 6 = .ok (.if_icmp .ge 7, 3) := by decide +kernel
theorem dX4_isReel_9 : decode cX4_isReel 9 = .ok (.iconst 1, 1) := by decide +kernel
theorem dX4_isReel_10 : decode cX4_isReel 10 = .ok (.goto 4, 3) := by decide +kernel
theorem dX4_isReel_13 : decode cX4_isReel 13 = .ok (.iconst 0, 1) := by decide +kernel
theorem dX4_isReel_14 : decode cX4_isReel 14 = .ok (.ireturn, 1) := by decide +kernel
theorem dX4_isLength_0 : decode cX4_isLength 0 = .ok (.iload_n 0, 1) := by decide +kernel
theorem dX4_isLength_1 : decode cX4_isLength 1 = .ok (.iconst 1, 1) := by decide +kernel
theorem dX4_isLength_2 : decode cX4_isLength 2 = .ok (.if_icmp .lt 13, 3) := by decide +kernel
theorem dX4_isLength_5 : decode cX4_isLength 5 = .ok (.iload_n 0, 1) := by decide +kernel
theorem dX4_isLength_6 : decode cX4_isLength 6 = .ok (.bipush 99, 2) := by decide +kernel
theorem dX4_isLength_8 : decode cX4_isLength 8 = .ok (.if_icmp .gt 7, 3) := by decide +kernel
theorem dX4_isLength_11 : decode cX4_isLength 11 = .ok (.iconst 1, 1) := by decide +kernel
theorem dX4_isLength_12 : decode cX4_isLength 12 = .ok (.goto 4, 3) := by decide +kernel
theorem dX4_isLength_15 : decode cX4_isLength 15 = .ok (.iconst 0, 1) := by decide +kernel
theorem dX4_isLength_16 : decode cX4_isLength 16 = .ok (.ireturn, 1) := by decide +kernel
theorem dX4_isColour_0 : decode cX4_isColour 0 = .ok (.iload_n 0, 1) := by decide +kernel
theorem dX4_isColour_1 : decode cX4_isColour 1 = .ok (.ifCond .lt 13, 3) := by decide +kernel
theorem dX4_isColour_4 : decode cX4_isColour 4 = .ok (.iload_n 0, 1) := by decide +kernel
theorem dX4_isColour_5 : decode cX4_isColour 5 = .ok (.bipush 8, 2) := by decide +kernel
theorem dX4_isColour_7 : decode cX4_isColour 7 = .ok (.if_icmp .ge 7, 3) := by decide +kernel
theorem dX4_isColour_10 : decode cX4_isColour 10 = .ok (.iconst 1, 1) := by decide +kernel
theorem dX4_isColour_11 : decode cX4_isColour 11 = .ok (.goto 4, 3) := by decide +kernel
theorem dX4_isColour_14 : decode cX4_isColour 14 = .ok (.iconst 0, 1) := by decide +kernel
theorem dX4_isColour_15 : decode cX4_isColour 15 = .ok (.ireturn, 1) := by decide +kernel
theorem dX4_isPosition_0 : decode cX4_isPosition 0 = .ok (.iload_n 1, 1) := by decide +kernel
theorem dX4_isPosition_1 : decode cX4_isPosition 1 = .ok (.invokestatic 253, 3) := by decide +kernel
theorem dX4_isPosition_4 : decode cX4_isPosition 4 = .ok (.ifCond .eq 23, 3) := by decide +kernel
theorem dX4_isPosition_7 : decode cX4_isPosition 7 = .ok (.iload_n 2, 1) := by decide +kernel
theorem dX4_isPosition_8 : decode cX4_isPosition 8 = .ok (.ifCond .lt 19, 3) := by decide +kernel
theorem dX4_isPosition_11 : decode cX4_isPosition 11 = .ok (.iload_n 2, 1) := by decide +kernel
theorem dX4_isPosition_12 : decode cX4_isPosition 12 = .ok (.aload_n 0, 1) := by decide +kernel
theorem dX4_isPosition_13 : decode cX4_isPosition 13 = .ok (.getfield 12, 3) := by decide +kernel
theorem dX4_isPosition_16 : decode cX4_isPosition 16 = .ok (.iload_n 1, 1) := by decide +kernel
theorem dX4_isPosition_17 : decode cX4_isPosition 17 = .ok (.invokevirtual 67, 3) := by decide +kernel
theorem dX4_isPosition_20 : decode cX4_isPosition 20 = .ok (.if_icmp .ge 7, 3) := by decide +kernel
theorem dX4_isPosition_23 : decode cX4_isPosition 23 = .ok (.iconst 1, 1) := by decide +kernel
theorem dX4_isPosition_24 : decode cX4_isPosition 24 = .ok (.goto 4, 3) := by decide +kernel
theorem dX4_isPosition_27 : decode cX4_isPosition 27 = .ok (.iconst 0, 1) := by decide +kernel
theorem dX4_isPosition_28 : decode cX4_isPosition 28 = .ok (.ireturn, 1) := by decide +kernel
theorem dX4_reelFault_0 : decode cX4_reelFault 0 = .ok (.iload_n 0, 1) := by decide +kernel
theorem dX4_reelFault_1 : decode cX4_reelFault 1 = .ok (.invokestatic 253, 3) := by decide +kernel
theorem dX4_reelFault_4 : decode cX4_reelFault 4 = .ok (.ifCond .eq 7, 3) := by decide +kernel
theorem dX4_reelFault_7 : decode cX4_reelFault 7 = .ok (.iconst 0, 1) := by decide +kernel
theorem dX4_reelFault_8 : decode cX4_reelFault 8 = .ok (.goto 4, 3) := by decide +kernel
theorem dX4_reelFault_11 : decode cX4_reelFault 11 = .ok (.iconst 1, 1) := by decide +kernel
theorem dX4_reelFault_12 : decode cX4_reelFault 12 = .ok (.ireturn, 1) := by decide +kernel
theorem dX4_pairFault_0 : decode cX4_pairFault 0 = .ok (.iload_n 0, 1) := by decide +kernel
theorem dX4_pairFault_1 : decode cX4_pairFault 1 = .ok (.invokestatic 253, 3) := by decide +kernel
theorem dX4_pairFault_4 : decode cX4_pairFault 4 = .ok (.ifCond .eq 14, 3) := by decide +kernel
theorem dX4_pairFault_7 : decode cX4_pairFault 7 = .ok (.iload_n 1, 1) := by decide +kernel
theorem dX4_pairFault_8 : decode cX4_pairFault 8 = .ok (.invokestatic 253, 3) := by decide +kernel
theorem dX4_pairFault_11 : decode cX4_pairFault 11 = .ok (.ifCond .eq 7, 3) := by decide +kernel
theorem dX4_pairFault_14 : decode cX4_pairFault 14 = .ok (.iconst 0, 1) := by decide +kernel
theorem dX4_pairFault_15 : decode cX4_pairFault 15 = .ok (.goto 4, 3) := by decide +kernel
theorem dX4_pairFault_18 : decode cX4_pairFault 18 = .ok (.iconst 1, 1) := by decide +kernel
theorem dX4_pairFault_19 : decode cX4_pairFault 19 = .ok (.ireturn, 1) := by decide +kernel
theorem dX4_colourFault_0 : decode cX4_colourFault 0 = .ok (.iload_n 0, 1) := by decide +kernel
theorem dX4_colourFault_1 : decode cX4_colourFault 1 = .ok (.invokestatic 256, 3) := by decide +kernel
theorem dX4_colourFault_4 : decode cX4_colourFault 4 = .ok (.ifCond .eq 7, 3) := by decide +kernel
theorem dX4_colourFault_7 : decode cX4_colourFault 7 = .ok (.iconst 0, 1) := by decide +kernel
theorem dX4_colourFault_8 : decode cX4_colourFault 8 = .ok (.goto 4, 3) := by decide +kernel
theorem dX4_colourFault_11 : decode cX4_colourFault 11 = .ok (.iconst 2, 1) := by decide +kernel
theorem dX4_colourFault_12 : decode cX4_colourFault 12 = .ok (.ireturn, 1) := by decide +kernel
theorem dX4_positionFault_0 : decode cX4_positionFault 0 = .ok (.aload_n 0, 1) := by decide +kernel
theorem dX4_positionFault_1 : decode cX4_positionFault 1 = .ok (.iload_n 1, 1) := by decide +kernel
theorem dX4_positionFault_2 : decode cX4_positionFault 2 = .ok (.iload_n 2, 1) := by decide +kernel
theorem dX4_positionFault_3 : decode cX4_positionFault 3 = .ok (.invokevirtual 259, 3) := by decide +kernel
theorem dX4_positionFault_6 : decode cX4_positionFault 6 = .ok (.ifCond .eq 7, 3) := by decide +kernel
theorem dX4_positionFault_9 : decode cX4_positionFault 9 = .ok (.iconst 0, 1) := by decide +kernel
theorem dX4_positionFault_10 : decode cX4_positionFault 10 = .ok (.goto 4, 3) := by decide +kernel
theorem dX4_positionFault_13 : decode cX4_positionFault 13 = .ok (.iconst 1, 1) := by decide +kernel
theorem dX4_positionFault_14 : decode cX4_positionFault 14 = .ok (.ireturn, 1) := by decide +kernel
theorem dX4_borderFault_0 : decode cX4_borderFault 0 = .ok (.iload_n 1, 1) := by decide +kernel
theorem dX4_borderFault_1 : decode cX4_borderFault 1 = .ok (.invokestatic 253, 3) := by decide +kernel
theorem dX4_borderFault_4 : decode cX4_borderFault 4 = .ok (.ifCond .eq 23, 3) := by decide +kernel
theorem dX4_borderFault_7 : decode cX4_borderFault 7 = .ok (.iload_n 2, 1) := by decide +kernel
theorem dX4_borderFault_8 : decode cX4_borderFault 8 = .ok (.ifCond .lt 19, 3) := by decide +kernel
theorem dX4_borderFault_11 : decode cX4_borderFault 11 = .ok (.iload_n 2, 1) := by decide +kernel
theorem dX4_borderFault_12 : decode cX4_borderFault 12 = .ok (.aload_n 0, 1) := by decide +kernel
theorem dX4_borderFault_13 : decode cX4_borderFault 13 = .ok (.getfield 12, 3) := by decide +kernel
theorem dX4_borderFault_16 : decode cX4_borderFault 16 = .ok (.iload_n 1, 1) := by decide +kernel
theorem dX4_borderFault_17 : decode cX4_borderFault 17 = .ok (.invokevirtual 67, 3) := by decide +kernel
theorem dX4_borderFault_20 : decode cX4_borderFault 20 = .ok (.if_icmp .gt 7, 3) := by decide +kernel
theorem dX4_borderFault_23 : decode cX4_borderFault 23 = .ok (.iconst 1, 1) := by decide +kernel
theorem dX4_borderFault_24 : decode cX4_borderFault 24 = .ok (.goto 4, 3) := by decide +kernel
theorem dX4_borderFault_27 : decode cX4_borderFault 27 = .ok (.iconst 0, 1) := by decide +kernel
theorem dX4_borderFault_28 : decode cX4_borderFault 28 = .ok (.istore_n 3, 1) := by decide +kernel
theorem dX4_borderFault_29 : decode cX4_borderFault 29 = .ok (.iload_n 3, 1) := by decide +kernel
theorem dX4_borderFault_30 : decode cX4_borderFault 30 = .ok (.ifCond .eq 7, 3) := by decide +kernel
theorem dX4_borderFault_33 : decode cX4_borderFault 33 = .ok (.iconst 0, 1) := by decide +kernel
theorem dX4_borderFault_34 : decode cX4_borderFault 34 = .ok (.goto 4, 3) := by decide +kernel
theorem dX4_borderFault_37 : decode cX4_borderFault 37 = .ok (.iconst 1, 1) := by decide +kernel
theorem dX4_borderFault_38 : decode cX4_borderFault 38 = .ok (.ireturn, 1) := by decide +kernel
theorem dX4_rangeFault_0 : decode cX4_rangeFault 0 = .ok (.aload_n 0, 1) := by decide +kernel
theorem dX4_rangeFault_1 : decode cX4_rangeFault 1 = .ok (.iload_n 1, 1) := by decide +kernel
theorem dX4_rangeFault_2 : decode cX4_rangeFault 2 = .ok (.iload_n 2, 1) := by decide +kernel
theorem dX4_rangeFault_3 : decode cX4_rangeFault 3 = .ok (.invokevirtual 259, 3) := by decide +kernel
theorem dX4_rangeFault_6 : decode cX4_rangeFault 6 = .ok (.ifCond .eq 12, 3) := by decide +kernel
theorem dX4_rangeFault_9 : decode cX4_rangeFault 9 = .ok (.aload_n 0, 1) := by decide +kernel
theorem dX4_rangeFault_10 : decode cX4_rangeFault 10 = .ok (.iload_n 1, 1) := by decide +kernel
theorem dX4_rangeFault_11 : decode cX4_rangeFault 11 = .ok (.iload_n 3, 1) := by decide +kernel
theorem dX4_rangeFault_12 : decode cX4_rangeFault 12 = .ok (.invokevirtual 259, 3) := by decide +kernel
theorem dX4_rangeFault_15 : decode cX4_rangeFault 15 = .ok (.ifCond .ne 5, 3) := by decide +kernel
theorem dX4_rangeFault_18 : decode cX4_rangeFault 18 = .ok (.iconst 1, 1) := by decide +kernel
theorem dX4_rangeFault_19 : decode cX4_rangeFault 19 = .ok (.ireturn, 1) := by decide +kernel
theorem dX4_rangeFault_20 : decode cX4_rangeFault 20 = .ok (.iload_n 2, 1) := by decide +kernel
theorem dX4_rangeFault_21 : decode cX4_rangeFault 21 = .ok (.iload_n 3, 1) := by decide +kernel
theorem dX4_rangeFault_22 : decode cX4_rangeFault 22 = .ok (.if_icmp .gt 7, 3) := by decide +kernel
theorem dX4_rangeFault_25 : decode cX4_rangeFault 25 = .ok (.iconst 0, 1) := by decide +kernel
theorem dX4_rangeFault_26 : decode cX4_rangeFault 26 = .ok (.goto 4, 3) := by decide +kernel
theorem dX4_rangeFault_29 : decode cX4_rangeFault 29 = .ok (.iconst 2, 1) := by decide +kernel
theorem dX4_rangeFault_30 : decode cX4_rangeFault 30 = .ok (.ireturn, 1) := by decide +kernel
theorem dX4_addFault_0 : decode cX4_addFault 0 = .ok (.iload_n 1, 1) := by decide +kernel
theorem dX4_addFault_1 : decode cX4_addFault 1 = .ok (.invokestatic 253, 3) := by decide +kernel
theorem dX4_addFault_4 : decode cX4_addFault 4 = .ok (.ifCond .ne 5, 3) := by decide +kernel
theorem dX4_addFault_7 : decode cX4_addFault 7 = .ok (.iconst 1, 1) := by decide +kernel
theorem dX4_addFault_8 : decode cX4_addFault 8 = .ok (.ireturn, 1) := by decide +kernel
theorem dX4_addFault_9 : decode cX4_addFault 9 = .ok (.aload_n 0, 1) := by decide +kernel
theorem dX4_addFault_10 : decode cX4_addFault 10 = .ok (.iload_n 1, 1) := by decide +kernel
theorem dX4_addFault_11 : decode cX4_addFault 11 = .ok (.iload_n 2, 1) := by decide +kernel
theorem dX4_addFault_12 : decode cX4_addFault 12 = .ok (.iload_n 3, 1) := by decide +kernel
theorem dX4_addFault_13 : decode cX4_addFault 13 = .ok (.invokevirtual 262, 3) := by decide +kernel
theorem dX4_addFault_16 : decode cX4_addFault 16 = .ok (.ireturn, 1) := by decide +kernel
theorem dX4_putFault_0 : decode cX4_putFault 0 = .ok (.aload_n 0, 1) := by decide +kernel
theorem dX4_putFault_1 : decode cX4_putFault 1 = .ok (.iload_n 1, 1) := by decide +kernel
theorem dX4_putFault_2 : decode cX4_putFault 2 = .ok (.iload_n 2, 1) := by decide +kernel
theorem dX4_putFault_3 : decode cX4_putFault 3 = .ok (.invokevirtual 83, 3) := by decide +kernel
theorem dX4_putFault_6 : decode cX4_putFault 6 = .ok (.ifCond .eq 5, 3) := by decide +kernel
theorem dX4_putFault_9 : decode cX4_putFault 9 = .ok (.iconst 1, 1) := by decide +kernel
theorem dX4_putFault_10 : decode cX4_putFault 10 = .ok (.ireturn, 1) := by decide +kernel
theorem dX4_putFault_11 : decode cX4_putFault 11 = .ok (.aload_n 0, 1) := by decide +kernel
theorem dX4_putFault_12 : decode cX4_putFault 12 = .ok (.iload_n 1, 1) := by decide +kernel
theorem dX4_putFault_13 : decode cX4_putFault 13 = .ok (.iload_n 3, 1) := by decide +kernel
theorem dX4_putFault_14 : decode cX4_putFault 14 = .ok (.iload 4, 2) := by decide +kernel
theorem dX4_putFault_16 : decode cX4_putFault 16 = .ok (.invokevirtual 262, 3) := by decide +kernel
theorem dX4_putFault_19 : decode cX4_putFault 19 = .ok (.ireturn, 1) := by decide +kernel
theorem dX4_newSegmentFault_0 : decode cX4_newSegmentFault 0 = .ok (.iload_n 2, 1) := by decide +kernel
theorem dX4_newSegmentFault_1 : decode cX4_newSegmentFault 1 = .ok (.invokestatic 265, 3) := by decide +kernel
theorem dX4_newSegmentFault_4 : decode cX4_newSegmentFault 4 = .ok (.ifCond .eq 10, 3) := by decide +kernel
theorem dX4_newSegmentFault_7 : decode cX4_newSegmentFault 7 = .ok (.iload_n 3, 1) := by decide +kernel
theorem dX4_newSegmentFault_8 : decode cX4_newSegmentFault 8 = .ok (.invokestatic 256, 3) := by decide +kernel
theorem dX4_newSegmentFault_11 : decode cX4_newSegmentFault 11 = .ok (.ifCond .ne 5, 3) := by decide +kernel
theorem dX4_newSegmentFault_14 : decode cX4_newSegmentFault 14 = .ok (.iconst 2, 1) := by decide +kernel
theorem dX4_newSegmentFault_15 : decode cX4_newSegmentFault 15 = .ok (.ireturn, 1) := by decide +kernel
theorem dX4_newSegmentFault_16 : decode cX4_newSegmentFault 16 = .ok (.aload_n 0, 1) := by decide +kernel
theorem dX4_newSegmentFault_17 : decode cX4_newSegmentFault 17 = .ok (.getfield 12, 3) := by decide +kernel
theorem dX4_newSegmentFault_20 : decode cX4_newSegmentFault 20 = .ok (.iload_n 1, 1) := by decide +kernel
theorem dX4_newSegmentFault_21 : decode cX4_newSegmentFault 21 = .ok (.invokevirtual 67, 3) := by decide +kernel
theorem dX4_newSegmentFault_24 : decode cX4_newSegmentFault 24 = .ok (.bipush 60, 2) := by decide +kernel
theorem dX4_newSegmentFault_26 : decode cX4_newSegmentFault 26 = .ok (.if_icmp .ge 7, 3) := by decide +kernel
theorem dX4_newSegmentFault_29 : decode cX4_newSegmentFault 29 = .ok (.iconst 0, 1) := by decide +kernel
theorem dX4_newSegmentFault_30 : decode cX4_newSegmentFault 30 = .ok (.goto 4, 3) := by decide +kernel
theorem dX4_newSegmentFault_33 : decode cX4_newSegmentFault 33 = .ok (.iconst 3, 1) := by decide +kernel
theorem dX4_newSegmentFault_34 : decode cX4_newSegmentFault 34 = .ok (.ireturn, 1) := by decide +kernel
theorem dX4_tieFault_0 : decode cX4_tieFault 0 = .ok (.aload_n 0, 1) := by decide +kernel
theorem dX4_tieFault_1 : decode cX4_tieFault 1 = .ok (.iload_n 1, 1) := by decide +kernel
theorem dX4_tieFault_2 : decode cX4_tieFault 2 = .ok (.iload_n 2, 1) := by decide +kernel
theorem dX4_tieFault_3 : decode cX4_tieFault 3 = .ok (.invokevirtual 259, 3) := by decide +kernel
theorem dX4_tieFault_6 : decode cX4_tieFault 6 = .ok (.ifCond .ne 5, 3) := by decide +kernel
theorem dX4_tieFault_9 : decode cX4_tieFault 9 = .ok (.iconst 1, 1) := by decide +kernel
theorem dX4_tieFault_10 : decode cX4_tieFault 10 = .ok (.ireturn, 1) := by decide +kernel
theorem dX4_tieFault_11 : decode cX4_tieFault 11 = .ok (.iload_n 3, 1) := by decide +kernel
theorem dX4_tieFault_12 : decode cX4_tieFault 12 = .ok (.invokestatic 265, 3) := by decide +kernel
theorem dX4_tieFault_15 : decode cX4_tieFault 15 = .ok (.ifCond .eq 7, 3) := by decide +kernel
theorem dX4_tieFault_18 : decode cX4_tieFault 18 = .ok (.iconst 0, 1) := by decide +kernel
theorem dX4_tieFault_19 : decode cX4_tieFault 19 = .ok (.goto 4, 3) := by decide +kernel
theorem dX4_tieFault_22 : decode cX4_tieFault 22 = .ok (.iconst 2, 1) := by decide +kernel
theorem dX4_tieFault_23 : decode cX4_tieFault 23 = .ok (.ireturn, 1) := by decide +kernel
theorem dX4_cutFault_0 : decode cX4_cutFault 0 = .ok (.aload_n 0, 1) := by decide +kernel
theorem dX4_cutFault_1 : decode cX4_cutFault 1 = .ok (.iload_n 1, 1) := by decide +kernel
theorem dX4_cutFault_2 : decode cX4_cutFault 2 = .ok (.iload_n 2, 1) := by decide +kernel
theorem dX4_cutFault_3 : decode cX4_cutFault 3 = .ok (.invokevirtual 83, 3) := by decide +kernel
theorem dX4_cutFault_6 : decode cX4_cutFault 6 = .ok (.ifCond .ne 10, 3) := by decide +kernel
theorem dX4_cutFault_9 : decode cX4_cutFault 9 = .ok (.iload_n 3, 1) := by decide +kernel
theorem dX4_cutFault_10 : decode cX4_cutFault 10 = .ok (.invokestatic 253, 3) := by decide +kernel
theorem dX4_cutFault_13 : decode cX4_cutFault 13 = .ok (.ifCond .ne 5, 3) := by decide +kernel
theorem dX4_cutFault_16 : decode cX4_cutFault 16 = .ok (.iconst 1, 1) := by decide +kernel
theorem dX4_cutFault_17 : decode cX4_cutFault 17 = .ok (.ireturn, 1) := by decide +kernel
theorem dX4_cutFault_18 : decode cX4_cutFault 18 = .ok (.iload_n 1, 1) := by decide +kernel
theorem dX4_cutFault_19 : decode cX4_cutFault 19 = .ok (.iload_n 3, 1) := by decide +kernel
theorem dX4_cutFault_20 : decode cX4_cutFault 20 = .ok (.if_icmp .ne 5, 3) := by decide +kernel
theorem dX4_cutFault_23 : decode cX4_cutFault 23 = .ok (.iconst 2, 1) := by decide +kernel
theorem dX4_cutFault_24 : decode cX4_cutFault 24 = .ok (.ireturn, 1) := by decide +kernel
theorem dX4_cutFault_25 : decode cX4_cutFault 25 = .ok (.aload_n 0, 1) := by decide +kernel
theorem dX4_cutFault_26 : decode cX4_cutFault 26 = .ok (.getfield 12, 3) := by decide +kernel
theorem dX4_cutFault_29 : decode cX4_cutFault 29 = .ok (.iload_n 3, 1) := by decide +kernel
theorem dX4_cutFault_30 : decode cX4_cutFault 30 = .ok (.invokevirtual 67, 3) := by decide +kernel
theorem dX4_cutFault_33 : decode cX4_cutFault 33 = .ok (.ifCond .ne 7, 3) := by decide +kernel
theorem dX4_cutFault_36 : decode cX4_cutFault 36 = .ok (.iconst 0, 1) := by decide +kernel
theorem dX4_cutFault_37 : decode cX4_cutFault 37 = .ok (.goto 4, 3) := by decide +kernel
theorem dX4_cutFault_40 : decode cX4_cutFault 40 = .ok (.iconst 3, 1) := by decide +kernel
theorem dX4_cutFault_41 : decode cX4_cutFault 41 = .ok (.ireturn, 1) := by decide +kernel
theorem dX4_joinFault_0 : decode cX4_joinFault 0 = .ok (.iload_n 1, 1) := by decide +kernel
theorem dX4_joinFault_1 : decode cX4_joinFault 1 = .ok (.iload_n 2, 1) := by decide +kernel
theorem dX4_joinFault_2 : decode cX4_joinFault 2 = .ok (.invokestatic 137, 3) := by decide +kernel
theorem dX4_joinFault_5 : decode cX4_joinFault 5 = .ok (.ifCond .eq 5, 3) := by decide +kernel
theorem dX4_joinFault_8 : decode cX4_joinFault 8 = .ok (.iconst 1, 1) := by decide +kernel
theorem dX4_joinFault_9 : decode cX4_joinFault 9 = .ok (.ireturn, 1) := by decide +kernel
theorem dX4_joinFault_10 : decode cX4_joinFault 10 = .ok (.iload_n 1, 1) := by decide +kernel
theorem dX4_joinFault_11 : decode cX4_joinFault 11 = .ok (.iload_n 2, 1) := by decide +kernel
theorem dX4_joinFault_12 : decode cX4_joinFault 12 = .ok (.if_icmp .ne 5, 3) := by decide +kernel
theorem dX4_joinFault_15 : decode cX4_joinFault 15 = .ok (.iconst 2, 1) := by decide +kernel
theorem dX4_joinFault_16 : decode cX4_joinFault 16 = .ok (.ireturn, 1) := by decide +kernel
theorem dX4_joinFault_17 : decode cX4_joinFault 17 = .ok (.aload_n 0, 1) := by decide +kernel
theorem dX4_joinFault_18 : decode cX4_joinFault 18 = .ok (.getfield 12, 3) := by decide +kernel
theorem dX4_joinFault_21 : decode cX4_joinFault 21 = .ok (.iload_n 1, 1) := by decide +kernel
theorem dX4_joinFault_22 : decode cX4_joinFault 22 = .ok (.invokevirtual 67, 3) := by decide +kernel
theorem dX4_joinFault_25 : decode cX4_joinFault 25 = .ok (.aload_n 0, 1) := by decide +kernel
theorem dX4_joinFault_26 : decode cX4_joinFault 26 = .ok (.getfield 12, 3) := by decide +kernel
theorem dX4_joinFault_29 : decode cX4_joinFault 29 = .ok (.iload_n 2, 1) := by decide +kernel
theorem dX4_joinFault_30 : decode cX4_joinFault 30 = .ok (.invokevirtual 67, 3) := by decide +kernel
theorem dX4_joinFault_33 : decode cX4_joinFault 33 = .ok (.iadd, 1) := by decide +kernel
theorem dX4_joinFault_34 : decode cX4_joinFault 34 = .ok (.bipush 60, 2) := by decide +kernel
theorem dX4_joinFault_36 : decode cX4_joinFault 36 = .ok (.if_icmp .gt 7, 3) := by decide +kernel
theorem dX4_joinFault_39 : decode cX4_joinFault 39 = .ok (.iconst 0, 1) := by decide +kernel
theorem dX4_joinFault_40 : decode cX4_joinFault 40 = .ok (.goto 4, 3) := by decide +kernel
theorem dX4_joinFault_43 : decode cX4_joinFault 43 = .ok (.iconst 3, 1) := by decide +kernel
theorem dX4_joinFault_44 : decode cX4_joinFault 44 = .ok (.ireturn, 1) := by decide +kernel
theorem dX4_dyeFault_0 : decode cX4_dyeFault 0 = .ok (.aload_n 0, 1) := by decide +kernel
theorem dX4_dyeFault_1 : decode cX4_dyeFault 1 = .ok (.iload_n 1, 1) := by decide +kernel
theorem dX4_dyeFault_2 : decode cX4_dyeFault 2 = .ok (.iload_n 2, 1) := by decide +kernel
theorem dX4_dyeFault_3 : decode cX4_dyeFault 3 = .ok (.iload_n 3, 1) := by decide +kernel
theorem dX4_dyeFault_4 : decode cX4_dyeFault 4 = .ok (.invokevirtual 99, 3) := by decide +kernel
theorem dX4_dyeFault_7 : decode cX4_dyeFault 7 = .ok (.istore 5, 2) := by decide +kernel
theorem dX4_dyeFault_9 : decode cX4_dyeFault 9 = .ok (.iload 5, 2) := by decide +kernel
theorem dX4_dyeFault_11 : decode cX4_dyeFault 11 = .ok (.ifCond .ne 11, 3) := by decide +kernel
theorem dX4_dyeFault_14 : decode cX4_dyeFault 14 = .ok (.iload 4, 2) := by decide +kernel
theorem dX4_dyeFault_16 : decode cX4_dyeFault 16 = .ok (.invokestatic 121, 3) := by decide +kernel
theorem dX4_dyeFault_19 : decode cX4_dyeFault 19 = .ok (.goto 5, 3) := by decide +kernel
theorem dX4_dyeFault_22 : decode cX4_dyeFault 22 = .ok (.iload 5, 2) := by decide +kernel
theorem dX4_dyeFault_24 : decode cX4_dyeFault 24 = .ok (.ireturn, 1) := by decide +kernel
theorem dX4_change_0 : decode cX4_change 0 = .ok (.aload_n 0, 1) := by decide +kernel
theorem dX4_change_1 : decode cX4_change 1 = .ok (.iload_n 1, 1) := by decide +kernel
theorem dX4_change_2 : decode cX4_change 2 = .ok (.iload_n 2, 1) := by decide +kernel
theorem dX4_change_3 : decode cX4_change 3 = .ok (.iload_n 3, 1) := by decide +kernel
theorem dX4_change_4 : decode cX4_change 4 = .ok (.iload 4, 2) := by decide +kernel
theorem dX4_change_6 : decode cX4_change 6 = .ok (.iload 5, 2) := by decide +kernel
theorem dX4_change_8 : decode cX4_change 8 = .ok (.invokevirtual 268, 3) := by decide +kernel
theorem dX4_change_11 : decode cX4_change 11 = .ok (.invokestatic 63, 3) := by decide +kernel
theorem dX4_change_14 : decode cX4_change 14 = .ok (.aload_n 0, 1) := by decide +kernel
theorem dX4_change_15 : decode cX4_change 15 = .ok (.getfield 12, 3) := by decide +kernel
theorem dX4_change_18 : decode cX4_change 18 = .ok (.aload_n 0, 1) := by decide +kernel
theorem dX4_change_19 : decode cX4_change 19 = .ok (.getfield 16, 3) := by decide +kernel
theorem dX4_change_22 : decode cX4_change 22 = .ok (.iconst 0, 1) := by decide +kernel
theorem dX4_change_23 : decode cX4_change 23 = .ok (.invokevirtual 175, 3) := by decide +kernel
theorem dX4_change_26 : decode cX4_change 26 = .ok (.aload_n 0, 1) := by decide +kernel
theorem dX4_change_27 : decode cX4_change 27 = .ok (.getfield 30, 3) := by decide +kernel
theorem dX4_change_30 : decode cX4_change 30 = .ok (.aload_n 0, 1) := by decide +kernel
theorem dX4_change_31 : decode cX4_change 31 = .ok (.getfield 16, 3) := by decide +kernel
theorem dX4_change_34 : decode cX4_change 34 = .ok (.invokevirtual 187, 3) := by decide +kernel
theorem dX4_change_37 : decode cX4_change 37 = .ok (.aload_n 0, 1) := by decide +kernel
theorem dX4_change_38 : decode cX4_change 38 = .ok (.iload_n 1, 1) := by decide +kernel
theorem dX4_change_39 : decode cX4_change 39 = .ok (.iload_n 2, 1) := by decide +kernel
theorem dX4_change_40 : decode cX4_change 40 = .ok (.iload_n 3, 1) := by decide +kernel
theorem dX4_change_41 : decode cX4_change 41 = .ok (.iload 4, 2) := by decide +kernel
theorem dX4_change_43 : decode cX4_change 43 = .ok (.iload 5, 2) := by decide +kernel
theorem dX4_change_45 : decode cX4_change 45 = .ok (.invokevirtual 271, 3) := by decide +kernel
theorem dX4_change_48 : decode cX4_change 48 = .ok (.istore 6, 2) := by decide +kernel
theorem dX4_change_50 : decode cX4_change 50 = .ok (.aload_n 0, 1) := by decide +kernel
theorem dX4_change_51 : decode cX4_change 51 = .ok (.getfield 12, 3) := by decide +kernel
theorem dX4_change_54 : decode cX4_change 54 = .ok (.invokevirtual 191, 3) := by decide +kernel
theorem dX4_change_57 : decode cX4_change 57 = .ok (.iload 6, 2) := by decide +kernel
theorem dX4_change_59 : decode cX4_change 59 = .ok (.ireturn, 1) := by decide +kernel
theorem dX4_faultOf_0 : decode cX4_faultOf 0 = .ok (.iload_n 1, 1) := by decide +kernel
theorem dX4_faultOf_1 : decode cX4_faultOf 1 = .ok (.tableswitch 129 0 8 #[51, 60, 71, 78, 87, 96, 103, 109, 118], 51) := by decide +kernel
theorem dX4_faultOf_52 : decode cX4_faultOf 52 = .ok (.aload_n 0, 1) := by decide +kernel
theorem dX4_faultOf_53 : decode cX4_faultOf 53 = .ok (.iload_n 2, 1) := by decide +kernel
theorem dX4_faultOf_54 : decode cX4_faultOf 54 = .ok (.iload_n 3, 1) := by decide +kernel
theorem dX4_faultOf_55 : decode cX4_faultOf 55 = .ok (.iload 4, 2) := by decide +kernel
theorem dX4_faultOf_57 : decode cX4_faultOf 57 = .ok (.invokevirtual 274, 3) := by decide +kernel
theorem dX4_faultOf_60 : decode cX4_faultOf 60 = .ok (.ireturn, 1) := by decide +kernel
theorem dX4_faultOf_61 : decode cX4_faultOf 61 = .ok (.aload_n 0, 1) := by decide +kernel
theorem dX4_faultOf_62 : decode cX4_faultOf 62 = .ok (.iload_n 2, 1) := by decide +kernel
theorem dX4_faultOf_63 : decode cX4_faultOf 63 = .ok (.iload_n 3, 1) := by decide +kernel
theorem dX4_faultOf_64 : decode cX4_faultOf 64 = .ok (.iload 4, 2) := by decide +kernel
theorem dX4_faultOf_66 : decode cX4_faultOf 66 = .ok (.iload 5, 2) := by decide +kernel
theorem dX4_faultOf_68 : decode cX4_faultOf 68 = .ok (.invokevirtual 277, 3) := by decide +kernel
theorem dX4_faultOf_71 : decode cX4_faultOf 71 = .ok (.ireturn, 1) := by decide +kernel
theorem dX4_faultOf_72 : decode cX4_faultOf 72 = .ok (.aload_n 0, 1) := by decide +kernel
theorem dX4_faultOf_73 : decode cX4_faultOf 73 = .ok (.iload_n 2, 1) := by decide +kernel
theorem dX4_faultOf_74 : decode cX4_faultOf 74 = .ok (.iload_n 3, 1) := by decide +kernel
theorem dX4_faultOf_75 : decode cX4_faultOf 75 = .ok (.invokevirtual 70, 3) := by decide +kernel
theorem dX4_faultOf_78 : decode cX4_faultOf 78 = .ok (.ireturn, 1) := by decide +kernel
theorem dX4_faultOf_79 : decode cX4_faultOf 79 = .ok (.aload_n 0, 1) := by decide +kernel
theorem dX4_faultOf_80 : decode cX4_faultOf 80 = .ok (.iload_n 2, 1) := by decide +kernel
theorem dX4_faultOf_81 : decode cX4_faultOf 81 = .ok (.iload_n 3, 1) := by decide +kernel
theorem dX4_faultOf_82 : decode cX4_faultOf 82 = .ok (.iload 4, 2) := by decide +kernel
theorem dX4_faultOf_84 : decode cX4_faultOf 84 = .ok (.invokevirtual 281, 3) := by decide +kernel
theorem dX4_faultOf_87 : decode cX4_faultOf 87 = .ok (.ireturn, 1) := by decide +kernel
theorem dX4_faultOf_88 : decode cX4_faultOf 88 = .ok (.aload_n 0, 1) := by decide +kernel
theorem dX4_faultOf_89 : decode cX4_faultOf 89 = .ok (.iload_n 2, 1) := by decide +kernel
theorem dX4_faultOf_90 : decode cX4_faultOf 90 = .ok (.iload_n 3, 1) := by decide +kernel
theorem dX4_faultOf_91 : decode cX4_faultOf 91 = .ok (.iload 4, 2) := by decide +kernel
theorem dX4_faultOf_93 : decode cX4_faultOf 93 = .ok (.invokevirtual 284, 3) := by decide +kernel
theorem dX4_faultOf_96 : decode cX4_faultOf 96 = .ok (.ireturn, 1) := by decide +kernel
theorem dX4_faultOf_97 : decode cX4_faultOf 97 = .ok (.aload_n 0, 1) := by decide +kernel
theorem dX4_faultOf_98 : decode cX4_faultOf 98 = .ok (.iload_n 2, 1) := by decide +kernel
theorem dX4_faultOf_99 : decode cX4_faultOf 99 = .ok (.iload_n 3, 1) := by decide +kernel
theorem dX4_faultOf_100 : decode cX4_faultOf 100 = .ok (.invokevirtual 287, 3) := by decide +kernel
theorem dX4_faultOf_103 : decode cX4_faultOf 103 = .ok (.ireturn, 1) := by decide +kernel
theorem dX4_faultOf_104 : decode cX4_faultOf 104 = .ok (.iload_n 2, 1) := by decide +kernel
theorem dX4_faultOf_105 : decode cX4_faultOf 105 = .ok (.iload_n 3, 1) := by decide +kernel
theorem dX4_faultOf_106 : decode cX4_faultOf 106 = .ok (.invokestatic 137, 3) := by decide +kernel
theorem dX4_faultOf_109 : decode cX4_faultOf 109 = .ok (.ireturn, 1) := by decide +kernel
theorem dX4_faultOf_110 : decode cX4_faultOf 110 = .ok (.aload_n 0, 1) := by decide +kernel
theorem dX4_faultOf_111 : decode cX4_faultOf 111 = .ok (.iload_n 2, 1) := by decide +kernel
theorem dX4_faultOf_112 : decode cX4_faultOf 112 = .ok (.iload_n 3, 1) := by decide +kernel
theorem dX4_faultOf_113 : decode cX4_faultOf 113 = .ok (.iload 4, 2) := by decide +kernel
theorem dX4_faultOf_115 : decode cX4_faultOf 115 = .ok (.invokevirtual 99, 3) := by decide +kernel
theorem dX4_faultOf_118 : decode cX4_faultOf 118 = .ok (.ireturn, 1) := by decide +kernel
theorem dX4_faultOf_119 : decode cX4_faultOf 119 = .ok (.aload_n 0, 1) := by decide +kernel
theorem dX4_faultOf_120 : decode cX4_faultOf 120 = .ok (.iload_n 2, 1) := by decide +kernel
theorem dX4_faultOf_121 : decode cX4_faultOf 121 = .ok (.iload_n 3, 1) := by decide +kernel
theorem dX4_faultOf_122 : decode cX4_faultOf 122 = .ok (.iload 4, 2) := by decide +kernel
theorem dX4_faultOf_124 : decode cX4_faultOf 124 = .ok (.iload 5, 2) := by decide +kernel
theorem dX4_faultOf_126 : decode cX4_faultOf 126 = .ok (.invokevirtual 290, 3) := by decide +kernel
theorem dX4_faultOf_129 : decode cX4_faultOf 129 = .ok (.ireturn, 1) := by decide +kernel
theorem dX4_faultOf_130 : decode cX4_faultOf 130 = .ok (.iconst 3, 1) := by decide +kernel
theorem dX4_faultOf_131 : decode cX4_faultOf 131 = .ok (.ireturn, 1) := by decide +kernel
theorem dX4_carryOut_0 : decode cX4_carryOut 0 = .ok (.iload_n 1, 1) := by decide +kernel
theorem dX4_carryOut_1 : decode cX4_carryOut 1 = .ok (.tableswitch 165 0 8 #[51, 71, 85, 95, 107, 119, 129, 139, 151], 51) := by decide +kernel
theorem dX4_carryOut_52 : decode cX4_carryOut 52 = .ok (.aload_n 0, 1) := by decide +kernel
theorem dX4_carryOut_53 : decode cX4_carryOut 53 = .ok (.getfield 12, 3) := by decide +kernel
theorem dX4_carryOut_56 : decode cX4_carryOut 56 = .ok (.iload_n 2, 1) := by decide +kernel
theorem dX4_carryOut_57 : decode cX4_carryOut 57 = .ok (.aload_n 0, 1) := by decide +kernel
theorem dX4_carryOut_58 : decode cX4_carryOut 58 = .ok (.getfield 12, 3) := by decide +kernel
theorem dX4_carryOut_61 : decode cX4_carryOut 61 = .ok (.iload_n 2, 1) := by decide +kernel
theorem dX4_carryOut_62 : decode cX4_carryOut 62 = .ok (.invokevirtual 67, 3) := by decide +kernel
theorem dX4_carryOut_65 : decode cX4_carryOut 65 = .ok (.iload_n 3, 1) := by decide +kernel
theorem dX4_carryOut_66 : decode cX4_carryOut 66 = .ok (.iload 4, 2) := by decide +kernel
theorem dX4_carryOut_68 : decode cX4_carryOut 68 = .ok (.invokevirtual 293, 3) := by decide +kernel
theorem dX4_carryOut_71 : decode cX4_carryOut 71 = .ok (.ireturn, 1) := by decide +kernel
theorem dX4_carryOut_72 : decode cX4_carryOut 72 = .ok (.aload_n 0, 1) := by decide +kernel
theorem dX4_carryOut_73 : decode cX4_carryOut 73 = .ok (.getfield 12, 3) := by decide +kernel
theorem dX4_carryOut_76 : decode cX4_carryOut 76 = .ok (.iload_n 2, 1) := by decide +kernel
theorem dX4_carryOut_77 : decode cX4_carryOut 77 = .ok (.iload_n 3, 1) := by decide +kernel
theorem dX4_carryOut_78 : decode cX4_carryOut 78 = .ok (.iload 4, 2) := by decide +kernel
theorem dX4_carryOut_80 : decode cX4_carryOut 80 = .ok (.iload 5, 2) := by decide +kernel
theorem dX4_carryOut_82 : decode cX4_carryOut 82 = .ok (.invokevirtual 293, 3) := by decide +kernel
theorem dX4_carryOut_85 : decode cX4_carryOut 85 = .ok (.ireturn, 1) := by decide +kernel
theorem dX4_carryOut_86 : decode cX4_carryOut 86 = .ok (.aload_n 0, 1) := by decide +kernel
theorem dX4_carryOut_87 : decode cX4_carryOut 87 = .ok (.getfield 12, 3) := by decide +kernel
theorem dX4_carryOut_90 : decode cX4_carryOut 90 = .ok (.iload_n 2, 1) := by decide +kernel
theorem dX4_carryOut_91 : decode cX4_carryOut 91 = .ok (.iload_n 3, 1) := by decide +kernel
theorem dX4_carryOut_92 : decode cX4_carryOut 92 = .ok (.invokevirtual 296, 3) := by decide +kernel
theorem dX4_carryOut_95 : decode cX4_carryOut 95 = .ok (.ireturn, 1) := by decide +kernel
theorem dX4_carryOut_96 : decode cX4_carryOut 96 = .ok (.aload_n 0, 1) := by decide +kernel
theorem dX4_carryOut_97 : decode cX4_carryOut 97 = .ok (.getfield 12, 3) := by decide +kernel
theorem dX4_carryOut_100 : decode cX4_carryOut 100 = .ok (.iload_n 2, 1) := by decide +kernel
theorem dX4_carryOut_101 : decode cX4_carryOut 101 = .ok (.iload_n 3, 1) := by decide +kernel
theorem dX4_carryOut_102 : decode cX4_carryOut 102 = .ok (.iload 4, 2) := by decide +kernel
theorem dX4_carryOut_104 : decode cX4_carryOut 104 = .ok (.invokevirtual 299, 3) := by decide +kernel
theorem dX4_carryOut_107 : decode cX4_carryOut 107 = .ok (.ireturn, 1) := by decide +kernel
theorem dX4_carryOut_108 : decode cX4_carryOut 108 = .ok (.aload_n 0, 1) := by decide +kernel
theorem dX4_carryOut_109 : decode cX4_carryOut 109 = .ok (.getfield 12, 3) := by decide +kernel
theorem dX4_carryOut_112 : decode cX4_carryOut 112 = .ok (.iload_n 2, 1) := by decide +kernel
theorem dX4_carryOut_113 : decode cX4_carryOut 113 = .ok (.iload_n 3, 1) := by decide +kernel
theorem dX4_carryOut_114 : decode cX4_carryOut 114 = .ok (.iload 4, 2) := by decide +kernel
theorem dX4_carryOut_116 : decode cX4_carryOut 116 = .ok (.invokevirtual 302, 3) := by decide +kernel
theorem dX4_carryOut_119 : decode cX4_carryOut 119 = .ok (.ireturn, 1) := by decide +kernel
theorem dX4_carryOut_120 : decode cX4_carryOut 120 = .ok (.aload_n 0, 1) := by decide +kernel
theorem dX4_carryOut_121 : decode cX4_carryOut 121 = .ok (.getfield 12, 3) := by decide +kernel
theorem dX4_carryOut_124 : decode cX4_carryOut 124 = .ok (.iload_n 2, 1) := by decide +kernel
theorem dX4_carryOut_125 : decode cX4_carryOut 125 = .ok (.iload_n 3, 1) := by decide +kernel
theorem dX4_carryOut_126 : decode cX4_carryOut 126 = .ok (.invokevirtual 305, 3) := by decide +kernel
theorem dX4_carryOut_129 : decode cX4_carryOut 129 = .ok (.ireturn, 1) := by decide +kernel
theorem dX4_carryOut_130 : decode cX4_carryOut 130 = .ok (.aload_n 0, 1) := by decide +kernel
theorem dX4_carryOut_131 : decode cX4_carryOut 131 = .ok (.getfield 12, 3) := by decide +kernel
theorem dX4_carryOut_134 : decode cX4_carryOut 134 = .ok (.iload_n 2, 1) := by decide +kernel
theorem dX4_carryOut_135 : decode cX4_carryOut 135 = .ok (.iload_n 3, 1) := by decide +kernel
theorem dX4_carryOut_136 : decode cX4_carryOut 136 = .ok (.invokevirtual 308, 3) := by decide +kernel
theorem dX4_carryOut_139 : decode cX4_carryOut 139 = .ok (.ireturn, 1) := by decide +kernel
theorem dX4_carryOut_140 : decode cX4_carryOut 140 = .ok (.aload_n 0, 1) := by decide +kernel
theorem dX4_carryOut_141 : decode cX4_carryOut 141 = .ok (.getfield 12, 3) := by decide +kernel
theorem dX4_carryOut_144 : decode cX4_carryOut 144 = .ok (.iload_n 2, 1) := by decide +kernel
theorem dX4_carryOut_145 : decode cX4_carryOut 145 = .ok (.iload_n 3, 1) := by decide +kernel
theorem dX4_carryOut_146 : decode cX4_carryOut 146 = .ok (.iload 4, 2) := by decide +kernel
theorem dX4_carryOut_148 : decode cX4_carryOut 148 = .ok (.invokevirtual 311, 3) := by decide +kernel
theorem dX4_carryOut_151 : decode cX4_carryOut 151 = .ok (.ireturn, 1) := by decide +kernel
theorem dX4_carryOut_152 : decode cX4_carryOut 152 = .ok (.aload_n 0, 1) := by decide +kernel
theorem dX4_carryOut_153 : decode cX4_carryOut 153 = .ok (.getfield 12, 3) := by decide +kernel
theorem dX4_carryOut_156 : decode cX4_carryOut 156 = .ok (.iload_n 2, 1) := by decide +kernel
theorem dX4_carryOut_157 : decode cX4_carryOut 157 = .ok (.iload_n 3, 1) := by decide +kernel
theorem dX4_carryOut_158 : decode cX4_carryOut 158 = .ok (.iload 4, 2) := by decide +kernel
theorem dX4_carryOut_160 : decode cX4_carryOut 160 = .ok (.iload 5, 2) := by decide +kernel
theorem dX4_carryOut_162 : decode cX4_carryOut 162 = .ok (.invokevirtual 314, 3) := by decide +kernel
theorem dX4_carryOut_165 : decode cX4_carryOut 165 = .ok (.ireturn, 1) := by decide +kernel
theorem dX4_carryOut_166 : decode cX4_carryOut 166 = .ok (.iconst (-1), 1) := by decide +kernel
theorem dX4_carryOut_167 : decode cX4_carryOut 167 = .ok (.ireturn, 1) := by decide +kernel
theorem dX4_carryOutCommands_0 : decode cX4_carryOutCommands 0 = .ok (.iconst 0, 1) := by decide +kernel
theorem dX4_carryOutCommands_1 : decode cX4_carryOutCommands 1 = .ok (.istore_n 1, 1) := by decide +kernel
theorem dX4_carryOutCommands_2 : decode cX4_carryOutCommands 2 = .ok (.iload_n 1, 1) := by decide +kernel
theorem dX4_carryOutCommands_3 : decode cX4_carryOutCommands 3 = .ok (.aload_n 0, 1) := by decide +kernel
theorem dX4_carryOutCommands_4 : decode cX4_carryOutCommands 4 = .ok (.getfield 37, 3) := by decide +kernel
theorem dX4_carryOutCommands_7 : decode cX4_carryOutCommands 7 = .ok (.invokevirtual 194, 3) := by decide +kernel
theorem dX4_carryOutCommands_10 : decode cX4_carryOutCommands 10 = .ok (.if_icmp .ge 91, 3) := by decide +kernel
theorem dX4_carryOutCommands_13 : decode cX4_carryOutCommands 13 = .ok (.aload_n 0, 1) := by decide +kernel
theorem dX4_carryOutCommands_14 : decode cX4_carryOutCommands 14 = .ok (.getfield 37, 3) := by decide +kernel
theorem dX4_carryOutCommands_17 : decode cX4_carryOutCommands 17 = .ok (.iload_n 1, 1) := by decide +kernel
theorem dX4_carryOutCommands_18 : decode cX4_carryOutCommands 18 = .ok (.invokevirtual 317, 3) := by decide +kernel
theorem dX4_carryOutCommands_21 : decode cX4_carryOutCommands 21 = .ok (.istore_n 2, 1) := by decide +kernel
theorem dX4_carryOutCommands_22 : decode cX4_carryOutCommands 22 = .ok (.aload_n 0, 1) := by decide +kernel
theorem dX4_carryOutCommands_23 : decode cX4_carryOutCommands 23 = .ok (.getfield 37, 3) := by decide +kernel
theorem dX4_carryOutCommands_26 : decode cX4_carryOutCommands 26 = .ok (.iload_n 1, 1) := by decide +kernel
theorem dX4_carryOutCommands_27 : decode cX4_carryOutCommands 27 = .ok (.iconst 0, 1) := by decide +kernel
theorem dX4_carryOutCommands_28 : decode cX4_carryOutCommands 28 = .ok (.invokevirtual 320, 3) := by decide +kernel
theorem dX4_carryOutCommands_31 : decode cX4_carryOutCommands 31 = .ok (.istore_n 3, 1) := by decide +kernel
theorem dX4_carryOutCommands_32 : decode cX4_carryOutCommands 32 = .ok (.aload_n 0, 1) := by decide +kernel
theorem dX4_carryOutCommands_33 : decode cX4_carryOutCommands 33 = .ok (.getfield 37, 3) := by decide +kernel
theorem dX4_carryOutCommands_36 : decode cX4_carryOutCommands 36 = .ok (.iload_n 1, 1) := by decide +kernel
theorem dX4_carryOutCommands_37 : decode cX4_carryOutCommands 37 = .ok (.iconst 1, 1) := by decide +kernel
theorem dX4_carryOutCommands_38 : decode cX4_carryOutCommands 38 = .ok (.invokevirtual 320, 3) := by decide +kernel
theorem dX4_carryOutCommands_41 : decode cX4_carryOutCommands 41 = .ok (.istore 4, 2) := by decide +kernel
theorem dX4_carryOutCommands_43 : decode cX4_carryOutCommands 43 = .ok (.aload_n 0, 1) := by decide +kernel
theorem dX4_carryOutCommands_44 : decode cX4_carryOutCommands 44 = .ok (.getfield 37, 3) := by decide +kernel
theorem dX4_carryOutCommands_47 : decode cX4_carryOutCommands 47 = .ok (.iload_n 1, 1) := by decide +kernel
theorem dX4_carryOutCommands_48 : decode cX4_carryOutCommands 48 = .ok (.iconst 2, 1) := by decide +kernel
theorem dX4_carryOutCommands_49 : decode cX4_carryOutCommands 49 = .ok (.invokevirtual 320, 3) := by decide +kernel
theorem dX4_carryOutCommands_52 : decode cX4_carryOutCommands 52 = .ok (.istore 5, 2) := by decide +kernel
theorem dX4_carryOutCommands_54 : decode cX4_carryOutCommands 54 = .ok (.aload_n 0, 1) := by decide +kernel
theorem dX4_carryOutCommands_55 : decode cX4_carryOutCommands 55 = .ok (.getfield 37, 3) := by decide +kernel
theorem dX4_carryOutCommands_58 : decode cX4_carryOutCommands 58 = .ok (.iload_n 1, 1) := by decide +kernel
theorem dX4_carryOutCommands_59 : decode cX4_carryOutCommands 59 = .ok (.iconst 3, 1) := by decide +kernel
theorem dX4_carryOutCommands_60 : decode cX4_carryOutCommands 60 = .ok (.invokevirtual 320, 3) := by decide +kernel
theorem dX4_carryOutCommands_63 : decode cX4_carryOutCommands 63 = .ok (.istore 6, 2) := by decide +kernel
theorem dX4_carryOutCommands_65 : decode cX4_carryOutCommands 65 = .ok (.aload_n 0, 1) := by decide +kernel
theorem dX4_carryOutCommands_66 : decode cX4_carryOutCommands 66 = .ok (.iload_n 2, 1) := by decide +kernel
theorem dX4_carryOutCommands_67 : decode cX4_carryOutCommands 67 = .ok (.iload_n 3, 1) := by decide +kernel
theorem dX4_carryOutCommands_68 : decode cX4_carryOutCommands 68 = .ok (.iload 4, 2) := by decide +kernel
theorem dX4_carryOutCommands_70 : decode cX4_carryOutCommands 70 = .ok (.iload 5, 2) := by decide +kernel
theorem dX4_carryOutCommands_72 : decode cX4_carryOutCommands 72 = .ok (.iload 6, 2) := by decide +kernel
theorem dX4_carryOutCommands_74 : decode cX4_carryOutCommands 74 = .ok (.invokevirtual 268, 3) := by decide +kernel
theorem dX4_carryOutCommands_77 : decode cX4_carryOutCommands 77 = .ok (.ifCond .eq 5, 3) := by decide +kernel
theorem dX4_carryOutCommands_80 : decode cX4_carryOutCommands 80 = .ok (.iload_n 1, 1) := by decide +kernel
theorem dX4_carryOutCommands_81 : decode cX4_carryOutCommands 81 = .ok (.ireturn, 1) := by decide +kernel
theorem dX4_carryOutCommands_82 : decode cX4_carryOutCommands 82 = .ok (.aload_n 0, 1) := by decide +kernel
theorem dX4_carryOutCommands_83 : decode cX4_carryOutCommands 83 = .ok (.iload_n 2, 1) := by decide +kernel
theorem dX4_carryOutCommands_84 : decode cX4_carryOutCommands 84 = .ok (.iload_n 3, 1) := by decide +kernel
theorem dX4_carryOutCommands_85 : decode cX4_carryOutCommands 85 = .ok (.iload 4, 2) := by decide +kernel
theorem dX4_carryOutCommands_87 : decode cX4_carryOutCommands 87 = .ok (.iload 5, 2) := by decide +kernel
theorem dX4_carryOutCommands_89 : decode cX4_carryOutCommands 89 = .ok (.iload 6, 2) := by decide +kernel
theorem dX4_carryOutCommands_91 : decode cX4_carryOutCommands 91 = .ok (.invokevirtual 271, 3) := by decide +kernel
theorem dX4_carryOutCommands_94 : decode cX4_carryOutCommands 94 = .ok (.pop, 1) := by decide +kernel
theorem dX4_carryOutCommands_95 : decode cX4_carryOutCommands 95 = .ok (.iinc 1 1, 3) := by decide +kernel
theorem dX4_carryOutCommands_98 : decode cX4_carryOutCommands 98 = .ok (.goto (-96), 3) := by decide +kernel
theorem dX4_carryOutCommands_101 : decode cX4_carryOutCommands 101 = .ok (.iconst (-1), 1) := by decide +kernel
theorem dX4_carryOutCommands_102 : decode cX4_carryOutCommands 102 = .ok (.ireturn, 1) := by decide +kernel
theorem dX4_copyRow_0 : decode cX4_copyRow 0 = .ok (.aload_n 0, 1) := by decide +kernel
theorem dX4_copyRow_1 : decode cX4_copyRow 1 = .ok (.iload_n 1, 1) := by decide +kernel
theorem dX4_copyRow_2 : decode cX4_copyRow 2 = .ok (.invokestatic 323, 3) := by decide +kernel
theorem dX4_copyRow_5 : decode cX4_copyRow 5 = .ok (.ifCond .eq 21, 3) := by decide +kernel
theorem dX4_copyRow_8 : decode cX4_copyRow 8 = .ok (.aload_n 2, 1) := by decide +kernel
theorem dX4_copyRow_9 : decode cX4_copyRow 9 = .ok (.iload_n 3, 1) := by decide +kernel
theorem dX4_copyRow_10 : decode cX4_copyRow 10 = .ok (.invokestatic 323, 3) := by decide +kernel
theorem dX4_copyRow_13 : decode cX4_copyRow 13 = .ok (.ifCond .eq 13, 3) := by decide +kernel
theorem dX4_copyRow_16 : decode cX4_copyRow 16 = .ok (.aload_n 0, 1) := by decide +kernel
theorem dX4_copyRow_17 : decode cX4_copyRow 17 = .ok (.iload_n 1, 1) := by decide +kernel
theorem dX4_copyRow_18 : decode cX4_copyRow 18 = .ok (.aload_n 2, 1) := by decide +kernel
theorem dX4_copyRow_19 : decode cX4_copyRow 19 = .ok (.iload_n 3, 1) := by decide +kernel
theorem dX4_copyRow_20 : decode cX4_copyRow 20 = .ok (.sipush 310, 3) := by decide +kernel
theorem dX4_copyRow_23 : decode cX4_copyRow 23 = .ok (.invokestatic 327, 3) := by decide +kernel
theorem dX4_copyRow_26 : decode cX4_copyRow 26 = .ok (.return_, 1) := by decide +kernel
theorem dX4_hasRowAt_0 : decode cX4_hasRowAt 0 = .ok (.iload_n 1, 1) := by decide +kernel
theorem dX4_hasRowAt_1 : decode cX4_hasRowAt 1 = .ok (.ifCond .lt 17, 3) := by decide +kernel
theorem dX4_hasRowAt_4 : decode cX4_hasRowAt 4 = .ok (.iload_n 1, 1) := by decide +kernel
theorem dX4_hasRowAt_5 : decode cX4_hasRowAt 5 = .ok (.aload_n 0, 1) := by decide +kernel
theorem dX4_hasRowAt_6 : decode cX4_hasRowAt 6 = .ok (.arraylength, 1) := by decide +kernel
theorem dX4_hasRowAt_7 : decode cX4_hasRowAt 7 = .ok (.sipush 310, 3) := by decide +kernel
theorem dX4_hasRowAt_10 : decode cX4_hasRowAt 10 = .ok (.isub, 1) := by decide +kernel
theorem dX4_hasRowAt_11 : decode cX4_hasRowAt 11 = .ok (.if_icmp .gt 7, 3) := by decide +kernel
theorem dX4_hasRowAt_14 : decode cX4_hasRowAt 14 = .ok (.iconst 1, 1) := by decide +kernel
theorem dX4_hasRowAt_15 : decode cX4_hasRowAt 15 = .ok (.goto 4, 3) := by decide +kernel
theorem dX4_hasRowAt_18 : decode cX4_hasRowAt 18 = .ok (.iconst 0, 1) := by decide +kernel
theorem dX4_hasRowAt_19 : decode cX4_hasRowAt 19 = .ok (.ireturn, 1) := by decide +kernel
theorem dX5_init_0 : decode cX5_init 0 = .ok (.aload_n 0, 1) := by decide +kernel
theorem dX5_init_1 : decode cX5_init 1 = .ok (.invokespecial 1, 3) := by decide +kernel
theorem dX5_init_4 : decode cX5_init 4 = .ok (.aload_n 0, 1) := by decide +kernel
theorem dX5_init_5 : decode cX5_init 5 = .ok (.sipush 486, 3) := by decide +kernel
theorem dX5_init_8 : decode cX5_init 8 = .ok (.newarray .int, 2) := by decide +kernel
theorem dX5_init_10 : decode cX5_init 10 = .ok (.putfield 7, 3) := by decide +kernel
theorem dX5_init_13 : decode cX5_init 13 = .ok (.aload_n 0, 1) := by decide +kernel
theorem dX5_init_14 : decode cX5_init 14 = .ok (.sipush 486, 3) := by decide +kernel
theorem dX5_init_17 : decode cX5_init 17 = .ok (.newarray .int, 2) := by decide +kernel
theorem dX5_init_19 : decode cX5_init 19 = .ok (.putfield 13, 3) := by decide +kernel
theorem dX5_init_22 : decode cX5_init 22 = .ok (.aload_n 0, 1) := by decide +kernel
theorem dX5_init_23 : decode cX5_init 23 = .ok (.sipush 486, 3) := by decide +kernel
theorem dX5_init_26 : decode cX5_init 26 = .ok (.newarray .int, 2) := by decide +kernel
theorem dX5_init_28 : decode cX5_init 28 = .ok (.putfield 16, 3) := by decide +kernel
theorem dX5_init_31 : decode cX5_init 31 = .ok (.aload_n 0, 1) := by decide +kernel
theorem dX5_init_32 : decode cX5_init 32 = .ok (.sipush 3888, 3) := by decide +kernel
theorem dX5_init_35 : decode cX5_init 35 = .ok (.newarray .int, 2) := by decide +kernel
theorem dX5_init_37 : decode cX5_init 37 = .ok (.putfield 19, 3) := by decide +kernel
theorem dX5_init_40 : decode cX5_init 40 = .ok (.aload_n 0, 1) := by decide +kernel
theorem dX5_init_41 : decode cX5_init 41 = .ok (.bipush 60, 2) := by decide +kernel
theorem dX5_init_43 : decode cX5_init 43 = .ok (.newarray .int, 2) := by decide +kernel
theorem dX5_init_45 : decode cX5_init 45 = .ok (.putfield 22, 3) := by decide +kernel
theorem dX5_init_48 : decode cX5_init 48 = .ok (.aload_n 0, 1) := by decide +kernel
theorem dX5_init_49 : decode cX5_init 49 = .ok (.sipush 300, 3) := by decide +kernel
theorem dX5_init_52 : decode cX5_init 52 = .ok (.newarray .int, 2) := by decide +kernel
theorem dX5_init_54 : decode cX5_init 54 = .ok (.putfield 25, 3) := by decide +kernel
theorem dX5_init_57 : decode cX5_init 57 = .ok (.aload_n 0, 1) := by decide +kernel
theorem dX5_init_58 : decode cX5_init 58 = .ok (.sipush 240, 3) := by decide +kernel
theorem dX5_init_61 : decode cX5_init 61 = .ok (.newarray .int, 2) := by decide +kernel
theorem dX5_init_63 : decode cX5_init 63 = .ok (.putfield 28, 3) := by decide +kernel
theorem dX5_init_66 : decode cX5_init 66 = .ok (.aload_n 0, 1) := by decide +kernel
theorem dX5_init_67 : decode cX5_init 67 = .ok (.iconst (-1), 1) := by decide +kernel
theorem dX5_init_68 : decode cX5_init 68 = .ok (.putfield 31, 3) := by decide +kernel
theorem dX5_init_71 : decode cX5_init 71 = .ok (.aload_n 0, 1) := by decide +kernel
theorem dX5_init_72 : decode cX5_init 72 = .ok (.iconst (-1), 1) := by decide +kernel
theorem dX5_init_73 : decode cX5_init 73 = .ok (.putfield 35, 3) := by decide +kernel
theorem dX5_init_76 : decode cX5_init 76 = .ok (.return_, 1) := by decide +kernel
theorem dX5_thrown_0 : decode cX5_thrown 0 = .ok (.aload_n 0, 1) := by decide +kernel
theorem dX5_thrown_1 : decode cX5_thrown 1 = .ok (.getfield 38, 3) := by decide +kernel
theorem dX5_thrown_4 : decode cX5_thrown 4 = .ok (.ireturn, 1) := by decide +kernel
theorem dX5_fails_0 : decode cX5_fails 0 = .ok (.aload_n 0, 1) := by decide +kernel
theorem dX5_fails_1 : decode cX5_fails 1 = .ok (.iload_n 1, 1) := by decide +kernel
theorem dX5_fails_2 : decode cX5_fails 2 = .ok (.putfield 38, 3) := by decide +kernel
theorem dX5_fails_5 : decode cX5_fails 5 = .ok (.iconst 0, 1) := by decide +kernel
theorem dX5_fails_6 : decode cX5_fails 6 = .ok (.ireturn, 1) := by decide +kernel
theorem dX5_in_0 : decode cX5_in 0 = .ok (.iload_n 0, 1) := by decide +kernel
theorem dX5_in_1 : decode cX5_in 1 = .ok (.iload_n 1, 1) := by decide +kernel
theorem dX5_in_2 : decode cX5_in 2 = .ok (.if_icmp .lt 12, 3) := by decide +kernel
theorem dX5_in_5 : decode cX5_in 5 = .ok (.iload_n 0, 1) := by decide +kernel
theorem dX5_in_6 : decode cX5_in 6 = .ok (.iload_n 2, 1) := by decide +kernel
theorem dX5_in_7 : decode cX5_in 7 = .ok (.if_icmp .gt 7, 3) := by decide +kernel
theorem dX5_in_10 : decode cX5_in 10 = .ok (.iconst 1, 1) := by decide +kernel
theorem dX5_in_11 : decode cX5_in 11 = .ok (.goto 4, 3) := by decide +kernel
theorem dX5_in_14 : decode cX5_in 14 = .ok (.iconst 0, 1) := by decide +kernel
theorem dX5_in_15 : decode cX5_in 15 = .ok (.ireturn, 1) := by decide +kernel
theorem dX5_remembers_0 : decode cX5_remembers 0 = .ok (.aload_n 0, 1) := by decide +kernel
theorem dX5_remembers_1 : decode cX5_remembers 1 = .ok (.iconst 0, 1) := by decide +kernel
theorem dX5_remembers_2 : decode cX5_remembers 2 = .ok (.putfield 38, 3) := by decide +kernel
theorem dX5_remembers_5 : decode cX5_remembers 5 = .ok (.iconst 0, 1) := by decide +kernel
theorem dX5_remembers_6 : decode cX5_remembers 6 = .ok (.istore_n 1, 1) := by decide +kernel
theorem dX5_remembers_7 : decode cX5_remembers 7 = .ok (.iload_n 1, 1) := by decide +kernel
theorem dX5_remembers_8 : decode cX5_remembers 8 = .ok (.sipush 486, 3) := by decide +kernel
theorem dX5_remembers_11 : decode cX5_remembers 11 = .ok (.if_icmp .ge 21, 3) := by decide +kernel
theorem dX5_remembers_14 : decode cX5_remembers 14 = .ok (.aload_n 0, 1) := by decide +kernel
theorem dX5_remembers_15 : decode cX5_remembers 15 = .ok (.getfield 13, 3) := by decide +kernel
theorem dX5_remembers_18 : decode cX5_remembers 18 = .ok (.iload_n 1, 1) := by decide +kernel
theorem dX5_remembers_19 : decode cX5_remembers 19 = .ok (.aload_n 0, 1) := by decide +kernel
theorem dX5_remembers_20 : decode cX5_remembers 20 = .ok (.getfield 7, 3) := by decide +kernel
theorem dX5_remembers_23 : decode cX5_remembers 23 = .ok (.iload_n 1, 1) := by decide +kernel
theorem dX5_remembers_24 : decode cX5_remembers 24 = .ok (.iaload, 1) := by decide +kernel
theorem dX5_remembers_25 : decode cX5_remembers 25 = .ok (.iastore, 1) := by decide +kernel
theorem dX5_remembers_26 : decode cX5_remembers 26 = .ok (.iinc 1 1, 3) := by decide +kernel
theorem dX5_remembers_29 : decode cX5_remembers 29 = .ok (.goto (-22), 3) := by decide +kernel
theorem dX5_remembers_32 : decode cX5_remembers 32 = .ok (.return_, 1) := by decide +kernel
theorem dX5_changed_0 : decode cX5_changed 0 = .ok (.aload_n 0, 1) := by decide +kernel
theorem dX5_changed_1 : decode cX5_changed 1 = .ok (.getfield 41, 3) := by decide +kernel
theorem dX5_changed_4 : decode cX5_changed 4 = .ok (.bipush 8, 2) := by decide +kernel
theorem dX5_changed_6 : decode cX5_changed 6 = .ok (.if_icmp .ne 37, 3) := by decide +kernel
theorem dX5_changed_9 : decode cX5_changed 9 = .ok (.iconst 0, 1) := by decide +kernel
theorem dX5_changed_10 : decode cX5_changed 10 = .ok (.istore_n 2, 1) := by decide +kernel
theorem dX5_changed_11 : decode cX5_changed 11 = .ok (.iload_n 2, 1) := by decide +kernel
theorem dX5_changed_12 : decode cX5_changed 12 = .ok (.sipush 3402, 3) := by decide +kernel
theorem dX5_changed_15 : decode cX5_changed 15 = .ok (.if_icmp .ge 25, 3) := by decide +kernel
theorem dX5_changed_18 : decode cX5_changed 18 = .ok (.aload_n 0, 1) := by decide +kernel
theorem dX5_changed_19 : decode cX5_changed 19 = .ok (.getfield 19, 3) := by decide +kernel
theorem dX5_changed_22 : decode cX5_changed 22 = .ok (.iload_n 2, 1) := by decide +kernel
theorem dX5_changed_23 : decode cX5_changed 23 = .ok (.aload_n 0, 1) := by decide +kernel
theorem dX5_changed_24 : decode cX5_changed 24 = .ok (.getfield 19, 3) := by decide +kernel
theorem dX5_changed_27 : decode cX5_changed 27 = .ok (.iload_n 2, 1) := by decide +kernel
theorem dX5_changed_28 : decode cX5_changed 28 = .ok (.sipush 486, 3) := by decide +kernel
theorem dX5_changed_31 : decode cX5_changed 31 = .ok (.iadd, 1) := by decide +kernel
theorem dX5_changed_32 : decode cX5_changed 32 = .ok (.iaload, 1) := by decide +kernel
theorem dX5_changed_33 : decode cX5_changed 33 = .ok (.iastore, 1) := by decide +kernel
theorem dX5_changed_34 : decode cX5_changed 34 = .ok (.iinc 2 1, 3) := by decide +kernel
theorem dX5_changed_37 : decode cX5_changed 37 = .ok (.goto (-26), 3) := by decide +kernel
theorem dX5_changed_40 : decode cX5_changed 40 = .ok (.goto 13, 3) := by decide +kernel
theorem dX5_changed_43 : decode cX5_changed 43 = .ok (.aload_n 0, 1) := by decide +kernel
theorem dX5_changed_44 : decode cX5_changed 44 = .ok (.dup, 1) := by decide +kernel
theorem dX5_changed_45 : decode cX5_changed 45 = .ok (.getfield 41, 3) := by decide +kernel
theorem dX5_changed_48 : decode cX5_changed 48 = .ok (.iconst 1, 1) := by decide +kernel
theorem dX5_changed_49 : decode cX5_changed 49 = .ok (.iadd, 1) := by decide +kernel
theorem dX5_changed_50 : decode cX5_changed 50 = .ok (.putfield 41, 3) := by decide +kernel
theorem dX5_changed_53 : decode cX5_changed 53 = .ok (.iconst 0, 1) := by decide +kernel
theorem dX5_changed_54 : decode cX5_changed 54 = .ok (.istore_n 2, 1) := by decide +kernel
theorem dX5_changed_55 : decode cX5_changed 55 = .ok (.iload_n 2, 1) := by decide +kernel
theorem dX5_changed_56 : decode cX5_changed 56 = .ok (.sipush 486, 3) := by decide +kernel
theorem dX5_changed_59 : decode cX5_changed 59 = .ok (.if_icmp .ge 32, 3) := by decide +kernel
theorem dX5_changed_62 : decode cX5_changed 62 = .ok (.aload_n 0, 1) := by decide +kernel
theorem dX5_changed_63 : decode cX5_changed 63 = .ok (.getfield 19, 3) := by decide +kernel
theorem dX5_changed_66 : decode cX5_changed 66 = .ok (.sipush 486, 3) := by decide +kernel
theorem dX5_changed_69 : decode cX5_changed 69 = .ok (.aload_n 0, 1) := by decide +kernel
theorem dX5_changed_70 : decode cX5_changed 70 = .ok (.getfield 41, 3) := by decide +kernel
theorem dX5_changed_73 : decode cX5_changed 73 = .ok (.iconst 1, 1) := by decide +kernel
theorem dX5_changed_74 : decode cX5_changed 74 = .ok (.isub, 1) := by decide +kernel
theorem dX5_changed_75 : decode cX5_changed 75 = .ok (.imul, 1) := by decide +kernel
theorem dX5_changed_76 : decode cX5_changed 76 = .ok (.iload_n 2, 1) := by decide +kernel
theorem dX5_changed_77 : decode cX5_changed 77 = .ok (.iadd, 1) := by decide +kernel
theorem dX5_changed_78 : decode cX5_changed 78 = .ok (.aload_n 0, 1) := by decide +kernel
theorem dX5_changed_79 : decode cX5_changed 79 = .ok (.getfield 13, 3) := by decide +kernel
theorem dX5_changed_82 : decode cX5_changed 82 = .ok (.iload_n 2, 1) := by decide +kernel
theorem dX5_changed_83 : decode cX5_changed 83 = .ok (.iaload, 1) := by decide +kernel
theorem dX5_changed_84 : decode cX5_changed 84 = .ok (.iastore, 1) := by decide +kernel
theorem dX5_changed_85 : decode cX5_changed 85 = .ok (.iinc 2 1, 3) := by decide +kernel
theorem dX5_changed_88 : decode cX5_changed 88 = .ok (.goto (-33), 3) := by decide +kernel
theorem dX5_changed_91 : decode cX5_changed 91 = .ok (.iload_n 1, 1) := by decide +kernel
theorem dX5_changed_92 : decode cX5_changed 92 = .ok (.ireturn, 1) := by decide +kernel
theorem dX5_done_0 : decode cX5_done 0 = .ok (.aload_n 0, 1) := by decide +kernel
theorem dX5_done_1 : decode cX5_done 1 = .ok (.iload_n 1, 1) := by decide +kernel
theorem dX5_done_2 : decode cX5_done 2 = .ok (.putfield 44, 3) := by decide +kernel
theorem dX5_done_5 : decode cX5_done 5 = .ok (.iconst 0, 1) := by decide +kernel
theorem dX5_done_6 : decode cX5_done 6 = .ok (.ireturn, 1) := by decide +kernel
theorem dX5_ends_0 : decode cX5_ends 0 = .ok (.iload_n 1, 1) := by decide +kernel
theorem dX5_ends_1 : decode cX5_ends 1 = .ok (.ifCond .ne 14, 3) := by decide +kernel
theorem dX5_ends_4 : decode cX5_ends 4 = .ok (.aload_n 0, 1) := by decide +kernel
theorem dX5_ends_5 : decode cX5_ends 5 = .ok (.aload_n 0, 1) := by decide +kernel
theorem dX5_ends_6 : decode cX5_ends 6 = .ok (.getfield 44, 3) := by decide +kernel
theorem dX5_ends_9 : decode cX5_ends 9 = .ok (.invokevirtual 47, 3) := by decide +kernel
theorem dX5_ends_12 : decode cX5_ends 12 = .ok (.goto 8, 3) := by decide +kernel
theorem dX5_ends_15 : decode cX5_ends 15 = .ok (.aload_n 0, 1) := by decide +kernel
theorem dX5_ends_16 : decode cX5_ends 16 = .ok (.iload_n 1, 1) := by decide +kernel
theorem dX5_ends_17 : decode cX5_ends 17 = .ok (.invokevirtual 51, 3) := by decide +kernel
theorem dX5_ends_20 : decode cX5_ends 20 = .ok (.ireturn, 1) := by decide +kernel
theorem dX5_isReel_0 : decode cX5_isReel 0 = .ok (.iload_n 0, 1) := by decide +kernel
theorem dX5_isReel_1 : decode cX5_isReel 1 = .ok (.iconst 0, 1) := by decide +kernel
theorem dX5_isReel_2 : decode cX5_isReel 2 = .ok (.iconst 3, 1) := by decide +kernel
theorem dX5_isReel_3 : decode cX5_isReel 3 = .ok (.invokestatic 54, 3) := by decide +kernel
theorem dX5_isReel_6 : decode cX5_isReel 6 = .ok (.ireturn, 1) := by decide +kernel
theorem dX5_isLength_0 : decode cX5_isLength 0 = .ok (.iload_n 0, 1) := by decide +kernel
theorem dX5_isLength_1 : decode cX5_isLength 1 = .ok (.iconst 1, 1) := by decide +kernel
theorem dX5_isLength_2 : decode cX5_isLength 2 = .ok (.bipush 99, 2) := by decide +kernel
theorem dX5_isLength_4 : decode cX5_isLength 4 = .ok (.invokestatic 54, 3) := by decide +kernel
theorem dX5_isLength_7 : decode cX5_isLength 7 = .ok (.ireturn, 1) := by decide +kernel
theorem dX5_isColour_0 : decode cX5_isColour 0 = .ok (.iload_n 0, 1) := by decide +kernel
theorem dX5_isColour_1 : decode cX5_isColour 1 = .ok (.iconst 0, 1) := by decide +kernel
theorem dX5_isColour_2 : decode cX5_isColour 2 = .ok (.bipush 7, 2) := by decide +kernel
theorem dX5_isColour_4 : decode cX5_isColour 4 = .ok (.invokestatic 54, 3) := by decide +kernel
theorem dX5_isColour_7 : decode cX5_isColour 7 = .ok (.ireturn, 1) := by decide +kernel
theorem dX5_many_0 : decode cX5_many 0 = .ok (.aload_n 0, 1) := by decide +kernel
theorem dX5_many_1 : decode cX5_many 1 = .ok (.getfield 7, 3) := by decide +kernel
theorem dX5_many_4 : decode cX5_many 4 = .ok (.iconst 2, 1) := by decide +kernel
theorem dX5_many_5 : decode cX5_many 5 = .ok (.bipush 121, 2) := by decide +kernel
theorem dX5_many_7 : decode cX5_many 7 = .ok (.iload_n 1, 1) := by decide +kernel
theorem dX5_many_8 : decode cX5_many 8 = .ok (.imul, 1) := by decide +kernel
theorem dX5_many_9 : decode cX5_many 9 = .ok (.iadd, 1) := by decide +kernel
theorem dX5_many_10 : decode cX5_many 10 = .ok (.iaload, 1) := by decide +kernel
theorem dX5_many_11 : decode cX5_many 11 = .ok (.ireturn, 1) := by decide +kernel
theorem dX5_counts_0 : decode cX5_counts 0 = .ok (.aload_n 0, 1) := by decide +kernel
theorem dX5_counts_1 : decode cX5_counts 1 = .ok (.getfield 7, 3) := by decide +kernel
theorem dX5_counts_4 : decode cX5_counts 4 = .ok (.iconst 2, 1) := by decide +kernel
theorem dX5_counts_5 : decode cX5_counts 5 = .ok (.bipush 121, 2) := by decide +kernel
theorem dX5_counts_7 : decode cX5_counts 7 = .ok (.iload_n 1, 1) := by decide +kernel
theorem dX5_counts_8 : decode cX5_counts 8 = .ok (.imul, 1) := by decide +kernel
theorem dX5_counts_9 : decode cX5_counts 9 = .ok (.iadd, 1) := by decide +kernel
theorem dX5_counts_10 : decode cX5_counts 10 = .ok (.iload_n 2, 1) := by decide +kernel
theorem dX5_counts_11 : decode cX5_counts 11 = .ok (.iastore, 1) := by decide +kernel
theorem dX5_counts_12 : decode cX5_counts 12 = .ok (.return_, 1) := by decide +kernel
theorem dX5_at_0 : decode cX5_at 0 = .ok (.aload_n 0, 1) := by decide +kernel
theorem dX5_at_1 : decode cX5_at 1 = .ok (.getfield 7, 3) := by decide +kernel
theorem dX5_at_4 : decode cX5_at 4 = .ok (.iconst 2, 1) := by decide +kernel
theorem dX5_at_5 : decode cX5_at 5 = .ok (.bipush 121, 2) := by decide +kernel
theorem dX5_at_7 : decode cX5_at 7 = .ok (.iload_n 1, 1) := by decide +kernel
theorem dX5_at_8 : decode cX5_at 8 = .ok (.imul, 1) := by decide +kernel
theorem dX5_at_9 : decode cX5_at 9 = .ok (.iadd, 1) := by decide +kernel
theorem dX5_at_10 : decode cX5_at 10 = .ok (.iconst 1, 1) := by decide +kernel
theorem dX5_at_11 : decode cX5_at 11 = .ok (.iadd, 1) := by decide +kernel
theorem dX5_at_12 : decode cX5_at 12 = .ok (.iconst 2, 1) := by decide +kernel
theorem dX5_at_13 : decode cX5_at 13 = .ok (.iload_n 2, 1) := by decide +kernel
theorem dX5_at_14 : decode cX5_at 14 = .ok (.imul, 1) := by decide +kernel
theorem dX5_at_15 : decode cX5_at 15 = .ok (.iadd, 1) := by decide +kernel
theorem dX5_at_16 : decode cX5_at 16 = .ok (.iload_n 3, 1) := by decide +kernel
theorem dX5_at_17 : decode cX5_at 17 = .ok (.iadd, 1) := by decide +kernel
theorem dX5_at_18 : decode cX5_at 18 = .ok (.iaload, 1) := by decide +kernel
theorem dX5_at_19 : decode cX5_at 19 = .ok (.ireturn, 1) := by decide +kernel
theorem dX5_sets_0 : decode cX5_sets 0 = .ok (.aload_n 0, 1) := by decide +kernel
theorem dX5_sets_1 : decode cX5_sets 1 = .ok (.getfield 7, 3) := by decide +kernel
theorem dX5_sets_4 : decode cX5_sets 4 = .ok (.iconst 2, 1) := by decide +kernel
theorem dX5_sets_5 : decode cX5_sets 5 = .ok (.bipush 121, 2) := by decide +kernel
theorem dX5_sets_7 : decode cX5_sets 7 = .ok (.iload_n 1, 1) := by decide +kernel
theorem dX5_sets_8 : decode cX5_sets 8 = .ok (.imul, 1) := by decide +kernel
theorem dX5_sets_9 : decode cX5_sets 9 = .ok (.iadd, 1) := by decide +kernel
theorem dX5_sets_10 : decode cX5_sets 10 = .ok (.iconst 1, 1) := by decide +kernel
theorem dX5_sets_11 : decode cX5_sets 11 = .ok (.iadd, 1) := by decide +kernel
theorem dX5_sets_12 : decode cX5_sets 12 = .ok (.iconst 2, 1) := by decide +kernel
theorem dX5_sets_13 : decode cX5_sets 13 = .ok (.iload_n 2, 1) := by decide +kernel
theorem dX5_sets_14 : decode cX5_sets 14 = .ok (.imul, 1) := by decide +kernel
theorem dX5_sets_15 : decode cX5_sets 15 = .ok (.iadd, 1) := by decide +kernel
theorem dX5_sets_16 : decode cX5_sets 16 = .ok (.iload_n 3, 1) := by decide +kernel
theorem dX5_sets_17 : decode cX5_sets 17 = .ok (.iastore, 1) := by decide +kernel
theorem dX5_sets_18 : decode cX5_sets 18 = .ok (.aload_n 0, 1) := by decide +kernel
theorem dX5_sets_19 : decode cX5_sets 19 = .ok (.getfield 7, 3) := by decide +kernel
theorem dX5_sets_22 : decode cX5_sets 22 = .ok (.iconst 2, 1) := by decide +kernel
theorem dX5_sets_23 : decode cX5_sets 23 = .ok (.bipush 121, 2) := by decide +kernel
theorem dX5_sets_25 : decode cX5_sets 25 = .ok (.iload_n 1, 1) := by decide +kernel
theorem dX5_sets_26 : decode cX5_sets 26 = .ok (.imul, 1) := by decide +kernel
theorem dX5_sets_27 : decode cX5_sets 27 = .ok (.iadd, 1) := by decide +kernel
theorem dX5_sets_28 : decode cX5_sets 28 = .ok (.iconst 2, 1) := by decide +kernel
theorem dX5_sets_29 : decode cX5_sets 29 = .ok (.iadd, 1) := by decide +kernel
theorem dX5_sets_30 : decode cX5_sets 30 = .ok (.iconst 2, 1) := by decide +kernel
theorem dX5_sets_31 : decode cX5_sets 31 = .ok (.iload_n 2, 1) := by decide +kernel
theorem dX5_sets_32 : decode cX5_sets 32 = .ok (.imul, 1) := by decide +kernel
theorem dX5_sets_33 : decode cX5_sets 33 = .ok (.iadd, 1) := by decide +kernel
theorem dX5_sets_34 : decode cX5_sets 34 = .ok (.iload 4, 2) := by decide +kernel
theorem dX5_sets_36 : decode cX5_sets 36 = .ok (.iastore, 1) := by decide +kernel
theorem dX5_sets_37 : decode cX5_sets 37 = .ok (.return_, 1) := by decide +kernel
theorem dX5_isSegment_0 : decode cX5_isSegment 0 = .ok (.iload_n 1, 1) := by decide +kernel
theorem dX5_isSegment_1 : decode cX5_isSegment 1 = .ok (.invokestatic 58, 3) := by decide +kernel
theorem dX5_isSegment_4 : decode cX5_isSegment 4 = .ok (.ifCond .eq 22, 3) := by decide +kernel
theorem dX5_isSegment_7 : decode cX5_isSegment 7 = .ok (.iload_n 2, 1) := by decide +kernel
theorem dX5_isSegment_8 : decode cX5_isSegment 8 = .ok (.iconst 0, 1) := by decide +kernel
theorem dX5_isSegment_9 : decode cX5_isSegment 9 = .ok (.aload_n 0, 1) := by decide +kernel
theorem dX5_isSegment_10 : decode cX5_isSegment 10 = .ok (.iload_n 1, 1) := by decide +kernel
theorem dX5_isSegment_11 : decode cX5_isSegment 11 = .ok (.invokevirtual 62, 3) := by decide +kernel
theorem dX5_isSegment_14 : decode cX5_isSegment 14 = .ok (.iconst 1, 1) := by decide +kernel
theorem dX5_isSegment_15 : decode cX5_isSegment 15 = .ok (.isub, 1) := by decide +kernel
theorem dX5_isSegment_16 : decode cX5_isSegment 16 = .ok (.invokestatic 54, 3) := by decide +kernel
theorem dX5_isSegment_19 : decode cX5_isSegment 19 = .ok (.ifCond .eq 7, 3) := by decide +kernel
theorem dX5_isSegment_22 : decode cX5_isSegment 22 = .ok (.iconst 1, 1) := by decide +kernel
theorem dX5_isSegment_23 : decode cX5_isSegment 23 = .ok (.goto 4, 3) := by decide +kernel
theorem dX5_isSegment_26 : decode cX5_isSegment 26 = .ok (.iconst 0, 1) := by decide +kernel
theorem dX5_isSegment_27 : decode cX5_isSegment 27 = .ok (.ireturn, 1) := by decide +kernel
theorem dX5_isBefore_0 : decode cX5_isBefore 0 = .ok (.iload_n 1, 1) := by decide +kernel
theorem dX5_isBefore_1 : decode cX5_isBefore 1 = .ok (.invokestatic 58, 3) := by decide +kernel
theorem dX5_isBefore_4 : decode cX5_isBefore 4 = .ok (.ifCond .eq 20, 3) := by decide +kernel
theorem dX5_isBefore_7 : decode cX5_isBefore 7 = .ok (.iload_n 2, 1) := by decide +kernel
theorem dX5_isBefore_8 : decode cX5_isBefore 8 = .ok (.iconst 0, 1) := by decide +kernel
theorem dX5_isBefore_9 : decode cX5_isBefore 9 = .ok (.aload_n 0, 1) := by decide +kernel
theorem dX5_isBefore_10 : decode cX5_isBefore 10 = .ok (.iload_n 1, 1) := by decide +kernel
theorem dX5_isBefore_11 : decode cX5_isBefore 11 = .ok (.invokevirtual 62, 3) := by decide +kernel
theorem dX5_isBefore_14 : decode cX5_isBefore 14 = .ok (.invokestatic 54, 3) := by decide +kernel
theorem dX5_isBefore_17 : decode cX5_isBefore 17 = .ok (.ifCond .eq 7, 3) := by decide +kernel
theorem dX5_isBefore_20 : decode cX5_isBefore 20 = .ok (.iconst 1, 1) := by decide +kernel
theorem dX5_isBefore_21 : decode cX5_isBefore 21 = .ok (.goto 4, 3) := by decide +kernel
theorem dX5_isBefore_24 : decode cX5_isBefore 24 = .ok (.iconst 0, 1) := by decide +kernel
theorem dX5_isBefore_25 : decode cX5_isBefore 25 = .ok (.ireturn, 1) := by decide +kernel
theorem dX5_puts_0 : decode cX5_puts 0 = .ok (.aload_n 0, 1) := by decide +kernel
theorem dX5_puts_1 : decode cX5_puts 1 = .ok (.iload_n 1, 1) := by decide +kernel
theorem dX5_puts_2 : decode cX5_puts 2 = .ok (.iload_n 2, 1) := by decide +kernel
theorem dX5_puts_3 : decode cX5_puts 3 = .ok (.invokevirtual 65, 3) := by decide +kernel
theorem dX5_puts_6 : decode cX5_puts 6 = .ok (.ifCond .ne 5, 3) := by decide +kernel
theorem dX5_puts_9 : decode cX5_puts 9 = .ok (.iconst 1, 1) := by decide +kernel
theorem dX5_puts_10 : decode cX5_puts 10 = .ok (.ireturn, 1) := by decide +kernel
theorem dX5_puts_11 : decode cX5_puts 11 = .ok (.iload_n 3, 1) := by decide +kernel
theorem dX5_puts_12 : decode cX5_puts 12 = .ok (.invokestatic 69, 3) := by decide +kernel
theorem dX5_puts_15 : decode cX5_puts 15 = .ok (.ifCond .eq 11, 3) := by decide +kernel
theorem dX5_puts_18 : decode cX5_puts 18 = .ok (.iload 4, 2) := by decide +kernel
theorem dX5_puts_20 : decode cX5_puts 20 = .ok (.invokestatic 72, 3) := by decide +kernel
theorem dX5_puts_23 : decode cX5_puts 23 = .ok (.ifCond .ne 5, 3) := by decide +kernel
theorem dX5_puts_26 : decode cX5_puts 26 = .ok (.iconst 2, 1) := by decide +kernel
theorem dX5_puts_27 : decode cX5_puts 27 = .ok (.ireturn, 1) := by decide +kernel
theorem dX5_puts_28 : decode cX5_puts 28 = .ok (.aload_n 0, 1) := by decide +kernel
theorem dX5_puts_29 : decode cX5_puts 29 = .ok (.iload_n 1, 1) := by decide +kernel
theorem dX5_puts_30 : decode cX5_puts 30 = .ok (.invokevirtual 62, 3) := by decide +kernel
theorem dX5_puts_33 : decode cX5_puts 33 = .ok (.istore 5, 2) := by decide +kernel
theorem dX5_puts_35 : decode cX5_puts 35 = .ok (.iload 5, 2) := by decide +kernel
theorem dX5_puts_37 : decode cX5_puts 37 = .ok (.bipush 60, 2) := by decide +kernel
theorem dX5_puts_39 : decode cX5_puts 39 = .ok (.if_icmp .ne 5, 3) := by decide +kernel
theorem dX5_puts_42 : decode cX5_puts 42 = .ok (.iconst 3, 1) := by decide +kernel
theorem dX5_puts_43 : decode cX5_puts 43 = .ok (.ireturn, 1) := by decide +kernel
theorem dX5_puts_44 : decode cX5_puts 44 = .ok (.iload 5, 2) := by decide +kernel
theorem dX5_puts_46 : decode cX5_puts 46 = .ok (.istore 6, 2) := by decide +kernel
theorem dX5_puts_48 : decode cX5_puts 48 = .ok (.iload 6, 2) := by decide +kernel
theorem dX5_puts_50 : decode cX5_puts 50 = .ok (.iload_n 2, 1) := by decide +kernel
theorem dX5_puts_51 : decode cX5_puts 51 = .ok (.if_icmp .le 36, 3) := by decide +kernel
theorem dX5_puts_54 : decode cX5_puts 54 = .ok (.aload_n 0, 1) := by decide +kernel
theorem dX5_puts_55 : decode cX5_puts 55 = .ok (.iload_n 1, 1) := by decide +kernel
theorem dX5_puts_56 : decode cX5_puts 56 = .ok (.iload 6, 2) := by decide +kernel
theorem dX5_puts_58 : decode cX5_puts 58 = .ok (.aload_n 0, 1) := by decide +kernel
theorem dX5_puts_59 : decode cX5_puts 59 = .ok (.iload_n 1, 1) := by decide +kernel
theorem dX5_puts_60 : decode cX5_puts 60 = .ok (.iload 6, 2) := by decide +kernel
theorem dX5_puts_62 : decode cX5_puts 62 = .ok (.iconst 1, 1) := by decide +kernel
theorem dX5_puts_63 : decode cX5_puts 63 = .ok (.isub, 1) := by decide +kernel
theorem dX5_puts_64 : decode cX5_puts 64 = .ok (.iconst 0, 1) := by decide +kernel
theorem dX5_puts_65 : decode cX5_puts 65 = .ok (.invokevirtual 75, 3) := by decide +kernel
theorem dX5_puts_68 : decode cX5_puts 68 = .ok (.aload_n 0, 1) := by decide +kernel
theorem dX5_puts_69 : decode cX5_puts 69 = .ok (.iload_n 1, 1) := by decide +kernel
theorem dX5_puts_70 : decode cX5_puts 70 = .ok (.iload 6, 2) := by decide +kernel
theorem dX5_puts_72 : decode cX5_puts 72 = .ok (.iconst 1, 1) := by decide +kernel
theorem dX5_puts_73 : decode cX5_puts 73 = .ok (.isub, 1) := by decide +kernel
theorem dX5_puts_74 : decode cX5_puts 74 = .ok (.iconst 1, 1) := by decide +kernel
theorem dX5_puts_75 : decode cX5_puts 75 = .ok (.invokevirtual 75, 3) := by decide +kernel
theorem dX5_puts_78 : decode cX5_puts 78 = .ok (.invokevirtual 79, 3) := by decide +kernel
theorem dX5_puts_81 : decode cX5_puts 81 = .ok (.iinc 6 (-1), 3) := by decide +kernel
theorem dX5_puts_84 : decode cX5_puts 84 = .ok (.goto (-36), 3) := by decide +kernel
theorem dX5_puts_87 : decode cX5_puts 87 = .ok (.aload_n 0, 1) := by decide +kernel
theorem dX5_puts_88 : decode cX5_puts 88 = .ok (.iload_n 1, 1) := by decide +kernel
theorem dX5_puts_89 : decode cX5_puts 89 = .ok (.iload_n 2, 1) := by decide +kernel
theorem dX5_puts_90 : decode cX5_puts 90 = .ok (.iload_n 3, 1) := by decide +kernel
theorem dX5_puts_91 : decode cX5_puts 91 = .ok (.iload 4, 2) := by decide +kernel
theorem dX5_puts_93 : decode cX5_puts 93 = .ok (.invokevirtual 79, 3) := by decide +kernel
theorem dX5_puts_96 : decode cX5_puts 96 = .ok (.aload_n 0, 1) := by decide +kernel
theorem dX5_puts_97 : decode cX5_puts 97 = .ok (.iload_n 1, 1) := by decide +kernel
theorem dX5_puts_98 : decode cX5_puts 98 = .ok (.iload 5, 2) := by decide +kernel
theorem dX5_puts_100 : decode cX5_puts 100 = .ok (.iconst 1, 1) := by decide +kernel
theorem dX5_puts_101 : decode cX5_puts 101 = .ok (.iadd, 1) := by decide +kernel
theorem dX5_puts_102 : decode cX5_puts 102 = .ok (.invokevirtual 83, 3) := by decide +kernel
theorem dX5_puts_105 : decode cX5_puts 105 = .ok (.aload_n 0, 1) := by decide +kernel
theorem dX5_puts_106 : decode cX5_puts 106 = .ok (.iload 5, 2) := by decide +kernel
theorem dX5_puts_108 : decode cX5_puts 108 = .ok (.iconst 1, 1) := by decide +kernel
theorem dX5_puts_109 : decode cX5_puts 109 = .ok (.iadd, 1) := by decide +kernel
theorem dX5_puts_110 : decode cX5_puts 110 = .ok (.invokevirtual 87, 3) := by decide +kernel
theorem dX5_puts_113 : decode cX5_puts 113 = .ok (.ireturn, 1) := by decide +kernel
theorem dX5_takes_0 : decode cX5_takes 0 = .ok (.aload_n 0, 1) := by decide +kernel
theorem dX5_takes_1 : decode cX5_takes 1 = .ok (.iload_n 1, 1) := by decide +kernel
theorem dX5_takes_2 : decode cX5_takes 2 = .ok (.iload_n 2, 1) := by decide +kernel
theorem dX5_takes_3 : decode cX5_takes 3 = .ok (.invokevirtual 90, 3) := by decide +kernel
theorem dX5_takes_6 : decode cX5_takes 6 = .ok (.ifCond .ne 5, 3) := by decide +kernel
theorem dX5_takes_9 : decode cX5_takes 9 = .ok (.iconst 1, 1) := by decide +kernel
theorem dX5_takes_10 : decode cX5_takes 10 = .ok (.ireturn, 1) := by decide +kernel
theorem dX5_takes_11 : decode cX5_takes 11 = .ok (.aload_n 0, 1) := by decide +kernel
theorem dX5_takes_12 : decode cX5_takes 12 = .ok (.iload_n 1, 1) := by decide +kernel
theorem dX5_takes_13 : decode cX5_takes 13 = .ok (.iload_n 2, 1) := by decide +kernel
theorem dX5_takes_14 : decode cX5_takes 14 = .ok (.iconst 0, 1) := by decide +kernel
theorem dX5_takes_15 : decode cX5_takes 15 = .ok (.invokevirtual 75, 3) := by decide +kernel
theorem dX5_takes_18 : decode cX5_takes 18 = .ok (.istore_n 3, 1) := by decide +kernel
theorem dX5_takes_19 : decode cX5_takes 19 = .ok (.aload_n 0, 1) := by decide +kernel
theorem dX5_takes_20 : decode cX5_takes 20 = .ok (.iload_n 1, 1) := by decide +kernel
theorem dX5_takes_21 : decode cX5_takes 21 = .ok (.invokevirtual 62, 3) := by decide +kernel
theorem dX5_takes_24 : decode cX5_takes 24 = .ok (.iconst 1, 1) := by decide +kernel
theorem dX5_takes_25 : decode cX5_takes 25 = .ok (.isub, 1) := by decide +kernel
theorem dX5_takes_26 : decode cX5_takes 26 = .ok (.istore 4, 2) := by decide +kernel
theorem dX5_takes_28 : decode cX5_takes 28 = .ok (.iload_n 2, 1) := by decide +kernel
theorem dX5_takes_29 : decode cX5_takes 29 = .ok (.istore 5, 2) := by decide +kernel
theorem dX5_takes_31 : decode cX5_takes 31 = .ok (.iload 5, 2) := by decide +kernel
theorem dX5_takes_33 : decode cX5_takes 33 = .ok (.iload 4, 2) := by decide +kernel
theorem dX5_takes_35 : decode cX5_takes 35 = .ok (.if_icmp .ge 36, 3) := by decide +kernel
theorem dX5_takes_38 : decode cX5_takes 38 = .ok (.aload_n 0, 1) := by decide +kernel
theorem dX5_takes_39 : decode cX5_takes 39 = .ok (.iload_n 1, 1) := by decide +kernel
theorem dX5_takes_40 : decode cX5_takes 40 = .ok (.iload 5, 2) := by decide +kernel
theorem dX5_takes_42 : decode cX5_takes 42 = .ok (.aload_n 0, 1) := by decide +kernel
theorem dX5_takes_43 : decode cX5_takes 43 = .ok (.iload_n 1, 1) := by decide +kernel
theorem dX5_takes_44 : decode cX5_takes 44 = .ok (.iload 5, 2) := by decide +kernel
theorem dX5_takes_46 : decode cX5_takes 46 = .ok (.iconst 1, 1) := by decide +kernel
theorem dX5_takes_47 : decode cX5_takes 47 = .ok (.iadd, 1) := by decide +kernel
theorem dX5_takes_48 : decode cX5_takes 48 = .ok (.iconst 0, 1) := by decide +kernel
theorem dX5_takes_49 : decode cX5_takes 49 = .ok (.invokevirtual 75, 3) := by decide +kernel
theorem dX5_takes_52 : decode cX5_takes 52 = .ok (.aload_n 0, 1) := by decide +kernel
theorem dX5_takes_53 : decode cX5_takes 53 = .ok (.iload_n 1, 1) := by decide +kernel
theorem dX5_takes_54 : decode cX5_takes 54 = .ok (.iload 5, 2) := by decide +kernel
theorem dX5_takes_56 : decode cX5_takes 56 = .ok (.iconst 1, 1) := by decide +kernel
theorem dX5_takes_57 : decode cX5_takes 57 = .ok (.iadd, 1) := by decide +kernel
theorem dX5_takes_58 : decode cX5_takes 58 = .ok (.iconst 1, 1) := by decide +kernel
theorem dX5_takes_59 : decode cX5_takes 59 = .ok (.invokevirtual 75, 3) := by decide +kernel
theorem dX5_takes_62 : decode cX5_takes 62 = .ok (.invokevirtual 79, 3) := by decide +kernel
theorem dX5_takes_65 : decode cX5_takes 65 = .ok (.iinc 5 1, 3) := by decide +kernel
theorem dX5_takes_68 : decode cX5_takes 68 = .ok (.goto (-37), 3) := by decide +kernel
theorem dX5_takes_71 : decode cX5_takes 71 = .ok (.aload_n 0, 1) := by decide +kernel
theorem dX5_takes_72 : decode cX5_takes 72 = .ok (.iload_n 1, 1) := by decide +kernel
theorem dX5_takes_73 : decode cX5_takes 73 = .ok (.iload 4, 2) := by decide +kernel
theorem dX5_takes_75 : decode cX5_takes 75 = .ok (.iconst 0, 1) := by decide +kernel
theorem dX5_takes_76 : decode cX5_takes 76 = .ok (.iconst 0, 1) := by decide +kernel
theorem dX5_takes_77 : decode cX5_takes 77 = .ok (.invokevirtual 79, 3) := by decide +kernel
theorem dX5_takes_80 : decode cX5_takes 80 = .ok (.aload_n 0, 1) := by decide +kernel
theorem dX5_takes_81 : decode cX5_takes 81 = .ok (.iload_n 1, 1) := by decide +kernel
theorem dX5_takes_82 : decode cX5_takes 82 = .ok (.iload 4, 2) := by decide +kernel
theorem dX5_takes_84 : decode cX5_takes 84 = .ok (.invokevirtual 83, 3) := by decide +kernel
theorem dX5_takes_87 : decode cX5_takes 87 = .ok (.aload_n 0, 1) := by decide +kernel
theorem dX5_takes_88 : decode cX5_takes 88 = .ok (.iload_n 3, 1) := by decide +kernel
theorem dX5_takes_89 : decode cX5_takes 89 = .ok (.invokevirtual 87, 3) := by decide +kernel
theorem dX5_takes_92 : decode cX5_takes 92 = .ok (.ireturn, 1) := by decide +kernel
theorem dX5_ties_0 : decode cX5_ties 0 = .ok (.aload_n 0, 1) := by decide +kernel
theorem dX5_ties_1 : decode cX5_ties 1 = .ok (.iload_n 1, 1) := by decide +kernel
theorem dX5_ties_2 : decode cX5_ties 2 = .ok (.iload_n 2, 1) := by decide +kernel
theorem dX5_ties_3 : decode cX5_ties 3 = .ok (.invokevirtual 90, 3) := by decide +kernel
theorem dX5_ties_6 : decode cX5_ties 6 = .ok (.ifCond .ne 5, 3) := by decide +kernel
theorem dX5_ties_9 : decode cX5_ties 9 = .ok (.iconst 1, 1) := by decide +kernel
theorem dX5_ties_10 : decode cX5_ties 10 = .ok (.ireturn, 1) := by decide +kernel
theorem dX5_ties_11 : decode cX5_ties 11 = .ok (.iload_n 3, 1) := by decide +kernel
theorem dX5_ties_12 : decode cX5_ties 12 = .ok (.invokestatic 69, 3) := by decide +kernel
theorem dX5_ties_15 : decode cX5_ties 15 = .ok (.ifCond .ne 5, 3) := by decide +kernel
theorem dX5_ties_18 : decode cX5_ties 18 = .ok (.iconst 2, 1) := by decide +kernel
theorem dX5_ties_19 : decode cX5_ties 19 = .ok (.ireturn, 1) := by decide +kernel
theorem dX5_ties_20 : decode cX5_ties 20 = .ok (.aload_n 0, 1) := by decide +kernel
theorem dX5_ties_21 : decode cX5_ties 21 = .ok (.iload_n 1, 1) := by decide +kernel
theorem dX5_ties_22 : decode cX5_ties 22 = .ok (.iload_n 2, 1) := by decide +kernel
theorem dX5_ties_23 : decode cX5_ties 23 = .ok (.iconst 0, 1) := by decide +kernel
theorem dX5_ties_24 : decode cX5_ties 24 = .ok (.invokevirtual 75, 3) := by decide +kernel
theorem dX5_ties_27 : decode cX5_ties 27 = .ok (.istore 4, 2) := by decide +kernel
theorem dX5_ties_29 : decode cX5_ties 29 = .ok (.aload_n 0, 1) := by decide +kernel
theorem dX5_ties_30 : decode cX5_ties 30 = .ok (.iload_n 1, 1) := by decide +kernel
theorem dX5_ties_31 : decode cX5_ties 31 = .ok (.iload_n 2, 1) := by decide +kernel
theorem dX5_ties_32 : decode cX5_ties 32 = .ok (.iload_n 3, 1) := by decide +kernel
theorem dX5_ties_33 : decode cX5_ties 33 = .ok (.aload_n 0, 1) := by decide +kernel
theorem dX5_ties_34 : decode cX5_ties 34 = .ok (.iload_n 1, 1) := by decide +kernel
theorem dX5_ties_35 : decode cX5_ties 35 = .ok (.iload_n 2, 1) := by decide +kernel
theorem dX5_ties_36 : decode cX5_ties 36 = .ok (.iconst 1, 1) := by decide +kernel
theorem dX5_ties_37 : decode cX5_ties 37 = .ok (.invokevirtual 75, 3) := by decide +kernel
theorem dX5_ties_40 : decode cX5_ties 40 = .ok (.invokevirtual 79, 3) := by decide +kernel
theorem dX5_ties_43 : decode cX5_ties 43 = .ok (.aload_n 0, 1) := by decide +kernel
theorem dX5_ties_44 : decode cX5_ties 44 = .ok (.iload 4, 2) := by decide +kernel
theorem dX5_ties_46 : decode cX5_ties 46 = .ok (.invokevirtual 87, 3) := by decide +kernel
theorem dX5_ties_49 : decode cX5_ties 49 = .ok (.ireturn, 1) := by decide +kernel
theorem dX5_moves_0 : decode cX5_moves 0 = .ok (.aload_n 0, 1) := by decide +kernel
theorem dX5_moves_1 : decode cX5_moves 1 = .ok (.iload_n 1, 1) := by decide +kernel
theorem dX5_moves_2 : decode cX5_moves 2 = .ok (.invokevirtual 62, 3) := by decide +kernel
theorem dX5_moves_5 : decode cX5_moves 5 = .ok (.istore 4, 2) := by decide +kernel
theorem dX5_moves_7 : decode cX5_moves 7 = .ok (.iload_n 2, 1) := by decide +kernel
theorem dX5_moves_8 : decode cX5_moves 8 = .ok (.istore 5, 2) := by decide +kernel
theorem dX5_moves_10 : decode cX5_moves 10 = .ok (.iload 5, 2) := by decide +kernel
theorem dX5_moves_12 : decode cX5_moves 12 = .ok (.iload 4, 2) := by decide +kernel
theorem dX5_moves_14 : decode cX5_moves 14 = .ok (.if_icmp .ge 56, 3) := by decide +kernel
theorem dX5_moves_17 : decode cX5_moves 17 = .ok (.aload_n 0, 1) := by decide +kernel
theorem dX5_moves_18 : decode cX5_moves 18 = .ok (.iload_n 3, 1) := by decide +kernel
theorem dX5_moves_19 : decode cX5_moves 19 = .ok (.aload_n 0, 1) := by decide +kernel
theorem dX5_moves_20 : decode cX5_moves 20 = .ok (.iload_n 3, 1) := by decide +kernel
theorem dX5_moves_21 : decode cX5_moves 21 = .ok (.invokevirtual 62, 3) := by decide +kernel
theorem dX5_moves_24 : decode cX5_moves 24 = .ok (.aload_n 0, 1) := by decide +kernel
theorem dX5_moves_25 : decode cX5_moves 25 = .ok (.iload_n 1, 1) := by decide +kernel
theorem dX5_moves_26 : decode cX5_moves 26 = .ok (.iload 5, 2) := by decide +kernel
theorem dX5_moves_28 : decode cX5_moves 28 = .ok (.iconst 0, 1) := by decide +kernel
theorem dX5_moves_29 : decode cX5_moves 29 = .ok (.invokevirtual 75, 3) := by decide +kernel
theorem dX5_moves_32 : decode cX5_moves 32 = .ok (.aload_n 0, 1) := by decide +kernel
theorem dX5_moves_33 : decode cX5_moves 33 = .ok (.iload_n 1, 1) := by decide +kernel
theorem dX5_moves_34 : decode cX5_moves 34 = .ok (.iload 5, 2) := by decide +kernel
theorem dX5_moves_36 : decode cX5_moves 36 = .ok (.iconst 1, 1) := by decide +kernel
theorem dX5_moves_37 : decode cX5_moves 37 = .ok (.invokevirtual 75, 3) := by decide +kernel
theorem dX5_moves_40 : decode cX5_moves 40 = .ok (.invokevirtual 79, 3) := by decide +kernel
theorem dX5_moves_43 : decode cX5_moves 43 = .ok (.aload_n 0, 1) := by decide +kernel
theorem dX5_moves_44 : decode cX5_moves 44 = .ok (.iload_n 3, 1) := by decide +kernel
theorem dX5_moves_45 : decode cX5_moves 45 = .ok (.aload_n 0, 1) := by decide +kernel
theorem dX5_moves_46 : decode cX5_moves 46 = .ok (.iload_n 3, 1) := by decide +kernel
theorem dX5_moves_47 : decode cX5_moves 47 = .ok (.invokevirtual 62, 3) := by decide +kernel
theorem dX5_moves_50 : decode cX5_moves 50 = .ok (.iconst 1, 1) := by decide +kernel
theorem dX5_moves_51 : decode cX5_moves 51 = .ok (.iadd, 1) := by decide +kernel
theorem dX5_moves_52 : decode cX5_moves 52 = .ok (.invokevirtual 83, 3) := by decide +kernel
theorem dX5_moves_55 : decode cX5_moves 55 = .ok (.aload_n 0, 1) := by decide +kernel
theorem dX5_moves_56 : decode cX5_moves 56 = .ok (.iload_n 1, 1) := by decide +kernel
theorem dX5_moves_57 : decode cX5_moves 57 = .ok (.iload 5, 2) := by decide +kernel
theorem dX5_moves_59 : decode cX5_moves 59 = .ok (.iconst 0, 1) := by decide +kernel
theorem dX5_moves_60 : decode cX5_moves 60 = .ok (.iconst 0, 1) := by decide +kernel
theorem dX5_moves_61 : decode cX5_moves 61 = .ok (.invokevirtual 79, 3) := by decide +kernel
theorem dX5_moves_64 : decode cX5_moves 64 = .ok (.iinc 5 1, 3) := by decide +kernel
theorem dX5_moves_67 : decode cX5_moves 67 = .ok (.goto (-57), 3) := by decide +kernel
theorem dX5_moves_70 : decode cX5_moves 70 = .ok (.aload_n 0, 1) := by decide +kernel
theorem dX5_moves_71 : decode cX5_moves 71 = .ok (.iload_n 1, 1) := by decide +kernel
theorem dX5_moves_72 : decode cX5_moves 72 = .ok (.iload_n 2, 1) := by decide +kernel
theorem dX5_moves_73 : decode cX5_moves 73 = .ok (.invokevirtual 83, 3) := by decide +kernel
theorem dX5_moves_76 : decode cX5_moves 76 = .ok (.iload 4, 2) := by decide +kernel
theorem dX5_moves_78 : decode cX5_moves 78 = .ok (.iload_n 2, 1) := by decide +kernel
theorem dX5_moves_79 : decode cX5_moves 79 = .ok (.isub, 1) := by decide +kernel
theorem dX5_moves_80 : decode cX5_moves 80 = .ok (.ireturn, 1) := by decide +kernel
theorem dX5_cuts_0 : decode cX5_cuts 0 = .ok (.aload_n 0, 1) := by decide +kernel
theorem dX5_cuts_1 : decode cX5_cuts 1 = .ok (.iload_n 1, 1) := by decide +kernel
theorem dX5_cuts_2 : decode cX5_cuts 2 = .ok (.iload_n 2, 1) := by decide +kernel
theorem dX5_cuts_3 : decode cX5_cuts 3 = .ok (.invokevirtual 65, 3) := by decide +kernel
theorem dX5_cuts_6 : decode cX5_cuts 6 = .ok (.ifCond .eq 10, 3) := by decide +kernel
theorem dX5_cuts_9 : decode cX5_cuts 9 = .ok (.iload_n 3, 1) := by decide +kernel
theorem dX5_cuts_10 : decode cX5_cuts 10 = .ok (.invokestatic 58, 3) := by decide +kernel
theorem dX5_cuts_13 : decode cX5_cuts 13 = .ok (.ifCond .ne 5, 3) := by decide +kernel
theorem dX5_cuts_16 : decode cX5_cuts 16 = .ok (.iconst 1, 1) := by decide +kernel
theorem dX5_cuts_17 : decode cX5_cuts 17 = .ok (.ireturn, 1) := by decide +kernel
theorem dX5_cuts_18 : decode cX5_cuts 18 = .ok (.iload_n 1, 1) := by decide +kernel
theorem dX5_cuts_19 : decode cX5_cuts 19 = .ok (.iload_n 3, 1) := by decide +kernel
theorem dX5_cuts_20 : decode cX5_cuts 20 = .ok (.if_icmp .ne 5, 3) := by decide +kernel
theorem dX5_cuts_23 : decode cX5_cuts 23 = .ok (.iconst 2, 1) := by decide +kernel
theorem dX5_cuts_24 : decode cX5_cuts 24 = .ok (.ireturn, 1) := by decide +kernel
theorem dX5_cuts_25 : decode cX5_cuts 25 = .ok (.aload_n 0, 1) := by decide +kernel
theorem dX5_cuts_26 : decode cX5_cuts 26 = .ok (.iload_n 3, 1) := by decide +kernel
theorem dX5_cuts_27 : decode cX5_cuts 27 = .ok (.invokevirtual 62, 3) := by decide +kernel
theorem dX5_cuts_30 : decode cX5_cuts 30 = .ok (.ifCond .le 5, 3) := by decide +kernel
theorem dX5_cuts_33 : decode cX5_cuts 33 = .ok (.iconst 3, 1) := by decide +kernel
theorem dX5_cuts_34 : decode cX5_cuts 34 = .ok (.ireturn, 1) := by decide +kernel
theorem dX5_cuts_35 : decode cX5_cuts 35 = .ok (.aload_n 0, 1) := by decide +kernel
theorem dX5_cuts_36 : decode cX5_cuts 36 = .ok (.getfield 7, 3) := by decide +kernel
theorem dX5_cuts_39 : decode cX5_cuts 39 = .ok (.iconst 0, 1) := by decide +kernel
theorem dX5_cuts_40 : decode cX5_cuts 40 = .ok (.dup2, 1) := by decide +kernel
theorem dX5_cuts_41 : decode cX5_cuts 41 = .ok (.iaload, 1) := by decide +kernel
theorem dX5_cuts_42 : decode cX5_cuts 42 = .ok (.iconst 1, 1) := by decide +kernel
theorem dX5_cuts_43 : decode cX5_cuts 43 = .ok (.iadd, 1) := by decide +kernel
theorem dX5_cuts_44 : decode cX5_cuts 44 = .ok (.iastore, 1) := by decide +kernel
theorem dX5_cuts_45 : decode cX5_cuts 45 = .ok (.aload_n 0, 1) := by decide +kernel
theorem dX5_cuts_46 : decode cX5_cuts 46 = .ok (.aload_n 0, 1) := by decide +kernel
theorem dX5_cuts_47 : decode cX5_cuts 47 = .ok (.iload_n 1, 1) := by decide +kernel
theorem dX5_cuts_48 : decode cX5_cuts 48 = .ok (.iload_n 2, 1) := by decide +kernel
theorem dX5_cuts_49 : decode cX5_cuts 49 = .ok (.iload_n 3, 1) := by decide +kernel
theorem dX5_cuts_50 : decode cX5_cuts 50 = .ok (.invokevirtual 93, 3) := by decide +kernel
theorem dX5_cuts_53 : decode cX5_cuts 53 = .ok (.invokevirtual 87, 3) := by decide +kernel
theorem dX5_cuts_56 : decode cX5_cuts 56 = .ok (.ireturn, 1) := by decide +kernel
theorem dX5_joins_0 : decode cX5_joins 0 = .ok (.iload_n 1, 1) := by decide +kernel
theorem dX5_joins_1 : decode cX5_joins 1 = .ok (.invokestatic 58, 3) := by decide +kernel
theorem dX5_joins_4 : decode cX5_joins 4 = .ok (.ifCond .eq 10, 3) := by decide +kernel
theorem dX5_joins_7 : decode cX5_joins 7 = .ok (.iload_n 2, 1) := by decide +kernel
theorem dX5_joins_8 : decode cX5_joins 8 = .ok (.invokestatic 58, 3) := by decide +kernel
theorem dX5_joins_11 : decode cX5_joins 11 = .ok (.ifCond .ne 5, 3) := by decide +kernel
theorem dX5_joins_14 : decode cX5_joins 14 = .ok (.iconst 1, 1) := by decide +kernel
theorem dX5_joins_15 : decode cX5_joins 15 = .ok (.ireturn, 1) := by decide +kernel
theorem dX5_joins_16 : decode cX5_joins 16 = .ok (.iload_n 1, 1) := by decide +kernel
theorem dX5_joins_17 : decode cX5_joins 17 = .ok (.iload_n 2, 1) := by decide +kernel
theorem dX5_joins_18 : decode cX5_joins 18 = .ok (.if_icmp .ne 5, 3) := by decide +kernel
theorem dX5_joins_21 : decode cX5_joins 21 = .ok (.iconst 2, 1) := by decide +kernel
theorem dX5_joins_22 : decode cX5_joins 22 = .ok (.ireturn, 1) := by decide +kernel
theorem dX5_joins_23 : decode cX5_joins 23 = .ok (.aload_n 0, 1) := by decide +kernel
theorem dX5_joins_24 : decode cX5_joins 24 = .ok (.iload_n 1, 1) := by decide +kernel
theorem dX5_joins_25 : decode cX5_joins 25 = .ok (.invokevirtual 62, 3) := by decide +kernel
theorem dX5_joins_28 : decode cX5_joins 28 = .ok (.aload_n 0, 1) := by decide +kernel
theorem dX5_joins_29 : decode cX5_joins 29 = .ok (.iload_n 2, 1) := by decide +kernel
theorem dX5_joins_30 : decode cX5_joins 30 = .ok (.invokevirtual 62, 3) := by decide +kernel
theorem dX5_joins_33 : decode cX5_joins 33 = .ok (.iadd, 1) := by decide +kernel
theorem dX5_joins_34 : decode cX5_joins 34 = .ok (.bipush 60, 2) := by decide +kernel
theorem dX5_joins_36 : decode cX5_joins 36 = .ok (.if_icmp .le 5, 3) := by decide +kernel
theorem dX5_joins_39 : decode cX5_joins 39 = .ok (.iconst 3, 1) := by decide +kernel
theorem dX5_joins_40 : decode cX5_joins 40 = .ok (.ireturn, 1) := by decide +kernel
theorem dX5_joins_41 : decode cX5_joins 41 = .ok (.aload_n 0, 1) := by decide +kernel
theorem dX5_joins_42 : decode cX5_joins 42 = .ok (.iload_n 2, 1) := by decide +kernel
theorem dX5_joins_43 : decode cX5_joins 43 = .ok (.iconst 0, 1) := by decide +kernel
theorem dX5_joins_44 : decode cX5_joins 44 = .ok (.iload_n 1, 1) := by decide +kernel
theorem dX5_joins_45 : decode cX5_joins 45 = .ok (.invokevirtual 93, 3) := by decide +kernel
theorem dX5_joins_48 : decode cX5_joins 48 = .ok (.istore_n 3, 1) := by decide +kernel
theorem dX5_joins_49 : decode cX5_joins 49 = .ok (.aload_n 0, 1) := by decide +kernel
theorem dX5_joins_50 : decode cX5_joins 50 = .ok (.getfield 7, 3) := by decide +kernel
theorem dX5_joins_53 : decode cX5_joins 53 = .ok (.iconst 1, 1) := by decide +kernel
theorem dX5_joins_54 : decode cX5_joins 54 = .ok (.dup2, 1) := by decide +kernel
theorem dX5_joins_55 : decode cX5_joins 55 = .ok (.iaload, 1) := by decide +kernel
theorem dX5_joins_56 : decode cX5_joins 56 = .ok (.iconst 1, 1) := by decide +kernel
theorem dX5_joins_57 : decode cX5_joins 57 = .ok (.iadd, 1) := by decide +kernel
theorem dX5_joins_58 : decode cX5_joins 58 = .ok (.iastore, 1) := by decide +kernel
theorem dX5_joins_59 : decode cX5_joins 59 = .ok (.aload_n 0, 1) := by decide +kernel
theorem dX5_joins_60 : decode cX5_joins 60 = .ok (.aload_n 0, 1) := by decide +kernel
theorem dX5_joins_61 : decode cX5_joins 61 = .ok (.iload_n 1, 1) := by decide +kernel
theorem dX5_joins_62 : decode cX5_joins 62 = .ok (.invokevirtual 62, 3) := by decide +kernel
theorem dX5_joins_65 : decode cX5_joins 65 = .ok (.invokevirtual 87, 3) := by decide +kernel
theorem dX5_joins_68 : decode cX5_joins 68 = .ok (.ireturn, 1) := by decide +kernel
theorem dX5_swaps_0 : decode cX5_swaps 0 = .ok (.iload_n 1, 1) := by decide +kernel
theorem dX5_swaps_1 : decode cX5_swaps 1 = .ok (.invokestatic 58, 3) := by decide +kernel
theorem dX5_swaps_4 : decode cX5_swaps 4 = .ok (.ifCond .eq 10, 3) := by decide +kernel
theorem dX5_swaps_7 : decode cX5_swaps 7 = .ok (.iload_n 2, 1) := by decide +kernel
theorem dX5_swaps_8 : decode cX5_swaps 8 = .ok (.invokestatic 58, 3) := by decide +kernel
theorem dX5_swaps_11 : decode cX5_swaps 11 = .ok (.ifCond .ne 5, 3) := by decide +kernel
theorem dX5_swaps_14 : decode cX5_swaps 14 = .ok (.iconst 1, 1) := by decide +kernel
theorem dX5_swaps_15 : decode cX5_swaps 15 = .ok (.ireturn, 1) := by decide +kernel
theorem dX5_swaps_16 : decode cX5_swaps 16 = .ok (.iconst 0, 1) := by decide +kernel
theorem dX5_swaps_17 : decode cX5_swaps 17 = .ok (.istore_n 3, 1) := by decide +kernel
theorem dX5_swaps_18 : decode cX5_swaps 18 = .ok (.iload_n 3, 1) := by decide +kernel
theorem dX5_swaps_19 : decode cX5_swaps 19 = .ok (.bipush 121, 2) := by decide +kernel
theorem dX5_swaps_21 : decode cX5_swaps 21 = .ok (.if_icmp .ge 65, 3) := by decide +kernel
theorem dX5_swaps_24 : decode cX5_swaps 24 = .ok (.aload_n 0, 1) := by decide +kernel
theorem dX5_swaps_25 : decode cX5_swaps 25 = .ok (.getfield 7, 3) := by decide +kernel
theorem dX5_swaps_28 : decode cX5_swaps 28 = .ok (.iconst 2, 1) := by decide +kernel
theorem dX5_swaps_29 : decode cX5_swaps 29 = .ok (.bipush 121, 2) := by decide +kernel
theorem dX5_swaps_31 : decode cX5_swaps 31 = .ok (.iload_n 1, 1) := by decide +kernel
theorem dX5_swaps_32 : decode cX5_swaps 32 = .ok (.imul, 1) := by decide +kernel
theorem dX5_swaps_33 : decode cX5_swaps 33 = .ok (.iadd, 1) := by decide +kernel
theorem dX5_swaps_34 : decode cX5_swaps 34 = .ok (.iload_n 3, 1) := by decide +kernel
theorem dX5_swaps_35 : decode cX5_swaps 35 = .ok (.iadd, 1) := by decide +kernel
theorem dX5_swaps_36 : decode cX5_swaps 36 = .ok (.iaload, 1) := by decide +kernel
theorem dX5_swaps_37 : decode cX5_swaps 37 = .ok (.istore 4, 2) := by decide +kernel
theorem dX5_swaps_39 : decode cX5_swaps 39 = .ok (.aload_n 0, 1) := by decide +kernel
theorem dX5_swaps_40 : decode cX5_swaps 40 = .ok (.getfield 7, 3) := by decide +kernel
theorem dX5_swaps_43 : decode cX5_swaps 43 = .ok (.iconst 2, 1) := by decide +kernel
theorem dX5_swaps_44 : decode cX5_swaps 44 = .ok (.bipush 121, 2) := by decide +kernel
theorem dX5_swaps_46 : decode cX5_swaps 46 = .ok (.iload_n 1, 1) := by decide +kernel
theorem dX5_swaps_47 : decode cX5_swaps 47 = .ok (.imul, 1) := by decide +kernel
theorem dX5_swaps_48 : decode cX5_swaps 48 = .ok (.iadd, 1) := by decide +kernel
theorem dX5_swaps_49 : decode cX5_swaps 49 = .ok (.iload_n 3, 1) := by decide +kernel
theorem dX5_swaps_50 : decode cX5_swaps 50 = .ok (.iadd, 1) := by decide +kernel
theorem dX5_swaps_51 : decode cX5_swaps 51 = .ok (.aload_n 0, 1) := by decide +kernel
theorem dX5_swaps_52 : decode cX5_swaps 52 = .ok (.getfield 7, 3) := by decide +kernel
theorem dX5_swaps_55 : decode cX5_swaps 55 = .ok (.iconst 2, 1) := by decide +kernel
theorem dX5_swaps_56 : decode cX5_swaps 56 = .ok (.bipush 121, 2) := by decide +kernel
theorem dX5_swaps_58 : decode cX5_swaps 58 = .ok (.iload_n 2, 1) := by decide +kernel
theorem dX5_swaps_59 : decode cX5_swaps 59 = .ok (.imul, 1) := by decide +kernel
theorem dX5_swaps_60 : decode cX5_swaps 60 = .ok (.iadd, 1) := by decide +kernel
theorem dX5_swaps_61 : decode cX5_swaps 61 = .ok (.iload_n 3, 1) := by decide +kernel
theorem dX5_swaps_62 : decode cX5_swaps 62 = .ok (.iadd, 1) := by decide +kernel
theorem dX5_swaps_63 : decode cX5_swaps 63 = .ok (.iaload, 1) := by decide +kernel
theorem dX5_swaps_64 : decode cX5_swaps 64 = .ok (.iastore, 1) := by decide +kernel
theorem dX5_swaps_65 : decode cX5_swaps 65 = .ok (.aload_n 0, 1) := by decide +kernel
theorem dX5_swaps_66 : decode cX5_swaps 66 = .ok (.getfield 7, 3) := by decide +kernel
theorem dX5_swaps_69 : decode cX5_swaps 69 = .ok (.iconst 2, 1) := by decide +kernel
theorem dX5_swaps_70 : decode cX5_swaps 70 = .ok (.bipush 121, 2) := by decide +kernel
theorem dX5_swaps_72 : decode cX5_swaps 72 = .ok (.iload_n 2, 1) := by decide +kernel
theorem dX5_swaps_73 : decode cX5_swaps 73 = .ok (.imul, 1) := by decide +kernel
theorem dX5_swaps_74 : decode cX5_swaps 74 = .ok (.iadd, 1) := by decide +kernel
theorem dX5_swaps_75 : decode cX5_swaps 75 = .ok (.iload_n 3, 1) := by decide +kernel
theorem dX5_swaps_76 : decode cX5_swaps 76 = .ok (.iadd, 1) := by decide +kernel
theorem dX5_swaps_77 : decode cX5_swaps 77 = .ok (.iload 4, 2) := by decide +kernel
theorem dX5_swaps_79 : decode cX5_swaps 79 = .ok (.iastore, 1) := by decide +kernel
theorem dX5_swaps_80 : decode cX5_swaps 80 = .ok (.iinc 3 1, 3) := by decide +kernel
theorem dX5_swaps_83 : decode cX5_swaps 83 = .ok (.goto (-65), 3) := by decide +kernel
theorem dX5_swaps_86 : decode cX5_swaps 86 = .ok (.aload_n 0, 1) := by decide +kernel
theorem dX5_swaps_87 : decode cX5_swaps 87 = .ok (.aload_n 0, 1) := by decide +kernel
theorem dX5_swaps_88 : decode cX5_swaps 88 = .ok (.iload_n 1, 1) := by decide +kernel
theorem dX5_swaps_89 : decode cX5_swaps 89 = .ok (.invokevirtual 62, 3) := by decide +kernel
theorem dX5_swaps_92 : decode cX5_swaps 92 = .ok (.invokevirtual 87, 3) := by decide +kernel
theorem dX5_swaps_95 : decode cX5_swaps 95 = .ok (.ireturn, 1) := by decide +kernel
theorem dX5_sumOf_0 : decode cX5_sumOf 0 = .ok (.iconst 0, 1) := by decide +kernel
theorem dX5_sumOf_1 : decode cX5_sumOf 1 = .ok (.istore 4, 2) := by decide +kernel
theorem dX5_sumOf_3 : decode cX5_sumOf 3 = .ok (.iload_n 2, 1) := by decide +kernel
theorem dX5_sumOf_4 : decode cX5_sumOf 4 = .ok (.istore 5, 2) := by decide +kernel
theorem dX5_sumOf_6 : decode cX5_sumOf 6 = .ok (.iload 5, 2) := by decide +kernel
theorem dX5_sumOf_8 : decode cX5_sumOf 8 = .ok (.iload_n 3, 1) := by decide +kernel
theorem dX5_sumOf_9 : decode cX5_sumOf 9 = .ok (.if_icmp .gt 22, 3) := by decide +kernel
theorem dX5_sumOf_12 : decode cX5_sumOf 12 = .ok (.iload 4, 2) := by decide +kernel
theorem dX5_sumOf_14 : decode cX5_sumOf 14 = .ok (.aload_n 0, 1) := by decide +kernel
theorem dX5_sumOf_15 : decode cX5_sumOf 15 = .ok (.iload_n 1, 1) := by decide +kernel
theorem dX5_sumOf_16 : decode cX5_sumOf 16 = .ok (.iload 5, 2) := by decide +kernel
theorem dX5_sumOf_18 : decode cX5_sumOf 18 = .ok (.iconst 0, 1) := by decide +kernel
theorem dX5_sumOf_19 : decode cX5_sumOf 19 = .ok (.invokevirtual 75, 3) := by decide +kernel
theorem dX5_sumOf_22 : decode cX5_sumOf 22 = .ok (.iadd, 1) := by decide +kernel
theorem dX5_sumOf_23 : decode cX5_sumOf 23 = .ok (.istore 4, 2) := by decide +kernel
theorem dX5_sumOf_25 : decode cX5_sumOf 25 = .ok (.iinc 5 1, 3) := by decide +kernel
theorem dX5_sumOf_28 : decode cX5_sumOf 28 = .ok (.goto (-22), 3) := by decide +kernel
theorem dX5_sumOf_31 : decode cX5_sumOf 31 = .ok (.iload 4, 2) := by decide +kernel
theorem dX5_sumOf_33 : decode cX5_sumOf 33 = .ok (.ireturn, 1) := by decide +kernel
theorem dX5_flips_0 : decode cX5_flips 0 = .ok (.aload_n 0, 1) := by decide +kernel
theorem dX5_flips_1 : decode cX5_flips 1 = .ok (.iload_n 1, 1) := by decide +kernel
theorem dX5_flips_2 : decode cX5_flips 2 = .ok (.iload_n 2, 1) := by decide +kernel
theorem dX5_flips_3 : decode cX5_flips 3 = .ok (.invokevirtual 90, 3) := by decide +kernel
theorem dX5_flips_6 : decode cX5_flips 6 = .ok (.ifCond .eq 12, 3) := by decide +kernel
theorem dX5_flips_9 : decode cX5_flips 9 = .ok (.aload_n 0, 1) := by decide +kernel
theorem dX5_flips_10 : decode cX5_flips 10 = .ok (.iload_n 1, 1) := by decide +kernel
theorem dX5_flips_11 : decode cX5_flips 11 = .ok (.iload_n 3, 1) := by decide +kernel
theorem dX5_flips_12 : decode cX5_flips 12 = .ok (.invokevirtual 90, 3) := by decide +kernel
theorem dX5_flips_15 : decode cX5_flips 15 = .ok (.ifCond .ne 5, 3) := by decide +kernel
theorem dX5_flips_18 : decode cX5_flips 18 = .ok (.iconst 1, 1) := by decide +kernel
theorem dX5_flips_19 : decode cX5_flips 19 = .ok (.ireturn, 1) := by decide +kernel
theorem dX5_flips_20 : decode cX5_flips 20 = .ok (.iload_n 2, 1) := by decide +kernel
theorem dX5_flips_21 : decode cX5_flips 21 = .ok (.iload_n 3, 1) := by decide +kernel
theorem dX5_flips_22 : decode cX5_flips 22 = .ok (.if_icmp .le 5, 3) := by decide +kernel
theorem dX5_flips_25 : decode cX5_flips 25 = .ok (.iconst 2, 1) := by decide +kernel
theorem dX5_flips_26 : decode cX5_flips 26 = .ok (.ireturn, 1) := by decide +kernel
theorem dX5_flips_27 : decode cX5_flips 27 = .ok (.iload_n 2, 1) := by decide +kernel
theorem dX5_flips_28 : decode cX5_flips 28 = .ok (.istore 4, 2) := by decide +kernel
theorem dX5_flips_30 : decode cX5_flips 30 = .ok (.iload_n 3, 1) := by decide +kernel
theorem dX5_flips_31 : decode cX5_flips 31 = .ok (.istore 5, 2) := by decide +kernel
theorem dX5_flips_33 : decode cX5_flips 33 = .ok (.iload 4, 2) := by decide +kernel
theorem dX5_flips_35 : decode cX5_flips 35 = .ok (.iload 5, 2) := by decide +kernel
theorem dX5_flips_37 : decode cX5_flips 37 = .ok (.if_icmp .ge 66, 3) := by decide +kernel
theorem dX5_flips_40 : decode cX5_flips 40 = .ok (.aload_n 0, 1) := by decide +kernel
theorem dX5_flips_41 : decode cX5_flips 41 = .ok (.iload_n 1, 1) := by decide +kernel
theorem dX5_flips_42 : decode cX5_flips 42 = .ok (.iload 4, 2) := by decide +kernel
theorem dX5_flips_44 : decode cX5_flips 44 = .ok (.iconst 0, 1) := by decide +kernel
theorem dX5_flips_45 : decode cX5_flips 45 = .ok (.invokevirtual 75, 3) := by decide +kernel
theorem dX5_flips_48 : decode cX5_flips 48 = .ok (.istore 6, 2) := by decide +kernel
theorem dX5_flips_50 : decode cX5_flips 50 = .ok (.aload_n 0, 1) := by decide +kernel
theorem dX5_flips_51 : decode cX5_flips 51 = .ok (.iload_n 1, 1) := by decide +kernel
theorem dX5_flips_52 : decode cX5_flips 52 = .ok (.iload 4, 2) := by decide +kernel
theorem dX5_flips_54 : decode cX5_flips 54 = .ok (.iconst 1, 1) := by decide +kernel
theorem dX5_flips_55 : decode cX5_flips 55 = .ok (.invokevirtual 75, 3) := by decide +kernel
theorem dX5_flips_58 : decode cX5_flips 58 = .ok (.istore 7, 2) := by decide +kernel
theorem dX5_flips_60 : decode cX5_flips 60 = .ok (.aload_n 0, 1) := by decide +kernel
theorem dX5_flips_61 : decode cX5_flips 61 = .ok (.iload_n 1, 1) := by decide +kernel
theorem dX5_flips_62 : decode cX5_flips 62 = .ok (.iload 4, 2) := by decide +kernel
theorem dX5_flips_64 : decode cX5_flips 64 = .ok (.aload_n 0, 1) := by decide +kernel
theorem dX5_flips_65 : decode cX5_flips 65 = .ok (.iload_n 1, 1) := by decide +kernel
theorem dX5_flips_66 : decode cX5_flips 66 = .ok (.iload 5, 2) := by decide +kernel
theorem dX5_flips_68 : decode cX5_flips 68 = .ok (.iconst 0, 1) := by decide +kernel
theorem dX5_flips_69 : decode cX5_flips 69 = .ok (.invokevirtual 75, 3) := by decide +kernel
theorem dX5_flips_72 : decode cX5_flips 72 = .ok (.aload_n 0, 1) := by decide +kernel
theorem dX5_flips_73 : decode cX5_flips 73 = .ok (.iload_n 1, 1) := by decide +kernel
theorem dX5_flips_74 : decode cX5_flips 74 = .ok (.iload 5, 2) := by decide +kernel
theorem dX5_flips_76 : decode cX5_flips 76 = .ok (.iconst 1, 1) := by decide +kernel
theorem dX5_flips_77 : decode cX5_flips 77 = .ok (.invokevirtual 75, 3) := by decide +kernel
theorem dX5_flips_80 : decode cX5_flips 80 = .ok (.invokevirtual 79, 3) := by decide +kernel
theorem dX5_flips_83 : decode cX5_flips 83 = .ok (.aload_n 0, 1) := by decide +kernel
theorem dX5_flips_84 : decode cX5_flips 84 = .ok (.iload_n 1, 1) := by decide +kernel
theorem dX5_flips_85 : decode cX5_flips 85 = .ok (.iload 5, 2) := by decide +kernel
theorem dX5_flips_87 : decode cX5_flips 87 = .ok (.iload 6, 2) := by decide +kernel
theorem dX5_flips_89 : decode cX5_flips 89 = .ok (.iload 7, 2) := by decide +kernel
theorem dX5_flips_91 : decode cX5_flips 91 = .ok (.invokevirtual 79, 3) := by decide +kernel
theorem dX5_flips_94 : decode cX5_flips 94 = .ok (.iinc 4 1, 3) := by decide +kernel
theorem dX5_flips_97 : decode cX5_flips 97 = .ok (.iinc 5 (-1), 3) := by decide +kernel
theorem dX5_flips_100 : decode cX5_flips 100 = .ok (.goto (-67), 3) := by decide +kernel
theorem dX5_flips_103 : decode cX5_flips 103 = .ok (.aload_n 0, 1) := by decide +kernel
theorem dX5_flips_104 : decode cX5_flips 104 = .ok (.aload_n 0, 1) := by decide +kernel
theorem dX5_flips_105 : decode cX5_flips 105 = .ok (.iload_n 1, 1) := by decide +kernel
theorem dX5_flips_106 : decode cX5_flips 106 = .ok (.iload_n 2, 1) := by decide +kernel
theorem dX5_flips_107 : decode cX5_flips 107 = .ok (.iload_n 3, 1) := by decide +kernel
theorem dX5_flips_108 : decode cX5_flips 108 = .ok (.invokevirtual 96, 3) := by decide +kernel
theorem dX5_flips_111 : decode cX5_flips 111 = .ok (.invokevirtual 87, 3) := by decide +kernel
theorem dX5_flips_114 : decode cX5_flips 114 = .ok (.ireturn, 1) := by decide +kernel
theorem dX5_dyes_0 : decode cX5_dyes 0 = .ok (.aload_n 0, 1) := by decide +kernel
theorem dX5_dyes_1 : decode cX5_dyes 1 = .ok (.iload_n 1, 1) := by decide +kernel
theorem dX5_dyes_2 : decode cX5_dyes 2 = .ok (.iload_n 2, 1) := by decide +kernel
theorem dX5_dyes_3 : decode cX5_dyes 3 = .ok (.invokevirtual 90, 3) := by decide +kernel
theorem dX5_dyes_6 : decode cX5_dyes 6 = .ok (.ifCond .eq 12, 3) := by decide +kernel
theorem dX5_dyes_9 : decode cX5_dyes 9 = .ok (.aload_n 0, 1) := by decide +kernel
theorem dX5_dyes_10 : decode cX5_dyes 10 = .ok (.iload_n 1, 1) := by decide +kernel
theorem dX5_dyes_11 : decode cX5_dyes 11 = .ok (.iload_n 3, 1) := by decide +kernel
theorem dX5_dyes_12 : decode cX5_dyes 12 = .ok (.invokevirtual 90, 3) := by decide +kernel
theorem dX5_dyes_15 : decode cX5_dyes 15 = .ok (.ifCond .ne 5, 3) := by decide +kernel
theorem dX5_dyes_18 : decode cX5_dyes 18 = .ok (.iconst 1, 1) := by decide +kernel
theorem dX5_dyes_19 : decode cX5_dyes 19 = .ok (.ireturn, 1) := by decide +kernel
theorem dX5_dyes_20 : decode cX5_dyes 20 = .ok (.iload_n 2, 1) := by decide +kernel
theorem dX5_dyes_21 : decode cX5_dyes 21 = .ok (.iload_n 3, 1) := by decide +kernel
theorem dX5_dyes_22 : decode cX5_dyes 22 = .ok (.if_icmp .gt 11, 3) := by decide +kernel
theorem dX5_dyes_25 : decode cX5_dyes 25 = .ok (.iload 4, 2) := by decide +kernel
theorem dX5_dyes_27 : decode cX5_dyes 27 = .ok (.invokestatic 72, 3) := by decide +kernel
theorem dX5_dyes_30 : decode cX5_dyes 30 = .ok (.ifCond .ne 5, 3) := by decide +kernel
theorem dX5_dyes_33 : decode cX5_dyes 33 = .ok (.iconst 2, 1) := by decide +kernel
theorem dX5_dyes_34 : decode cX5_dyes 34 = .ok (.ireturn, 1) := by decide +kernel
theorem dX5_dyes_35 : decode cX5_dyes 35 = .ok (.iconst 0, 1) := by decide +kernel
theorem dX5_dyes_36 : decode cX5_dyes 36 = .ok (.istore 5, 2) := by decide +kernel
theorem dX5_dyes_38 : decode cX5_dyes 38 = .ok (.iload_n 2, 1) := by decide +kernel
theorem dX5_dyes_39 : decode cX5_dyes 39 = .ok (.istore 6, 2) := by decide +kernel
theorem dX5_dyes_41 : decode cX5_dyes 41 = .ok (.iload 6, 2) := by decide +kernel
theorem dX5_dyes_43 : decode cX5_dyes 43 = .ok (.iload_n 3, 1) := by decide +kernel
theorem dX5_dyes_44 : decode cX5_dyes 44 = .ok (.if_icmp .gt 49, 3) := by decide +kernel
theorem dX5_dyes_47 : decode cX5_dyes 47 = .ok (.iload 5, 2) := by decide +kernel
theorem dX5_dyes_49 : decode cX5_dyes 49 = .ok (.aload_n 0, 1) := by decide +kernel
theorem dX5_dyes_50 : decode cX5_dyes 50 = .ok (.iload_n 1, 1) := by decide +kernel
theorem dX5_dyes_51 : decode cX5_dyes 51 = .ok (.iload 6, 2) := by decide +kernel
theorem dX5_dyes_53 : decode cX5_dyes 53 = .ok (.iconst 1, 1) := by decide +kernel
theorem dX5_dyes_54 : decode cX5_dyes 54 = .ok (.invokevirtual 75, 3) := by decide +kernel
theorem dX5_dyes_57 : decode cX5_dyes 57 = .ok (.iload 4, 2) := by decide +kernel
theorem dX5_dyes_59 : decode cX5_dyes 59 = .ok (.if_icmp .ne 7, 3) := by decide +kernel
theorem dX5_dyes_62 : decode cX5_dyes 62 = .ok (.iconst 0, 1) := by decide +kernel
theorem dX5_dyes_63 : decode cX5_dyes 63 = .ok (.goto 4, 3) := by decide +kernel
theorem dX5_dyes_66 : decode cX5_dyes 66 = .ok (.iconst 1, 1) := by decide +kernel
theorem dX5_dyes_67 : decode cX5_dyes 67 = .ok (.iadd, 1) := by decide +kernel
theorem dX5_dyes_68 : decode cX5_dyes 68 = .ok (.istore 5, 2) := by decide +kernel
theorem dX5_dyes_70 : decode cX5_dyes 70 = .ok (.aload_n 0, 1) := by decide +kernel
theorem dX5_dyes_71 : decode cX5_dyes 71 = .ok (.iload_n 1, 1) := by decide +kernel
theorem dX5_dyes_72 : decode cX5_dyes 72 = .ok (.iload 6, 2) := by decide +kernel
theorem dX5_dyes_74 : decode cX5_dyes 74 = .ok (.aload_n 0, 1) := by decide +kernel
theorem dX5_dyes_75 : decode cX5_dyes 75 = .ok (.iload_n 1, 1) := by decide +kernel
theorem dX5_dyes_76 : decode cX5_dyes 76 = .ok (.iload 6, 2) := by decide +kernel
theorem dX5_dyes_78 : decode cX5_dyes 78 = .ok (.iconst 0, 1) := by decide +kernel
theorem dX5_dyes_79 : decode cX5_dyes 79 = .ok (.invokevirtual 75, 3) := by decide +kernel
theorem dX5_dyes_82 : decode cX5_dyes 82 = .ok (.iload 4, 2) := by decide +kernel
theorem dX5_dyes_84 : decode cX5_dyes 84 = .ok (.invokevirtual 79, 3) := by decide +kernel
theorem dX5_dyes_87 : decode cX5_dyes 87 = .ok (.iinc 6 1, 3) := by decide +kernel
theorem dX5_dyes_90 : decode cX5_dyes 90 = .ok (.goto (-49), 3) := by decide +kernel
theorem dX5_dyes_93 : decode cX5_dyes 93 = .ok (.aload_n 0, 1) := by decide +kernel
theorem dX5_dyes_94 : decode cX5_dyes 94 = .ok (.iload 5, 2) := by decide +kernel
theorem dX5_dyes_96 : decode cX5_dyes 96 = .ok (.invokevirtual 87, 3) := by decide +kernel
theorem dX5_dyes_99 : decode cX5_dyes 99 = .ok (.ireturn, 1) := by decide +kernel
theorem dX5_append_0 : decode cX5_append 0 = .ok (.aload_n 0, 1) := by decide +kernel
theorem dX5_append_1 : decode cX5_append 1 = .ok (.invokevirtual 99, 3) := by decide +kernel
theorem dX5_append_4 : decode cX5_append 4 = .ok (.aload_n 0, 1) := by decide +kernel
theorem dX5_append_5 : decode cX5_append 5 = .ok (.aload_n 0, 1) := by decide +kernel
theorem dX5_append_6 : decode cX5_append 6 = .ok (.iload_n 1, 1) := by decide +kernel
theorem dX5_append_7 : decode cX5_append 7 = .ok (.iload_n 1, 1) := by decide +kernel
theorem dX5_append_8 : decode cX5_append 8 = .ok (.invokestatic 58, 3) := by decide +kernel
theorem dX5_append_11 : decode cX5_append 11 = .ok (.ifCond .eq 11, 3) := by decide +kernel
theorem dX5_append_14 : decode cX5_append 14 = .ok (.aload_n 0, 1) := by decide +kernel
theorem dX5_append_15 : decode cX5_append 15 = .ok (.iload_n 1, 1) := by decide +kernel
theorem dX5_append_16 : decode cX5_append 16 = .ok (.invokevirtual 62, 3) := by decide +kernel
theorem dX5_append_19 : decode cX5_append 19 = .ok (.goto 4, 3) := by decide +kernel
theorem dX5_append_22 : decode cX5_append 22 = .ok (.iconst 0, 1) := by decide +kernel
theorem dX5_append_23 : decode cX5_append 23 = .ok (.iload_n 2, 1) := by decide +kernel
theorem dX5_append_24 : decode cX5_append 24 = .ok (.iload_n 3, 1) := by decide +kernel
theorem dX5_append_25 : decode cX5_append 25 = .ok (.invokevirtual 102, 3) := by decide +kernel
theorem dX5_append_28 : decode cX5_append 28 = .ok (.invokevirtual 106, 3) := by decide +kernel
theorem dX5_append_31 : decode cX5_append 31 = .ok (.ireturn, 1) := by decide +kernel
theorem dX5_insert_0 : decode cX5_insert 0 = .ok (.aload_n 0, 1) := by decide +kernel
theorem dX5_insert_1 : decode cX5_insert 1 = .ok (.invokevirtual 99, 3) := by decide +kernel
theorem dX5_insert_4 : decode cX5_insert 4 = .ok (.aload_n 0, 1) := by decide +kernel
theorem dX5_insert_5 : decode cX5_insert 5 = .ok (.aload_n 0, 1) := by decide +kernel
theorem dX5_insert_6 : decode cX5_insert 6 = .ok (.iload_n 1, 1) := by decide +kernel
theorem dX5_insert_7 : decode cX5_insert 7 = .ok (.iload_n 2, 1) := by decide +kernel
theorem dX5_insert_8 : decode cX5_insert 8 = .ok (.iload_n 3, 1) := by decide +kernel
theorem dX5_insert_9 : decode cX5_insert 9 = .ok (.iload 4, 2) := by decide +kernel
theorem dX5_insert_11 : decode cX5_insert 11 = .ok (.invokevirtual 102, 3) := by decide +kernel
theorem dX5_insert_14 : decode cX5_insert 14 = .ok (.invokevirtual 106, 3) := by decide +kernel
theorem dX5_insert_17 : decode cX5_insert 17 = .ok (.ireturn, 1) := by decide +kernel
theorem dX5_remove_0 : decode cX5_remove 0 = .ok (.aload_n 0, 1) := by decide +kernel
theorem dX5_remove_1 : decode cX5_remove 1 = .ok (.invokevirtual 99, 3) := by decide +kernel
theorem dX5_remove_4 : decode cX5_remove 4 = .ok (.aload_n 0, 1) := by decide +kernel
theorem dX5_remove_5 : decode cX5_remove 5 = .ok (.aload_n 0, 1) := by decide +kernel
theorem dX5_remove_6 : decode cX5_remove 6 = .ok (.iload_n 1, 1) := by decide +kernel
theorem dX5_remove_7 : decode cX5_remove 7 = .ok (.iload_n 2, 1) := by decide +kernel
theorem dX5_remove_8 : decode cX5_remove 8 = .ok (.invokevirtual 109, 3) := by decide +kernel
theorem dX5_remove_11 : decode cX5_remove 11 = .ok (.invokevirtual 106, 3) := by decide +kernel
theorem dX5_remove_14 : decode cX5_remove 14 = .ok (.ireturn, 1) := by decide +kernel
theorem dX5_retie_0 : decode cX5_retie 0 = .ok (.aload_n 0, 1) := by decide +kernel
theorem dX5_retie_1 : decode cX5_retie 1 = .ok (.invokevirtual 99, 3) := by decide +kernel
theorem dX5_retie_4 : decode cX5_retie 4 = .ok (.aload_n 0, 1) := by decide +kernel
theorem dX5_retie_5 : decode cX5_retie 5 = .ok (.aload_n 0, 1) := by decide +kernel
theorem dX5_retie_6 : decode cX5_retie 6 = .ok (.iload_n 1, 1) := by decide +kernel
theorem dX5_retie_7 : decode cX5_retie 7 = .ok (.iload_n 2, 1) := by decide +kernel
theorem dX5_retie_8 : decode cX5_retie 8 = .ok (.iload_n 3, 1) := by decide +kernel
theorem dX5_retie_9 : decode cX5_retie 9 = .ok (.invokevirtual 113, 3) := by decide +kernel
theorem dX5_retie_12 : decode cX5_retie 12 = .ok (.invokevirtual 106, 3) := by decide +kernel
theorem dX5_retie_15 : decode cX5_retie 15 = .ok (.ireturn, 1) := by decide +kernel
theorem dX5_segmentCount_0 : decode cX5_segmentCount 0 = .ok (.aload_n 0, 1) := by decide +kernel
theorem dX5_segmentCount_1 : decode cX5_segmentCount 1 = .ok (.iload_n 1, 1) := by decide +kernel
theorem dX5_segmentCount_2 : decode cX5_segmentCount 2 = .ok (.invokestatic 58, 3) := by decide +kernel
theorem dX5_segmentCount_5 : decode cX5_segmentCount 5 = .ok (.ifCond .eq 7, 3) := by decide +kernel
theorem dX5_segmentCount_8 : decode cX5_segmentCount 8 = .ok (.iconst 0, 1) := by decide +kernel
theorem dX5_segmentCount_9 : decode cX5_segmentCount 9 = .ok (.goto 4, 3) := by decide +kernel
theorem dX5_segmentCount_12 : decode cX5_segmentCount 12 = .ok (.iconst 1, 1) := by decide +kernel
theorem dX5_segmentCount_13 : decode cX5_segmentCount 13 = .ok (.putfield 38, 3) := by decide +kernel
theorem dX5_segmentCount_16 : decode cX5_segmentCount 16 = .ok (.aload_n 0, 1) := by decide +kernel
theorem dX5_segmentCount_17 : decode cX5_segmentCount 17 = .ok (.getfield 38, 3) := by decide +kernel
theorem dX5_segmentCount_20 : decode cX5_segmentCount 20 = .ok (.ifCond .le 7, 3) := by decide +kernel
theorem dX5_segmentCount_23 : decode cX5_segmentCount 23 = .ok (.iconst 0, 1) := by decide +kernel
theorem dX5_segmentCount_24 : decode cX5_segmentCount 24 = .ok (.goto 8, 3) := by decide +kernel
theorem dX5_segmentCount_27 : decode cX5_segmentCount 27 = .ok (.aload_n 0, 1) := by decide +kernel
theorem dX5_segmentCount_28 : decode cX5_segmentCount 28 = .ok (.iload_n 1, 1) := by decide +kernel
theorem dX5_segmentCount_29 : decode cX5_segmentCount 29 = .ok (.invokevirtual 62, 3) := by decide +kernel
theorem dX5_segmentCount_32 : decode cX5_segmentCount 32 = .ok (.ireturn, 1) := by decide +kernel
theorem dX5_asked_0 : decode cX5_asked 0 = .ok (.aload_n 0, 1) := by decide +kernel
theorem dX5_asked_1 : decode cX5_asked 1 = .ok (.aload_n 0, 1) := by decide +kernel
theorem dX5_asked_2 : decode cX5_asked 2 = .ok (.iload_n 1, 1) := by decide +kernel
theorem dX5_asked_3 : decode cX5_asked 3 = .ok (.iload_n 2, 1) := by decide +kernel
theorem dX5_asked_4 : decode cX5_asked 4 = .ok (.invokevirtual 90, 3) := by decide +kernel
theorem dX5_asked_7 : decode cX5_asked 7 = .ok (.ifCond .eq 7, 3) := by decide +kernel
theorem dX5_asked_10 : decode cX5_asked 10 = .ok (.iconst 0, 1) := by decide +kernel
theorem dX5_asked_11 : decode cX5_asked 11 = .ok (.goto 4, 3) := by decide +kernel
theorem dX5_asked_14 : decode cX5_asked 14 = .ok (.iconst 1, 1) := by decide +kernel
theorem dX5_asked_15 : decode cX5_asked 15 = .ok (.putfield 38, 3) := by decide +kernel
theorem dX5_asked_18 : decode cX5_asked 18 = .ok (.aload_n 0, 1) := by decide +kernel
theorem dX5_asked_19 : decode cX5_asked 19 = .ok (.getfield 38, 3) := by decide +kernel
theorem dX5_asked_22 : decode cX5_asked 22 = .ok (.ifCond .le 7, 3) := by decide +kernel
theorem dX5_asked_25 : decode cX5_asked 25 = .ok (.iconst 0, 1) := by decide +kernel
theorem dX5_asked_26 : decode cX5_asked 26 = .ok (.goto 10, 3) := by decide +kernel
theorem dX5_asked_29 : decode cX5_asked 29 = .ok (.aload_n 0, 1) := by decide +kernel
theorem dX5_asked_30 : decode cX5_asked 30 = .ok (.iload_n 1, 1) := by decide +kernel
theorem dX5_asked_31 : decode cX5_asked 31 = .ok (.iload_n 2, 1) := by decide +kernel
theorem dX5_asked_32 : decode cX5_asked 32 = .ok (.iload_n 3, 1) := by decide +kernel
theorem dX5_asked_33 : decode cX5_asked 33 = .ok (.invokevirtual 75, 3) := by decide +kernel
theorem dX5_asked_36 : decode cX5_asked 36 = .ok (.ireturn, 1) := by decide +kernel
theorem dX5_length_0 : decode cX5_length 0 = .ok (.aload_n 0, 1) := by decide +kernel
theorem dX5_length_1 : decode cX5_length 1 = .ok (.iload_n 1, 1) := by decide +kernel
theorem dX5_length_2 : decode cX5_length 2 = .ok (.iload_n 2, 1) := by decide +kernel
theorem dX5_length_3 : decode cX5_length 3 = .ok (.iconst 0, 1) := by decide +kernel
theorem dX5_length_4 : decode cX5_length 4 = .ok (.invokevirtual 116, 3) := by decide +kernel
theorem dX5_length_7 : decode cX5_length 7 = .ok (.ireturn, 1) := by decide +kernel
theorem dX5_colour_0 : decode cX5_colour 0 = .ok (.aload_n 0, 1) := by decide +kernel
theorem dX5_colour_1 : decode cX5_colour 1 = .ok (.iload_n 1, 1) := by decide +kernel
theorem dX5_colour_2 : decode cX5_colour 2 = .ok (.iload_n 2, 1) := by decide +kernel
theorem dX5_colour_3 : decode cX5_colour 3 = .ok (.iconst 1, 1) := by decide +kernel
theorem dX5_colour_4 : decode cX5_colour 4 = .ok (.invokevirtual 116, 3) := by decide +kernel
theorem dX5_colour_7 : decode cX5_colour 7 = .ok (.ireturn, 1) := by decide +kernel
theorem dX5_cut_0 : decode cX5_cut 0 = .ok (.aload_n 0, 1) := by decide +kernel
theorem dX5_cut_1 : decode cX5_cut 1 = .ok (.invokevirtual 99, 3) := by decide +kernel
theorem dX5_cut_4 : decode cX5_cut 4 = .ok (.aload_n 0, 1) := by decide +kernel
theorem dX5_cut_5 : decode cX5_cut 5 = .ok (.aload_n 0, 1) := by decide +kernel
theorem dX5_cut_6 : decode cX5_cut 6 = .ok (.iload_n 1, 1) := by decide +kernel
theorem dX5_cut_7 : decode cX5_cut 7 = .ok (.iload_n 2, 1) := by decide +kernel
theorem dX5_cut_8 : decode cX5_cut 8 = .ok (.iload_n 3, 1) := by decide +kernel
theorem dX5_cut_9 : decode cX5_cut 9 = .ok (.invokevirtual 119, 3) := by decide +kernel
theorem dX5_cut_12 : decode cX5_cut 12 = .ok (.invokevirtual 106, 3) := by decide +kernel
theorem dX5_cut_15 : decode cX5_cut 15 = .ok (.ireturn, 1) := by decide +kernel
theorem dX5_splice_0 : decode cX5_splice 0 = .ok (.aload_n 0, 1) := by decide +kernel
theorem dX5_splice_1 : decode cX5_splice 1 = .ok (.invokevirtual 99, 3) := by decide +kernel
theorem dX5_splice_4 : decode cX5_splice 4 = .ok (.aload_n 0, 1) := by decide +kernel
theorem dX5_splice_5 : decode cX5_splice 5 = .ok (.aload_n 0, 1) := by decide +kernel
theorem dX5_splice_6 : decode cX5_splice 6 = .ok (.iload_n 1, 1) := by decide +kernel
theorem dX5_splice_7 : decode cX5_splice 7 = .ok (.iload_n 2, 1) := by decide +kernel
theorem dX5_splice_8 : decode cX5_splice 8 = .ok (.invokevirtual 122, 3) := by decide +kernel
theorem dX5_splice_11 : decode cX5_splice 11 = .ok (.invokevirtual 106, 3) := by decide +kernel
theorem dX5_splice_14 : decode cX5_splice 14 = .ok (.ireturn, 1) := by decide +kernel
theorem dX5_exchange_0 : decode cX5_exchange 0 = .ok (.aload_n 0, 1) := by decide +kernel
theorem dX5_exchange_1 : decode cX5_exchange 1 = .ok (.invokevirtual 99, 3) := by decide +kernel
theorem dX5_exchange_4 : decode cX5_exchange 4 = .ok (.aload_n 0, 1) := by decide +kernel
theorem dX5_exchange_5 : decode cX5_exchange 5 = .ok (.aload_n 0, 1) := by decide +kernel
theorem dX5_exchange_6 : decode cX5_exchange 6 = .ok (.iload_n 1, 1) := by decide +kernel
theorem dX5_exchange_7 : decode cX5_exchange 7 = .ok (.iload_n 2, 1) := by decide +kernel
theorem dX5_exchange_8 : decode cX5_exchange 8 = .ok (.invokevirtual 125, 3) := by decide +kernel
theorem dX5_exchange_11 : decode cX5_exchange 11 = .ok (.invokevirtual 106, 3) := by decide +kernel
theorem dX5_exchange_14 : decode cX5_exchange 14 = .ok (.ireturn, 1) := by decide +kernel
theorem dX5_flip_0 : decode cX5_flip 0 = .ok (.aload_n 0, 1) := by decide +kernel
theorem dX5_flip_1 : decode cX5_flip 1 = .ok (.invokevirtual 99, 3) := by decide +kernel
theorem dX5_flip_4 : decode cX5_flip 4 = .ok (.aload_n 0, 1) := by decide +kernel
theorem dX5_flip_5 : decode cX5_flip 5 = .ok (.aload_n 0, 1) := by decide +kernel
theorem dX5_flip_6 : decode cX5_flip 6 = .ok (.iload_n 1, 1) := by decide +kernel
theorem dX5_flip_7 : decode cX5_flip 7 = .ok (.iload_n 2, 1) := by decide +kernel
theorem dX5_flip_8 : decode cX5_flip 8 = .ok (.iload_n 3, 1) := by decide +kernel
theorem dX5_flip_9 : decode cX5_flip 9 = .ok (.invokevirtual 128, 3) := by decide +kernel
theorem dX5_flip_12 : decode cX5_flip 12 = .ok (.invokevirtual 106, 3) := by decide +kernel
theorem dX5_flip_15 : decode cX5_flip 15 = .ok (.ireturn, 1) := by decide +kernel
theorem dX5_dye_0 : decode cX5_dye 0 = .ok (.aload_n 0, 1) := by decide +kernel
theorem dX5_dye_1 : decode cX5_dye 1 = .ok (.invokevirtual 99, 3) := by decide +kernel
theorem dX5_dye_4 : decode cX5_dye 4 = .ok (.aload_n 0, 1) := by decide +kernel
theorem dX5_dye_5 : decode cX5_dye 5 = .ok (.aload_n 0, 1) := by decide +kernel
theorem dX5_dye_6 : decode cX5_dye 6 = .ok (.iload_n 1, 1) := by decide +kernel
theorem dX5_dye_7 : decode cX5_dye 7 = .ok (.iload_n 2, 1) := by decide +kernel
theorem dX5_dye_8 : decode cX5_dye 8 = .ok (.iload_n 3, 1) := by decide +kernel
theorem dX5_dye_9 : decode cX5_dye 9 = .ok (.iload 4, 2) := by decide +kernel
theorem dX5_dye_11 : decode cX5_dye 11 = .ok (.invokevirtual 131, 3) := by decide +kernel
theorem dX5_dye_14 : decode cX5_dye 14 = .ok (.invokevirtual 106, 3) := by decide +kernel
theorem dX5_dye_17 : decode cX5_dye 17 = .ok (.ireturn, 1) := by decide +kernel
theorem dX5_whole_0 : decode cX5_whole 0 = .ok (.aload_n 0, 1) := by decide +kernel
theorem dX5_whole_1 : decode cX5_whole 1 = .ok (.iload_n 1, 1) := by decide +kernel
theorem dX5_whole_2 : decode cX5_whole 2 = .ok (.iconst 0, 1) := by decide +kernel
theorem dX5_whole_3 : decode cX5_whole 3 = .ok (.aload_n 0, 1) := by decide +kernel
theorem dX5_whole_4 : decode cX5_whole 4 = .ok (.iload_n 1, 1) := by decide +kernel
theorem dX5_whole_5 : decode cX5_whole 5 = .ok (.invokevirtual 62, 3) := by decide +kernel
theorem dX5_whole_8 : decode cX5_whole 8 = .ok (.iconst 1, 1) := by decide +kernel
theorem dX5_whole_9 : decode cX5_whole 9 = .ok (.isub, 1) := by decide +kernel
theorem dX5_whole_10 : decode cX5_whole 10 = .ok (.invokevirtual 96, 3) := by decide +kernel
theorem dX5_whole_13 : decode cX5_whole 13 = .ok (.ireturn, 1) := by decide +kernel
theorem dX5_reelLength_0 : decode cX5_reelLength 0 = .ok (.aload_n 0, 1) := by decide +kernel
theorem dX5_reelLength_1 : decode cX5_reelLength 1 = .ok (.iload_n 1, 1) := by decide +kernel
theorem dX5_reelLength_2 : decode cX5_reelLength 2 = .ok (.invokestatic 58, 3) := by decide +kernel
theorem dX5_reelLength_5 : decode cX5_reelLength 5 = .ok (.ifCond .eq 7, 3) := by decide +kernel
theorem dX5_reelLength_8 : decode cX5_reelLength 8 = .ok (.iconst 0, 1) := by decide +kernel
theorem dX5_reelLength_9 : decode cX5_reelLength 9 = .ok (.goto 4, 3) := by decide +kernel
theorem dX5_reelLength_12 : decode cX5_reelLength 12 = .ok (.iconst 1, 1) := by decide +kernel
theorem dX5_reelLength_13 : decode cX5_reelLength 13 = .ok (.putfield 38, 3) := by decide +kernel
theorem dX5_reelLength_16 : decode cX5_reelLength 16 = .ok (.aload_n 0, 1) := by decide +kernel
theorem dX5_reelLength_17 : decode cX5_reelLength 17 = .ok (.getfield 38, 3) := by decide +kernel
theorem dX5_reelLength_20 : decode cX5_reelLength 20 = .ok (.ifCond .le 7, 3) := by decide +kernel
theorem dX5_reelLength_23 : decode cX5_reelLength 23 = .ok (.iconst 0, 1) := by decide +kernel
theorem dX5_reelLength_24 : decode cX5_reelLength 24 = .ok (.goto 8, 3) := by decide +kernel
theorem dX5_reelLength_27 : decode cX5_reelLength 27 = .ok (.aload_n 0, 1) := by decide +kernel
theorem dX5_reelLength_28 : decode cX5_reelLength 28 = .ok (.iload_n 1, 1) := by decide +kernel
theorem dX5_reelLength_29 : decode cX5_reelLength 29 = .ok (.invokevirtual 134, 3) := by decide +kernel
theorem dX5_reelLength_32 : decode cX5_reelLength 32 = .ok (.ireturn, 1) := by decide +kernel
theorem dX5_lengthBefore_0 : decode cX5_lengthBefore 0 = .ok (.aload_n 0, 1) := by decide +kernel
theorem dX5_lengthBefore_1 : decode cX5_lengthBefore 1 = .ok (.aload_n 0, 1) := by decide +kernel
theorem dX5_lengthBefore_2 : decode cX5_lengthBefore 2 = .ok (.iload_n 1, 1) := by decide +kernel
theorem dX5_lengthBefore_3 : decode cX5_lengthBefore 3 = .ok (.iload_n 2, 1) := by decide +kernel
theorem dX5_lengthBefore_4 : decode cX5_lengthBefore 4 = .ok (.invokevirtual 65, 3) := by decide +kernel
theorem dX5_lengthBefore_7 : decode cX5_lengthBefore 7 = .ok (.ifCond .eq 7, 3) := by decide +kernel
theorem dX5_lengthBefore_10 : decode cX5_lengthBefore 10 = .ok (.iconst 0, 1) := by decide +kernel
theorem dX5_lengthBefore_11 : decode cX5_lengthBefore 11 = .ok (.goto 4, 3) := by decide +kernel
theorem dX5_lengthBefore_14 : decode cX5_lengthBefore 14 = .ok (.iconst 1, 1) := by decide +kernel
theorem dX5_lengthBefore_15 : decode cX5_lengthBefore 15 = .ok (.putfield 38, 3) := by decide +kernel
theorem dX5_lengthBefore_18 : decode cX5_lengthBefore 18 = .ok (.aload_n 0, 1) := by decide +kernel
theorem dX5_lengthBefore_19 : decode cX5_lengthBefore 19 = .ok (.getfield 38, 3) := by decide +kernel
theorem dX5_lengthBefore_22 : decode cX5_lengthBefore 22 = .ok (.ifCond .le 7, 3) := by decide +kernel
theorem dX5_lengthBefore_25 : decode cX5_lengthBefore 25 = .ok (.iconst 0, 1) := by decide +kernel
theorem dX5_lengthBefore_26 : decode cX5_lengthBefore 26 = .ok (.goto 12, 3) := by decide +kernel
theorem dX5_lengthBefore_29 : decode cX5_lengthBefore 29 = .ok (.aload_n 0, 1) := by decide +kernel
theorem dX5_lengthBefore_30 : decode cX5_lengthBefore 30 = .ok (.iload_n 1, 1) := by decide +kernel
theorem dX5_lengthBefore_31 : decode cX5_lengthBefore 31 = .ok (.iconst 0, 1) := by decide +kernel
theorem dX5_lengthBefore_32 : decode cX5_lengthBefore 32 = .ok (.iload_n 2, 1) := by decide +kernel
theorem dX5_lengthBefore_33 : decode cX5_lengthBefore 33 = .ok (.iconst 1, 1) := by decide +kernel
theorem dX5_lengthBefore_34 : decode cX5_lengthBefore 34 = .ok (.isub, 1) := by decide +kernel
theorem dX5_lengthBefore_35 : decode cX5_lengthBefore 35 = .ok (.invokevirtual 96, 3) := by decide +kernel
theorem dX5_lengthBefore_38 : decode cX5_lengthBefore 38 = .ok (.ireturn, 1) := by decide +kernel
theorem dX5_lengthBeforeByScan_0 : decode cX5_lengthBeforeByScan 0 = .ok (.aload_n 0, 1) := by decide +kernel
theorem dX5_lengthBeforeByScan_1 : decode cX5_lengthBeforeByScan 1 = .ok (.iload_n 1, 1) := by decide +kernel
theorem dX5_lengthBeforeByScan_2 : decode cX5_lengthBeforeByScan 2 = .ok (.iload_n 2, 1) := by decide +kernel
theorem dX5_lengthBeforeByScan_3 : decode cX5_lengthBeforeByScan 3 = .ok (.invokevirtual 137, 3) := by decide +kernel
theorem dX5_lengthBeforeByScan_6 : decode cX5_lengthBeforeByScan 6 = .ok (.ireturn, 1) := by decide +kernel
theorem dX5_positionAt_0 : decode cX5_positionAt 0 = .ok (.aload_n 0, 1) := by decide +kernel
theorem dX5_positionAt_1 : decode cX5_positionAt 1 = .ok (.iload_n 1, 1) := by decide +kernel
theorem dX5_positionAt_2 : decode cX5_positionAt 2 = .ok (.invokestatic 58, 3) := by decide +kernel
theorem dX5_positionAt_5 : decode cX5_positionAt 5 = .ok (.ifCond .ne 7, 3) := by decide +kernel
theorem dX5_positionAt_8 : decode cX5_positionAt 8 = .ok (.iconst 1, 1) := by decide +kernel
theorem dX5_positionAt_9 : decode cX5_positionAt 9 = .ok (.goto 23, 3) := by decide +kernel
theorem dX5_positionAt_12 : decode cX5_positionAt 12 = .ok (.iload_n 2, 1) := by decide +kernel
theorem dX5_positionAt_13 : decode cX5_positionAt 13 = .ok (.iconst 0, 1) := by decide +kernel
theorem dX5_positionAt_14 : decode cX5_positionAt 14 = .ok (.aload_n 0, 1) := by decide +kernel
theorem dX5_positionAt_15 : decode cX5_positionAt 15 = .ok (.iload_n 1, 1) := by decide +kernel
theorem dX5_positionAt_16 : decode cX5_positionAt 16 = .ok (.invokevirtual 134, 3) := by decide +kernel
theorem dX5_positionAt_19 : decode cX5_positionAt 19 = .ok (.iconst 1, 1) := by decide +kernel
theorem dX5_positionAt_20 : decode cX5_positionAt 20 = .ok (.isub, 1) := by decide +kernel
theorem dX5_positionAt_21 : decode cX5_positionAt 21 = .ok (.invokestatic 54, 3) := by decide +kernel
theorem dX5_positionAt_24 : decode cX5_positionAt 24 = .ok (.ifCond .eq 7, 3) := by decide +kernel
theorem dX5_positionAt_27 : decode cX5_positionAt 27 = .ok (.iconst 0, 1) := by decide +kernel
theorem dX5_positionAt_28 : decode cX5_positionAt 28 = .ok (.goto 4, 3) := by decide +kernel
theorem dX5_positionAt_31 : decode cX5_positionAt 31 = .ok (.iconst 2, 1) := by decide +kernel
theorem dX5_positionAt_32 : decode cX5_positionAt 32 = .ok (.putfield 38, 3) := by decide +kernel
theorem dX5_positionAt_35 : decode cX5_positionAt 35 = .ok (.aload_n 0, 1) := by decide +kernel
theorem dX5_positionAt_36 : decode cX5_positionAt 36 = .ok (.getfield 38, 3) := by decide +kernel
theorem dX5_positionAt_39 : decode cX5_positionAt 39 = .ok (.ifCond .le 5, 3) := by decide +kernel
theorem dX5_positionAt_42 : decode cX5_positionAt 42 = .ok (.iconst 0, 1) := by decide +kernel
theorem dX5_positionAt_43 : decode cX5_positionAt 43 = .ok (.ireturn, 1) := by decide +kernel
theorem dX5_positionAt_44 : decode cX5_positionAt 44 = .ok (.iconst 0, 1) := by decide +kernel
theorem dX5_positionAt_45 : decode cX5_positionAt 45 = .ok (.istore_n 3, 1) := by decide +kernel
theorem dX5_positionAt_46 : decode cX5_positionAt 46 = .ok (.aload_n 0, 1) := by decide +kernel
theorem dX5_positionAt_47 : decode cX5_positionAt 47 = .ok (.iload_n 1, 1) := by decide +kernel
theorem dX5_positionAt_48 : decode cX5_positionAt 48 = .ok (.iconst 0, 1) := by decide +kernel
theorem dX5_positionAt_49 : decode cX5_positionAt 49 = .ok (.iload_n 3, 1) := by decide +kernel
theorem dX5_positionAt_50 : decode cX5_positionAt 50 = .ok (.invokevirtual 96, 3) := by decide +kernel
theorem dX5_positionAt_53 : decode cX5_positionAt 53 = .ok (.iload_n 2, 1) := by decide +kernel
theorem dX5_positionAt_54 : decode cX5_positionAt 54 = .ok (.if_icmp .gt 9, 3) := by decide +kernel
theorem dX5_positionAt_57 : decode cX5_positionAt 57 = .ok (.iinc 3 1, 3) := by decide +kernel
theorem dX5_positionAt_60 : decode cX5_positionAt 60 = .ok (.goto (-14), 3) := by decide +kernel
theorem dX5_positionAt_63 : decode cX5_positionAt 63 = .ok (.iload_n 3, 1) := by decide +kernel
theorem dX5_positionAt_64 : decode cX5_positionAt 64 = .ok (.ireturn, 1) := by decide +kernel
theorem dX5_isRange_0 : decode cX5_isRange 0 = .ok (.aload_n 0, 1) := by decide +kernel
theorem dX5_isRange_1 : decode cX5_isRange 1 = .ok (.aload_n 0, 1) := by decide +kernel
theorem dX5_isRange_2 : decode cX5_isRange 2 = .ok (.iload_n 1, 1) := by decide +kernel
theorem dX5_isRange_3 : decode cX5_isRange 3 = .ok (.iload_n 2, 1) := by decide +kernel
theorem dX5_isRange_4 : decode cX5_isRange 4 = .ok (.invokevirtual 90, 3) := by decide +kernel
theorem dX5_isRange_7 : decode cX5_isRange 7 = .ok (.ifCond .eq 12, 3) := by decide +kernel
theorem dX5_isRange_10 : decode cX5_isRange 10 = .ok (.aload_n 0, 1) := by decide +kernel
theorem dX5_isRange_11 : decode cX5_isRange 11 = .ok (.iload_n 1, 1) := by decide +kernel
theorem dX5_isRange_12 : decode cX5_isRange 12 = .ok (.iload_n 3, 1) := by decide +kernel
theorem dX5_isRange_13 : decode cX5_isRange 13 = .ok (.invokevirtual 90, 3) := by decide +kernel
theorem dX5_isRange_16 : decode cX5_isRange 16 = .ok (.ifCond .ne 7, 3) := by decide +kernel
theorem dX5_isRange_19 : decode cX5_isRange 19 = .ok (.iconst 1, 1) := by decide +kernel
theorem dX5_isRange_20 : decode cX5_isRange 20 = .ok (.goto 13, 3) := by decide +kernel
theorem dX5_isRange_23 : decode cX5_isRange 23 = .ok (.iload_n 2, 1) := by decide +kernel
theorem dX5_isRange_24 : decode cX5_isRange 24 = .ok (.iload_n 3, 1) := by decide +kernel
theorem dX5_isRange_25 : decode cX5_isRange 25 = .ok (.if_icmp .le 7, 3) := by decide +kernel
theorem dX5_isRange_28 : decode cX5_isRange 28 = .ok (.iconst 2, 1) := by decide +kernel
theorem dX5_isRange_29 : decode cX5_isRange 29 = .ok (.goto 4, 3) := by decide +kernel
theorem dX5_isRange_32 : decode cX5_isRange 32 = .ok (.iconst 0, 1) := by decide +kernel
theorem dX5_isRange_33 : decode cX5_isRange 33 = .ok (.putfield 38, 3) := by decide +kernel
theorem dX5_isRange_36 : decode cX5_isRange 36 = .ok (.aload_n 0, 1) := by decide +kernel
theorem dX5_isRange_37 : decode cX5_isRange 37 = .ok (.getfield 38, 3) := by decide +kernel
theorem dX5_isRange_40 : decode cX5_isRange 40 = .ok (.ifCond .ne 7, 3) := by decide +kernel
theorem dX5_isRange_43 : decode cX5_isRange 43 = .ok (.iconst 1, 1) := by decide +kernel
theorem dX5_isRange_44 : decode cX5_isRange 44 = .ok (.goto 4, 3) := by decide +kernel
theorem dX5_isRange_47 : decode cX5_isRange 47 = .ok (.iconst 0, 1) := by decide +kernel
theorem dX5_isRange_48 : decode cX5_isRange 48 = .ok (.ireturn, 1) := by decide +kernel
theorem dX5_rangeLength_0 : decode cX5_rangeLength 0 = .ok (.aload_n 0, 1) := by decide +kernel
theorem dX5_rangeLength_1 : decode cX5_rangeLength 1 = .ok (.iload_n 1, 1) := by decide +kernel
theorem dX5_rangeLength_2 : decode cX5_rangeLength 2 = .ok (.iload_n 2, 1) := by decide +kernel
theorem dX5_rangeLength_3 : decode cX5_rangeLength 3 = .ok (.iload_n 3, 1) := by decide +kernel
theorem dX5_rangeLength_4 : decode cX5_rangeLength 4 = .ok (.invokevirtual 140, 3) := by decide +kernel
theorem dX5_rangeLength_7 : decode cX5_rangeLength 7 = .ok (.ifCond .eq 13, 3) := by decide +kernel
theorem dX5_rangeLength_10 : decode cX5_rangeLength 10 = .ok (.aload_n 0, 1) := by decide +kernel
theorem dX5_rangeLength_11 : decode cX5_rangeLength 11 = .ok (.iload_n 1, 1) := by decide +kernel
theorem dX5_rangeLength_12 : decode cX5_rangeLength 12 = .ok (.iload_n 2, 1) := by decide +kernel
theorem dX5_rangeLength_13 : decode cX5_rangeLength 13 = .ok (.iload_n 3, 1) := by decide +kernel
theorem dX5_rangeLength_14 : decode cX5_rangeLength 14 = .ok (.invokevirtual 96, 3) := by decide +kernel
theorem dX5_rangeLength_17 : decode cX5_rangeLength 17 = .ok (.goto 4, 3) := by decide +kernel
theorem dX5_rangeLength_20 : decode cX5_rangeLength 20 = .ok (.iconst 0, 1) := by decide +kernel
theorem dX5_rangeLength_21 : decode cX5_rangeLength 21 = .ok (.ireturn, 1) := by decide +kernel
theorem dX5_longestInRange_0 : decode cX5_longestInRange 0 = .ok (.aload_n 0, 1) := by decide +kernel
theorem dX5_longestInRange_1 : decode cX5_longestInRange 1 = .ok (.iload_n 1, 1) := by decide +kernel
theorem dX5_longestInRange_2 : decode cX5_longestInRange 2 = .ok (.iload_n 2, 1) := by decide +kernel
theorem dX5_longestInRange_3 : decode cX5_longestInRange 3 = .ok (.iload_n 3, 1) := by decide +kernel
theorem dX5_longestInRange_4 : decode cX5_longestInRange 4 = .ok (.invokevirtual 140, 3) := by decide +kernel
theorem dX5_longestInRange_7 : decode cX5_longestInRange 7 = .ok (.ifCond .ne 5, 3) := by decide +kernel
theorem dX5_longestInRange_10 : decode cX5_longestInRange 10 = .ok (.iconst 0, 1) := by decide +kernel
theorem dX5_longestInRange_11 : decode cX5_longestInRange 11 = .ok (.ireturn, 1) := by decide +kernel
theorem dX5_longestInRange_12 : decode cX5_longestInRange 12 = .ok (.iload_n 2, 1) := by decide +kernel
theorem dX5_longestInRange_13 : decode cX5_longestInRange 13 = .ok (.istore 4, 2) := by decide +kernel
theorem dX5_longestInRange_15 : decode cX5_longestInRange 15 = .ok (.iload_n 2, 1) := by decide +kernel
theorem dX5_longestInRange_16 : decode cX5_longestInRange 16 = .ok (.iconst 1, 1) := by decide +kernel
theorem dX5_longestInRange_17 : decode cX5_longestInRange 17 = .ok (.iadd, 1) := by decide +kernel
theorem dX5_longestInRange_18 : decode cX5_longestInRange 18 = .ok (.istore 5, 2) := by decide +kernel
theorem dX5_longestInRange_20 : decode cX5_longestInRange 20 = .ok (.iload 5, 2) := by decide +kernel
theorem dX5_longestInRange_22 : decode cX5_longestInRange 22 = .ok (.iload_n 3, 1) := by decide +kernel
theorem dX5_longestInRange_23 : decode cX5_longestInRange 23 = .ok (.if_icmp .gt 37, 3) := by decide +kernel
theorem dX5_longestInRange_26 : decode cX5_longestInRange 26 = .ok (.aload_n 0, 1) := by decide +kernel
theorem dX5_longestInRange_27 : decode cX5_longestInRange 27 = .ok (.iload_n 1, 1) := by decide +kernel
theorem dX5_longestInRange_28 : decode cX5_longestInRange 28 = .ok (.iload 5, 2) := by decide +kernel
theorem dX5_longestInRange_30 : decode cX5_longestInRange 30 = .ok (.iconst 0, 1) := by decide +kernel
theorem dX5_longestInRange_31 : decode cX5_longestInRange 31 = .ok (.invokevirtual 75, 3) := by decide +kernel
theorem dX5_longestInRange_34 : decode cX5_longestInRange 34 = .ok (.aload_n 0, 1) := by decide +kernel
theorem dX5_longestInRange_35 : decode cX5_longestInRange 35 = .ok (.iload_n 1, 1) := by decide +kernel
theorem dX5_longestInRange_36 : decode cX5_longestInRange 36 = .ok (.iload 4, 2) := by decide +kernel
theorem dX5_longestInRange_38 : decode cX5_longestInRange 38 = .ok (.iconst 0, 1) := by decide +kernel
theorem dX5_longestInRange_39 : decode cX5_longestInRange 39 = .ok (.invokevirtual 75, 3) := by decide +kernel
theorem dX5_longestInRange_42 : decode cX5_longestInRange 42 = .ok (.if_icmp .le 8, 3) := by decide +kernel
theorem dX5_longestInRange_45 : decode cX5_longestInRange 45 = .ok (.iload 5, 2) := by decide +kernel
theorem dX5_longestInRange_47 : decode cX5_longestInRange 47 = .ok (.goto 5, 3) := by decide +kernel
theorem dX5_longestInRange_50 : decode cX5_longestInRange 50 = .ok (.iload 4, 2) := by decide +kernel
theorem dX5_longestInRange_52 : decode cX5_longestInRange 52 = .ok (.istore 4, 2) := by decide +kernel
theorem dX5_longestInRange_54 : decode cX5_longestInRange 54 = .ok (.iinc 5 1, 3) := by decide +kernel
theorem dX5_longestInRange_57 : decode cX5_longestInRange 57 = .ok (.goto (-37), 3) := by decide +kernel
theorem dX5_longestInRange_60 : decode cX5_longestInRange 60 = .ok (.iload 4, 2) := by decide +kernel
theorem dX5_longestInRange_62 : decode cX5_longestInRange 62 = .ok (.ireturn, 1) := by decide +kernel
theorem dX5_segmentAtRank_0 : decode cX5_segmentAtRank 0 = .ok (.aload_n 0, 1) := by decide +kernel
theorem dX5_segmentAtRank_1 : decode cX5_segmentAtRank 1 = .ok (.iload_n 1, 1) := by decide +kernel
theorem dX5_segmentAtRank_2 : decode cX5_segmentAtRank 2 = .ok (.invokestatic 58, 3) := by decide +kernel
theorem dX5_segmentAtRank_5 : decode cX5_segmentAtRank 5 = .ok (.ifCond .eq 7, 3) := by decide +kernel
theorem dX5_segmentAtRank_8 : decode cX5_segmentAtRank 8 = .ok (.iconst 0, 1) := by decide +kernel
theorem dX5_segmentAtRank_9 : decode cX5_segmentAtRank 9 = .ok (.goto 4, 3) := by decide +kernel
theorem dX5_segmentAtRank_12 : decode cX5_segmentAtRank 12 = .ok (.iconst 1, 1) := by decide +kernel
theorem dX5_segmentAtRank_13 : decode cX5_segmentAtRank 13 = .ok (.putfield 38, 3) := by decide +kernel
theorem dX5_segmentAtRank_16 : decode cX5_segmentAtRank 16 = .ok (.iconst 0, 1) := by decide +kernel
theorem dX5_segmentAtRank_17 : decode cX5_segmentAtRank 17 = .ok (.istore_n 3, 1) := by decide +kernel
theorem dX5_segmentAtRank_18 : decode cX5_segmentAtRank 18 = .ok (.aload_n 0, 1) := by decide +kernel
theorem dX5_segmentAtRank_19 : decode cX5_segmentAtRank 19 = .ok (.getfield 38, 3) := by decide +kernel
theorem dX5_segmentAtRank_22 : decode cX5_segmentAtRank 22 = .ok (.ifCond .ne 100, 3) := by decide +kernel
theorem dX5_segmentAtRank_25 : decode cX5_segmentAtRank 25 = .ok (.iload_n 3, 1) := by decide +kernel
theorem dX5_segmentAtRank_26 : decode cX5_segmentAtRank 26 = .ok (.aload_n 0, 1) := by decide +kernel
theorem dX5_segmentAtRank_27 : decode cX5_segmentAtRank 27 = .ok (.iload_n 1, 1) := by decide +kernel
theorem dX5_segmentAtRank_28 : decode cX5_segmentAtRank 28 = .ok (.invokevirtual 62, 3) := by decide +kernel
theorem dX5_segmentAtRank_31 : decode cX5_segmentAtRank 31 = .ok (.if_icmp .ge 91, 3) := by decide +kernel
theorem dX5_segmentAtRank_34 : decode cX5_segmentAtRank 34 = .ok (.iconst 0, 1) := by decide +kernel
theorem dX5_segmentAtRank_35 : decode cX5_segmentAtRank 35 = .ok (.istore 4, 2) := by decide +kernel
theorem dX5_segmentAtRank_37 : decode cX5_segmentAtRank 37 = .ok (.iconst 0, 1) := by decide +kernel
theorem dX5_segmentAtRank_38 : decode cX5_segmentAtRank 38 = .ok (.istore 5, 2) := by decide +kernel
theorem dX5_segmentAtRank_40 : decode cX5_segmentAtRank 40 = .ok (.iload 5, 2) := by decide +kernel
theorem dX5_segmentAtRank_42 : decode cX5_segmentAtRank 42 = .ok (.aload_n 0, 1) := by decide +kernel
theorem dX5_segmentAtRank_43 : decode cX5_segmentAtRank 43 = .ok (.iload_n 1, 1) := by decide +kernel
theorem dX5_segmentAtRank_44 : decode cX5_segmentAtRank 44 = .ok (.invokevirtual 62, 3) := by decide +kernel
theorem dX5_segmentAtRank_47 : decode cX5_segmentAtRank 47 = .ok (.if_icmp .ge 61, 3) := by decide +kernel
theorem dX5_segmentAtRank_50 : decode cX5_segmentAtRank 50 = .ok (.iload 4, 2) := by decide +kernel
theorem dX5_segmentAtRank_52 : decode cX5_segmentAtRank 52 = .ok (.aload_n 0, 1) := by decide +kernel
theorem dX5_segmentAtRank_53 : decode cX5_segmentAtRank 53 = .ok (.iload_n 1, 1) := by decide +kernel
theorem dX5_segmentAtRank_54 : decode cX5_segmentAtRank 54 = .ok (.iload 5, 2) := by decide +kernel
theorem dX5_segmentAtRank_56 : decode cX5_segmentAtRank 56 = .ok (.iconst 0, 1) := by decide +kernel
theorem dX5_segmentAtRank_57 : decode cX5_segmentAtRank 57 = .ok (.invokevirtual 75, 3) := by decide +kernel
theorem dX5_segmentAtRank_60 : decode cX5_segmentAtRank 60 = .ok (.aload_n 0, 1) := by decide +kernel
theorem dX5_segmentAtRank_61 : decode cX5_segmentAtRank 61 = .ok (.iload_n 1, 1) := by decide +kernel
theorem dX5_segmentAtRank_62 : decode cX5_segmentAtRank 62 = .ok (.iload_n 3, 1) := by decide +kernel
theorem dX5_segmentAtRank_63 : decode cX5_segmentAtRank 63 = .ok (.iconst 0, 1) := by decide +kernel
theorem dX5_segmentAtRank_64 : decode cX5_segmentAtRank 64 = .ok (.invokevirtual 75, 3) := by decide +kernel
theorem dX5_segmentAtRank_67 : decode cX5_segmentAtRank 67 = .ok (.if_icmp .gt 27, 3) := by decide +kernel
theorem dX5_segmentAtRank_70 : decode cX5_segmentAtRank 70 = .ok (.aload_n 0, 1) := by decide +kernel
theorem dX5_segmentAtRank_71 : decode cX5_segmentAtRank 71 = .ok (.iload_n 1, 1) := by decide +kernel
theorem dX5_segmentAtRank_72 : decode cX5_segmentAtRank 72 = .ok (.iload 5, 2) := by decide +kernel
theorem dX5_segmentAtRank_74 : decode cX5_segmentAtRank 74 = .ok (.iconst 0, 1) := by decide +kernel
theorem dX5_segmentAtRank_75 : decode cX5_segmentAtRank 75 = .ok (.invokevirtual 75, 3) := by decide +kernel
theorem dX5_segmentAtRank_78 : decode cX5_segmentAtRank 78 = .ok (.aload_n 0, 1) := by decide +kernel
theorem dX5_segmentAtRank_79 : decode cX5_segmentAtRank 79 = .ok (.iload_n 1, 1) := by decide +kernel
theorem dX5_segmentAtRank_80 : decode cX5_segmentAtRank 80 = .ok (.iload_n 3, 1) := by decide +kernel
theorem dX5_segmentAtRank_81 : decode cX5_segmentAtRank 81 = .ok (.iconst 0, 1) := by decide +kernel
theorem dX5_segmentAtRank_82 : decode cX5_segmentAtRank 82 = .ok (.invokevirtual 75, 3) := by decide +kernel
theorem dX5_segmentAtRank_85 : decode cX5_segmentAtRank 85 = .ok (.if_icmp .ne 13, 3) := by decide +kernel
theorem dX5_segmentAtRank_88 : decode cX5_segmentAtRank 88 = .ok (.iload 5, 2) := by decide +kernel
theorem dX5_segmentAtRank_90 : decode cX5_segmentAtRank 90 = .ok (.iload_n 3, 1) := by decide +kernel
theorem dX5_segmentAtRank_91 : decode cX5_segmentAtRank 91 = .ok (.if_icmp .ge 7, 3) := by decide +kernel
theorem dX5_segmentAtRank_94 : decode cX5_segmentAtRank 94 = .ok (.iconst 1, 1) := by decide +kernel
theorem dX5_segmentAtRank_95 : decode cX5_segmentAtRank 95 = .ok (.goto 4, 3) := by decide +kernel
theorem dX5_segmentAtRank_98 : decode cX5_segmentAtRank 98 = .ok (.iconst 0, 1) := by decide +kernel
theorem dX5_segmentAtRank_99 : decode cX5_segmentAtRank 99 = .ok (.iadd, 1) := by decide +kernel
theorem dX5_segmentAtRank_100 : decode cX5_segmentAtRank 100 = .ok (.istore 4, 2) := by decide +kernel
theorem dX5_segmentAtRank_102 : decode cX5_segmentAtRank 102 = .ok (.iinc 5 1, 3) := by decide +kernel
theorem dX5_segmentAtRank_105 : decode cX5_segmentAtRank 105 = .ok (.goto (-65), 3) := by decide +kernel
theorem dX5_segmentAtRank_108 : decode cX5_segmentAtRank 108 = .ok (.iload 4, 2) := by decide +kernel
theorem dX5_segmentAtRank_110 : decode cX5_segmentAtRank 110 = .ok (.iload_n 2, 1) := by decide +kernel
theorem dX5_segmentAtRank_111 : decode cX5_segmentAtRank 111 = .ok (.if_icmp .ne 5, 3) := by decide +kernel
theorem dX5_segmentAtRank_114 : decode cX5_segmentAtRank 114 = .ok (.iload_n 3, 1) := by decide +kernel
theorem dX5_segmentAtRank_115 : decode cX5_segmentAtRank 115 = .ok (.ireturn, 1) := by decide +kernel
theorem dX5_segmentAtRank_116 : decode cX5_segmentAtRank 116 = .ok (.iinc 3 1, 3) := by decide +kernel
theorem dX5_segmentAtRank_119 : decode cX5_segmentAtRank 119 = .ok (.goto (-101), 3) := by decide +kernel
theorem dX5_segmentAtRank_122 : decode cX5_segmentAtRank 122 = .ok (.aload_n 0, 1) := by decide +kernel
theorem dX5_segmentAtRank_123 : decode cX5_segmentAtRank 123 = .ok (.getfield 38, 3) := by decide +kernel
theorem dX5_segmentAtRank_126 : decode cX5_segmentAtRank 126 = .ok (.ifCond .le 7, 3) := by decide +kernel
theorem dX5_segmentAtRank_129 : decode cX5_segmentAtRank 129 = .ok (.iconst 0, 1) := by decide +kernel
theorem dX5_segmentAtRank_130 : decode cX5_segmentAtRank 130 = .ok (.goto 8, 3) := by decide +kernel
theorem dX5_segmentAtRank_133 : decode cX5_segmentAtRank 133 = .ok (.aload_n 0, 1) := by decide +kernel
theorem dX5_segmentAtRank_134 : decode cX5_segmentAtRank 134 = .ok (.iconst 2, 1) := by decide +kernel
theorem dX5_segmentAtRank_135 : decode cX5_segmentAtRank 135 = .ok (.invokevirtual 51, 3) := by decide +kernel
theorem dX5_segmentAtRank_138 : decode cX5_segmentAtRank 138 = .ok (.ireturn, 1) := by decide +kernel
theorem dX5_totalLength_0 : decode cX5_totalLength 0 = .ok (.aload_n 0, 1) := by decide +kernel
theorem dX5_totalLength_1 : decode cX5_totalLength 1 = .ok (.iconst 0, 1) := by decide +kernel
theorem dX5_totalLength_2 : decode cX5_totalLength 2 = .ok (.putfield 38, 3) := by decide +kernel
theorem dX5_totalLength_5 : decode cX5_totalLength 5 = .ok (.lconst 0, 1) := by decide +kernel
theorem dX5_totalLength_6 : decode cX5_totalLength 6 = .ok (.lstore_n 1, 1) := by decide +kernel
theorem dX5_totalLength_7 : decode cX5_totalLength 7 = .ok (.iconst 0, 1) := by decide +kernel
theorem dX5_totalLength_8 : decode cX5_totalLength 8 = .ok (.istore_n 3, 1) := by decide +kernel
theorem dX5_totalLength_9 : decode cX5_totalLength 9 = .ok (.iload_n 3, 1) := by decide +kernel
theorem dX5_totalLength_10 : decode cX5_totalLength 10 = .ok (.iconst 4, 1) := by decide +kernel
theorem dX5_totalLength_11 : decode cX5_totalLength 11 = .ok (.if_icmp .ge 18, 3) := by decide +kernel
theorem dX5_totalLength_14 : decode cX5_totalLength 14 = .ok (.lload_n 1, 1) := by decide +kernel
theorem dX5_totalLength_15 : decode cX5_totalLength 15 = .ok (.aload_n 0, 1) := by decide +kernel
theorem dX5_totalLength_16 : decode cX5_totalLength 16 = .ok (.iload_n 3, 1) := by decide +kernel
theorem dX5_totalLength_17 : decode cX5_totalLength 17 = .ok (.invokevirtual 134, 3) := by decide +kernel
theorem dX5_totalLength_20 : decode cX5_totalLength 20 = .ok (.i2l, 1) := by decide +kernel
theorem dX5_totalLength_21 : decode cX5_totalLength 21 = .ok (.ladd, 1) := by decide +kernel
theorem dX5_totalLength_22 : decode cX5_totalLength 22 = .ok (.lstore_n 1, 1) := by decide +kernel
theorem dX5_totalLength_23 : decode cX5_totalLength 23 = .ok (.iinc 3 1, 3) := by decide +kernel
theorem dX5_totalLength_26 : decode cX5_totalLength 26 = .ok (.goto (-17), 3) := by decide +kernel
theorem dX5_totalLength_29 : decode cX5_totalLength 29 = .ok (.lload_n 1, 1) := by decide +kernel
theorem dX5_totalLength_30 : decode cX5_totalLength 30 = .ok (.lreturn, 1) := by decide +kernel
theorem dX5_isTangle_0 : decode cX5_isTangle 0 = .ok (.iload_n 2, 1) := by decide +kernel
theorem dX5_isTangle_1 : decode cX5_isTangle 1 = .ok (.iconst 0, 1) := by decide +kernel
theorem dX5_isTangle_2 : decode cX5_isTangle 2 = .ok (.aload_n 0, 1) := by decide +kernel
theorem dX5_isTangle_3 : decode cX5_isTangle 3 = .ok (.iload_n 1, 1) := by decide +kernel
theorem dX5_isTangle_4 : decode cX5_isTangle 4 = .ok (.invokevirtual 62, 3) := by decide +kernel
theorem dX5_isTangle_7 : decode cX5_isTangle 7 = .ok (.iconst 2, 1) := by decide +kernel
theorem dX5_isTangle_8 : decode cX5_isTangle 8 = .ok (.isub, 1) := by decide +kernel
theorem dX5_isTangle_9 : decode cX5_isTangle 9 = .ok (.invokestatic 54, 3) := by decide +kernel
theorem dX5_isTangle_12 : decode cX5_isTangle 12 = .ok (.ifCond .eq 26, 3) := by decide +kernel
theorem dX5_isTangle_15 : decode cX5_isTangle 15 = .ok (.aload_n 0, 1) := by decide +kernel
theorem dX5_isTangle_16 : decode cX5_isTangle 16 = .ok (.iload_n 1, 1) := by decide +kernel
theorem dX5_isTangle_17 : decode cX5_isTangle 17 = .ok (.iload_n 2, 1) := by decide +kernel
theorem dX5_isTangle_18 : decode cX5_isTangle 18 = .ok (.iconst 1, 1) := by decide +kernel
theorem dX5_isTangle_19 : decode cX5_isTangle 19 = .ok (.invokevirtual 75, 3) := by decide +kernel
theorem dX5_isTangle_22 : decode cX5_isTangle 22 = .ok (.aload_n 0, 1) := by decide +kernel
theorem dX5_isTangle_23 : decode cX5_isTangle 23 = .ok (.iload_n 1, 1) := by decide +kernel
theorem dX5_isTangle_24 : decode cX5_isTangle 24 = .ok (.iload_n 2, 1) := by decide +kernel
theorem dX5_isTangle_25 : decode cX5_isTangle 25 = .ok (.iconst 1, 1) := by decide +kernel
theorem dX5_isTangle_26 : decode cX5_isTangle 26 = .ok (.iadd, 1) := by decide +kernel
theorem dX5_isTangle_27 : decode cX5_isTangle 27 = .ok (.iconst 1, 1) := by decide +kernel
theorem dX5_isTangle_28 : decode cX5_isTangle 28 = .ok (.invokevirtual 75, 3) := by decide +kernel
theorem dX5_isTangle_31 : decode cX5_isTangle 31 = .ok (.if_icmp .ne 7, 3) := by decide +kernel
theorem dX5_isTangle_34 : decode cX5_isTangle 34 = .ok (.iconst 1, 1) := by decide +kernel
theorem dX5_isTangle_35 : decode cX5_isTangle 35 = .ok (.goto 4, 3) := by decide +kernel
theorem dX5_isTangle_38 : decode cX5_isTangle 38 = .ok (.iconst 0, 1) := by decide +kernel
theorem dX5_isTangle_39 : decode cX5_isTangle 39 = .ok (.ireturn, 1) := by decide +kernel
theorem dX5_tangleCount_0 : decode cX5_tangleCount 0 = .ok (.aload_n 0, 1) := by decide +kernel
theorem dX5_tangleCount_1 : decode cX5_tangleCount 1 = .ok (.iload_n 1, 1) := by decide +kernel
theorem dX5_tangleCount_2 : decode cX5_tangleCount 2 = .ok (.invokestatic 58, 3) := by decide +kernel
theorem dX5_tangleCount_5 : decode cX5_tangleCount 5 = .ok (.ifCond .eq 7, 3) := by decide +kernel
theorem dX5_tangleCount_8 : decode cX5_tangleCount 8 = .ok (.iconst 0, 1) := by decide +kernel
theorem dX5_tangleCount_9 : decode cX5_tangleCount 9 = .ok (.goto 4, 3) := by decide +kernel
theorem dX5_tangleCount_12 : decode cX5_tangleCount 12 = .ok (.iconst 1, 1) := by decide +kernel
theorem dX5_tangleCount_13 : decode cX5_tangleCount 13 = .ok (.putfield 38, 3) := by decide +kernel
theorem dX5_tangleCount_16 : decode cX5_tangleCount 16 = .ok (.iconst 0, 1) := by decide +kernel
theorem dX5_tangleCount_17 : decode cX5_tangleCount 17 = .ok (.istore_n 2, 1) := by decide +kernel
theorem dX5_tangleCount_18 : decode cX5_tangleCount 18 = .ok (.iconst 0, 1) := by decide +kernel
theorem dX5_tangleCount_19 : decode cX5_tangleCount 19 = .ok (.istore_n 3, 1) := by decide +kernel
theorem dX5_tangleCount_20 : decode cX5_tangleCount 20 = .ok (.aload_n 0, 1) := by decide +kernel
theorem dX5_tangleCount_21 : decode cX5_tangleCount 21 = .ok (.getfield 38, 3) := by decide +kernel
theorem dX5_tangleCount_24 : decode cX5_tangleCount 24 = .ok (.ifCond .ne 35, 3) := by decide +kernel
theorem dX5_tangleCount_27 : decode cX5_tangleCount 27 = .ok (.iload_n 3, 1) := by decide +kernel
theorem dX5_tangleCount_28 : decode cX5_tangleCount 28 = .ok (.aload_n 0, 1) := by decide +kernel
theorem dX5_tangleCount_29 : decode cX5_tangleCount 29 = .ok (.iload_n 1, 1) := by decide +kernel
theorem dX5_tangleCount_30 : decode cX5_tangleCount 30 = .ok (.invokevirtual 62, 3) := by decide +kernel
theorem dX5_tangleCount_33 : decode cX5_tangleCount 33 = .ok (.if_icmp .ge 26, 3) := by decide +kernel
theorem dX5_tangleCount_36 : decode cX5_tangleCount 36 = .ok (.iload_n 2, 1) := by decide +kernel
theorem dX5_tangleCount_37 : decode cX5_tangleCount 37 = .ok (.aload_n 0, 1) := by decide +kernel
theorem dX5_tangleCount_38 : decode cX5_tangleCount 38 = .ok (.iload_n 1, 1) := by decide +kernel
theorem dX5_tangleCount_39 : decode cX5_tangleCount 39 = .ok (.iload_n 3, 1) := by decide +kernel
theorem dX5_tangleCount_40 : decode cX5_tangleCount 40 = .ok (.invokevirtual 143, 3) := by decide +kernel
theorem dX5_tangleCount_43 : decode cX5_tangleCount 43 = .ok (.ifCond .eq 7, 3) := by decide +kernel
theorem dX5_tangleCount_46 : decode cX5_tangleCount 46 = .ok (.iconst 1, 1) := by decide +kernel
theorem dX5_tangleCount_47 : decode cX5_tangleCount 47 = .ok (.goto 4, 3) := by decide +kernel
theorem dX5_tangleCount_50 : decode cX5_tangleCount 50 = .ok (.iconst 0, 1) := by decide +kernel
theorem dX5_tangleCount_51 : decode cX5_tangleCount 51 = .ok (.iadd, 1) := by decide +kernel
theorem dX5_tangleCount_52 : decode cX5_tangleCount 52 = .ok (.istore_n 2, 1) := by decide +kernel
theorem dX5_tangleCount_53 : decode cX5_tangleCount 53 = .ok (.iinc 3 1, 3) := by decide +kernel
theorem dX5_tangleCount_56 : decode cX5_tangleCount 56 = .ok (.goto (-36), 3) := by decide +kernel
theorem dX5_tangleCount_59 : decode cX5_tangleCount 59 = .ok (.iload_n 2, 1) := by decide +kernel
theorem dX5_tangleCount_60 : decode cX5_tangleCount 60 = .ok (.ireturn, 1) := by decide +kernel
theorem dX5_tangleCountByScan_0 : decode cX5_tangleCountByScan 0 = .ok (.aload_n 0, 1) := by decide +kernel
theorem dX5_tangleCountByScan_1 : decode cX5_tangleCountByScan 1 = .ok (.iload_n 1, 1) := by decide +kernel
theorem dX5_tangleCountByScan_2 : decode cX5_tangleCountByScan 2 = .ok (.invokevirtual 146, 3) := by decide +kernel
theorem dX5_tangleCountByScan_5 : decode cX5_tangleCountByScan 5 = .ok (.ireturn, 1) := by decide +kernel
theorem dX5_isTangled_0 : decode cX5_isTangled 0 = .ok (.aload_n 0, 1) := by decide +kernel
theorem dX5_isTangled_1 : decode cX5_isTangled 1 = .ok (.aload_n 0, 1) := by decide +kernel
theorem dX5_isTangled_2 : decode cX5_isTangled 2 = .ok (.iload_n 1, 1) := by decide +kernel
theorem dX5_isTangled_3 : decode cX5_isTangled 3 = .ok (.iload_n 2, 1) := by decide +kernel
theorem dX5_isTangled_4 : decode cX5_isTangled 4 = .ok (.invokevirtual 90, 3) := by decide +kernel
theorem dX5_isTangled_7 : decode cX5_isTangled 7 = .ok (.ifCond .eq 7, 3) := by decide +kernel
theorem dX5_isTangled_10 : decode cX5_isTangled 10 = .ok (.iconst 0, 1) := by decide +kernel
theorem dX5_isTangled_11 : decode cX5_isTangled 11 = .ok (.goto 4, 3) := by decide +kernel
theorem dX5_isTangled_14 : decode cX5_isTangled 14 = .ok (.iconst 1, 1) := by decide +kernel
theorem dX5_isTangled_15 : decode cX5_isTangled 15 = .ok (.putfield 38, 3) := by decide +kernel
theorem dX5_isTangled_18 : decode cX5_isTangled 18 = .ok (.aload_n 0, 1) := by decide +kernel
theorem dX5_isTangled_19 : decode cX5_isTangled 19 = .ok (.getfield 38, 3) := by decide +kernel
theorem dX5_isTangled_22 : decode cX5_isTangled 22 = .ok (.ifCond .ne 27, 3) := by decide +kernel
theorem dX5_isTangled_25 : decode cX5_isTangled 25 = .ok (.aload_n 0, 1) := by decide +kernel
theorem dX5_isTangled_26 : decode cX5_isTangled 26 = .ok (.iload_n 1, 1) := by decide +kernel
theorem dX5_isTangled_27 : decode cX5_isTangled 27 = .ok (.iload_n 2, 1) := by decide +kernel
theorem dX5_isTangled_28 : decode cX5_isTangled 28 = .ok (.invokevirtual 143, 3) := by decide +kernel
theorem dX5_isTangled_31 : decode cX5_isTangled 31 = .ok (.ifCond .ne 14, 3) := by decide +kernel
theorem dX5_isTangled_34 : decode cX5_isTangled 34 = .ok (.aload_n 0, 1) := by decide +kernel
theorem dX5_isTangled_35 : decode cX5_isTangled 35 = .ok (.iload_n 1, 1) := by decide +kernel
theorem dX5_isTangled_36 : decode cX5_isTangled 36 = .ok (.iload_n 2, 1) := by decide +kernel
theorem dX5_isTangled_37 : decode cX5_isTangled 37 = .ok (.iconst 1, 1) := by decide +kernel
theorem dX5_isTangled_38 : decode cX5_isTangled 38 = .ok (.isub, 1) := by decide +kernel
theorem dX5_isTangled_39 : decode cX5_isTangled 39 = .ok (.invokevirtual 143, 3) := by decide +kernel
theorem dX5_isTangled_42 : decode cX5_isTangled 42 = .ok (.ifCond .eq 7, 3) := by decide +kernel
theorem dX5_isTangled_45 : decode cX5_isTangled 45 = .ok (.iconst 1, 1) := by decide +kernel
theorem dX5_isTangled_46 : decode cX5_isTangled 46 = .ok (.goto 4, 3) := by decide +kernel
theorem dX5_isTangled_49 : decode cX5_isTangled 49 = .ok (.iconst 0, 1) := by decide +kernel
theorem dX5_isTangled_50 : decode cX5_isTangled 50 = .ok (.ireturn, 1) := by decide +kernel
theorem dX5_longestRun_0 : decode cX5_longestRun 0 = .ok (.aload_n 0, 1) := by decide +kernel
theorem dX5_longestRun_1 : decode cX5_longestRun 1 = .ok (.iload_n 1, 1) := by decide +kernel
theorem dX5_longestRun_2 : decode cX5_longestRun 2 = .ok (.invokestatic 58, 3) := by decide +kernel
theorem dX5_longestRun_5 : decode cX5_longestRun 5 = .ok (.ifCond .eq 7, 3) := by decide +kernel
theorem dX5_longestRun_8 : decode cX5_longestRun 8 = .ok (.iconst 0, 1) := by decide +kernel
theorem dX5_longestRun_9 : decode cX5_longestRun 9 = .ok (.goto 4, 3) := by decide +kernel
theorem dX5_longestRun_12 : decode cX5_longestRun 12 = .ok (.iconst 1, 1) := by decide +kernel
theorem dX5_longestRun_13 : decode cX5_longestRun 13 = .ok (.putfield 38, 3) := by decide +kernel
theorem dX5_longestRun_16 : decode cX5_longestRun 16 = .ok (.iconst 0, 1) := by decide +kernel
theorem dX5_longestRun_17 : decode cX5_longestRun 17 = .ok (.istore_n 2, 1) := by decide +kernel
theorem dX5_longestRun_18 : decode cX5_longestRun 18 = .ok (.iconst 0, 1) := by decide +kernel
theorem dX5_longestRun_19 : decode cX5_longestRun 19 = .ok (.istore_n 3, 1) := by decide +kernel
theorem dX5_longestRun_20 : decode cX5_longestRun 20 = .ok (.iconst 0, 1) := by decide +kernel
theorem dX5_longestRun_21 : decode cX5_longestRun 21 = .ok (.istore 4, 2) := by decide +kernel
theorem dX5_longestRun_23 : decode cX5_longestRun 23 = .ok (.aload_n 0, 1) := by decide +kernel
theorem dX5_longestRun_24 : decode cX5_longestRun 24 = .ok (.getfield 38, 3) := by decide +kernel
theorem dX5_longestRun_27 : decode cX5_longestRun 27 = .ok (.ifCond .ne 55, 3) := by decide +kernel
theorem dX5_longestRun_30 : decode cX5_longestRun 30 = .ok (.iload 4, 2) := by decide +kernel
theorem dX5_longestRun_32 : decode cX5_longestRun 32 = .ok (.aload_n 0, 1) := by decide +kernel
theorem dX5_longestRun_33 : decode cX5_longestRun 33 = .ok (.iload_n 1, 1) := by decide +kernel
theorem dX5_longestRun_34 : decode cX5_longestRun 34 = .ok (.invokevirtual 62, 3) := by decide +kernel
theorem dX5_longestRun_37 : decode cX5_longestRun 37 = .ok (.if_icmp .ge 45, 3) := by decide +kernel
theorem dX5_longestRun_40 : decode cX5_longestRun 40 = .ok (.iload 4, 2) := by decide +kernel
theorem dX5_longestRun_42 : decode cX5_longestRun 42 = .ok (.ifCond .le 21, 3) := by decide +kernel
theorem dX5_longestRun_45 : decode cX5_longestRun 45 = .ok (.aload_n 0, 1) := by decide +kernel
theorem dX5_longestRun_46 : decode cX5_longestRun 46 = .ok (.iload_n 1, 1) := by decide +kernel
theorem dX5_longestRun_47 : decode cX5_longestRun 47 = .ok (.iload 4, 2) := by decide +kernel
theorem dX5_longestRun_49 : decode cX5_longestRun 49 = .ok (.iconst 1, 1) := by decide +kernel
theorem dX5_longestRun_50 : decode cX5_longestRun 50 = .ok (.isub, 1) := by decide +kernel
theorem dX5_longestRun_51 : decode cX5_longestRun 51 = .ok (.invokevirtual 143, 3) := by decide +kernel
theorem dX5_longestRun_54 : decode cX5_longestRun 54 = .ok (.ifCond .eq 9, 3) := by decide +kernel
theorem dX5_longestRun_57 : decode cX5_longestRun 57 = .ok (.iload_n 3, 1) := by decide +kernel
theorem dX5_longestRun_58 : decode cX5_longestRun 58 = .ok (.iconst 1, 1) := by decide +kernel
theorem dX5_longestRun_59 : decode cX5_longestRun 59 = .ok (.iadd, 1) := by decide +kernel
theorem dX5_longestRun_60 : decode cX5_longestRun 60 = .ok (.goto 4, 3) := by decide +kernel
theorem dX5_longestRun_63 : decode cX5_longestRun 63 = .ok (.iconst 1, 1) := by decide +kernel
theorem dX5_longestRun_64 : decode cX5_longestRun 64 = .ok (.istore_n 3, 1) := by decide +kernel
theorem dX5_longestRun_65 : decode cX5_longestRun 65 = .ok (.iload_n 3, 1) := by decide +kernel
theorem dX5_longestRun_66 : decode cX5_longestRun 66 = .ok (.iload_n 2, 1) := by decide +kernel
theorem dX5_longestRun_67 : decode cX5_longestRun 67 = .ok (.if_icmp .le 7, 3) := by decide +kernel
theorem dX5_longestRun_70 : decode cX5_longestRun 70 = .ok (.iload_n 3, 1) := by decide +kernel
theorem dX5_longestRun_71 : decode cX5_longestRun 71 = .ok (.goto 4, 3) := by decide +kernel
theorem dX5_longestRun_74 : decode cX5_longestRun 74 = .ok (.iload_n 2, 1) := by decide +kernel
theorem dX5_longestRun_75 : decode cX5_longestRun 75 = .ok (.istore_n 2, 1) := by decide +kernel
theorem dX5_longestRun_76 : decode cX5_longestRun 76 = .ok (.iinc 4 1, 3) := by decide +kernel
theorem dX5_longestRun_79 : decode cX5_longestRun 79 = .ok (.goto (-56), 3) := by decide +kernel
theorem dX5_longestRun_82 : decode cX5_longestRun 82 = .ok (.iload_n 2, 1) := by decide +kernel
theorem dX5_longestRun_83 : decode cX5_longestRun 83 = .ok (.ireturn, 1) := by decide +kernel
theorem dX5_nextOfColour_0 : decode cX5_nextOfColour 0 = .ok (.aload_n 0, 1) := by decide +kernel
theorem dX5_nextOfColour_1 : decode cX5_nextOfColour 1 = .ok (.aload_n 0, 1) := by decide +kernel
theorem dX5_nextOfColour_2 : decode cX5_nextOfColour 2 = .ok (.iload_n 1, 1) := by decide +kernel
theorem dX5_nextOfColour_3 : decode cX5_nextOfColour 3 = .ok (.iload_n 2, 1) := by decide +kernel
theorem dX5_nextOfColour_4 : decode cX5_nextOfColour 4 = .ok (.invokevirtual 90, 3) := by decide +kernel
theorem dX5_nextOfColour_7 : decode cX5_nextOfColour 7 = .ok (.ifCond .ne 7, 3) := by decide +kernel
theorem dX5_nextOfColour_10 : decode cX5_nextOfColour 10 = .ok (.iconst 1, 1) := by decide +kernel
theorem dX5_nextOfColour_11 : decode cX5_nextOfColour 11 = .ok (.goto 15, 3) := by decide +kernel
theorem dX5_nextOfColour_14 : decode cX5_nextOfColour 14 = .ok (.iload_n 3, 1) := by decide +kernel
theorem dX5_nextOfColour_15 : decode cX5_nextOfColour 15 = .ok (.invokestatic 72, 3) := by decide +kernel
theorem dX5_nextOfColour_18 : decode cX5_nextOfColour 18 = .ok (.ifCond .eq 7, 3) := by decide +kernel
theorem dX5_nextOfColour_21 : decode cX5_nextOfColour 21 = .ok (.iconst 0, 1) := by decide +kernel
theorem dX5_nextOfColour_22 : decode cX5_nextOfColour 22 = .ok (.goto 4, 3) := by decide +kernel
theorem dX5_nextOfColour_25 : decode cX5_nextOfColour 25 = .ok (.iconst 2, 1) := by decide +kernel
theorem dX5_nextOfColour_26 : decode cX5_nextOfColour 26 = .ok (.putfield 38, 3) := by decide +kernel
theorem dX5_nextOfColour_29 : decode cX5_nextOfColour 29 = .ok (.iload_n 2, 1) := by decide +kernel
theorem dX5_nextOfColour_30 : decode cX5_nextOfColour 30 = .ok (.istore 4, 2) := by decide +kernel
theorem dX5_nextOfColour_32 : decode cX5_nextOfColour 32 = .ok (.aload_n 0, 1) := by decide +kernel
theorem dX5_nextOfColour_33 : decode cX5_nextOfColour 33 = .ok (.getfield 38, 3) := by decide +kernel
theorem dX5_nextOfColour_36 : decode cX5_nextOfColour 36 = .ok (.ifCond .ne 34, 3) := by decide +kernel
theorem dX5_nextOfColour_39 : decode cX5_nextOfColour 39 = .ok (.iload 4, 2) := by decide +kernel
theorem dX5_nextOfColour_41 : decode cX5_nextOfColour 41 = .ok (.aload_n 0, 1) := by decide +kernel
theorem dX5_nextOfColour_42 : decode cX5_nextOfColour 42 = .ok (.iload_n 1, 1) := by decide +kernel
theorem dX5_nextOfColour_43 : decode cX5_nextOfColour 43 = .ok (.invokevirtual 62, 3) := by decide +kernel
theorem dX5_nextOfColour_46 : decode cX5_nextOfColour 46 = .ok (.if_icmp .ge 24, 3) := by decide +kernel
theorem dX5_nextOfColour_49 : decode cX5_nextOfColour 49 = .ok (.aload_n 0, 1) := by decide +kernel
theorem dX5_nextOfColour_50 : decode cX5_nextOfColour 50 = .ok (.iload_n 1, 1) := by decide +kernel
theorem dX5_nextOfColour_51 : decode cX5_nextOfColour 51 = .ok (.iload 4, 2) := by decide +kernel
theorem dX5_nextOfColour_53 : decode cX5_nextOfColour 53 = .ok (.iconst 1, 1) := by decide +kernel
theorem dX5_nextOfColour_54 : decode cX5_nextOfColour 54 = .ok (.invokevirtual 75, 3) := by decide +kernel
theorem dX5_nextOfColour_57 : decode cX5_nextOfColour 57 = .ok (.iload_n 3, 1) := by decide +kernel
theorem dX5_nextOfColour_58 : decode cX5_nextOfColour 58 = .ok (.if_icmp .ne 6, 3) := by decide +kernel
theorem dX5_nextOfColour_61 : decode cX5_nextOfColour 61 = .ok (.iload 4, 2) := by decide +kernel
theorem dX5_nextOfColour_63 : decode cX5_nextOfColour 63 = .ok (.ireturn, 1) := by decide +kernel
theorem dX5_nextOfColour_64 : decode cX5_nextOfColour 64 = .ok (.iinc 4 1, 3) := by decide +kernel
theorem dX5_nextOfColour_67 : decode cX5_nextOfColour 67 = .ok (.goto (-35), 3) := by decide +kernel
theorem dX5_nextOfColour_70 : decode cX5_nextOfColour 70 = .ok (.aload_n 0, 1) := by decide +kernel
theorem dX5_nextOfColour_71 : decode cX5_nextOfColour 71 = .ok (.getfield 38, 3) := by decide +kernel
theorem dX5_nextOfColour_74 : decode cX5_nextOfColour 74 = .ok (.ifCond .le 7, 3) := by decide +kernel
theorem dX5_nextOfColour_77 : decode cX5_nextOfColour 77 = .ok (.iconst 0, 1) := by decide +kernel
theorem dX5_nextOfColour_78 : decode cX5_nextOfColour 78 = .ok (.goto 8, 3) := by decide +kernel
theorem dX5_nextOfColour_81 : decode cX5_nextOfColour 81 = .ok (.aload_n 0, 1) := by decide +kernel
theorem dX5_nextOfColour_82 : decode cX5_nextOfColour 82 = .ok (.iconst 3, 1) := by decide +kernel
theorem dX5_nextOfColour_83 : decode cX5_nextOfColour 83 = .ok (.invokevirtual 51, 3) := by decide +kernel
theorem dX5_nextOfColour_86 : decode cX5_nextOfColour 86 = .ok (.ireturn, 1) := by decide +kernel
theorem dX5_dyed_0 : decode cX5_dyed 0 = .ok (.iconst 0, 1) := by decide +kernel
theorem dX5_dyed_1 : decode cX5_dyed 1 = .ok (.istore_n 3, 1) := by decide +kernel
theorem dX5_dyed_2 : decode cX5_dyed 2 = .ok (.iconst 0, 1) := by decide +kernel
theorem dX5_dyed_3 : decode cX5_dyed 3 = .ok (.istore 4, 2) := by decide +kernel
theorem dX5_dyed_5 : decode cX5_dyed 5 = .ok (.iload 4, 2) := by decide +kernel
theorem dX5_dyed_7 : decode cX5_dyed 7 = .ok (.aload_n 0, 1) := by decide +kernel
theorem dX5_dyed_8 : decode cX5_dyed 8 = .ok (.iload_n 1, 1) := by decide +kernel
theorem dX5_dyed_9 : decode cX5_dyed 9 = .ok (.invokevirtual 62, 3) := by decide +kernel
theorem dX5_dyed_12 : decode cX5_dyed 12 = .ok (.if_icmp .ge 36, 3) := by decide +kernel
theorem dX5_dyed_15 : decode cX5_dyed 15 = .ok (.iload_n 3, 1) := by decide +kernel
theorem dX5_dyed_16 : decode cX5_dyed 16 = .ok (.aload_n 0, 1) := by decide +kernel
theorem dX5_dyed_17 : decode cX5_dyed 17 = .ok (.iload_n 1, 1) := by decide +kernel
theorem dX5_dyed_18 : decode cX5_dyed 18 = .ok (.iload 4, 2) := by decide +kernel
theorem dX5_dyed_20 : decode cX5_dyed 20 = .ok (.iconst 1, 1) := by decide +kernel
theorem dX5_dyed_21 : decode cX5_dyed 21 = .ok (.invokevirtual 75, 3) := by decide +kernel
theorem dX5_dyed_24 : decode cX5_dyed 24 = .ok (.iload_n 2, 1) := by decide +kernel
theorem dX5_dyed_25 : decode cX5_dyed 25 = .ok (.if_icmp .ne 14, 3) := by decide +kernel
theorem dX5_dyed_28 : decode cX5_dyed 28 = .ok (.aload_n 0, 1) := by decide +kernel
theorem dX5_dyed_29 : decode cX5_dyed 29 = .ok (.iload_n 1, 1) := by decide +kernel
theorem dX5_dyed_30 : decode cX5_dyed 30 = .ok (.iload 4, 2) := by decide +kernel
theorem dX5_dyed_32 : decode cX5_dyed 32 = .ok (.iconst 0, 1) := by decide +kernel
theorem dX5_dyed_33 : decode cX5_dyed 33 = .ok (.invokevirtual 75, 3) := by decide +kernel
theorem dX5_dyed_36 : decode cX5_dyed 36 = .ok (.goto 4, 3) := by decide +kernel
theorem dX5_dyed_39 : decode cX5_dyed 39 = .ok (.iconst 0, 1) := by decide +kernel
theorem dX5_dyed_40 : decode cX5_dyed 40 = .ok (.iadd, 1) := by decide +kernel
theorem dX5_dyed_41 : decode cX5_dyed 41 = .ok (.istore_n 3, 1) := by decide +kernel
theorem dX5_dyed_42 : decode cX5_dyed 42 = .ok (.iinc 4 1, 3) := by decide +kernel
theorem dX5_dyed_45 : decode cX5_dyed 45 = .ok (.goto (-40), 3) := by decide +kernel
theorem dX5_dyed_48 : decode cX5_dyed 48 = .ok (.iload_n 3, 1) := by decide +kernel
theorem dX5_dyed_49 : decode cX5_dyed 49 = .ok (.ireturn, 1) := by decide +kernel
theorem dX5_colourLength_0 : decode cX5_colourLength 0 = .ok (.aload_n 0, 1) := by decide +kernel
theorem dX5_colourLength_1 : decode cX5_colourLength 1 = .ok (.iload_n 1, 1) := by decide +kernel
theorem dX5_colourLength_2 : decode cX5_colourLength 2 = .ok (.invokestatic 58, 3) := by decide +kernel
theorem dX5_colourLength_5 : decode cX5_colourLength 5 = .ok (.ifCond .ne 7, 3) := by decide +kernel
theorem dX5_colourLength_8 : decode cX5_colourLength 8 = .ok (.iconst 1, 1) := by decide +kernel
theorem dX5_colourLength_9 : decode cX5_colourLength 9 = .ok (.goto 15, 3) := by decide +kernel
theorem dX5_colourLength_12 : decode cX5_colourLength 12 = .ok (.iload_n 2, 1) := by decide +kernel
theorem dX5_colourLength_13 : decode cX5_colourLength 13 = .ok (.invokestatic 72, 3) := by decide +kernel
theorem dX5_colourLength_16 : decode cX5_colourLength 16 = .ok (.ifCond .eq 7, 3) := by decide +kernel
theorem dX5_colourLength_19 : decode cX5_colourLength 19 = .ok (.iconst 0, 1) := by decide +kernel
theorem dX5_colourLength_20 : decode cX5_colourLength 20 = .ok (.goto 4, 3) := by decide +kernel
theorem dX5_colourLength_23 : decode cX5_colourLength 23 = .ok (.iconst 2, 1) := by decide +kernel
theorem dX5_colourLength_24 : decode cX5_colourLength 24 = .ok (.putfield 38, 3) := by decide +kernel
theorem dX5_colourLength_27 : decode cX5_colourLength 27 = .ok (.aload_n 0, 1) := by decide +kernel
theorem dX5_colourLength_28 : decode cX5_colourLength 28 = .ok (.getfield 38, 3) := by decide +kernel
theorem dX5_colourLength_31 : decode cX5_colourLength 31 = .ok (.ifCond .le 7, 3) := by decide +kernel
theorem dX5_colourLength_34 : decode cX5_colourLength 34 = .ok (.iconst 0, 1) := by decide +kernel
theorem dX5_colourLength_35 : decode cX5_colourLength 35 = .ok (.goto 9, 3) := by decide +kernel
theorem dX5_colourLength_38 : decode cX5_colourLength 38 = .ok (.aload_n 0, 1) := by decide +kernel
theorem dX5_colourLength_39 : decode cX5_colourLength 39 = .ok (.iload_n 1, 1) := by decide +kernel
theorem dX5_colourLength_40 : decode cX5_colourLength 40 = .ok (.iload_n 2, 1) := by decide +kernel
theorem dX5_colourLength_41 : decode cX5_colourLength 41 = .ok (.invokevirtual 149, 3) := by decide +kernel
theorem dX5_colourLength_44 : decode cX5_colourLength 44 = .ok (.ireturn, 1) := by decide +kernel
theorem dX5_colourAtRank_0 : decode cX5_colourAtRank 0 = .ok (.aload_n 0, 1) := by decide +kernel
theorem dX5_colourAtRank_1 : decode cX5_colourAtRank 1 = .ok (.iload_n 1, 1) := by decide +kernel
theorem dX5_colourAtRank_2 : decode cX5_colourAtRank 2 = .ok (.invokestatic 58, 3) := by decide +kernel
theorem dX5_colourAtRank_5 : decode cX5_colourAtRank 5 = .ok (.ifCond .eq 7, 3) := by decide +kernel
theorem dX5_colourAtRank_8 : decode cX5_colourAtRank 8 = .ok (.iconst 0, 1) := by decide +kernel
theorem dX5_colourAtRank_9 : decode cX5_colourAtRank 9 = .ok (.goto 4, 3) := by decide +kernel
theorem dX5_colourAtRank_12 : decode cX5_colourAtRank 12 = .ok (.iconst 1, 1) := by decide +kernel
theorem dX5_colourAtRank_13 : decode cX5_colourAtRank 13 = .ok (.putfield 38, 3) := by decide +kernel
theorem dX5_colourAtRank_16 : decode cX5_colourAtRank 16 = .ok (.iconst 0, 1) := by decide +kernel
theorem dX5_colourAtRank_17 : decode cX5_colourAtRank 17 = .ok (.istore_n 3, 1) := by decide +kernel
theorem dX5_colourAtRank_18 : decode cX5_colourAtRank 18 = .ok (.aload_n 0, 1) := by decide +kernel
theorem dX5_colourAtRank_19 : decode cX5_colourAtRank 19 = .ok (.getfield 38, 3) := by decide +kernel
theorem dX5_colourAtRank_22 : decode cX5_colourAtRank 22 = .ok (.ifCond .ne 102, 3) := by decide +kernel
theorem dX5_colourAtRank_25 : decode cX5_colourAtRank 25 = .ok (.iload_n 3, 1) := by decide +kernel
theorem dX5_colourAtRank_26 : decode cX5_colourAtRank 26 = .ok (.bipush 8, 2) := by decide +kernel
theorem dX5_colourAtRank_28 : decode cX5_colourAtRank 28 = .ok (.if_icmp .ge 96, 3) := by decide +kernel
theorem dX5_colourAtRank_31 : decode cX5_colourAtRank 31 = .ok (.aload_n 0, 1) := by decide +kernel
theorem dX5_colourAtRank_32 : decode cX5_colourAtRank 32 = .ok (.iload_n 1, 1) := by decide +kernel
theorem dX5_colourAtRank_33 : decode cX5_colourAtRank 33 = .ok (.iload_n 3, 1) := by decide +kernel
theorem dX5_colourAtRank_34 : decode cX5_colourAtRank 34 = .ok (.invokevirtual 149, 3) := by decide +kernel
theorem dX5_colourAtRank_37 : decode cX5_colourAtRank 37 = .ok (.ifCond .ne 6, 3) := by decide +kernel
theorem dX5_colourAtRank_40 : decode cX5_colourAtRank 40 = .ok (.goto 78, 3) := by decide +kernel
theorem dX5_colourAtRank_43 : decode cX5_colourAtRank 43 = .ok (.iconst 0, 1) := by decide +kernel
theorem dX5_colourAtRank_44 : decode cX5_colourAtRank 44 = .ok (.istore 4, 2) := by decide +kernel
theorem dX5_colourAtRank_46 : decode cX5_colourAtRank 46 = .ok (.iconst 0, 1) := by decide +kernel
theorem dX5_colourAtRank_47 : decode cX5_colourAtRank 47 = .ok (.istore 5, 2) := by decide +kernel
theorem dX5_colourAtRank_49 : decode cX5_colourAtRank 49 = .ok (.iload 5, 2) := by decide +kernel
theorem dX5_colourAtRank_51 : decode cX5_colourAtRank 51 = .ok (.bipush 8, 2) := by decide +kernel
theorem dX5_colourAtRank_53 : decode cX5_colourAtRank 53 = .ok (.if_icmp .ge 57, 3) := by decide +kernel
theorem dX5_colourAtRank_56 : decode cX5_colourAtRank 56 = .ok (.iload 4, 2) := by decide +kernel
theorem dX5_colourAtRank_58 : decode cX5_colourAtRank 58 = .ok (.aload_n 0, 1) := by decide +kernel
theorem dX5_colourAtRank_59 : decode cX5_colourAtRank 59 = .ok (.iload_n 1, 1) := by decide +kernel
theorem dX5_colourAtRank_60 : decode cX5_colourAtRank 60 = .ok (.iload 5, 2) := by decide +kernel
theorem dX5_colourAtRank_62 : decode cX5_colourAtRank 62 = .ok (.invokevirtual 149, 3) := by decide +kernel
theorem dX5_colourAtRank_65 : decode cX5_colourAtRank 65 = .ok (.aload_n 0, 1) := by decide +kernel
theorem dX5_colourAtRank_66 : decode cX5_colourAtRank 66 = .ok (.iload_n 1, 1) := by decide +kernel
theorem dX5_colourAtRank_67 : decode cX5_colourAtRank 67 = .ok (.iload_n 3, 1) := by decide +kernel
theorem dX5_colourAtRank_68 : decode cX5_colourAtRank 68 = .ok (.invokevirtual 149, 3) := by decide +kernel
theorem dX5_colourAtRank_71 : decode cX5_colourAtRank 71 = .ok (.if_icmp .gt 25, 3) := by decide +kernel
theorem dX5_colourAtRank_74 : decode cX5_colourAtRank 74 = .ok (.aload_n 0, 1) := by decide +kernel
theorem dX5_colourAtRank_75 : decode cX5_colourAtRank 75 = .ok (.iload_n 1, 1) := by decide +kernel
theorem dX5_colourAtRank_76 : decode cX5_colourAtRank 76 = .ok (.iload 5, 2) := by decide +kernel
theorem dX5_colourAtRank_78 : decode cX5_colourAtRank 78 = .ok (.invokevirtual 149, 3) := by decide +kernel
theorem dX5_colourAtRank_81 : decode cX5_colourAtRank 81 = .ok (.aload_n 0, 1) := by decide +kernel
theorem dX5_colourAtRank_82 : decode cX5_colourAtRank 82 = .ok (.iload_n 1, 1) := by decide +kernel
theorem dX5_colourAtRank_83 : decode cX5_colourAtRank 83 = .ok (.iload_n 3, 1) := by decide +kernel
theorem dX5_colourAtRank_84 : decode cX5_colourAtRank 84 = .ok (.invokevirtual 149, 3) := by decide +kernel
theorem dX5_colourAtRank_87 : decode cX5_colourAtRank 87 = .ok (.if_icmp .ne 13, 3) := by decide +kernel
theorem dX5_colourAtRank_90 : decode cX5_colourAtRank 90 = .ok (.iload 5, 2) := by decide +kernel
theorem dX5_colourAtRank_92 : decode cX5_colourAtRank 92 = .ok (.iload_n 3, 1) := by decide +kernel
theorem dX5_colourAtRank_93 : decode cX5_colourAtRank 93 = .ok (.if_icmp .ge 7, 3) := by decide +kernel
theorem dX5_colourAtRank_96 : decode cX5_colourAtRank 96 = .ok (.iconst 1, 1) := by decide +kernel
theorem dX5_colourAtRank_97 : decode cX5_colourAtRank 97 = .ok (.goto 4, 3) := by decide +kernel
theorem dX5_colourAtRank_100 : decode cX5_colourAtRank 100 = .ok (.iconst 0, 1) := by decide +kernel
theorem dX5_colourAtRank_101 : decode cX5_colourAtRank 101 = .ok (.iadd, 1) := by decide +kernel
theorem dX5_colourAtRank_102 : decode cX5_colourAtRank 102 = .ok (.istore 4, 2) := by decide +kernel
theorem dX5_colourAtRank_104 : decode cX5_colourAtRank 104 = .ok (.iinc 5 1, 3) := by decide +kernel
theorem dX5_colourAtRank_107 : decode cX5_colourAtRank 107 = .ok (.goto (-58), 3) := by decide +kernel
theorem dX5_colourAtRank_110 : decode cX5_colourAtRank 110 = .ok (.iload 4, 2) := by decide +kernel
theorem dX5_colourAtRank_112 : decode cX5_colourAtRank 112 = .ok (.iload_n 2, 1) := by decide +kernel
theorem dX5_colourAtRank_113 : decode cX5_colourAtRank 113 = .ok (.if_icmp .ne 5, 3) := by decide +kernel
theorem dX5_colourAtRank_116 : decode cX5_colourAtRank 116 = .ok (.iload_n 3, 1) := by decide +kernel
theorem dX5_colourAtRank_117 : decode cX5_colourAtRank 117 = .ok (.ireturn, 1) := by decide +kernel
theorem dX5_colourAtRank_118 : decode cX5_colourAtRank 118 = .ok (.iinc 3 1, 3) := by decide +kernel
theorem dX5_colourAtRank_121 : decode cX5_colourAtRank 121 = .ok (.goto (-103), 3) := by decide +kernel
theorem dX5_colourAtRank_124 : decode cX5_colourAtRank 124 = .ok (.aload_n 0, 1) := by decide +kernel
theorem dX5_colourAtRank_125 : decode cX5_colourAtRank 125 = .ok (.getfield 38, 3) := by decide +kernel
theorem dX5_colourAtRank_128 : decode cX5_colourAtRank 128 = .ok (.ifCond .le 7, 3) := by decide +kernel
theorem dX5_colourAtRank_131 : decode cX5_colourAtRank 131 = .ok (.iconst 0, 1) := by decide +kernel
theorem dX5_colourAtRank_132 : decode cX5_colourAtRank 132 = .ok (.goto 8, 3) := by decide +kernel
theorem dX5_colourAtRank_135 : decode cX5_colourAtRank 135 = .ok (.aload_n 0, 1) := by decide +kernel
theorem dX5_colourAtRank_136 : decode cX5_colourAtRank 136 = .ok (.iconst 2, 1) := by decide +kernel
theorem dX5_colourAtRank_137 : decode cX5_colourAtRank 137 = .ok (.invokevirtual 51, 3) := by decide +kernel
theorem dX5_colourAtRank_140 : decode cX5_colourAtRank 140 = .ok (.ireturn, 1) := by decide +kernel
theorem dX5_isLike_0 : decode cX5_isLike 0 = .ok (.aload_n 0, 1) := by decide +kernel
theorem dX5_isLike_1 : decode cX5_isLike 1 = .ok (.iload_n 1, 1) := by decide +kernel
theorem dX5_isLike_2 : decode cX5_isLike 2 = .ok (.iload_n 2, 1) := by decide +kernel
theorem dX5_isLike_3 : decode cX5_isLike 3 = .ok (.iconst 0, 1) := by decide +kernel
theorem dX5_isLike_4 : decode cX5_isLike 4 = .ok (.invokevirtual 75, 3) := by decide +kernel
theorem dX5_isLike_7 : decode cX5_isLike 7 = .ok (.aload_n 0, 1) := by decide +kernel
theorem dX5_isLike_8 : decode cX5_isLike 8 = .ok (.iload_n 3, 1) := by decide +kernel
theorem dX5_isLike_9 : decode cX5_isLike 9 = .ok (.iload 4, 2) := by decide +kernel
theorem dX5_isLike_11 : decode cX5_isLike 11 = .ok (.iconst 0, 1) := by decide +kernel
theorem dX5_isLike_12 : decode cX5_isLike 12 = .ok (.invokevirtual 75, 3) := by decide +kernel
theorem dX5_isLike_15 : decode cX5_isLike 15 = .ok (.if_icmp .ne 25, 3) := by decide +kernel
theorem dX5_isLike_18 : decode cX5_isLike 18 = .ok (.aload_n 0, 1) := by decide +kernel
theorem dX5_isLike_19 : decode cX5_isLike 19 = .ok (.iload_n 1, 1) := by decide +kernel
theorem dX5_isLike_20 : decode cX5_isLike 20 = .ok (.iload_n 2, 1) := by decide +kernel
theorem dX5_isLike_21 : decode cX5_isLike 21 = .ok (.iconst 1, 1) := by decide +kernel
theorem dX5_isLike_22 : decode cX5_isLike 22 = .ok (.invokevirtual 75, 3) := by decide +kernel
theorem dX5_isLike_25 : decode cX5_isLike 25 = .ok (.aload_n 0, 1) := by decide +kernel
theorem dX5_isLike_26 : decode cX5_isLike 26 = .ok (.iload_n 3, 1) := by decide +kernel
theorem dX5_isLike_27 : decode cX5_isLike 27 = .ok (.iload 4, 2) := by decide +kernel
theorem dX5_isLike_29 : decode cX5_isLike 29 = .ok (.iconst 1, 1) := by decide +kernel
theorem dX5_isLike_30 : decode cX5_isLike 30 = .ok (.invokevirtual 75, 3) := by decide +kernel
theorem dX5_isLike_33 : decode cX5_isLike 33 = .ok (.if_icmp .ne 7, 3) := by decide +kernel
theorem dX5_isLike_36 : decode cX5_isLike 36 = .ok (.iconst 1, 1) := by decide +kernel
theorem dX5_isLike_37 : decode cX5_isLike 37 = .ok (.goto 4, 3) := by decide +kernel
theorem dX5_isLike_40 : decode cX5_isLike 40 = .ok (.iconst 0, 1) := by decide +kernel
theorem dX5_isLike_41 : decode cX5_isLike 41 = .ok (.ireturn, 1) := by decide +kernel
theorem dX5_isSymmetric_0 : decode cX5_isSymmetric 0 = .ok (.aload_n 0, 1) := by decide +kernel
theorem dX5_isSymmetric_1 : decode cX5_isSymmetric 1 = .ok (.iload_n 1, 1) := by decide +kernel
theorem dX5_isSymmetric_2 : decode cX5_isSymmetric 2 = .ok (.invokestatic 58, 3) := by decide +kernel
theorem dX5_isSymmetric_5 : decode cX5_isSymmetric 5 = .ok (.ifCond .eq 7, 3) := by decide +kernel
theorem dX5_isSymmetric_8 : decode cX5_isSymmetric 8 = .ok (.iconst 0, 1) := by decide +kernel
theorem dX5_isSymmetric_9 : decode cX5_isSymmetric 9 = .ok (.goto 4, 3) := by decide +kernel
theorem dX5_isSymmetric_12 : decode cX5_isSymmetric 12 = .ok (.iconst 1, 1) := by decide +kernel
theorem dX5_isSymmetric_13 : decode cX5_isSymmetric 13 = .ok (.putfield 38, 3) := by decide +kernel
theorem dX5_isSymmetric_16 : decode cX5_isSymmetric 16 = .ok (.iconst 0, 1) := by decide +kernel
theorem dX5_isSymmetric_17 : decode cX5_isSymmetric 17 = .ok (.istore_n 2, 1) := by decide +kernel
theorem dX5_isSymmetric_18 : decode cX5_isSymmetric 18 = .ok (.aload_n 0, 1) := by decide +kernel
theorem dX5_isSymmetric_19 : decode cX5_isSymmetric 19 = .ok (.getfield 38, 3) := by decide +kernel
theorem dX5_isSymmetric_22 : decode cX5_isSymmetric 22 = .ok (.ifCond .ne 39, 3) := by decide +kernel
theorem dX5_isSymmetric_25 : decode cX5_isSymmetric 25 = .ok (.iload_n 2, 1) := by decide +kernel
theorem dX5_isSymmetric_26 : decode cX5_isSymmetric 26 = .ok (.aload_n 0, 1) := by decide +kernel
theorem dX5_isSymmetric_27 : decode cX5_isSymmetric 27 = .ok (.iload_n 1, 1) := by decide +kernel
theorem dX5_isSymmetric_28 : decode cX5_isSymmetric 28 = .ok (.invokevirtual 62, 3) := by decide +kernel
theorem dX5_isSymmetric_31 : decode cX5_isSymmetric 31 = .ok (.if_icmp .ge 30, 3) := by decide +kernel
theorem dX5_isSymmetric_34 : decode cX5_isSymmetric 34 = .ok (.aload_n 0, 1) := by decide +kernel
theorem dX5_isSymmetric_35 : decode cX5_isSymmetric 35 = .ok (.iload_n 1, 1) := by decide +kernel
theorem dX5_isSymmetric_36 : decode cX5_isSymmetric 36 = .ok (.iload_n 2, 1) := by decide +kernel
theorem dX5_isSymmetric_37 : decode cX5_isSymmetric 37 = .ok (.iload_n 1, 1) := by decide +kernel
theorem dX5_isSymmetric_38 : decode cX5_isSymmetric 38 = .ok (.aload_n 0, 1) := by decide +kernel
theorem dX5_isSymmetric_39 : decode cX5_isSymmetric 39 = .ok (.iload_n 1, 1) := by decide +kernel
theorem dX5_isSymmetric_40 : decode cX5_isSymmetric 40 = .ok (.invokevirtual 62, 3) := by decide +kernel
theorem dX5_isSymmetric_43 : decode cX5_isSymmetric 43 = .ok (.iconst 1, 1) := by decide +kernel
theorem dX5_isSymmetric_44 : decode cX5_isSymmetric 44 = .ok (.isub, 1) := by decide +kernel
theorem dX5_isSymmetric_45 : decode cX5_isSymmetric 45 = .ok (.iload_n 2, 1) := by decide +kernel
theorem dX5_isSymmetric_46 : decode cX5_isSymmetric 46 = .ok (.isub, 1) := by decide +kernel
theorem dX5_isSymmetric_47 : decode cX5_isSymmetric 47 = .ok (.invokevirtual 152, 3) := by decide +kernel
theorem dX5_isSymmetric_50 : decode cX5_isSymmetric 50 = .ok (.ifCond .ne 5, 3) := by decide +kernel
theorem dX5_isSymmetric_53 : decode cX5_isSymmetric 53 = .ok (.iconst 0, 1) := by decide +kernel
theorem dX5_isSymmetric_54 : decode cX5_isSymmetric 54 = .ok (.ireturn, 1) := by decide +kernel
theorem dX5_isSymmetric_55 : decode cX5_isSymmetric 55 = .ok (.iinc 2 1, 3) := by decide +kernel
theorem dX5_isSymmetric_58 : decode cX5_isSymmetric 58 = .ok (.goto (-40), 3) := by decide +kernel
theorem dX5_isSymmetric_61 : decode cX5_isSymmetric 61 = .ok (.aload_n 0, 1) := by decide +kernel
theorem dX5_isSymmetric_62 : decode cX5_isSymmetric 62 = .ok (.getfield 38, 3) := by decide +kernel
theorem dX5_isSymmetric_65 : decode cX5_isSymmetric 65 = .ok (.ifCond .ne 7, 3) := by decide +kernel
theorem dX5_isSymmetric_68 : decode cX5_isSymmetric 68 = .ok (.iconst 1, 1) := by decide +kernel
theorem dX5_isSymmetric_69 : decode cX5_isSymmetric 69 = .ok (.goto 4, 3) := by decide +kernel
theorem dX5_isSymmetric_72 : decode cX5_isSymmetric 72 = .ok (.iconst 0, 1) := by decide +kernel
theorem dX5_isSymmetric_73 : decode cX5_isSymmetric 73 = .ok (.ireturn, 1) := by decide +kernel
theorem dX5_alike_0 : decode cX5_alike 0 = .ok (.iconst 0, 1) := by decide +kernel
theorem dX5_alike_1 : decode cX5_alike 1 = .ok (.istore_n 3, 1) := by decide +kernel
theorem dX5_alike_2 : decode cX5_alike 2 = .ok (.iload_n 3, 1) := by decide +kernel
theorem dX5_alike_3 : decode cX5_alike 3 = .ok (.aload_n 0, 1) := by decide +kernel
theorem dX5_alike_4 : decode cX5_alike 4 = .ok (.iload_n 1, 1) := by decide +kernel
theorem dX5_alike_5 : decode cX5_alike 5 = .ok (.invokevirtual 62, 3) := by decide +kernel
theorem dX5_alike_8 : decode cX5_alike 8 = .ok (.if_icmp .ge 29, 3) := by decide +kernel
theorem dX5_alike_11 : decode cX5_alike 11 = .ok (.iload_n 3, 1) := by decide +kernel
theorem dX5_alike_12 : decode cX5_alike 12 = .ok (.aload_n 0, 1) := by decide +kernel
theorem dX5_alike_13 : decode cX5_alike 13 = .ok (.iload_n 2, 1) := by decide +kernel
theorem dX5_alike_14 : decode cX5_alike 14 = .ok (.invokevirtual 62, 3) := by decide +kernel
theorem dX5_alike_17 : decode cX5_alike 17 = .ok (.if_icmp .ge 20, 3) := by decide +kernel
theorem dX5_alike_20 : decode cX5_alike 20 = .ok (.aload_n 0, 1) := by decide +kernel
theorem dX5_alike_21 : decode cX5_alike 21 = .ok (.iload_n 1, 1) := by decide +kernel
theorem dX5_alike_22 : decode cX5_alike 22 = .ok (.iload_n 3, 1) := by decide +kernel
theorem dX5_alike_23 : decode cX5_alike 23 = .ok (.iload_n 2, 1) := by decide +kernel
theorem dX5_alike_24 : decode cX5_alike 24 = .ok (.iload_n 3, 1) := by decide +kernel
theorem dX5_alike_25 : decode cX5_alike 25 = .ok (.invokevirtual 152, 3) := by decide +kernel
theorem dX5_alike_28 : decode cX5_alike 28 = .ok (.ifCond .eq 9, 3) := by decide +kernel
theorem dX5_alike_31 : decode cX5_alike 31 = .ok (.iinc 3 1, 3) := by decide +kernel
theorem dX5_alike_34 : decode cX5_alike 34 = .ok (.goto (-32), 3) := by decide +kernel
theorem dX5_alike_37 : decode cX5_alike 37 = .ok (.iload_n 3, 1) := by decide +kernel
theorem dX5_alike_38 : decode cX5_alike 38 = .ok (.ireturn, 1) := by decide +kernel
theorem dX5_commonBeginning_0 : decode cX5_commonBeginning 0 = .ok (.aload_n 0, 1) := by decide +kernel
theorem dX5_commonBeginning_1 : decode cX5_commonBeginning 1 = .ok (.iload_n 1, 1) := by decide +kernel
theorem dX5_commonBeginning_2 : decode cX5_commonBeginning 2 = .ok (.invokestatic 58, 3) := by decide +kernel
theorem dX5_commonBeginning_5 : decode cX5_commonBeginning 5 = .ok (.ifCond .eq 14, 3) := by decide +kernel
theorem dX5_commonBeginning_8 : decode cX5_commonBeginning 8 = .ok (.iload_n 2, 1) := by decide +kernel
theorem dX5_commonBeginning_9 : decode cX5_commonBeginning 9 = .ok (.invokestatic 58, 3) := by decide +kernel
theorem dX5_commonBeginning_12 : decode cX5_commonBeginning 12 = .ok (.ifCond .eq 7, 3) := by decide +kernel
theorem dX5_commonBeginning_15 : decode cX5_commonBeginning 15 = .ok (.iconst 0, 1) := by decide +kernel
theorem dX5_commonBeginning_16 : decode cX5_commonBeginning 16 = .ok (.goto 4, 3) := by decide +kernel
theorem dX5_commonBeginning_19 : decode cX5_commonBeginning 19 = .ok (.iconst 1, 1) := by decide +kernel
theorem dX5_commonBeginning_20 : decode cX5_commonBeginning 20 = .ok (.putfield 38, 3) := by decide +kernel
theorem dX5_commonBeginning_23 : decode cX5_commonBeginning 23 = .ok (.aload_n 0, 1) := by decide +kernel
theorem dX5_commonBeginning_24 : decode cX5_commonBeginning 24 = .ok (.getfield 38, 3) := by decide +kernel
theorem dX5_commonBeginning_27 : decode cX5_commonBeginning 27 = .ok (.ifCond .le 7, 3) := by decide +kernel
theorem dX5_commonBeginning_30 : decode cX5_commonBeginning 30 = .ok (.iconst 0, 1) := by decide +kernel
theorem dX5_commonBeginning_31 : decode cX5_commonBeginning 31 = .ok (.goto 9, 3) := by decide +kernel
theorem dX5_commonBeginning_34 : decode cX5_commonBeginning 34 = .ok (.aload_n 0, 1) := by decide +kernel
theorem dX5_commonBeginning_35 : decode cX5_commonBeginning 35 = .ok (.iload_n 1, 1) := by decide +kernel
theorem dX5_commonBeginning_36 : decode cX5_commonBeginning 36 = .ok (.iload_n 2, 1) := by decide +kernel
theorem dX5_commonBeginning_37 : decode cX5_commonBeginning 37 = .ok (.invokevirtual 156, 3) := by decide +kernel
theorem dX5_commonBeginning_40 : decode cX5_commonBeginning 40 = .ok (.ireturn, 1) := by decide +kernel
theorem dX5_areEqual_0 : decode cX5_areEqual 0 = .ok (.aload_n 0, 1) := by decide +kernel
theorem dX5_areEqual_1 : decode cX5_areEqual 1 = .ok (.iload_n 1, 1) := by decide +kernel
theorem dX5_areEqual_2 : decode cX5_areEqual 2 = .ok (.invokestatic 58, 3) := by decide +kernel
theorem dX5_areEqual_5 : decode cX5_areEqual 5 = .ok (.ifCond .eq 14, 3) := by decide +kernel
theorem dX5_areEqual_8 : decode cX5_areEqual 8 = .ok (.iload_n 2, 1) := by decide +kernel
theorem dX5_areEqual_9 : decode cX5_areEqual 9 = .ok (.invokestatic 58, 3) := by decide +kernel
theorem dX5_areEqual_12 : decode cX5_areEqual 12 = .ok (.ifCond .eq 7, 3) := by decide +kernel
theorem dX5_areEqual_15 : decode cX5_areEqual 15 = .ok (.iconst 0, 1) := by decide +kernel
theorem dX5_areEqual_16 : decode cX5_areEqual 16 = .ok (.goto 4, 3) := by decide +kernel
theorem dX5_areEqual_19 : decode cX5_areEqual 19 = .ok (.iconst 1, 1) := by decide +kernel
theorem dX5_areEqual_20 : decode cX5_areEqual 20 = .ok (.putfield 38, 3) := by decide +kernel
theorem dX5_areEqual_23 : decode cX5_areEqual 23 = .ok (.aload_n 0, 1) := by decide +kernel
theorem dX5_areEqual_24 : decode cX5_areEqual 24 = .ok (.getfield 38, 3) := by decide +kernel
theorem dX5_areEqual_27 : decode cX5_areEqual 27 = .ok (.ifCond .ne 34, 3) := by decide +kernel
theorem dX5_areEqual_30 : decode cX5_areEqual 30 = .ok (.aload_n 0, 1) := by decide +kernel
theorem dX5_areEqual_31 : decode cX5_areEqual 31 = .ok (.iload_n 1, 1) := by decide +kernel
theorem dX5_areEqual_32 : decode cX5_areEqual 32 = .ok (.invokevirtual 62, 3) := by decide +kernel
theorem dX5_areEqual_35 : decode cX5_areEqual 35 = .ok (.aload_n 0, 1) := by decide +kernel
theorem dX5_areEqual_36 : decode cX5_areEqual 36 = .ok (.iload_n 2, 1) := by decide +kernel
theorem dX5_areEqual_37 : decode cX5_areEqual 37 = .ok (.invokevirtual 62, 3) := by decide +kernel
theorem dX5_areEqual_40 : decode cX5_areEqual 40 = .ok (.if_icmp .ne 21, 3) := by decide +kernel
theorem dX5_areEqual_43 : decode cX5_areEqual 43 = .ok (.aload_n 0, 1) := by decide +kernel
theorem dX5_areEqual_44 : decode cX5_areEqual 44 = .ok (.iload_n 1, 1) := by decide +kernel
theorem dX5_areEqual_45 : decode cX5_areEqual 45 = .ok (.iload_n 2, 1) := by decide +kernel
theorem dX5_areEqual_46 : decode cX5_areEqual 46 = .ok (.invokevirtual 156, 3) := by decide +kernel
theorem dX5_areEqual_49 : decode cX5_areEqual 49 = .ok (.aload_n 0, 1) := by decide +kernel
theorem dX5_areEqual_50 : decode cX5_areEqual 50 = .ok (.iload_n 1, 1) := by decide +kernel
theorem dX5_areEqual_51 : decode cX5_areEqual 51 = .ok (.invokevirtual 62, 3) := by decide +kernel
theorem dX5_areEqual_54 : decode cX5_areEqual 54 = .ok (.if_icmp .ne 7, 3) := by decide +kernel
theorem dX5_areEqual_57 : decode cX5_areEqual 57 = .ok (.iconst 1, 1) := by decide +kernel
theorem dX5_areEqual_58 : decode cX5_areEqual 58 = .ok (.goto 4, 3) := by decide +kernel
theorem dX5_areEqual_61 : decode cX5_areEqual 61 = .ok (.iconst 0, 1) := by decide +kernel
theorem dX5_areEqual_62 : decode cX5_areEqual 62 = .ok (.ireturn, 1) := by decide +kernel
theorem dX5_cutCount_0 : decode cX5_cutCount 0 = .ok (.aload_n 0, 1) := by decide +kernel
theorem dX5_cutCount_1 : decode cX5_cutCount 1 = .ok (.iconst 0, 1) := by decide +kernel
theorem dX5_cutCount_2 : decode cX5_cutCount 2 = .ok (.putfield 38, 3) := by decide +kernel
theorem dX5_cutCount_5 : decode cX5_cutCount 5 = .ok (.aload_n 0, 1) := by decide +kernel
theorem dX5_cutCount_6 : decode cX5_cutCount 6 = .ok (.getfield 7, 3) := by decide +kernel
theorem dX5_cutCount_9 : decode cX5_cutCount 9 = .ok (.iconst 0, 1) := by decide +kernel
theorem dX5_cutCount_10 : decode cX5_cutCount 10 = .ok (.iaload, 1) := by decide +kernel
theorem dX5_cutCount_11 : decode cX5_cutCount 11 = .ok (.ireturn, 1) := by decide +kernel
theorem dX5_spliceCount_0 : decode cX5_spliceCount 0 = .ok (.aload_n 0, 1) := by decide +kernel
theorem dX5_spliceCount_1 : decode cX5_spliceCount 1 = .ok (.iconst 0, 1) := by decide +kernel
theorem dX5_spliceCount_2 : decode cX5_spliceCount 2 = .ok (.putfield 38, 3) := by decide +kernel
theorem dX5_spliceCount_5 : decode cX5_spliceCount 5 = .ok (.aload_n 0, 1) := by decide +kernel
theorem dX5_spliceCount_6 : decode cX5_spliceCount 6 = .ok (.getfield 7, 3) := by decide +kernel
theorem dX5_spliceCount_9 : decode cX5_spliceCount 9 = .ok (.iconst 1, 1) := by decide +kernel
theorem dX5_spliceCount_10 : decode cX5_spliceCount 10 = .ok (.iaload, 1) := by decide +kernel
theorem dX5_spliceCount_11 : decode cX5_spliceCount 11 = .ok (.ireturn, 1) := by decide +kernel
theorem dX5_type_0 : decode cX5_type 0 = .ok (.aload_n 0, 1) := by decide +kernel
theorem dX5_type_1 : decode cX5_type 1 = .ok (.iload_n 1, 1) := by decide +kernel
theorem dX5_type_2 : decode cX5_type 2 = .ok (.bipush 32, 2) := by decide +kernel
theorem dX5_type_4 : decode cX5_type 4 = .ok (.bipush 126, 2) := by decide +kernel
theorem dX5_type_6 : decode cX5_type 6 = .ok (.invokestatic 54, 3) := by decide +kernel
theorem dX5_type_9 : decode cX5_type 9 = .ok (.ifCond .ne 7, 3) := by decide +kernel
theorem dX5_type_12 : decode cX5_type 12 = .ok (.iconst 1, 1) := by decide +kernel
theorem dX5_type_13 : decode cX5_type 13 = .ok (.goto 17, 3) := by decide +kernel
theorem dX5_type_16 : decode cX5_type 16 = .ok (.aload_n 0, 1) := by decide +kernel
theorem dX5_type_17 : decode cX5_type 17 = .ok (.getfield 159, 3) := by decide +kernel
theorem dX5_type_20 : decode cX5_type 20 = .ok (.bipush 60, 2) := by decide +kernel
theorem dX5_type_22 : decode cX5_type 22 = .ok (.if_icmp .ne 7, 3) := by decide +kernel
theorem dX5_type_25 : decode cX5_type 25 = .ok (.iconst 2, 1) := by decide +kernel
theorem dX5_type_26 : decode cX5_type 26 = .ok (.goto 4, 3) := by decide +kernel
theorem dX5_type_29 : decode cX5_type 29 = .ok (.iconst 0, 1) := by decide +kernel
theorem dX5_type_30 : decode cX5_type 30 = .ok (.putfield 38, 3) := by decide +kernel
theorem dX5_type_33 : decode cX5_type 33 = .ok (.aload_n 0, 1) := by decide +kernel
theorem dX5_type_34 : decode cX5_type 34 = .ok (.getfield 38, 3) := by decide +kernel
theorem dX5_type_37 : decode cX5_type 37 = .ok (.ifCond .le 5, 3) := by decide +kernel
theorem dX5_type_40 : decode cX5_type 40 = .ok (.iconst 0, 1) := by decide +kernel
theorem dX5_type_41 : decode cX5_type 41 = .ok (.ireturn, 1) := by decide +kernel
theorem dX5_type_42 : decode cX5_type 42 = .ok (.aload_n 0, 1) := by decide +kernel
theorem dX5_type_43 : decode cX5_type 43 = .ok (.getfield 22, 3) := by decide +kernel
theorem dX5_type_46 : decode cX5_type 46 = .ok (.aload_n 0, 1) := by decide +kernel
theorem dX5_type_47 : decode cX5_type 47 = .ok (.getfield 159, 3) := by decide +kernel
theorem dX5_type_50 : decode cX5_type 50 = .ok (.iload_n 1, 1) := by decide +kernel
theorem dX5_type_51 : decode cX5_type 51 = .ok (.iastore, 1) := by decide +kernel
theorem dX5_type_52 : decode cX5_type 52 = .ok (.aload_n 0, 1) := by decide +kernel
theorem dX5_type_53 : decode cX5_type 53 = .ok (.dup, 1) := by decide +kernel
theorem dX5_type_54 : decode cX5_type 54 = .ok (.getfield 159, 3) := by decide +kernel
theorem dX5_type_57 : decode cX5_type 57 = .ok (.iconst 1, 1) := by decide +kernel
theorem dX5_type_58 : decode cX5_type 58 = .ok (.iadd, 1) := by decide +kernel
theorem dX5_type_59 : decode cX5_type 59 = .ok (.putfield 159, 3) := by decide +kernel
theorem dX5_type_62 : decode cX5_type 62 = .ok (.aload_n 0, 1) := by decide +kernel
theorem dX5_type_63 : decode cX5_type 63 = .ok (.getfield 159, 3) := by decide +kernel
theorem dX5_type_66 : decode cX5_type 66 = .ok (.ireturn, 1) := by decide +kernel
theorem dX5_here_0 : decode cX5_here 0 = .ok (.aload_n 0, 1) := by decide +kernel
theorem dX5_here_1 : decode cX5_here 1 = .ok (.getfield 162, 3) := by decide +kernel
theorem dX5_here_4 : decode cX5_here 4 = .ok (.iload_n 1, 1) := by decide +kernel
theorem dX5_here_5 : decode cX5_here 5 = .ok (.iadd, 1) := by decide +kernel
theorem dX5_here_6 : decode cX5_here 6 = .ok (.aload_n 0, 1) := by decide +kernel
theorem dX5_here_7 : decode cX5_here 7 = .ok (.getfield 165, 3) := by decide +kernel
theorem dX5_here_10 : decode cX5_here 10 = .ok (.if_icmp .ge 17, 3) := by decide +kernel
theorem dX5_here_13 : decode cX5_here 13 = .ok (.aload_n 0, 1) := by decide +kernel
theorem dX5_here_14 : decode cX5_here 14 = .ok (.getfield 22, 3) := by decide +kernel
theorem dX5_here_17 : decode cX5_here 17 = .ok (.aload_n 0, 1) := by decide +kernel
theorem dX5_here_18 : decode cX5_here 18 = .ok (.getfield 162, 3) := by decide +kernel
theorem dX5_here_21 : decode cX5_here 21 = .ok (.iload_n 1, 1) := by decide +kernel
theorem dX5_here_22 : decode cX5_here 22 = .ok (.iadd, 1) := by decide +kernel
theorem dX5_here_23 : decode cX5_here 23 = .ok (.iaload, 1) := by decide +kernel
theorem dX5_here_24 : decode cX5_here 24 = .ok (.goto 4, 3) := by decide +kernel
theorem dX5_here_27 : decode cX5_here 27 = .ok (.iconst (-1), 1) := by decide +kernel
theorem dX5_here_28 : decode cX5_here 28 = .ok (.ireturn, 1) := by decide +kernel
theorem dX5_says_0 : decode cX5_says 0 = .ok (.iconst 0, 1) := by decide +kernel
theorem dX5_says_1 : decode cX5_says 1 = .ok (.istore_n 2, 1) := by decide +kernel
theorem dX5_says_2 : decode cX5_says 2 = .ok (.iload_n 2, 1) := by decide +kernel
theorem dX5_says_3 : decode cX5_says 3 = .ok (.aload_n 1, 1) := by decide +kernel
theorem dX5_says_4 : decode cX5_says 4 = .ok (.invokevirtual 168, 3) := by decide +kernel
theorem dX5_says_7 : decode cX5_says 7 = .ok (.if_icmp .ge 59, 3) := by decide +kernel
theorem dX5_says_10 : decode cX5_says 10 = .ok (.aload_n 0, 1) := by decide +kernel
theorem dX5_says_11 : decode cX5_says 11 = .ok (.getfield 174, 3) := by decide +kernel
theorem dX5_says_14 : decode cX5_says 14 = .ok (.ifCond .ne 52, 3) := by decide +kernel
theorem dX5_says_17 : decode cX5_says 17 = .ok (.aload_n 0, 1) := by decide +kernel
theorem dX5_says_18 : decode cX5_says 18 = .ok (.aload_n 0, 1) := by decide +kernel
theorem dX5_says_19 : decode cX5_says 19 = .ok (.iconst 0, 1) := by decide +kernel
theorem dX5_says_20 : decode cX5_says 20 = .ok (.invokevirtual 178, 3) := by decide +kernel
theorem dX5_says_23 : decode cX5_says 23 = .ok (.aload_n 1, 1) := by decide +kernel
theorem dX5_says_24 : decode cX5_says 24 = .ok (.iload_n 2, 1) := by decide +kernel
theorem dX5_says_25 : decode cX5_says 25 = .ok (.invokevirtual 181, 3) := by decide +kernel
theorem dX5_says_28 : decode cX5_says 28 = .ok (.if_icmp .eq 7, 3) := by decide +kernel
theorem dX5_says_31 : decode cX5_says 31 = .ok (.iconst 1, 1) := by decide +kernel
theorem dX5_says_32 : decode cX5_says 32 = .ok (.goto 4, 3) := by decide +kernel
theorem dX5_says_35 : decode cX5_says 35 = .ok (.iconst 0, 1) := by decide +kernel
theorem dX5_says_36 : decode cX5_says 36 = .ok (.putfield 174, 3) := by decide +kernel
theorem dX5_says_39 : decode cX5_says 39 = .ok (.aload_n 0, 1) := by decide +kernel
theorem dX5_says_40 : decode cX5_says 40 = .ok (.dup, 1) := by decide +kernel
theorem dX5_says_41 : decode cX5_says 41 = .ok (.getfield 162, 3) := by decide +kernel
theorem dX5_says_44 : decode cX5_says 44 = .ok (.aload_n 0, 1) := by decide +kernel
theorem dX5_says_45 : decode cX5_says 45 = .ok (.getfield 174, 3) := by decide +kernel
theorem dX5_says_48 : decode cX5_says 48 = .ok (.ifCond .eq 7, 3) := by decide +kernel
theorem dX5_says_51 : decode cX5_says 51 = .ok (.iconst 0, 1) := by decide +kernel
theorem dX5_says_52 : decode cX5_says 52 = .ok (.goto 4, 3) := by decide +kernel
theorem dX5_says_55 : decode cX5_says 55 = .ok (.iconst 1, 1) := by decide +kernel
theorem dX5_says_56 : decode cX5_says 56 = .ok (.iadd, 1) := by decide +kernel
theorem dX5_says_57 : decode cX5_says 57 = .ok (.putfield 162, 3) := by decide +kernel
theorem dX5_says_60 : decode cX5_says 60 = .ok (.iinc 2 1, 3) := by decide +kernel
theorem dX5_says_63 : decode cX5_says 63 = .ok (.goto (-61), 3) := by decide +kernel
theorem dX5_says_66 : decode cX5_says 66 = .ok (.return_, 1) := by decide +kernel
theorem dX5_number_0 : decode cX5_number 0 = .ok (.iconst 0, 1) := by decide +kernel
theorem dX5_number_1 : decode cX5_number 1 = .ok (.istore_n 3, 1) := by decide +kernel
theorem dX5_number_2 : decode cX5_number 2 = .ok (.iconst 0, 1) := by decide +kernel
theorem dX5_number_3 : decode cX5_number 3 = .ok (.istore 4, 2) := by decide +kernel
theorem dX5_number_5 : decode cX5_number 5 = .ok (.aload_n 0, 1) := by decide +kernel
theorem dX5_number_6 : decode cX5_number 6 = .ok (.getfield 174, 3) := by decide +kernel
theorem dX5_number_9 : decode cX5_number 9 = .ok (.ifCond .ne 54, 3) := by decide +kernel
theorem dX5_number_12 : decode cX5_number 12 = .ok (.iload 4, 2) := by decide +kernel
theorem dX5_number_14 : decode cX5_number 14 = .ok (.iload_n 2, 1) := by decide +kernel
theorem dX5_number_15 : decode cX5_number 15 = .ok (.if_icmp .ge 48, 3) := by decide +kernel
theorem dX5_number_18 : decode cX5_number 18 = .ok (.aload_n 0, 1) := by decide +kernel
theorem dX5_number_19 : decode cX5_number 19 = .ok (.iconst 0, 1) := by decide +kernel
theorem dX5_number_20 : decode cX5_number 20 = .ok (.invokevirtual 178, 3) := by decide +kernel
theorem dX5_number_23 : decode cX5_number 23 = .ok (.bipush 48, 2) := by decide +kernel
theorem dX5_number_25 : decode cX5_number 25 = .ok (.bipush 57, 2) := by decide +kernel
theorem dX5_number_27 : decode cX5_number 27 = .ok (.invokestatic 54, 3) := by decide +kernel
theorem dX5_number_30 : decode cX5_number 30 = .ok (.ifCond .eq 33, 3) := by decide +kernel
theorem dX5_number_33 : decode cX5_number 33 = .ok (.bipush 10, 2) := by decide +kernel
theorem dX5_number_35 : decode cX5_number 35 = .ok (.iload_n 3, 1) := by decide +kernel
theorem dX5_number_36 : decode cX5_number 36 = .ok (.imul, 1) := by decide +kernel
theorem dX5_number_37 : decode cX5_number 37 = .ok (.aload_n 0, 1) := by decide +kernel
theorem dX5_number_38 : decode cX5_number 38 = .ok (.iconst 0, 1) := by decide +kernel
theorem dX5_number_39 : decode cX5_number 39 = .ok (.invokevirtual 178, 3) := by decide +kernel
theorem dX5_number_42 : decode cX5_number 42 = .ok (.iadd, 1) := by decide +kernel
theorem dX5_number_43 : decode cX5_number 43 = .ok (.bipush 48, 2) := by decide +kernel
theorem dX5_number_45 : decode cX5_number 45 = .ok (.isub, 1) := by decide +kernel
theorem dX5_number_46 : decode cX5_number 46 = .ok (.istore_n 3, 1) := by decide +kernel
theorem dX5_number_47 : decode cX5_number 47 = .ok (.aload_n 0, 1) := by decide +kernel
theorem dX5_number_48 : decode cX5_number 48 = .ok (.dup, 1) := by decide +kernel
theorem dX5_number_49 : decode cX5_number 49 = .ok (.getfield 162, 3) := by decide +kernel
theorem dX5_number_52 : decode cX5_number 52 = .ok (.iconst 1, 1) := by decide +kernel
theorem dX5_number_53 : decode cX5_number 53 = .ok (.iadd, 1) := by decide +kernel
theorem dX5_number_54 : decode cX5_number 54 = .ok (.putfield 162, 3) := by decide +kernel
theorem dX5_number_57 : decode cX5_number 57 = .ok (.iinc 4 1, 3) := by decide +kernel
theorem dX5_number_60 : decode cX5_number 60 = .ok (.goto (-55), 3) := by decide +kernel
theorem dX5_number_63 : decode cX5_number 63 = .ok (.aload_n 0, 1) := by decide +kernel
theorem dX5_number_64 : decode cX5_number 64 = .ok (.aload_n 0, 1) := by decide +kernel
theorem dX5_number_65 : decode cX5_number 65 = .ok (.getfield 174, 3) := by decide +kernel
theorem dX5_number_68 : decode cX5_number 68 = .ok (.ifCond .ne 8, 3) := by decide +kernel
theorem dX5_number_71 : decode cX5_number 71 = .ok (.iload 4, 2) := by decide +kernel
theorem dX5_number_73 : decode cX5_number 73 = .ok (.ifCond .ne 7, 3) := by decide +kernel
theorem dX5_number_76 : decode cX5_number 76 = .ok (.iconst 1, 1) := by decide +kernel
theorem dX5_number_77 : decode cX5_number 77 = .ok (.goto 4, 3) := by decide +kernel
theorem dX5_number_80 : decode cX5_number 80 = .ok (.iconst 0, 1) := by decide +kernel
theorem dX5_number_81 : decode cX5_number 81 = .ok (.putfield 174, 3) := by decide +kernel
theorem dX5_number_84 : decode cX5_number 84 = .ok (.aload_n 0, 1) := by decide +kernel
theorem dX5_number_85 : decode cX5_number 85 = .ok (.getfield 25, 3) := by decide +kernel
theorem dX5_number_88 : decode cX5_number 88 = .ok (.iconst 5, 1) := by decide +kernel
theorem dX5_number_89 : decode cX5_number 89 = .ok (.aload_n 0, 1) := by decide +kernel
theorem dX5_number_90 : decode cX5_number 90 = .ok (.getfield 185, 3) := by decide +kernel
theorem dX5_number_93 : decode cX5_number 93 = .ok (.imul, 1) := by decide +kernel
theorem dX5_number_94 : decode cX5_number 94 = .ok (.iload_n 1, 1) := by decide +kernel
theorem dX5_number_95 : decode cX5_number 95 = .ok (.iadd, 1) := by decide +kernel
theorem dX5_number_96 : decode cX5_number 96 = .ok (.iload_n 3, 1) := by decide +kernel
theorem dX5_number_97 : decode cX5_number 97 = .ok (.iastore, 1) := by decide +kernel
theorem dX5_number_98 : decode cX5_number 98 = .ok (.return_, 1) := by decide +kernel
theorem dX5_hue_0 : decode cX5_hue 0 = .ok (.aload_n 0, 1) := by decide +kernel
theorem dX5_hue_1 : decode cX5_hue 1 = .ok (.aload_n 0, 1) := by decide +kernel
theorem dX5_hue_2 : decode cX5_hue 2 = .ok (.getfield 174, 3) := by decide +kernel
theorem dX5_hue_5 : decode cX5_hue 5 = .ok (.ifCond .ne 18, 3) := by decide +kernel
theorem dX5_hue_8 : decode cX5_hue 8 = .ok (.aload_n 0, 1) := by decide +kernel
theorem dX5_hue_9 : decode cX5_hue 9 = .ok (.iconst 0, 1) := by decide +kernel
theorem dX5_hue_10 : decode cX5_hue 10 = .ok (.invokevirtual 178, 3) := by decide +kernel
theorem dX5_hue_13 : decode cX5_hue 13 = .ok (.bipush 97, 2) := by decide +kernel
theorem dX5_hue_15 : decode cX5_hue 15 = .ok (.bipush 104, 2) := by decide +kernel
theorem dX5_hue_17 : decode cX5_hue 17 = .ok (.invokestatic 54, 3) := by decide +kernel
theorem dX5_hue_20 : decode cX5_hue 20 = .ok (.ifCond .ne 7, 3) := by decide +kernel
theorem dX5_hue_23 : decode cX5_hue 23 = .ok (.iconst 1, 1) := by decide +kernel
theorem dX5_hue_24 : decode cX5_hue 24 = .ok (.goto 4, 3) := by decide +kernel
theorem dX5_hue_27 : decode cX5_hue 27 = .ok (.iconst 0, 1) := by decide +kernel
theorem dX5_hue_28 : decode cX5_hue 28 = .ok (.putfield 174, 3) := by decide +kernel
theorem dX5_hue_31 : decode cX5_hue 31 = .ok (.aload_n 0, 1) := by decide +kernel
theorem dX5_hue_32 : decode cX5_hue 32 = .ok (.getfield 25, 3) := by decide +kernel
theorem dX5_hue_35 : decode cX5_hue 35 = .ok (.iconst 5, 1) := by decide +kernel
theorem dX5_hue_36 : decode cX5_hue 36 = .ok (.aload_n 0, 1) := by decide +kernel
theorem dX5_hue_37 : decode cX5_hue 37 = .ok (.getfield 185, 3) := by decide +kernel
theorem dX5_hue_40 : decode cX5_hue 40 = .ok (.imul, 1) := by decide +kernel
theorem dX5_hue_41 : decode cX5_hue 41 = .ok (.iload_n 1, 1) := by decide +kernel
theorem dX5_hue_42 : decode cX5_hue 42 = .ok (.iadd, 1) := by decide +kernel
theorem dX5_hue_43 : decode cX5_hue 43 = .ok (.aload_n 0, 1) := by decide +kernel
theorem dX5_hue_44 : decode cX5_hue 44 = .ok (.getfield 174, 3) := by decide +kernel
theorem dX5_hue_47 : decode cX5_hue 47 = .ok (.ifCond .eq 7, 3) := by decide +kernel
theorem dX5_hue_50 : decode cX5_hue 50 = .ok (.iconst 0, 1) := by decide +kernel
theorem dX5_hue_51 : decode cX5_hue 51 = .ok (.goto 11, 3) := by decide +kernel
theorem dX5_hue_54 : decode cX5_hue 54 = .ok (.aload_n 0, 1) := by decide +kernel
theorem dX5_hue_55 : decode cX5_hue 55 = .ok (.iconst 0, 1) := by decide +kernel
theorem dX5_hue_56 : decode cX5_hue 56 = .ok (.invokevirtual 178, 3) := by decide +kernel
theorem dX5_hue_59 : decode cX5_hue 59 = .ok (.bipush 97, 2) := by decide +kernel
theorem dX5_hue_61 : decode cX5_hue 61 = .ok (.isub, 1) := by decide +kernel
theorem dX5_hue_62 : decode cX5_hue 62 = .ok (.iastore, 1) := by decide +kernel
theorem dX5_hue_63 : decode cX5_hue 63 = .ok (.aload_n 0, 1) := by decide +kernel
theorem dX5_hue_64 : decode cX5_hue 64 = .ok (.dup, 1) := by decide +kernel
theorem dX5_hue_65 : decode cX5_hue 65 = .ok (.getfield 162, 3) := by decide +kernel
theorem dX5_hue_68 : decode cX5_hue 68 = .ok (.aload_n 0, 1) := by decide +kernel
theorem dX5_hue_69 : decode cX5_hue 69 = .ok (.getfield 174, 3) := by decide +kernel
theorem dX5_hue_72 : decode cX5_hue 72 = .ok (.ifCond .eq 7, 3) := by decide +kernel
theorem dX5_hue_75 : decode cX5_hue 75 = .ok (.iconst 0, 1) := by decide +kernel
theorem dX5_hue_76 : decode cX5_hue 76 = .ok (.goto 4, 3) := by decide +kernel
theorem dX5_hue_79 : decode cX5_hue 79 = .ok (.iconst 1, 1) := by decide +kernel
theorem dX5_hue_80 : decode cX5_hue 80 = .ok (.iadd, 1) := by decide +kernel
theorem dX5_hue_81 : decode cX5_hue 81 = .ok (.putfield 162, 3) := by decide +kernel
theorem dX5_hue_84 : decode cX5_hue 84 = .ok (.return_, 1) := by decide +kernel
theorem dX5_place_0 : decode cX5_place 0 = .ok (.aload_n 0, 1) := by decide +kernel
theorem dX5_place_1 : decode cX5_place 1 = .ok (.getfield 25, 3) := by decide +kernel
theorem dX5_place_4 : decode cX5_place 4 = .ok (.iconst 5, 1) := by decide +kernel
theorem dX5_place_5 : decode cX5_place 5 = .ok (.aload_n 0, 1) := by decide +kernel
theorem dX5_place_6 : decode cX5_place 6 = .ok (.getfield 185, 3) := by decide +kernel
theorem dX5_place_9 : decode cX5_place 9 = .ok (.imul, 1) := by decide +kernel
theorem dX5_place_10 : decode cX5_place 10 = .ok (.iload_n 1, 1) := by decide +kernel
theorem dX5_place_11 : decode cX5_place 11 = .ok (.iastore, 1) := by decide +kernel
theorem dX5_place_12 : decode cX5_place 12 = .ok (.aload_n 0, 1) := by decide +kernel
theorem dX5_place_13 : decode cX5_place 13 = .ok (.aload_n 2, 1) := by decide +kernel
theorem dX5_place_14 : decode cX5_place 14 = .ok (.invokevirtual 188, 3) := by decide +kernel
theorem dX5_place_17 : decode cX5_place 17 = .ok (.aload_n 0, 1) := by decide +kernel
theorem dX5_place_18 : decode cX5_place 18 = .ok (.iconst 1, 1) := by decide +kernel
theorem dX5_place_19 : decode cX5_place 19 = .ok (.iconst 1, 1) := by decide +kernel
theorem dX5_place_20 : decode cX5_place 20 = .ok (.invokevirtual 192, 3) := by decide +kernel
theorem dX5_place_23 : decode cX5_place 23 = .ok (.aload_n 0, 1) := by decide +kernel
theorem dX5_place_24 : decode cX5_place 24 = .ok (.ldc 195, 2) := by decide +kernel
theorem dX5_place_26 : decode cX5_place 26 = .ok (.invokevirtual 188, 3) := by decide +kernel
theorem dX5_place_29 : decode cX5_place 29 = .ok (.aload_n 0, 1) := by decide +kernel
theorem dX5_place_30 : decode cX5_place 30 = .ok (.iconst 2, 1) := by decide +kernel
theorem dX5_place_31 : decode cX5_place 31 = .ok (.iconst 2, 1) := by decide +kernel
theorem dX5_place_32 : decode cX5_place 32 = .ok (.invokevirtual 192, 3) := by decide +kernel
theorem dX5_place_35 : decode cX5_place 35 = .ok (.return_, 1) := by decide +kernel
theorem dX5_pair_0 : decode cX5_pair 0 = .ok (.aload_n 0, 1) := by decide +kernel
theorem dX5_pair_1 : decode cX5_pair 1 = .ok (.getfield 25, 3) := by decide +kernel
theorem dX5_pair_4 : decode cX5_pair 4 = .ok (.iconst 5, 1) := by decide +kernel
theorem dX5_pair_5 : decode cX5_pair 5 = .ok (.aload_n 0, 1) := by decide +kernel
theorem dX5_pair_6 : decode cX5_pair 6 = .ok (.getfield 185, 3) := by decide +kernel
theorem dX5_pair_9 : decode cX5_pair 9 = .ok (.imul, 1) := by decide +kernel
theorem dX5_pair_10 : decode cX5_pair 10 = .ok (.iload_n 1, 1) := by decide +kernel
theorem dX5_pair_11 : decode cX5_pair 11 = .ok (.iastore, 1) := by decide +kernel
theorem dX5_pair_12 : decode cX5_pair 12 = .ok (.aload_n 0, 1) := by decide +kernel
theorem dX5_pair_13 : decode cX5_pair 13 = .ok (.aload_n 2, 1) := by decide +kernel
theorem dX5_pair_14 : decode cX5_pair 14 = .ok (.invokevirtual 188, 3) := by decide +kernel
theorem dX5_pair_17 : decode cX5_pair 17 = .ok (.aload_n 0, 1) := by decide +kernel
theorem dX5_pair_18 : decode cX5_pair 18 = .ok (.iconst 1, 1) := by decide +kernel
theorem dX5_pair_19 : decode cX5_pair 19 = .ok (.iconst 1, 1) := by decide +kernel
theorem dX5_pair_20 : decode cX5_pair 20 = .ok (.invokevirtual 192, 3) := by decide +kernel
theorem dX5_pair_23 : decode cX5_pair 23 = .ok (.aload_n 0, 1) := by decide +kernel
theorem dX5_pair_24 : decode cX5_pair 24 = .ok (.aload_n 3, 1) := by decide +kernel
theorem dX5_pair_25 : decode cX5_pair 25 = .ok (.invokevirtual 188, 3) := by decide +kernel
theorem dX5_pair_28 : decode cX5_pair 28 = .ok (.aload_n 0, 1) := by decide +kernel
theorem dX5_pair_29 : decode cX5_pair 29 = .ok (.iconst 2, 1) := by decide +kernel
theorem dX5_pair_30 : decode cX5_pair 30 = .ok (.iconst 1, 1) := by decide +kernel
theorem dX5_pair_31 : decode cX5_pair 31 = .ok (.invokevirtual 192, 3) := by decide +kernel
theorem dX5_pair_34 : decode cX5_pair 34 = .ok (.return_, 1) := by decide +kernel
theorem dX5_segment_0 : decode cX5_segment 0 = .ok (.aload_n 0, 1) := by decide +kernel
theorem dX5_segment_1 : decode cX5_segment 1 = .ok (.ldc 197, 2) := by decide +kernel
theorem dX5_segment_3 : decode cX5_segment 3 = .ok (.invokevirtual 188, 3) := by decide +kernel
theorem dX5_segment_6 : decode cX5_segment 6 = .ok (.aload_n 0, 1) := by decide +kernel
theorem dX5_segment_7 : decode cX5_segment 7 = .ok (.iload_n 1, 1) := by decide +kernel
theorem dX5_segment_8 : decode cX5_segment 8 = .ok (.iconst 2, 1) := by decide +kernel
theorem dX5_segment_9 : decode cX5_segment 9 = .ok (.invokevirtual 192, 3) := by decide +kernel
theorem dX5_segment_12 : decode cX5_segment 12 = .ok (.aload_n 0, 1) := by decide +kernel
theorem dX5_segment_13 : decode cX5_segment 13 = .ok (.iload_n 1, 1) := by decide +kernel
theorem dX5_segment_14 : decode cX5_segment 14 = .ok (.iconst 1, 1) := by decide +kernel
theorem dX5_segment_15 : decode cX5_segment 15 = .ok (.iadd, 1) := by decide +kernel
theorem dX5_segment_16 : decode cX5_segment 16 = .ok (.invokevirtual 199, 3) := by decide +kernel
theorem dX5_segment_19 : decode cX5_segment 19 = .ok (.return_, 1) := by decide +kernel
theorem dX5_readsOne_0 : decode cX5_readsOne 0 = .ok (.aload_n 0, 1) := by decide +kernel
theorem dX5_readsOne_1 : decode cX5_readsOne 1 = .ok (.iconst 0, 1) := by decide +kernel
theorem dX5_readsOne_2 : decode cX5_readsOne 2 = .ok (.invokevirtual 178, 3) := by decide +kernel
theorem dX5_readsOne_5 : decode cX5_readsOne 5 = .ok (.tableswitch 294 97 116 #[95, 294, 222, 144, 294, 271, 294, 294, 294, 245, 294, 294, 294, 294, 294, 128, 294, 294, 258, 199], 95) := by decide +kernel
theorem dX5_readsOne_100 : decode cX5_readsOne 100 = .ok (.aload_n 0, 1) := by decide +kernel
theorem dX5_readsOne_101 : decode cX5_readsOne 101 = .ok (.getfield 25, 3) := by decide +kernel
theorem dX5_readsOne_104 : decode cX5_readsOne 104 = .ok (.iconst 5, 1) := by decide +kernel
theorem dX5_readsOne_105 : decode cX5_readsOne 105 = .ok (.aload_n 0, 1) := by decide +kernel
theorem dX5_readsOne_106 : decode cX5_readsOne 106 = .ok (.getfield 185, 3) := by decide +kernel
theorem dX5_readsOne_109 : decode cX5_readsOne 109 = .ok (.imul, 1) := by decide +kernel
theorem dX5_readsOne_110 : decode cX5_readsOne 110 = .ok (.bipush 97, 2) := by decide +kernel
theorem dX5_readsOne_112 : decode cX5_readsOne 112 = .ok (.iastore, 1) := by decide +kernel
theorem dX5_readsOne_113 : decode cX5_readsOne 113 = .ok (.aload_n 0, 1) := by decide +kernel
theorem dX5_readsOne_114 : decode cX5_readsOne 114 = .ok (.ldc 203, 2) := by decide +kernel
theorem dX5_readsOne_116 : decode cX5_readsOne 116 = .ok (.invokevirtual 188, 3) := by decide +kernel
theorem dX5_readsOne_119 : decode cX5_readsOne 119 = .ok (.aload_n 0, 1) := by decide +kernel
theorem dX5_readsOne_120 : decode cX5_readsOne 120 = .ok (.iconst 1, 1) := by decide +kernel
theorem dX5_readsOne_121 : decode cX5_readsOne 121 = .ok (.iconst 1, 1) := by decide +kernel
theorem dX5_readsOne_122 : decode cX5_readsOne 122 = .ok (.invokevirtual 192, 3) := by decide +kernel
theorem dX5_readsOne_125 : decode cX5_readsOne 125 = .ok (.aload_n 0, 1) := by decide +kernel
theorem dX5_readsOne_126 : decode cX5_readsOne 126 = .ok (.iconst 2, 1) := by decide +kernel
theorem dX5_readsOne_127 : decode cX5_readsOne 127 = .ok (.invokevirtual 205, 3) := by decide +kernel
theorem dX5_readsOne_130 : decode cX5_readsOne 130 = .ok (.goto 174, 3) := by decide +kernel
theorem dX5_readsOne_133 : decode cX5_readsOne 133 = .ok (.aload_n 0, 1) := by decide +kernel
theorem dX5_readsOne_134 : decode cX5_readsOne 134 = .ok (.bipush 112, 2) := by decide +kernel
theorem dX5_readsOne_136 : decode cX5_readsOne 136 = .ok (.ldc 208, 2) := by decide +kernel
theorem dX5_readsOne_138 : decode cX5_readsOne 138 = .ok (.invokevirtual 210, 3) := by decide +kernel
theorem dX5_readsOne_141 : decode cX5_readsOne 141 = .ok (.aload_n 0, 1) := by decide +kernel
theorem dX5_readsOne_142 : decode cX5_readsOne 142 = .ok (.iconst 3, 1) := by decide +kernel
theorem dX5_readsOne_143 : decode cX5_readsOne 143 = .ok (.invokevirtual 205, 3) := by decide +kernel
theorem dX5_readsOne_146 : decode cX5_readsOne 146 = .ok (.goto 158, 3) := by decide +kernel
theorem dX5_readsOne_149 : decode cX5_readsOne 149 = .ok (.aload_n 0, 1) := by decide +kernel
theorem dX5_readsOne_150 : decode cX5_readsOne 150 = .ok (.iconst 1, 1) := by decide +kernel
theorem dX5_readsOne_151 : decode cX5_readsOne 151 = .ok (.invokevirtual 178, 3) := by decide +kernel
theorem dX5_readsOne_154 : decode cX5_readsOne 154 = .ok (.bipush 121, 2) := by decide +kernel
theorem dX5_readsOne_156 : decode cX5_readsOne 156 = .ok (.if_icmp .ne 37, 3) := by decide +kernel
theorem dX5_readsOne_159 : decode cX5_readsOne 159 = .ok (.aload_n 0, 1) := by decide +kernel
theorem dX5_readsOne_160 : decode cX5_readsOne 160 = .ok (.bipush 121, 2) := by decide +kernel
theorem dX5_readsOne_162 : decode cX5_readsOne 162 = .ok (.ldc 214, 2) := by decide +kernel
theorem dX5_readsOne_164 : decode cX5_readsOne 164 = .ok (.invokevirtual 210, 3) := by decide +kernel
theorem dX5_readsOne_167 : decode cX5_readsOne 167 = .ok (.aload_n 0, 1) := by decide +kernel
theorem dX5_readsOne_168 : decode cX5_readsOne 168 = .ok (.ldc 216, 2) := by decide +kernel
theorem dX5_readsOne_170 : decode cX5_readsOne 170 = .ok (.invokevirtual 188, 3) := by decide +kernel
theorem dX5_readsOne_173 : decode cX5_readsOne 173 = .ok (.aload_n 0, 1) := by decide +kernel
theorem dX5_readsOne_174 : decode cX5_readsOne 174 = .ok (.iconst 3, 1) := by decide +kernel
theorem dX5_readsOne_175 : decode cX5_readsOne 175 = .ok (.iconst 2, 1) := by decide +kernel
theorem dX5_readsOne_176 : decode cX5_readsOne 176 = .ok (.invokevirtual 192, 3) := by decide +kernel
theorem dX5_readsOne_179 : decode cX5_readsOne 179 = .ok (.aload_n 0, 1) := by decide +kernel
theorem dX5_readsOne_180 : decode cX5_readsOne 180 = .ok (.ldc 197, 2) := by decide +kernel
theorem dX5_readsOne_182 : decode cX5_readsOne 182 = .ok (.invokevirtual 188, 3) := by decide +kernel
theorem dX5_readsOne_185 : decode cX5_readsOne 185 = .ok (.aload_n 0, 1) := by decide +kernel
theorem dX5_readsOne_186 : decode cX5_readsOne 186 = .ok (.iconst 4, 1) := by decide +kernel
theorem dX5_readsOne_187 : decode cX5_readsOne 187 = .ok (.invokevirtual 199, 3) := by decide +kernel
theorem dX5_readsOne_190 : decode cX5_readsOne 190 = .ok (.goto 114, 3) := by decide +kernel
theorem dX5_readsOne_193 : decode cX5_readsOne 193 = .ok (.aload_n 0, 1) := by decide +kernel
theorem dX5_readsOne_194 : decode cX5_readsOne 194 = .ok (.bipush 100, 2) := by decide +kernel
theorem dX5_readsOne_196 : decode cX5_readsOne 196 = .ok (.ldc 218, 2) := by decide +kernel
theorem dX5_readsOne_198 : decode cX5_readsOne 198 = .ok (.invokevirtual 210, 3) := by decide +kernel
theorem dX5_readsOne_201 : decode cX5_readsOne 201 = .ok (.goto 103, 3) := by decide +kernel
theorem dX5_readsOne_204 : decode cX5_readsOne 204 = .ok (.aload_n 0, 1) := by decide +kernel
theorem dX5_readsOne_205 : decode cX5_readsOne 205 = .ok (.bipush 116, 2) := by decide +kernel
theorem dX5_readsOne_207 : decode cX5_readsOne 207 = .ok (.ldc 220, 2) := by decide +kernel
theorem dX5_readsOne_209 : decode cX5_readsOne 209 = .ok (.invokevirtual 210, 3) := by decide +kernel
theorem dX5_readsOne_212 : decode cX5_readsOne 212 = .ok (.aload_n 0, 1) := by decide +kernel
theorem dX5_readsOne_213 : decode cX5_readsOne 213 = .ok (.ldc 222, 2) := by decide +kernel
theorem dX5_readsOne_215 : decode cX5_readsOne 215 = .ok (.invokevirtual 188, 3) := by decide +kernel
theorem dX5_readsOne_218 : decode cX5_readsOne 218 = .ok (.aload_n 0, 1) := by decide +kernel
theorem dX5_readsOne_219 : decode cX5_readsOne 219 = .ok (.iconst 3, 1) := by decide +kernel
theorem dX5_readsOne_220 : decode cX5_readsOne 220 = .ok (.iconst 2, 1) := by decide +kernel
theorem dX5_readsOne_221 : decode cX5_readsOne 221 = .ok (.invokevirtual 192, 3) := by decide +kernel
theorem dX5_readsOne_224 : decode cX5_readsOne 224 = .ok (.goto 80, 3) := by decide +kernel
theorem dX5_readsOne_227 : decode cX5_readsOne 227 = .ok (.aload_n 0, 1) := by decide +kernel
theorem dX5_readsOne_228 : decode cX5_readsOne 228 = .ok (.bipush 99, 2) := by decide +kernel
theorem dX5_readsOne_230 : decode cX5_readsOne 230 = .ok (.ldc 224, 2) := by decide +kernel
theorem dX5_readsOne_232 : decode cX5_readsOne 232 = .ok (.invokevirtual 210, 3) := by decide +kernel
theorem dX5_readsOne_235 : decode cX5_readsOne 235 = .ok (.aload_n 0, 1) := by decide +kernel
theorem dX5_readsOne_236 : decode cX5_readsOne 236 = .ok (.ldc 226, 2) := by decide +kernel
theorem dX5_readsOne_238 : decode cX5_readsOne 238 = .ok (.invokevirtual 188, 3) := by decide +kernel
theorem dX5_readsOne_241 : decode cX5_readsOne 241 = .ok (.aload_n 0, 1) := by decide +kernel
theorem dX5_readsOne_242 : decode cX5_readsOne 242 = .ok (.iconst 3, 1) := by decide +kernel
theorem dX5_readsOne_243 : decode cX5_readsOne 243 = .ok (.iconst 1, 1) := by decide +kernel
theorem dX5_readsOne_244 : decode cX5_readsOne 244 = .ok (.invokevirtual 192, 3) := by decide +kernel
theorem dX5_readsOne_247 : decode cX5_readsOne 247 = .ok (.goto 57, 3) := by decide +kernel
theorem dX5_readsOne_250 : decode cX5_readsOne 250 = .ok (.aload_n 0, 1) := by decide +kernel
theorem dX5_readsOne_251 : decode cX5_readsOne 251 = .ok (.bipush 106, 2) := by decide +kernel
theorem dX5_readsOne_253 : decode cX5_readsOne 253 = .ok (.ldc 228, 2) := by decide +kernel
theorem dX5_readsOne_255 : decode cX5_readsOne 255 = .ok (.ldc 230, 2) := by decide +kernel
theorem dX5_readsOne_257 : decode cX5_readsOne 257 = .ok (.invokevirtual 232, 3) := by decide +kernel
theorem dX5_readsOne_260 : decode cX5_readsOne 260 = .ok (.goto 44, 3) := by decide +kernel
theorem dX5_readsOne_263 : decode cX5_readsOne 263 = .ok (.aload_n 0, 1) := by decide +kernel
theorem dX5_readsOne_264 : decode cX5_readsOne 264 = .ok (.bipush 115, 2) := by decide +kernel
theorem dX5_readsOne_266 : decode cX5_readsOne 266 = .ok (.ldc 236, 2) := by decide +kernel
theorem dX5_readsOne_268 : decode cX5_readsOne 268 = .ok (.ldc 238, 2) := by decide +kernel
theorem dX5_readsOne_270 : decode cX5_readsOne 270 = .ok (.invokevirtual 232, 3) := by decide +kernel
theorem dX5_readsOne_273 : decode cX5_readsOne 273 = .ok (.goto 31, 3) := by decide +kernel
theorem dX5_readsOne_276 : decode cX5_readsOne 276 = .ok (.aload_n 0, 1) := by decide +kernel
theorem dX5_readsOne_277 : decode cX5_readsOne 277 = .ok (.bipush 102, 2) := by decide +kernel
theorem dX5_readsOne_279 : decode cX5_readsOne 279 = .ok (.ldc 240, 2) := by decide +kernel
theorem dX5_readsOne_281 : decode cX5_readsOne 281 = .ok (.invokevirtual 210, 3) := by decide +kernel
theorem dX5_readsOne_284 : decode cX5_readsOne 284 = .ok (.aload_n 0, 1) := by decide +kernel
theorem dX5_readsOne_285 : decode cX5_readsOne 285 = .ok (.ldc 216, 2) := by decide +kernel
theorem dX5_readsOne_287 : decode cX5_readsOne 287 = .ok (.invokevirtual 188, 3) := by decide +kernel
theorem dX5_readsOne_290 : decode cX5_readsOne 290 = .ok (.aload_n 0, 1) := by decide +kernel
theorem dX5_readsOne_291 : decode cX5_readsOne 291 = .ok (.iconst 3, 1) := by decide +kernel
theorem dX5_readsOne_292 : decode cX5_readsOne 292 = .ok (.iconst 2, 1) := by decide +kernel
theorem dX5_readsOne_293 : decode cX5_readsOne 293 = .ok (.invokevirtual 192, 3) := by decide +kernel
theorem dX5_readsOne_296 : decode cX5_readsOne 296 = .ok (.goto 8, 3) := by decide +kernel
theorem dX5_readsOne_299 : decode cX5_readsOne 299 = .ok (.aload_n 0, 1) := by decide +kernel
theorem dX5_readsOne_300 : decode cX5_readsOne 300 = .ok (.iconst 1, 1) := by decide +kernel
theorem dX5_readsOne_301 : decode cX5_readsOne 301 = .ok (.putfield 174, 3) := by decide +kernel
theorem dX5_readsOne_304 : decode cX5_readsOne 304 = .ok (.aload_n 0, 1) := by decide +kernel
theorem dX5_readsOne_305 : decode cX5_readsOne 305 = .ok (.dup, 1) := by decide +kernel
theorem dX5_readsOne_306 : decode cX5_readsOne 306 = .ok (.getfield 185, 3) := by decide +kernel
theorem dX5_readsOne_309 : decode cX5_readsOne 309 = .ok (.iconst 1, 1) := by decide +kernel
theorem dX5_readsOne_310 : decode cX5_readsOne 310 = .ok (.iadd, 1) := by decide +kernel
theorem dX5_readsOne_311 : decode cX5_readsOne 311 = .ok (.putfield 185, 3) := by decide +kernel
theorem dX5_readsOne_314 : decode cX5_readsOne 314 = .ok (.return_, 1) := by decide +kernel
theorem dX5_does_0 : decode cX5_does 0 = .ok (.aload_n 0, 1) := by decide +kernel
theorem dX5_does_1 : decode cX5_does 1 = .ok (.getfield 25, 3) := by decide +kernel
theorem dX5_does_4 : decode cX5_does 4 = .ok (.iconst 5, 1) := by decide +kernel
theorem dX5_does_5 : decode cX5_does 5 = .ok (.iload_n 1, 1) := by decide +kernel
theorem dX5_does_6 : decode cX5_does 6 = .ok (.imul, 1) := by decide +kernel
theorem dX5_does_7 : decode cX5_does 7 = .ok (.iconst 1, 1) := by decide +kernel
theorem dX5_does_8 : decode cX5_does 8 = .ok (.iadd, 1) := by decide +kernel
theorem dX5_does_9 : decode cX5_does 9 = .ok (.iaload, 1) := by decide +kernel
theorem dX5_does_10 : decode cX5_does 10 = .ok (.istore_n 2, 1) := by decide +kernel
theorem dX5_does_11 : decode cX5_does 11 = .ok (.aload_n 0, 1) := by decide +kernel
theorem dX5_does_12 : decode cX5_does 12 = .ok (.getfield 25, 3) := by decide +kernel
theorem dX5_does_15 : decode cX5_does 15 = .ok (.iconst 5, 1) := by decide +kernel
theorem dX5_does_16 : decode cX5_does 16 = .ok (.iload_n 1, 1) := by decide +kernel
theorem dX5_does_17 : decode cX5_does 17 = .ok (.imul, 1) := by decide +kernel
theorem dX5_does_18 : decode cX5_does 18 = .ok (.iconst 2, 1) := by decide +kernel
theorem dX5_does_19 : decode cX5_does 19 = .ok (.iadd, 1) := by decide +kernel
theorem dX5_does_20 : decode cX5_does 20 = .ok (.iaload, 1) := by decide +kernel
theorem dX5_does_21 : decode cX5_does 21 = .ok (.istore_n 3, 1) := by decide +kernel
theorem dX5_does_22 : decode cX5_does 22 = .ok (.aload_n 0, 1) := by decide +kernel
theorem dX5_does_23 : decode cX5_does 23 = .ok (.getfield 25, 3) := by decide +kernel
theorem dX5_does_26 : decode cX5_does 26 = .ok (.iconst 5, 1) := by decide +kernel
theorem dX5_does_27 : decode cX5_does 27 = .ok (.iload_n 1, 1) := by decide +kernel
theorem dX5_does_28 : decode cX5_does 28 = .ok (.imul, 1) := by decide +kernel
theorem dX5_does_29 : decode cX5_does 29 = .ok (.iconst 3, 1) := by decide +kernel
theorem dX5_does_30 : decode cX5_does 30 = .ok (.iadd, 1) := by decide +kernel
theorem dX5_does_31 : decode cX5_does 31 = .ok (.iaload, 1) := by decide +kernel
theorem dX5_does_32 : decode cX5_does 32 = .ok (.istore 4, 2) := by decide +kernel
theorem dX5_does_34 : decode cX5_does 34 = .ok (.aload_n 0, 1) := by decide +kernel
theorem dX5_does_35 : decode cX5_does 35 = .ok (.getfield 25, 3) := by decide +kernel
theorem dX5_does_38 : decode cX5_does 38 = .ok (.iconst 5, 1) := by decide +kernel
theorem dX5_does_39 : decode cX5_does 39 = .ok (.iload_n 1, 1) := by decide +kernel
theorem dX5_does_40 : decode cX5_does 40 = .ok (.imul, 1) := by decide +kernel
theorem dX5_does_41 : decode cX5_does 41 = .ok (.iconst 4, 1) := by decide +kernel
theorem dX5_does_42 : decode cX5_does 42 = .ok (.iadd, 1) := by decide +kernel
theorem dX5_does_43 : decode cX5_does 43 = .ok (.iaload, 1) := by decide +kernel
theorem dX5_does_44 : decode cX5_does 44 = .ok (.istore 5, 2) := by decide +kernel
theorem dX5_does_46 : decode cX5_does 46 = .ok (.aload_n 0, 1) := by decide +kernel
theorem dX5_does_47 : decode cX5_does 47 = .ok (.getfield 25, 3) := by decide +kernel
theorem dX5_does_50 : decode cX5_does 50 = .ok (.iconst 5, 1) := by decide +kernel
theorem dX5_does_51 : decode cX5_does 51 = .ok (.iload_n 1, 1) := by decide +kernel
theorem dX5_does_52 : decode cX5_does 52 = .ok (.imul, 1) := by decide +kernel
theorem dX5_does_53 : decode cX5_does 53 = .ok (.iaload, 1) := by decide +kernel
theorem dX5_does_54 : decode cX5_does 54 = .ok (.tableswitch 200 97 121 #[114, 200, 177, 161, 200, 200, 200, 200, 200, 186, 200, 200, 200, 200, 200, 139, 200, 200, 193, 168, 200, 200, 200, 200, 150], 114) := by decide +kernel
theorem dX5_does_168 : decode cX5_does 168 = .ok (.aload_n 0, 1) := by decide +kernel
theorem dX5_does_169 : decode cX5_does 169 = .ok (.iload_n 2, 1) := by decide +kernel
theorem dX5_does_170 : decode cX5_does 170 = .ok (.iload_n 2, 1) := by decide +kernel
theorem dX5_does_171 : decode cX5_does 171 = .ok (.invokestatic 58, 3) := by decide +kernel
theorem dX5_does_174 : decode cX5_does 174 = .ok (.ifCond .eq 11, 3) := by decide +kernel
theorem dX5_does_177 : decode cX5_does 177 = .ok (.aload_n 0, 1) := by decide +kernel
theorem dX5_does_178 : decode cX5_does 178 = .ok (.iload_n 2, 1) := by decide +kernel
theorem dX5_does_179 : decode cX5_does 179 = .ok (.invokevirtual 62, 3) := by decide +kernel
theorem dX5_does_182 : decode cX5_does 182 = .ok (.goto 4, 3) := by decide +kernel
theorem dX5_does_185 : decode cX5_does 185 = .ok (.iconst 0, 1) := by decide +kernel
theorem dX5_does_186 : decode cX5_does 186 = .ok (.iload_n 3, 1) := by decide +kernel
theorem dX5_does_187 : decode cX5_does 187 = .ok (.iload 4, 2) := by decide +kernel
theorem dX5_does_189 : decode cX5_does 189 = .ok (.invokevirtual 102, 3) := by decide +kernel
theorem dX5_does_192 : decode cX5_does 192 = .ok (.ireturn, 1) := by decide +kernel
theorem dX5_does_193 : decode cX5_does 193 = .ok (.aload_n 0, 1) := by decide +kernel
theorem dX5_does_194 : decode cX5_does 194 = .ok (.iload_n 2, 1) := by decide +kernel
theorem dX5_does_195 : decode cX5_does 195 = .ok (.iload_n 3, 1) := by decide +kernel
theorem dX5_does_196 : decode cX5_does 196 = .ok (.iload 4, 2) := by decide +kernel
theorem dX5_does_198 : decode cX5_does 198 = .ok (.iload 5, 2) := by decide +kernel
theorem dX5_does_200 : decode cX5_does 200 = .ok (.invokevirtual 102, 3) := by decide +kernel
theorem dX5_does_203 : decode cX5_does 203 = .ok (.ireturn, 1) := by decide +kernel
theorem dX5_does_204 : decode cX5_does 204 = .ok (.aload_n 0, 1) := by decide +kernel
theorem dX5_does_205 : decode cX5_does 205 = .ok (.iload_n 2, 1) := by decide +kernel
theorem dX5_does_206 : decode cX5_does 206 = .ok (.iload_n 3, 1) := by decide +kernel
theorem dX5_does_207 : decode cX5_does 207 = .ok (.iload 4, 2) := by decide +kernel
theorem dX5_does_209 : decode cX5_does 209 = .ok (.iload 5, 2) := by decide +kernel
theorem dX5_does_211 : decode cX5_does 211 = .ok (.invokevirtual 131, 3) := by decide +kernel
theorem dX5_does_214 : decode cX5_does 214 = .ok (.ireturn, 1) := by decide +kernel
theorem dX5_does_215 : decode cX5_does 215 = .ok (.aload_n 0, 1) := by decide +kernel
theorem dX5_does_216 : decode cX5_does 216 = .ok (.iload_n 2, 1) := by decide +kernel
theorem dX5_does_217 : decode cX5_does 217 = .ok (.iload_n 3, 1) := by decide +kernel
theorem dX5_does_218 : decode cX5_does 218 = .ok (.invokevirtual 109, 3) := by decide +kernel
theorem dX5_does_221 : decode cX5_does 221 = .ok (.ireturn, 1) := by decide +kernel
theorem dX5_does_222 : decode cX5_does 222 = .ok (.aload_n 0, 1) := by decide +kernel
theorem dX5_does_223 : decode cX5_does 223 = .ok (.iload_n 2, 1) := by decide +kernel
theorem dX5_does_224 : decode cX5_does 224 = .ok (.iload_n 3, 1) := by decide +kernel
theorem dX5_does_225 : decode cX5_does 225 = .ok (.iload 4, 2) := by decide +kernel
theorem dX5_does_227 : decode cX5_does 227 = .ok (.invokevirtual 113, 3) := by decide +kernel
theorem dX5_does_230 : decode cX5_does 230 = .ok (.ireturn, 1) := by decide +kernel
theorem dX5_does_231 : decode cX5_does 231 = .ok (.aload_n 0, 1) := by decide +kernel
theorem dX5_does_232 : decode cX5_does 232 = .ok (.iload_n 2, 1) := by decide +kernel
theorem dX5_does_233 : decode cX5_does 233 = .ok (.iload_n 3, 1) := by decide +kernel
theorem dX5_does_234 : decode cX5_does 234 = .ok (.iload 4, 2) := by decide +kernel
theorem dX5_does_236 : decode cX5_does 236 = .ok (.invokevirtual 119, 3) := by decide +kernel
theorem dX5_does_239 : decode cX5_does 239 = .ok (.ireturn, 1) := by decide +kernel
theorem dX5_does_240 : decode cX5_does 240 = .ok (.aload_n 0, 1) := by decide +kernel
theorem dX5_does_241 : decode cX5_does 241 = .ok (.iload_n 2, 1) := by decide +kernel
theorem dX5_does_242 : decode cX5_does 242 = .ok (.iload_n 3, 1) := by decide +kernel
theorem dX5_does_243 : decode cX5_does 243 = .ok (.invokevirtual 122, 3) := by decide +kernel
theorem dX5_does_246 : decode cX5_does 246 = .ok (.ireturn, 1) := by decide +kernel
theorem dX5_does_247 : decode cX5_does 247 = .ok (.aload_n 0, 1) := by decide +kernel
theorem dX5_does_248 : decode cX5_does 248 = .ok (.iload_n 2, 1) := by decide +kernel
theorem dX5_does_249 : decode cX5_does 249 = .ok (.iload_n 3, 1) := by decide +kernel
theorem dX5_does_250 : decode cX5_does 250 = .ok (.invokevirtual 125, 3) := by decide +kernel
theorem dX5_does_253 : decode cX5_does 253 = .ok (.ireturn, 1) := by decide +kernel
theorem dX5_does_254 : decode cX5_does 254 = .ok (.aload_n 0, 1) := by decide +kernel
theorem dX5_does_255 : decode cX5_does 255 = .ok (.iload_n 2, 1) := by decide +kernel
theorem dX5_does_256 : decode cX5_does 256 = .ok (.iload_n 3, 1) := by decide +kernel
theorem dX5_does_257 : decode cX5_does 257 = .ok (.iload 4, 2) := by decide +kernel
theorem dX5_does_259 : decode cX5_does 259 = .ok (.invokevirtual 128, 3) := by decide +kernel
theorem dX5_does_262 : decode cX5_does 262 = .ok (.ireturn, 1) := by decide +kernel
theorem dX5_run_0 : decode cX5_run 0 = .ok (.aload_n 0, 1) := by decide +kernel
theorem dX5_run_1 : decode cX5_run 1 = .ok (.invokevirtual 99, 3) := by decide +kernel
theorem dX5_run_4 : decode cX5_run 4 = .ok (.aload_n 0, 1) := by decide +kernel
theorem dX5_run_5 : decode cX5_run 5 = .ok (.iconst 0, 1) := by decide +kernel
theorem dX5_run_6 : decode cX5_run 6 = .ok (.putfield 162, 3) := by decide +kernel
theorem dX5_run_9 : decode cX5_run 9 = .ok (.aload_n 0, 1) := by decide +kernel
theorem dX5_run_10 : decode cX5_run 10 = .ok (.aload_n 0, 1) := by decide +kernel
theorem dX5_run_11 : decode cX5_run 11 = .ok (.getfield 159, 3) := by decide +kernel
theorem dX5_run_14 : decode cX5_run 14 = .ok (.putfield 165, 3) := by decide +kernel
theorem dX5_run_17 : decode cX5_run 17 = .ok (.aload_n 0, 1) := by decide +kernel
theorem dX5_run_18 : decode cX5_run 18 = .ok (.iconst 0, 1) := by decide +kernel
theorem dX5_run_19 : decode cX5_run 19 = .ok (.putfield 159, 3) := by decide +kernel
theorem dX5_run_22 : decode cX5_run 22 = .ok (.aload_n 0, 1) := by decide +kernel
theorem dX5_run_23 : decode cX5_run 23 = .ok (.iconst 0, 1) := by decide +kernel
theorem dX5_run_24 : decode cX5_run 24 = .ok (.putfield 185, 3) := by decide +kernel
theorem dX5_run_27 : decode cX5_run 27 = .ok (.aload_n 0, 1) := by decide +kernel
theorem dX5_run_28 : decode cX5_run 28 = .ok (.iconst 0, 1) := by decide +kernel
theorem dX5_run_29 : decode cX5_run 29 = .ok (.putfield 174, 3) := by decide +kernel
theorem dX5_run_32 : decode cX5_run 32 = .ok (.aload_n 0, 1) := by decide +kernel
theorem dX5_run_33 : decode cX5_run 33 = .ok (.invokevirtual 242, 3) := by decide +kernel
theorem dX5_run_36 : decode cX5_run 36 = .ok (.aload_n 0, 1) := by decide +kernel
theorem dX5_run_37 : decode cX5_run 37 = .ok (.getfield 174, 3) := by decide +kernel
theorem dX5_run_40 : decode cX5_run 40 = .ok (.ifCond .ne 30, 3) := by decide +kernel
theorem dX5_run_43 : decode cX5_run 43 = .ok (.aload_n 0, 1) := by decide +kernel
theorem dX5_run_44 : decode cX5_run 44 = .ok (.iconst 0, 1) := by decide +kernel
theorem dX5_run_45 : decode cX5_run 45 = .ok (.invokevirtual 178, 3) := by decide +kernel
theorem dX5_run_48 : decode cX5_run 48 = .ok (.bipush 59, 2) := by decide +kernel
theorem dX5_run_50 : decode cX5_run 50 = .ok (.if_icmp .ne 20, 3) := by decide +kernel
theorem dX5_run_53 : decode cX5_run 53 = .ok (.aload_n 0, 1) := by decide +kernel
theorem dX5_run_54 : decode cX5_run 54 = .ok (.dup, 1) := by decide +kernel
theorem dX5_run_55 : decode cX5_run 55 = .ok (.getfield 162, 3) := by decide +kernel
theorem dX5_run_58 : decode cX5_run 58 = .ok (.iconst 1, 1) := by decide +kernel
theorem dX5_run_59 : decode cX5_run 59 = .ok (.iadd, 1) := by decide +kernel
theorem dX5_run_60 : decode cX5_run 60 = .ok (.putfield 162, 3) := by decide +kernel
theorem dX5_run_63 : decode cX5_run 63 = .ok (.aload_n 0, 1) := by decide +kernel
theorem dX5_run_64 : decode cX5_run 64 = .ok (.invokevirtual 242, 3) := by decide +kernel
theorem dX5_run_67 : decode cX5_run 67 = .ok (.goto (-31), 3) := by decide +kernel
theorem dX5_run_70 : decode cX5_run 70 = .ok (.aload_n 0, 1) := by decide +kernel
theorem dX5_run_71 : decode cX5_run 71 = .ok (.getfield 174, 3) := by decide +kernel
theorem dX5_run_74 : decode cX5_run 74 = .ok (.ifCond .ne 14, 3) := by decide +kernel
theorem dX5_run_77 : decode cX5_run 77 = .ok (.aload_n 0, 1) := by decide +kernel
theorem dX5_run_78 : decode cX5_run 78 = .ok (.getfield 162, 3) := by decide +kernel
theorem dX5_run_81 : decode cX5_run 81 = .ok (.aload_n 0, 1) := by decide +kernel
theorem dX5_run_82 : decode cX5_run 82 = .ok (.getfield 165, 3) := by decide +kernel
theorem dX5_run_85 : decode cX5_run 85 = .ok (.if_icmp .ge 17, 3) := by decide +kernel
theorem dX5_run_88 : decode cX5_run 88 = .ok (.aload_n 0, 1) := by decide +kernel
theorem dX5_run_89 : decode cX5_run 89 = .ok (.aload_n 0, 1) := by decide +kernel
theorem dX5_run_90 : decode cX5_run 90 = .ok (.getfield 162, 3) := by decide +kernel
theorem dX5_run_93 : decode cX5_run 93 = .ok (.putfield 31, 3) := by decide +kernel
theorem dX5_run_96 : decode cX5_run 96 = .ok (.aload_n 0, 1) := by decide +kernel
theorem dX5_run_97 : decode cX5_run 97 = .ok (.iconst 1, 1) := by decide +kernel
theorem dX5_run_98 : decode cX5_run 98 = .ok (.invokevirtual 51, 3) := by decide +kernel
theorem dX5_run_101 : decode cX5_run 101 = .ok (.ireturn, 1) := by decide +kernel
theorem dX5_run_102 : decode cX5_run 102 = .ok (.iconst 0, 1) := by decide +kernel
theorem dX5_run_103 : decode cX5_run 103 = .ok (.istore_n 1, 1) := by decide +kernel
theorem dX5_run_104 : decode cX5_run 104 = .ok (.iload_n 1, 1) := by decide +kernel
theorem dX5_run_105 : decode cX5_run 105 = .ok (.aload_n 0, 1) := by decide +kernel
theorem dX5_run_106 : decode cX5_run 106 = .ok (.getfield 185, 3) := by decide +kernel
theorem dX5_run_109 : decode cX5_run 109 = .ok (.if_icmp .ge 58, 3) := by decide +kernel
theorem dX5_run_112 : decode cX5_run 112 = .ok (.aload_n 0, 1) := by decide +kernel
theorem dX5_run_113 : decode cX5_run 113 = .ok (.iload_n 1, 1) := by decide +kernel
theorem dX5_run_114 : decode cX5_run 114 = .ok (.invokevirtual 245, 3) := by decide +kernel
theorem dX5_run_117 : decode cX5_run 117 = .ok (.ifCond .ne 6, 3) := by decide +kernel
theorem dX5_run_120 : decode cX5_run 120 = .ok (.goto 41, 3) := by decide +kernel
theorem dX5_run_123 : decode cX5_run 123 = .ok (.iconst 0, 1) := by decide +kernel
theorem dX5_run_124 : decode cX5_run 124 = .ok (.istore_n 2, 1) := by decide +kernel
theorem dX5_run_125 : decode cX5_run 125 = .ok (.iload_n 2, 1) := by decide +kernel
theorem dX5_run_126 : decode cX5_run 126 = .ok (.sipush 486, 3) := by decide +kernel
theorem dX5_run_129 : decode cX5_run 129 = .ok (.if_icmp .ge 21, 3) := by decide +kernel
theorem dX5_run_132 : decode cX5_run 132 = .ok (.aload_n 0, 1) := by decide +kernel
theorem dX5_run_133 : decode cX5_run 133 = .ok (.getfield 7, 3) := by decide +kernel
theorem dX5_run_136 : decode cX5_run 136 = .ok (.iload_n 2, 1) := by decide +kernel
theorem dX5_run_137 : decode cX5_run 137 = .ok (.aload_n 0, 1) := by decide +kernel
theorem dX5_run_138 : decode cX5_run 138 = .ok (.getfield 13, 3) := by decide +kernel
theorem dX5_run_141 : decode cX5_run 141 = .ok (.iload_n 2, 1) := by decide +kernel
theorem dX5_run_142 : decode cX5_run 142 = .ok (.iaload, 1) := by decide +kernel
theorem dX5_run_143 : decode cX5_run 143 = .ok (.iastore, 1) := by decide +kernel
theorem dX5_run_144 : decode cX5_run 144 = .ok (.iinc 2 1, 3) := by decide +kernel
theorem dX5_run_147 : decode cX5_run 147 = .ok (.goto (-22), 3) := by decide +kernel
theorem dX5_run_150 : decode cX5_run 150 = .ok (.aload_n 0, 1) := by decide +kernel
theorem dX5_run_151 : decode cX5_run 151 = .ok (.iload_n 1, 1) := by decide +kernel
theorem dX5_run_152 : decode cX5_run 152 = .ok (.putfield 35, 3) := by decide +kernel
theorem dX5_run_155 : decode cX5_run 155 = .ok (.aload_n 0, 1) := by decide +kernel
theorem dX5_run_156 : decode cX5_run 156 = .ok (.iconst 2, 1) := by decide +kernel
theorem dX5_run_157 : decode cX5_run 157 = .ok (.invokevirtual 51, 3) := by decide +kernel
theorem dX5_run_160 : decode cX5_run 160 = .ok (.ireturn, 1) := by decide +kernel
theorem dX5_run_161 : decode cX5_run 161 = .ok (.iinc 1 1, 3) := by decide +kernel
theorem dX5_run_164 : decode cX5_run 164 = .ok (.goto (-60), 3) := by decide +kernel
theorem dX5_run_167 : decode cX5_run 167 = .ok (.aload_n 0, 1) := by decide +kernel
theorem dX5_run_168 : decode cX5_run 168 = .ok (.aload_n 0, 1) := by decide +kernel
theorem dX5_run_169 : decode cX5_run 169 = .ok (.getfield 185, 3) := by decide +kernel
theorem dX5_run_172 : decode cX5_run 172 = .ok (.invokevirtual 47, 3) := by decide +kernel
theorem dX5_run_175 : decode cX5_run 175 = .ok (.ireturn, 1) := by decide +kernel
theorem dX5_errorPosition_0 : decode cX5_errorPosition 0 = .ok (.aload_n 0, 1) := by decide +kernel
theorem dX5_errorPosition_1 : decode cX5_errorPosition 1 = .ok (.iconst 0, 1) := by decide +kernel
theorem dX5_errorPosition_2 : decode cX5_errorPosition 2 = .ok (.putfield 38, 3) := by decide +kernel
theorem dX5_errorPosition_5 : decode cX5_errorPosition 5 = .ok (.aload_n 0, 1) := by decide +kernel
theorem dX5_errorPosition_6 : decode cX5_errorPosition 6 = .ok (.getfield 31, 3) := by decide +kernel
theorem dX5_errorPosition_9 : decode cX5_errorPosition 9 = .ok (.iconst (-1), 1) := by decide +kernel
theorem dX5_errorPosition_10 : decode cX5_errorPosition 10 = .ok (.if_icmp .ne 11, 3) := by decide +kernel
theorem dX5_errorPosition_13 : decode cX5_errorPosition 13 = .ok (.aload_n 0, 1) := by decide +kernel
theorem dX5_errorPosition_14 : decode cX5_errorPosition 14 = .ok (.iconst 1, 1) := by decide +kernel
theorem dX5_errorPosition_15 : decode cX5_errorPosition 15 = .ok (.invokevirtual 51, 3) := by decide +kernel
theorem dX5_errorPosition_18 : decode cX5_errorPosition 18 = .ok (.goto 7, 3) := by decide +kernel
theorem dX5_errorPosition_21 : decode cX5_errorPosition 21 = .ok (.aload_n 0, 1) := by decide +kernel
theorem dX5_errorPosition_22 : decode cX5_errorPosition 22 = .ok (.getfield 31, 3) := by decide +kernel
theorem dX5_errorPosition_25 : decode cX5_errorPosition 25 = .ok (.ireturn, 1) := by decide +kernel
theorem dX5_failedCommand_0 : decode cX5_failedCommand 0 = .ok (.aload_n 0, 1) := by decide +kernel
theorem dX5_failedCommand_1 : decode cX5_failedCommand 1 = .ok (.iconst 0, 1) := by decide +kernel
theorem dX5_failedCommand_2 : decode cX5_failedCommand 2 = .ok (.putfield 38, 3) := by decide +kernel
theorem dX5_failedCommand_5 : decode cX5_failedCommand 5 = .ok (.aload_n 0, 1) := by decide +kernel
theorem dX5_failedCommand_6 : decode cX5_failedCommand 6 = .ok (.getfield 35, 3) := by decide +kernel
theorem dX5_failedCommand_9 : decode cX5_failedCommand 9 = .ok (.iconst (-1), 1) := by decide +kernel
theorem dX5_failedCommand_10 : decode cX5_failedCommand 10 = .ok (.if_icmp .ne 11, 3) := by decide +kernel
theorem dX5_failedCommand_13 : decode cX5_failedCommand 13 = .ok (.aload_n 0, 1) := by decide +kernel
theorem dX5_failedCommand_14 : decode cX5_failedCommand 14 = .ok (.iconst 1, 1) := by decide +kernel
theorem dX5_failedCommand_15 : decode cX5_failedCommand 15 = .ok (.invokevirtual 51, 3) := by decide +kernel
theorem dX5_failedCommand_18 : decode cX5_failedCommand 18 = .ok (.goto 7, 3) := by decide +kernel
theorem dX5_failedCommand_21 : decode cX5_failedCommand 21 = .ok (.aload_n 0, 1) := by decide +kernel
theorem dX5_failedCommand_22 : decode cX5_failedCommand 22 = .ok (.getfield 35, 3) := by decide +kernel
theorem dX5_failedCommand_25 : decode cX5_failedCommand 25 = .ok (.ireturn, 1) := by decide +kernel
theorem dX5_writes_0 : decode cX5_writes 0 = .ok (.aload_n 0, 1) := by decide +kernel
theorem dX5_writes_1 : decode cX5_writes 1 = .ok (.getfield 28, 3) := by decide +kernel
theorem dX5_writes_4 : decode cX5_writes 4 = .ok (.aload_n 0, 1) := by decide +kernel
theorem dX5_writes_5 : decode cX5_writes 5 = .ok (.getfield 248, 3) := by decide +kernel
theorem dX5_writes_8 : decode cX5_writes 8 = .ok (.iload_n 1, 1) := by decide +kernel
theorem dX5_writes_9 : decode cX5_writes 9 = .ok (.iastore, 1) := by decide +kernel
theorem dX5_writes_10 : decode cX5_writes 10 = .ok (.aload_n 0, 1) := by decide +kernel
theorem dX5_writes_11 : decode cX5_writes 11 = .ok (.dup, 1) := by decide +kernel
theorem dX5_writes_12 : decode cX5_writes 12 = .ok (.getfield 248, 3) := by decide +kernel
theorem dX5_writes_15 : decode cX5_writes 15 = .ok (.iconst 1, 1) := by decide +kernel
theorem dX5_writes_16 : decode cX5_writes 16 = .ok (.iadd, 1) := by decide +kernel
theorem dX5_writes_17 : decode cX5_writes 17 = .ok (.putfield 248, 3) := by decide +kernel
theorem dX5_writes_20 : decode cX5_writes 20 = .ok (.return_, 1) := by decide +kernel
theorem dX5_describeReel_0 : decode cX5_describeReel 0 = .ok (.aload_n 0, 1) := by decide +kernel
theorem dX5_describeReel_1 : decode cX5_describeReel 1 = .ok (.iload_n 1, 1) := by decide +kernel
theorem dX5_describeReel_2 : decode cX5_describeReel 2 = .ok (.invokestatic 58, 3) := by decide +kernel
theorem dX5_describeReel_5 : decode cX5_describeReel 5 = .ok (.ifCond .eq 7, 3) := by decide +kernel
theorem dX5_describeReel_8 : decode cX5_describeReel 8 = .ok (.iconst 0, 1) := by decide +kernel
theorem dX5_describeReel_9 : decode cX5_describeReel 9 = .ok (.goto 4, 3) := by decide +kernel
theorem dX5_describeReel_12 : decode cX5_describeReel 12 = .ok (.iconst 1, 1) := by decide +kernel
theorem dX5_describeReel_13 : decode cX5_describeReel 13 = .ok (.putfield 38, 3) := by decide +kernel
theorem dX5_describeReel_16 : decode cX5_describeReel 16 = .ok (.aload_n 0, 1) := by decide +kernel
theorem dX5_describeReel_17 : decode cX5_describeReel 17 = .ok (.getfield 38, 3) := by decide +kernel
theorem dX5_describeReel_20 : decode cX5_describeReel 20 = .ok (.ifCond .le 5, 3) := by decide +kernel
theorem dX5_describeReel_23 : decode cX5_describeReel 23 = .ok (.iconst 0, 1) := by decide +kernel
theorem dX5_describeReel_24 : decode cX5_describeReel 24 = .ok (.ireturn, 1) := by decide +kernel
theorem dX5_describeReel_25 : decode cX5_describeReel 25 = .ok (.aload_n 0, 1) := by decide +kernel
theorem dX5_describeReel_26 : decode cX5_describeReel 26 = .ok (.iconst 0, 1) := by decide +kernel
theorem dX5_describeReel_27 : decode cX5_describeReel 27 = .ok (.putfield 248, 3) := by decide +kernel
theorem dX5_describeReel_30 : decode cX5_describeReel 30 = .ok (.iconst 0, 1) := by decide +kernel
theorem dX5_describeReel_31 : decode cX5_describeReel 31 = .ok (.istore_n 2, 1) := by decide +kernel
theorem dX5_describeReel_32 : decode cX5_describeReel 32 = .ok (.iload_n 2, 1) := by decide +kernel
theorem dX5_describeReel_33 : decode cX5_describeReel 33 = .ok (.aload_n 0, 1) := by decide +kernel
theorem dX5_describeReel_34 : decode cX5_describeReel 34 = .ok (.iload_n 1, 1) := by decide +kernel
theorem dX5_describeReel_35 : decode cX5_describeReel 35 = .ok (.invokevirtual 62, 3) := by decide +kernel
theorem dX5_describeReel_38 : decode cX5_describeReel 38 = .ok (.if_icmp .ge 85, 3) := by decide +kernel
theorem dX5_describeReel_41 : decode cX5_describeReel 41 = .ok (.iload_n 2, 1) := by decide +kernel
theorem dX5_describeReel_42 : decode cX5_describeReel 42 = .ok (.ifCond .le 25, 3) := by decide +kernel
theorem dX5_describeReel_45 : decode cX5_describeReel 45 = .ok (.aload_n 0, 1) := by decide +kernel
theorem dX5_describeReel_46 : decode cX5_describeReel 46 = .ok (.aload_n 0, 1) := by decide +kernel
theorem dX5_describeReel_47 : decode cX5_describeReel 47 = .ok (.iload_n 1, 1) := by decide +kernel
theorem dX5_describeReel_48 : decode cX5_describeReel 48 = .ok (.iload_n 2, 1) := by decide +kernel
theorem dX5_describeReel_49 : decode cX5_describeReel 49 = .ok (.iconst 1, 1) := by decide +kernel
theorem dX5_describeReel_50 : decode cX5_describeReel 50 = .ok (.isub, 1) := by decide +kernel
theorem dX5_describeReel_51 : decode cX5_describeReel 51 = .ok (.invokevirtual 143, 3) := by decide +kernel
theorem dX5_describeReel_54 : decode cX5_describeReel 54 = .ok (.ifCond .eq 8, 3) := by decide +kernel
theorem dX5_describeReel_57 : decode cX5_describeReel 57 = .ok (.bipush 61, 2) := by decide +kernel
theorem dX5_describeReel_59 : decode cX5_describeReel 59 = .ok (.goto 5, 3) := by decide +kernel
theorem dX5_describeReel_62 : decode cX5_describeReel 62 = .ok (.bipush 45, 2) := by decide +kernel
theorem dX5_describeReel_64 : decode cX5_describeReel 64 = .ok (.invokevirtual 251, 3) := by decide +kernel
theorem dX5_describeReel_67 : decode cX5_describeReel 67 = .ok (.aload_n 0, 1) := by decide +kernel
theorem dX5_describeReel_68 : decode cX5_describeReel 68 = .ok (.iload_n 1, 1) := by decide +kernel
theorem dX5_describeReel_69 : decode cX5_describeReel 69 = .ok (.iload_n 2, 1) := by decide +kernel
theorem dX5_describeReel_70 : decode cX5_describeReel 70 = .ok (.iconst 0, 1) := by decide +kernel
theorem dX5_describeReel_71 : decode cX5_describeReel 71 = .ok (.invokevirtual 75, 3) := by decide +kernel
theorem dX5_describeReel_74 : decode cX5_describeReel 74 = .ok (.istore_n 3, 1) := by decide +kernel
theorem dX5_describeReel_75 : decode cX5_describeReel 75 = .ok (.iload_n 3, 1) := by decide +kernel
theorem dX5_describeReel_76 : decode cX5_describeReel 76 = .ok (.bipush 9, 2) := by decide +kernel
theorem dX5_describeReel_78 : decode cX5_describeReel 78 = .ok (.if_icmp .le 14, 3) := by decide +kernel
theorem dX5_describeReel_81 : decode cX5_describeReel 81 = .ok (.aload_n 0, 1) := by decide +kernel
theorem dX5_describeReel_82 : decode cX5_describeReel 82 = .ok (.bipush 48, 2) := by decide +kernel
theorem dX5_describeReel_84 : decode cX5_describeReel 84 = .ok (.iload_n 3, 1) := by decide +kernel
theorem dX5_describeReel_85 : decode cX5_describeReel 85 = .ok (.bipush 10, 2) := by decide +kernel
theorem dX5_describeReel_87 : decode cX5_describeReel 87 = .ok (.idiv, 1) := by decide +kernel
theorem dX5_describeReel_88 : decode cX5_describeReel 88 = .ok (.iadd, 1) := by decide +kernel
theorem dX5_describeReel_89 : decode cX5_describeReel 89 = .ok (.invokevirtual 251, 3) := by decide +kernel
theorem dX5_describeReel_92 : decode cX5_describeReel 92 = .ok (.aload_n 0, 1) := by decide +kernel
theorem dX5_describeReel_93 : decode cX5_describeReel 93 = .ok (.bipush 48, 2) := by decide +kernel
theorem dX5_describeReel_95 : decode cX5_describeReel 95 = .ok (.iload_n 3, 1) := by decide +kernel
theorem dX5_describeReel_96 : decode cX5_describeReel 96 = .ok (.bipush 10, 2) := by decide +kernel
theorem dX5_describeReel_98 : decode cX5_describeReel 98 = .ok (.irem, 1) := by decide +kernel
theorem dX5_describeReel_99 : decode cX5_describeReel 99 = .ok (.iadd, 1) := by decide +kernel
theorem dX5_describeReel_100 : decode cX5_describeReel 100 = .ok (.invokevirtual 251, 3) := by decide +kernel
theorem dX5_describeReel_103 : decode cX5_describeReel 103 = .ok (.aload_n 0, 1) := by decide +kernel
theorem dX5_describeReel_104 : decode cX5_describeReel 104 = .ok (.bipush 97, 2) := by decide +kernel
theorem dX5_describeReel_106 : decode cX5_describeReel 106 = .ok (.aload_n 0, 1) := by decide +kernel
theorem dX5_describeReel_107 : decode cX5_describeReel 107 = .ok (.iload_n 1, 1) := by decide +kernel
theorem dX5_describeReel_108 : decode cX5_describeReel 108 = .ok (.iload_n 2, 1) := by decide +kernel
theorem dX5_describeReel_109 : decode cX5_describeReel 109 = .ok (.iconst 1, 1) := by decide +kernel
theorem dX5_describeReel_110 : decode cX5_describeReel 110 = .ok (.invokevirtual 75, 3) := by decide +kernel
theorem dX5_describeReel_113 : decode cX5_describeReel 113 = .ok (.iadd, 1) := by decide +kernel
theorem dX5_describeReel_114 : decode cX5_describeReel 114 = .ok (.invokevirtual 251, 3) := by decide +kernel
theorem dX5_describeReel_117 : decode cX5_describeReel 117 = .ok (.iinc 2 1, 3) := by decide +kernel
theorem dX5_describeReel_120 : decode cX5_describeReel 120 = .ok (.goto (-88), 3) := by decide +kernel
theorem dX5_describeReel_123 : decode cX5_describeReel 123 = .ok (.aload_n 0, 1) := by decide +kernel
theorem dX5_describeReel_124 : decode cX5_describeReel 124 = .ok (.getfield 248, 3) := by decide +kernel
theorem dX5_describeReel_127 : decode cX5_describeReel 127 = .ok (.ireturn, 1) := by decide +kernel
theorem dX5_lineAt_0 : decode cX5_lineAt 0 = .ok (.aload_n 0, 1) := by decide +kernel
theorem dX5_lineAt_1 : decode cX5_lineAt 1 = .ok (.iload_n 1, 1) := by decide +kernel
theorem dX5_lineAt_2 : decode cX5_lineAt 2 = .ok (.iconst 0, 1) := by decide +kernel
theorem dX5_lineAt_3 : decode cX5_lineAt 3 = .ok (.aload_n 0, 1) := by decide +kernel
theorem dX5_lineAt_4 : decode cX5_lineAt 4 = .ok (.getfield 248, 3) := by decide +kernel
theorem dX5_lineAt_7 : decode cX5_lineAt 7 = .ok (.iconst 1, 1) := by decide +kernel
theorem dX5_lineAt_8 : decode cX5_lineAt 8 = .ok (.isub, 1) := by decide +kernel
theorem dX5_lineAt_9 : decode cX5_lineAt 9 = .ok (.invokestatic 54, 3) := by decide +kernel
theorem dX5_lineAt_12 : decode cX5_lineAt 12 = .ok (.ifCond .eq 7, 3) := by decide +kernel
theorem dX5_lineAt_15 : decode cX5_lineAt 15 = .ok (.iconst 0, 1) := by decide +kernel
theorem dX5_lineAt_16 : decode cX5_lineAt 16 = .ok (.goto 4, 3) := by decide +kernel
theorem dX5_lineAt_19 : decode cX5_lineAt 19 = .ok (.iconst 1, 1) := by decide +kernel
theorem dX5_lineAt_20 : decode cX5_lineAt 20 = .ok (.putfield 38, 3) := by decide +kernel
theorem dX5_lineAt_23 : decode cX5_lineAt 23 = .ok (.aload_n 0, 1) := by decide +kernel
theorem dX5_lineAt_24 : decode cX5_lineAt 24 = .ok (.getfield 38, 3) := by decide +kernel
theorem dX5_lineAt_27 : decode cX5_lineAt 27 = .ok (.ifCond .le 7, 3) := by decide +kernel
theorem dX5_lineAt_30 : decode cX5_lineAt 30 = .ok (.iconst 0, 1) := by decide +kernel
theorem dX5_lineAt_31 : decode cX5_lineAt 31 = .ok (.goto 10, 3) := by decide +kernel
theorem dX5_lineAt_34 : decode cX5_lineAt 34 = .ok (.aload_n 0, 1) := by decide +kernel
theorem dX5_lineAt_35 : decode cX5_lineAt 35 = .ok (.getfield 28, 3) := by decide +kernel
theorem dX5_lineAt_38 : decode cX5_lineAt 38 = .ok (.iload_n 1, 1) := by decide +kernel
theorem dX5_lineAt_39 : decode cX5_lineAt 39 = .ok (.iaload, 1) := by decide +kernel
theorem dX5_lineAt_40 : decode cX5_lineAt 40 = .ok (.i2c, 1) := by decide +kernel
theorem dX5_lineAt_41 : decode cX5_lineAt 41 = .ok (.ireturn, 1) := by decide +kernel
theorem dX5_meanLength_0 : decode cX5_meanLength 0 = .ok (.aload_n 0, 1) := by decide +kernel
theorem dX5_meanLength_1 : decode cX5_meanLength 1 = .ok (.iload_n 1, 1) := by decide +kernel
theorem dX5_meanLength_2 : decode cX5_meanLength 2 = .ok (.invokestatic 58, 3) := by decide +kernel
theorem dX5_meanLength_5 : decode cX5_meanLength 5 = .ok (.ifCond .ne 7, 3) := by decide +kernel
theorem dX5_meanLength_8 : decode cX5_meanLength 8 = .ok (.iconst 1, 1) := by decide +kernel
theorem dX5_meanLength_9 : decode cX5_meanLength 9 = .ok (.goto 16, 3) := by decide +kernel
theorem dX5_meanLength_12 : decode cX5_meanLength 12 = .ok (.aload_n 0, 1) := by decide +kernel
theorem dX5_meanLength_13 : decode cX5_meanLength 13 = .ok (.iload_n 1, 1) := by decide +kernel
theorem dX5_meanLength_14 : decode cX5_meanLength 14 = .ok (.invokevirtual 62, 3) := by decide +kernel
theorem dX5_meanLength_17 : decode cX5_meanLength 17 = .ok (.ifCond .ne 7, 3) := by decide +kernel
theorem dX5_meanLength_20 : decode cX5_meanLength 20 = .ok (.iconst 2, 1) := by decide +kernel
theorem dX5_meanLength_21 : decode cX5_meanLength 21 = .ok (.goto 4, 3) := by decide +kernel
theorem dX5_meanLength_24 : decode cX5_meanLength 24 = .ok (.iconst 0, 1) := by decide +kernel
theorem dX5_meanLength_25 : decode cX5_meanLength 25 = .ok (.putfield 38, 3) := by decide +kernel
theorem dX5_meanLength_28 : decode cX5_meanLength 28 = .ok (.aload_n 0, 1) := by decide +kernel
theorem dX5_meanLength_29 : decode cX5_meanLength 29 = .ok (.getfield 38, 3) := by decide +kernel
theorem dX5_meanLength_32 : decode cX5_meanLength 32 = .ok (.ifCond .le 7, 3) := by decide +kernel
theorem dX5_meanLength_35 : decode cX5_meanLength 35 = .ok (.dconst 0, 1) := by decide +kernel
theorem dX5_meanLength_36 : decode cX5_meanLength 36 = .ok (.goto 16, 3) := by decide +kernel
theorem dX5_meanLength_39 : decode cX5_meanLength 39 = .ok (.aload_n 0, 1) := by decide +kernel
theorem dX5_meanLength_40 : decode cX5_meanLength 40 = .ok (.iload_n 1, 1) := by decide +kernel
theorem dX5_meanLength_41 : decode cX5_meanLength 41 = .ok (.invokevirtual 134, 3) := by decide +kernel
theorem dX5_meanLength_44 : decode cX5_meanLength 44 = .ok (.i2d, 1) := by decide +kernel
theorem dX5_meanLength_45 : decode cX5_meanLength 45 = .ok (.aload_n 0, 1) := by decide +kernel
theorem dX5_meanLength_46 : decode cX5_meanLength 46 = .ok (.iload_n 1, 1) := by decide +kernel
theorem dX5_meanLength_47 : decode cX5_meanLength 47 = .ok (.invokevirtual 62, 3) := by decide +kernel
theorem dX5_meanLength_50 : decode cX5_meanLength 50 = .ok (.i2d, 1) := by decide +kernel
theorem dX5_meanLength_51 : decode cX5_meanLength 51 = .ok (.ddiv, 1) := by decide +kernel
theorem dX5_meanLength_52 : decode cX5_meanLength 52 = .ok (.dreturn, 1) := by decide +kernel
theorem dX5_colourShare_0 : decode cX5_colourShare 0 = .ok (.aload_n 0, 1) := by decide +kernel
theorem dX5_colourShare_1 : decode cX5_colourShare 1 = .ok (.iload_n 1, 1) := by decide +kernel
theorem dX5_colourShare_2 : decode cX5_colourShare 2 = .ok (.invokestatic 58, 3) := by decide +kernel
theorem dX5_colourShare_5 : decode cX5_colourShare 5 = .ok (.ifCond .ne 7, 3) := by decide +kernel
theorem dX5_colourShare_8 : decode cX5_colourShare 8 = .ok (.iconst 1, 1) := by decide +kernel
theorem dX5_colourShare_9 : decode cX5_colourShare 9 = .ok (.goto 27, 3) := by decide +kernel
theorem dX5_colourShare_12 : decode cX5_colourShare 12 = .ok (.iload_n 2, 1) := by decide +kernel
theorem dX5_colourShare_13 : decode cX5_colourShare 13 = .ok (.invokestatic 72, 3) := by decide +kernel
theorem dX5_colourShare_16 : decode cX5_colourShare 16 = .ok (.ifCond .ne 7, 3) := by decide +kernel
theorem dX5_colourShare_19 : decode cX5_colourShare 19 = .ok (.iconst 2, 1) := by decide +kernel
theorem dX5_colourShare_20 : decode cX5_colourShare 20 = .ok (.goto 16, 3) := by decide +kernel
theorem dX5_colourShare_23 : decode cX5_colourShare 23 = .ok (.aload_n 0, 1) := by decide +kernel
theorem dX5_colourShare_24 : decode cX5_colourShare 24 = .ok (.iload_n 1, 1) := by decide +kernel
theorem dX5_colourShare_25 : decode cX5_colourShare 25 = .ok (.invokevirtual 62, 3) := by decide +kernel
theorem dX5_colourShare_28 : decode cX5_colourShare 28 = .ok (.ifCond .ne 7, 3) := by decide +kernel
theorem dX5_colourShare_31 : decode cX5_colourShare 31 = .ok (.iconst 3, 1) := by decide +kernel
theorem dX5_colourShare_32 : decode cX5_colourShare 32 = .ok (.goto 4, 3) := by decide +kernel
theorem dX5_colourShare_35 : decode cX5_colourShare 35 = .ok (.iconst 0, 1) := by decide +kernel
theorem dX5_colourShare_36 : decode cX5_colourShare 36 = .ok (.putfield 38, 3) := by decide +kernel
theorem dX5_colourShare_39 : decode cX5_colourShare 39 = .ok (.aload_n 0, 1) := by decide +kernel
theorem dX5_colourShare_40 : decode cX5_colourShare 40 = .ok (.getfield 38, 3) := by decide +kernel
theorem dX5_colourShare_43 : decode cX5_colourShare 43 = .ok (.ifCond .le 7, 3) := by decide +kernel
theorem dX5_colourShare_46 : decode cX5_colourShare 46 = .ok (.fconst 0, 1) := by decide +kernel
theorem dX5_colourShare_47 : decode cX5_colourShare 47 = .ok (.goto 17, 3) := by decide +kernel
theorem dX5_colourShare_50 : decode cX5_colourShare 50 = .ok (.aload_n 0, 1) := by decide +kernel
theorem dX5_colourShare_51 : decode cX5_colourShare 51 = .ok (.iload_n 1, 1) := by decide +kernel
theorem dX5_colourShare_52 : decode cX5_colourShare 52 = .ok (.iload_n 2, 1) := by decide +kernel
theorem dX5_colourShare_53 : decode cX5_colourShare 53 = .ok (.invokevirtual 149, 3) := by decide +kernel
theorem dX5_colourShare_56 : decode cX5_colourShare 56 = .ok (.i2f, 1) := by decide +kernel
theorem dX5_colourShare_57 : decode cX5_colourShare 57 = .ok (.aload_n 0, 1) := by decide +kernel
theorem dX5_colourShare_58 : decode cX5_colourShare 58 = .ok (.iload_n 1, 1) := by decide +kernel
theorem dX5_colourShare_59 : decode cX5_colourShare 59 = .ok (.invokevirtual 134, 3) := by decide +kernel
theorem dX5_colourShare_62 : decode cX5_colourShare 62 = .ok (.i2f, 1) := by decide +kernel
theorem dX5_colourShare_63 : decode cX5_colourShare 63 = .ok (.fdiv, 1) := by decide +kernel
theorem dX5_colourShare_64 : decode cX5_colourShare 64 = .ok (.freturn, 1) := by decide +kernel
theorem dX5_isConsistent_0 : decode cX5_isConsistent 0 = .ok (.aload_n 0, 1) := by decide +kernel
theorem dX5_isConsistent_1 : decode cX5_isConsistent 1 = .ok (.iconst 0, 1) := by decide +kernel
theorem dX5_isConsistent_2 : decode cX5_isConsistent 2 = .ok (.putfield 38, 3) := by decide +kernel
theorem dX5_isConsistent_5 : decode cX5_isConsistent 5 = .ok (.iconst 1, 1) := by decide +kernel
theorem dX5_isConsistent_6 : decode cX5_isConsistent 6 = .ok (.ireturn, 1) := by decide +kernel
theorem dX5_segments_0 : decode cX5_segments 0 = .ok (.aload_n 0, 1) := by decide +kernel
theorem dX5_segments_1 : decode cX5_segments 1 = .ok (.iconst 0, 1) := by decide +kernel
theorem dX5_segments_2 : decode cX5_segments 2 = .ok (.invokevirtual 62, 3) := by decide +kernel
theorem dX5_segments_5 : decode cX5_segments 5 = .ok (.aload_n 0, 1) := by decide +kernel
theorem dX5_segments_6 : decode cX5_segments 6 = .ok (.iconst 1, 1) := by decide +kernel
theorem dX5_segments_7 : decode cX5_segments 7 = .ok (.invokevirtual 62, 3) := by decide +kernel
theorem dX5_segments_10 : decode cX5_segments 10 = .ok (.iadd, 1) := by decide +kernel
theorem dX5_segments_11 : decode cX5_segments 11 = .ok (.aload_n 0, 1) := by decide +kernel
theorem dX5_segments_12 : decode cX5_segments 12 = .ok (.iconst 2, 1) := by decide +kernel
theorem dX5_segments_13 : decode cX5_segments 13 = .ok (.invokevirtual 62, 3) := by decide +kernel
theorem dX5_segments_16 : decode cX5_segments 16 = .ok (.iadd, 1) := by decide +kernel
theorem dX5_segments_17 : decode cX5_segments 17 = .ok (.aload_n 0, 1) := by decide +kernel
theorem dX5_segments_18 : decode cX5_segments 18 = .ok (.iconst 3, 1) := by decide +kernel
theorem dX5_segments_19 : decode cX5_segments 19 = .ok (.invokevirtual 62, 3) := by decide +kernel
theorem dX5_segments_22 : decode cX5_segments 22 = .ok (.iadd, 1) := by decide +kernel
theorem dX5_segments_23 : decode cX5_segments 23 = .ok (.ireturn, 1) := by decide +kernel
theorem dX5_undo_0 : decode cX5_undo 0 = .ok (.aload_n 0, 1) := by decide +kernel
theorem dX5_undo_1 : decode cX5_undo 1 = .ok (.iconst 0, 1) := by decide +kernel
theorem dX5_undo_2 : decode cX5_undo 2 = .ok (.putfield 38, 3) := by decide +kernel
theorem dX5_undo_5 : decode cX5_undo 5 = .ok (.aload_n 0, 1) := by decide +kernel
theorem dX5_undo_6 : decode cX5_undo 6 = .ok (.getfield 41, 3) := by decide +kernel
theorem dX5_undo_9 : decode cX5_undo 9 = .ok (.ifCond .ne 9, 3) := by decide +kernel
theorem dX5_undo_12 : decode cX5_undo 12 = .ok (.aload_n 0, 1) := by decide +kernel
theorem dX5_undo_13 : decode cX5_undo 13 = .ok (.iconst 1, 1) := by decide +kernel
theorem dX5_undo_14 : decode cX5_undo 14 = .ok (.invokevirtual 51, 3) := by decide +kernel
theorem dX5_undo_17 : decode cX5_undo 17 = .ok (.ireturn, 1) := by decide +kernel
theorem dX5_undo_18 : decode cX5_undo 18 = .ok (.aload_n 0, 1) := by decide +kernel
theorem dX5_undo_19 : decode cX5_undo 19 = .ok (.dup, 1) := by decide +kernel
theorem dX5_undo_20 : decode cX5_undo 20 = .ok (.getfield 41, 3) := by decide +kernel
theorem dX5_undo_23 : decode cX5_undo 23 = .ok (.iconst 1, 1) := by decide +kernel
theorem dX5_undo_24 : decode cX5_undo 24 = .ok (.isub, 1) := by decide +kernel
theorem dX5_undo_25 : decode cX5_undo 25 = .ok (.putfield 41, 3) := by decide +kernel
theorem dX5_undo_28 : decode cX5_undo 28 = .ok (.iconst 0, 1) := by decide +kernel
theorem dX5_undo_29 : decode cX5_undo 29 = .ok (.istore_n 1, 1) := by decide +kernel
theorem dX5_undo_30 : decode cX5_undo 30 = .ok (.iload_n 1, 1) := by decide +kernel
theorem dX5_undo_31 : decode cX5_undo 31 = .ok (.sipush 486, 3) := by decide +kernel
theorem dX5_undo_34 : decode cX5_undo 34 = .ok (.if_icmp .ge 30, 3) := by decide +kernel
theorem dX5_undo_37 : decode cX5_undo 37 = .ok (.aload_n 0, 1) := by decide +kernel
theorem dX5_undo_38 : decode cX5_undo 38 = .ok (.getfield 7, 3) := by decide +kernel
theorem dX5_undo_41 : decode cX5_undo 41 = .ok (.iload_n 1, 1) := by decide +kernel
theorem dX5_undo_42 : decode cX5_undo 42 = .ok (.aload_n 0, 1) := by decide +kernel
theorem dX5_undo_43 : decode cX5_undo 43 = .ok (.getfield 19, 3) := by decide +kernel
theorem dX5_undo_46 : decode cX5_undo 46 = .ok (.sipush 486, 3) := by decide +kernel
theorem dX5_undo_49 : decode cX5_undo 49 = .ok (.aload_n 0, 1) := by decide +kernel
theorem dX5_undo_50 : decode cX5_undo 50 = .ok (.getfield 41, 3) := by decide +kernel
theorem dX5_undo_53 : decode cX5_undo 53 = .ok (.imul, 1) := by decide +kernel
theorem dX5_undo_54 : decode cX5_undo 54 = .ok (.iload_n 1, 1) := by decide +kernel
theorem dX5_undo_55 : decode cX5_undo 55 = .ok (.iadd, 1) := by decide +kernel
theorem dX5_undo_56 : decode cX5_undo 56 = .ok (.iaload, 1) := by decide +kernel
theorem dX5_undo_57 : decode cX5_undo 57 = .ok (.iastore, 1) := by decide +kernel
theorem dX5_undo_58 : decode cX5_undo 58 = .ok (.iinc 1 1, 3) := by decide +kernel
theorem dX5_undo_61 : decode cX5_undo 61 = .ok (.goto (-31), 3) := by decide +kernel
theorem dX5_undo_64 : decode cX5_undo 64 = .ok (.aload_n 0, 1) := by decide +kernel
theorem dX5_undo_65 : decode cX5_undo 65 = .ok (.getfield 41, 3) := by decide +kernel
theorem dX5_undo_68 : decode cX5_undo 68 = .ok (.ireturn, 1) := by decide +kernel
theorem dX5_save_0 : decode cX5_save 0 = .ok (.aload_n 0, 1) := by decide +kernel
theorem dX5_save_1 : decode cX5_save 1 = .ok (.iconst 0, 1) := by decide +kernel
theorem dX5_save_2 : decode cX5_save 2 = .ok (.putfield 38, 3) := by decide +kernel
theorem dX5_save_5 : decode cX5_save 5 = .ok (.iconst 0, 1) := by decide +kernel
theorem dX5_save_6 : decode cX5_save 6 = .ok (.istore_n 1, 1) := by decide +kernel
theorem dX5_save_7 : decode cX5_save 7 = .ok (.iload_n 1, 1) := by decide +kernel
theorem dX5_save_8 : decode cX5_save 8 = .ok (.sipush 486, 3) := by decide +kernel
theorem dX5_save_11 : decode cX5_save 11 = .ok (.if_icmp .ge 21, 3) := by decide +kernel
theorem dX5_save_14 : decode cX5_save 14 = .ok (.aload_n 0, 1) := by decide +kernel
theorem dX5_save_15 : decode cX5_save 15 = .ok (.getfield 16, 3) := by decide +kernel
theorem dX5_save_18 : decode cX5_save 18 = .ok (.iload_n 1, 1) := by decide +kernel
theorem dX5_save_19 : decode cX5_save 19 = .ok (.aload_n 0, 1) := by decide +kernel
theorem dX5_save_20 : decode cX5_save 20 = .ok (.getfield 7, 3) := by decide +kernel
theorem dX5_save_23 : decode cX5_save 23 = .ok (.iload_n 1, 1) := by decide +kernel
theorem dX5_save_24 : decode cX5_save 24 = .ok (.iaload, 1) := by decide +kernel
theorem dX5_save_25 : decode cX5_save 25 = .ok (.iastore, 1) := by decide +kernel
theorem dX5_save_26 : decode cX5_save 26 = .ok (.iinc 1 1, 3) := by decide +kernel
theorem dX5_save_29 : decode cX5_save 29 = .ok (.goto (-22), 3) := by decide +kernel
theorem dX5_save_32 : decode cX5_save 32 = .ok (.aload_n 0, 1) := by decide +kernel
theorem dX5_save_33 : decode cX5_save 33 = .ok (.iconst 1, 1) := by decide +kernel
theorem dX5_save_34 : decode cX5_save 34 = .ok (.putfield 254, 3) := by decide +kernel
theorem dX5_save_37 : decode cX5_save 37 = .ok (.aload_n 0, 1) := by decide +kernel
theorem dX5_save_38 : decode cX5_save 38 = .ok (.invokevirtual 257, 3) := by decide +kernel
theorem dX5_save_41 : decode cX5_save 41 = .ok (.ireturn, 1) := by decide +kernel
theorem dX5_restore_0 : decode cX5_restore 0 = .ok (.aload_n 0, 1) := by decide +kernel
theorem dX5_restore_1 : decode cX5_restore 1 = .ok (.iconst 0, 1) := by decide +kernel
theorem dX5_restore_2 : decode cX5_restore 2 = .ok (.putfield 38, 3) := by decide +kernel
theorem dX5_restore_5 : decode cX5_restore 5 = .ok (.aload_n 0, 1) := by decide +kernel
theorem dX5_restore_6 : decode cX5_restore 6 = .ok (.getfield 254, 3) := by decide +kernel
theorem dX5_restore_9 : decode cX5_restore 9 = .ok (.ifCond .ne 9, 3) := by decide +kernel
theorem dX5_restore_12 : decode cX5_restore 12 = .ok (.aload_n 0, 1) := by decide +kernel
theorem dX5_restore_13 : decode cX5_restore 13 = .ok (.iconst 1, 1) := by decide +kernel
theorem dX5_restore_14 : decode cX5_restore 14 = .ok (.invokevirtual 51, 3) := by decide +kernel
theorem dX5_restore_17 : decode cX5_restore 17 = .ok (.ireturn, 1) := by decide +kernel
theorem dX5_restore_18 : decode cX5_restore 18 = .ok (.iconst 0, 1) := by decide +kernel
theorem dX5_restore_19 : decode cX5_restore 19 = .ok (.istore_n 1, 1) := by decide +kernel
theorem dX5_restore_20 : decode cX5_restore 20 = .ok (.iload_n 1, 1) := by decide +kernel
theorem dX5_restore_21 : decode cX5_restore 21 = .ok (.sipush 486, 3) := by decide +kernel
theorem dX5_restore_24 : decode cX5_restore 24 = .ok (.if_icmp .ge 21, 3) := by decide +kernel
theorem dX5_restore_27 : decode cX5_restore 27 = .ok (.aload_n 0, 1) := by decide +kernel
theorem dX5_restore_28 : decode cX5_restore 28 = .ok (.getfield 7, 3) := by decide +kernel
theorem dX5_restore_31 : decode cX5_restore 31 = .ok (.iload_n 1, 1) := by decide +kernel
theorem dX5_restore_32 : decode cX5_restore 32 = .ok (.aload_n 0, 1) := by decide +kernel
theorem dX5_restore_33 : decode cX5_restore 33 = .ok (.getfield 16, 3) := by decide +kernel
theorem dX5_restore_36 : decode cX5_restore 36 = .ok (.iload_n 1, 1) := by decide +kernel
theorem dX5_restore_37 : decode cX5_restore 37 = .ok (.iaload, 1) := by decide +kernel
theorem dX5_restore_38 : decode cX5_restore 38 = .ok (.iastore, 1) := by decide +kernel
theorem dX5_restore_39 : decode cX5_restore 39 = .ok (.iinc 1 1, 3) := by decide +kernel
theorem dX5_restore_42 : decode cX5_restore 42 = .ok (.goto (-22), 3) := by decide +kernel
theorem dX5_restore_45 : decode cX5_restore 45 = .ok (.aload_n 0, 1) := by decide +kernel
theorem dX5_restore_46 : decode cX5_restore 46 = .ok (.iconst 0, 1) := by decide +kernel
theorem dX5_restore_47 : decode cX5_restore 47 = .ok (.putfield 41, 3) := by decide +kernel
theorem dX5_restore_50 : decode cX5_restore 50 = .ok (.aload_n 0, 1) := by decide +kernel
theorem dX5_restore_51 : decode cX5_restore 51 = .ok (.invokevirtual 257, 3) := by decide +kernel
theorem dX5_restore_54 : decode cX5_restore 54 = .ok (.ireturn, 1) := by decide +kernel
theorem dJx00060_init_a7421_0 : decode cJx00060_init_a7421 0 = .ok (.aload_n 0, 1) := by decide +kernel
theorem dJx00060_init_a7421_1 : decode cJx00060_init_a7421 1 = .ok (.aload_n 1, 1) := by decide +kernel
theorem dJx00060_init_a7421_2 : decode cJx00060_init_a7421 2 = .ok (.invokespecial 7, 3) := by decide +kernel
theorem dJx00060_init_a7421_5 : decode cJx00060_init_a7421 5 = .ok (.return_, 1) := by decide +kernel
theorem dJ9_max_7cf53_0 : decode cJ9_max_7cf53 0 = .ok (.iload_n 0, 1) := by decide +kernel
theorem dJ9_max_7cf53_1 : decode cJ9_max_7cf53 1 = .ok (.iload_n 1, 1) := by decide +kernel
theorem dJ9_max_7cf53_2 : decode cJ9_max_7cf53 2 = .ok (.if_icmp .lt 7, 3) := by decide +kernel
theorem dJ9_max_7cf53_5 : decode cJ9_max_7cf53 5 = .ok (.iload_n 0, 1) := by decide +kernel
theorem dJ9_max_7cf53_6 : decode cJ9_max_7cf53 6 = .ok (.goto 4, 3) := by decide +kernel
theorem dJ9_max_7cf53_9 : decode cJ9_max_7cf53 9 = .ok (.iload_n 1, 1) := by decide +kernel
theorem dJ9_max_7cf53_10 : decode cJ9_max_7cf53 10 = .ok (.ireturn, 1) := by decide +kernel
theorem dJ9_min_7cf53_0 : decode cJ9_min_7cf53 0 = .ok (.iload_n 0, 1) := by decide +kernel
theorem dJ9_min_7cf53_1 : decode cJ9_min_7cf53 1 = .ok (.iload_n 1, 1) := by decide +kernel
theorem dJ9_min_7cf53_2 : decode cJ9_min_7cf53 2 = .ok (.if_icmp .gt 7, 3) := by decide +kernel
theorem dJ9_min_7cf53_5 : decode cJ9_min_7cf53 5 = .ok (.iload_n 0, 1) := by decide +kernel
theorem dJ9_min_7cf53_6 : decode cJ9_min_7cf53 6 = .ok (.goto 4, 3) := by decide +kernel
theorem dJ9_min_7cf53_9 : decode cJ9_min_7cf53 9 = .ok (.iload_n 1, 1) := by decide +kernel
theorem dJ9_min_7cf53_10 : decode cJ9_min_7cf53 10 = .ok (.ireturn, 1) := by decide +kernel
theorem dJ0_length_8abf5_0 : decode cJ0_length_8abf5 0 = .ok (.aload_n 0, 1) := by decide +kernel
theorem dJ0_length_8abf5_1 : decode cJ0_length_8abf5 1 = .ok (.getfield 9, 3) := by decide +kernel
theorem dJ0_length_8abf5_4 : decode cJ0_length_8abf5 4 = .ok (.arraylength, 1) := by decide +kernel
theorem dJ0_length_8abf5_5 : decode cJ0_length_8abf5 5 = .ok (.aload_n 0, 1) := by decide +kernel
theorem dJ0_length_8abf5_6 : decode cJ0_length_8abf5 6 = .ok (.invokevirtual 335, 3) := by decide +kernel
theorem dJ0_length_8abf5_9 : decode cJ0_length_8abf5 9 = .ok (.ishr, 1) := by decide +kernel
theorem dJ0_length_8abf5_10 : decode cJ0_length_8abf5 10 = .ok (.ireturn, 1) := by decide +kernel
theorem dJ0_isEmpty_aae02_0 : decode cJ0_isEmpty_aae02 0 = .ok (.aload_n 0, 1) := by decide +kernel
theorem dJ0_isEmpty_aae02_1 : decode cJ0_isEmpty_aae02 1 = .ok (.getfield 9, 3) := by decide +kernel
theorem dJ0_isEmpty_aae02_4 : decode cJ0_isEmpty_aae02 4 = .ok (.arraylength, 1) := by decide +kernel
theorem dJ0_isEmpty_aae02_5 : decode cJ0_isEmpty_aae02 5 = .ok (.ifCond .ne 7, 3) := by decide +kernel
theorem dJ0_isEmpty_aae02_8 : decode cJ0_isEmpty_aae02 8 = .ok (.iconst 1, 1) := by decide +kernel
theorem dJ0_isEmpty_aae02_9 : decode cJ0_isEmpty_aae02 9 = .ok (.goto 4, 3) := by decide +kernel
theorem dJ0_isEmpty_aae02_12 : decode cJ0_isEmpty_aae02 12 = .ok (.iconst 0, 1) := by decide +kernel
theorem dJ0_isEmpty_aae02_13 : decode cJ0_isEmpty_aae02 13 = .ok (.ireturn, 1) := by decide +kernel
theorem dJ0_charAt_5068e_0 : decode cJ0_charAt_5068e 0 = .ok (.aload_n 0, 1) := by decide +kernel
theorem dJ0_charAt_5068e_1 : decode cJ0_charAt_5068e 1 = .ok (.invokevirtual 492, 3) := by decide +kernel
theorem dJ0_charAt_5068e_4 : decode cJ0_charAt_5068e 4 = .ok (.ifCond .eq 12, 3) := by decide +kernel
theorem dJ0_charAt_5068e_7 : decode cJ0_charAt_5068e 7 = .ok (.aload_n 0, 1) := by decide +kernel
theorem dJ0_charAt_5068e_8 : decode cJ0_charAt_5068e 8 = .ok (.getfield 9, 3) := by decide +kernel
theorem dJ0_charAt_5068e_11 : decode cJ0_charAt_5068e 11 = .ok (.iload_n 1, 1) := by decide +kernel
theorem dJ0_charAt_5068e_12 : decode cJ0_charAt_5068e 12 = .ok (.invokestatic 495, 3) := by decide +kernel
theorem dJ0_charAt_5068e_15 : decode cJ0_charAt_5068e 15 = .ok (.ireturn, 1) := by decide +kernel
theorem dJ0_charAt_5068e_16 : decode cJ0_charAt_5068e 16 = .ok (.aload_n 0, 1) := by decide +kernel
theorem dJ0_charAt_5068e_17 : decode cJ0_charAt_5068e 17 = .ok (.getfield 9, 3) := by decide +kernel
theorem dJ0_charAt_5068e_20 : decode cJ0_charAt_5068e 20 = .ok (.iload_n 1, 1) := by decide +kernel
theorem dJ0_charAt_5068e_21 : decode cJ0_charAt_5068e 21 = .ok (.invokestatic 498, 3) := by decide +kernel
theorem dJ0_charAt_5068e_24 : decode cJ0_charAt_5068e 24 = .ok (.ireturn, 1) := by decide +kernel
theorem dJ0_coder_7d493_0 : decode cJ0_coder_7d493 0 = .ok (.getstatic 38, 3) := by decide +kernel
theorem dJ0_coder_7d493_3 : decode cJ0_coder_7d493 3 = .ok (.ifCond .eq 10, 3) := by decide +kernel
theorem dJ0_coder_7d493_6 : decode cJ0_coder_7d493 6 = .ok (.aload_n 0, 1) := by decide +kernel
theorem dJ0_coder_7d493_7 : decode cJ0_coder_7d493 7 = .ok (.getfield 15, 3) := by decide +kernel
theorem dJ0_coder_7d493_10 : decode cJ0_coder_7d493 10 = .ok (.goto 4, 3) := by decide +kernel
theorem dJ0_coder_7d493_13 : decode cJ0_coder_7d493 13 = .ok (.iconst 1, 1) := by decide +kernel
theorem dJ0_coder_7d493_14 : decode cJ0_coder_7d493 14 = .ok (.ireturn, 1) := by decide +kernel
theorem dJ0_isLatin1_aae02_0 : decode cJ0_isLatin1_aae02 0 = .ok (.getstatic 38, 3) := by decide +kernel
theorem dJ0_isLatin1_aae02_3 : decode cJ0_isLatin1_aae02 3 = .ok (.ifCond .eq 14, 3) := by decide +kernel
theorem dJ0_isLatin1_aae02_6 : decode cJ0_isLatin1_aae02 6 = .ok (.aload_n 0, 1) := by decide +kernel
theorem dJ0_isLatin1_aae02_7 : decode cJ0_isLatin1_aae02 7 = .ok (.getfield 15, 3) := by decide +kernel
theorem dJ0_isLatin1_aae02_10 : decode cJ0_isLatin1_aae02 10 = .ok (.ifCond .ne 7, 3) := by decide +kernel
theorem dJ0_isLatin1_aae02_13 : decode cJ0_isLatin1_aae02 13 = .ok (.iconst 1, 1) := by decide +kernel
theorem dJ0_isLatin1_aae02_14 : decode cJ0_isLatin1_aae02 14 = .ok (.goto 4, 3) := by decide +kernel
theorem dJ0_isLatin1_aae02_17 : decode cJ0_isLatin1_aae02 17 = .ok (.iconst 0, 1) := by decide +kernel
theorem dJ0_isLatin1_aae02_18 : decode cJ0_isLatin1_aae02 18 = .ok (.ireturn, 1) := by decide +kernel
theorem dJ0_checkIndex_df160_0 : decode cJ0_checkIndex_df160 0 = .ok (.iload_n 0, 1) := by decide +kernel
theorem dJ0_checkIndex_df160_1 : decode cJ0_checkIndex_df160 1 = .ok (.iload_n 1, 1) := by decide +kernel
theorem dJ0_checkIndex_df160_2 : decode cJ0_checkIndex_df160 2 = .ok (.getstatic 1053, 3) := by decide +kernel
theorem dJ0_checkIndex_df160_5 : decode cJ0_checkIndex_df160 5 = .ok (.invokestatic 1059, 3) := by decide +kernel
theorem dJ0_checkIndex_df160_8 : decode cJ0_checkIndex_df160 8 = .ok (.pop, 1) := by decide +kernel
theorem dJ0_checkIndex_df160_9 : decode cJ0_checkIndex_df160 9 = .ok (.return_, 1) := by decide +kernel
theorem dJ1_charAt_3b067_0 : decode cJ1_charAt_3b067 0 = .ok (.iload_n 1, 1) := by decide +kernel
theorem dJ1_charAt_3b067_1 : decode cJ1_charAt_3b067 1 = .ok (.aload_n 0, 1) := by decide +kernel
theorem dJ1_charAt_3b067_2 : decode cJ1_charAt_3b067 2 = .ok (.arraylength, 1) := by decide +kernel
theorem dJ1_charAt_3b067_3 : decode cJ1_charAt_3b067 3 = .ok (.invokestatic 9, 3) := by decide +kernel
theorem dJ1_charAt_3b067_6 : decode cJ1_charAt_3b067 6 = .ok (.aload_n 0, 1) := by decide +kernel
theorem dJ1_charAt_3b067_7 : decode cJ1_charAt_3b067 7 = .ok (.iload_n 1, 1) := by decide +kernel
theorem dJ1_charAt_3b067_8 : decode cJ1_charAt_3b067 8 = .ok (.baload, 1) := by decide +kernel
theorem dJ1_charAt_3b067_9 : decode cJ1_charAt_3b067 9 = .ok (.sipush 255, 3) := by decide +kernel
theorem dJ1_charAt_3b067_12 : decode cJ1_charAt_3b067 12 = .ok (.iand, 1) := by decide +kernel
theorem dJ1_charAt_3b067_13 : decode cJ1_charAt_3b067 13 = .ok (.i2c, 1) := by decide +kernel
theorem dJ1_charAt_3b067_14 : decode cJ1_charAt_3b067 14 = .ok (.ireturn, 1) := by decide +kernel
theorem dJ2_getChar_3b067_0 : decode cJ2_getChar_3b067 0 = .ok (.getstatic 44, 3) := by decide +kernel
theorem dJ2_getChar_3b067_3 : decode cJ2_getChar_3b067 3 = .ok (.ifCond .ne 25, 3) := by decide +kernel
theorem dJ2_getChar_3b067_6 : decode cJ2_getChar_3b067 6 = .ok (.iload_n 1, 1) := by decide +kernel
theorem dJ2_getChar_3b067_7 : decode cJ2_getChar_3b067 7 = .ok (.ifCond .lt 11, 3) := by decide +kernel
theorem dJ2_getChar_3b067_10 : decode cJ2_getChar_3b067 10 = .ok (.iload_n 1, 1) := by decide +kernel
theorem dJ2_getChar_3b067_11 : decode cJ2_getChar_3b067 11 = .ok (.aload_n 0, 1) := by decide +kernel
theorem dJ2_getChar_3b067_12 : decode cJ2_getChar_3b067 12 = .ok (.invokestatic 48, 3) := by decide +kernel
theorem dJ2_getChar_3b067_15 : decode cJ2_getChar_3b067 15 = .ok (.if_icmp .lt 13, 3) := by decide +kernel
theorem dJ2_getChar_3b067_18 : decode cJ2_getChar_3b067 18 = .ok (.new 52, 3) := by decide +kernel
theorem dJ2_getChar_3b067_21 : decode cJ2_getChar_3b067 21 = .ok (.dup, 1) := by decide +kernel
theorem dJ2_getChar_3b067_22 : decode cJ2_getChar_3b067 22 = .ok (.ldc 54, 2) := by decide +kernel
theorem dJ2_getChar_3b067_24 : decode cJ2_getChar_3b067 24 = .ok (.invokespecial 56, 3) := by decide +kernel
theorem dJ2_getChar_3b067_27 : decode cJ2_getChar_3b067 27 = .ok (.athrow, 1) := by decide +kernel
theorem dJ2_getChar_3b067_28 : decode cJ2_getChar_3b067 28 = .ok (.iload_n 1, 1) := by decide +kernel
theorem dJ2_getChar_3b067_29 : decode cJ2_getChar_3b067 29 = .ok (.iconst 1, 1) := by decide +kernel
theorem dJ2_getChar_3b067_30 : decode cJ2_getChar_3b067 30 = .ok (.ishl, 1) := by decide +kernel
theorem dJ2_getChar_3b067_31 : decode cJ2_getChar_3b067 31 = .ok (.istore_n 1, 1) := by decide +kernel
theorem dJ2_getChar_3b067_32 : decode cJ2_getChar_3b067 32 = .ok (.aload_n 0, 1) := by decide +kernel
theorem dJ2_getChar_3b067_33 : decode cJ2_getChar_3b067 33 = .ok (.iload_n 1, 1) := by decide +kernel
theorem dJ2_getChar_3b067_34 : decode cJ2_getChar_3b067 34 = .ok (.iinc 1 1, 3) := by decide +kernel
theorem dJ2_getChar_3b067_37 : decode cJ2_getChar_3b067 37 = .ok (.baload, 1) := by decide +kernel
theorem dJ2_getChar_3b067_38 : decode cJ2_getChar_3b067 38 = .ok (.sipush 255, 3) := by decide +kernel
theorem dJ2_getChar_3b067_41 : decode cJ2_getChar_3b067 41 = .ok (.iand, 1) := by decide +kernel
theorem dJ2_getChar_3b067_42 : decode cJ2_getChar_3b067 42 = .ok (.getstatic 59, 3) := by decide +kernel
theorem dJ2_getChar_3b067_45 : decode cJ2_getChar_3b067 45 = .ok (.ishl, 1) := by decide +kernel
theorem dJ2_getChar_3b067_46 : decode cJ2_getChar_3b067 46 = .ok (.aload_n 0, 1) := by decide +kernel
theorem dJ2_getChar_3b067_47 : decode cJ2_getChar_3b067 47 = .ok (.iload_n 1, 1) := by decide +kernel
theorem dJ2_getChar_3b067_48 : decode cJ2_getChar_3b067 48 = .ok (.baload, 1) := by decide +kernel
theorem dJ2_getChar_3b067_49 : decode cJ2_getChar_3b067 49 = .ok (.sipush 255, 3) := by decide +kernel
theorem dJ2_getChar_3b067_52 : decode cJ2_getChar_3b067 52 = .ok (.iand, 1) := by decide +kernel
theorem dJ2_getChar_3b067_53 : decode cJ2_getChar_3b067 53 = .ok (.getstatic 63, 3) := by decide +kernel
theorem dJ2_getChar_3b067_56 : decode cJ2_getChar_3b067 56 = .ok (.ishl, 1) := by decide +kernel
theorem dJ2_getChar_3b067_57 : decode cJ2_getChar_3b067 57 = .ok (.ior, 1) := by decide +kernel
theorem dJ2_getChar_3b067_58 : decode cJ2_getChar_3b067 58 = .ok (.i2c, 1) := by decide +kernel
theorem dJ2_getChar_3b067_59 : decode cJ2_getChar_3b067 59 = .ok (.ireturn, 1) := by decide +kernel
theorem dJ2_length_9d52b_0 : decode cJ2_length_9d52b 0 = .ok (.aload_n 0, 1) := by decide +kernel
theorem dJ2_length_9d52b_1 : decode cJ2_length_9d52b 1 = .ok (.arraylength, 1) := by decide +kernel
theorem dJ2_length_9d52b_2 : decode cJ2_length_9d52b 2 = .ok (.iconst 1, 1) := by decide +kernel
theorem dJ2_length_9d52b_3 : decode cJ2_length_9d52b 3 = .ok (.ishr, 1) := by decide +kernel
theorem dJ2_length_9d52b_4 : decode cJ2_length_9d52b 4 = .ok (.ireturn, 1) := by decide +kernel
theorem dJ2_charAt_3b067_0 : decode cJ2_charAt_3b067 0 = .ok (.iload_n 1, 1) := by decide +kernel
theorem dJ2_charAt_3b067_1 : decode cJ2_charAt_3b067 1 = .ok (.aload_n 0, 1) := by decide +kernel
theorem dJ2_charAt_3b067_2 : decode cJ2_charAt_3b067 2 = .ok (.invokestatic 67, 3) := by decide +kernel
theorem dJ2_charAt_3b067_5 : decode cJ2_charAt_3b067 5 = .ok (.aload_n 0, 1) := by decide +kernel
theorem dJ2_charAt_3b067_6 : decode cJ2_charAt_3b067 6 = .ok (.iload_n 1, 1) := by decide +kernel
theorem dJ2_charAt_3b067_7 : decode cJ2_charAt_3b067 7 = .ok (.invokestatic 71, 3) := by decide +kernel
theorem dJ2_charAt_3b067_10 : decode cJ2_charAt_3b067 10 = .ok (.ireturn, 1) := by decide +kernel
theorem dJ2_checkIndex_2214a_0 : decode cJ2_checkIndex_2214a 0 = .ok (.iload_n 0, 1) := by decide +kernel
theorem dJ2_checkIndex_2214a_1 : decode cJ2_checkIndex_2214a 1 = .ok (.aload_n 1, 1) := by decide +kernel
theorem dJ2_checkIndex_2214a_2 : decode cJ2_checkIndex_2214a 2 = .ok (.invokestatic 48, 3) := by decide +kernel
theorem dJ2_checkIndex_2214a_5 : decode cJ2_checkIndex_2214a 5 = .ok (.invokestatic 414, 3) := by decide +kernel
theorem dJ2_checkIndex_2214a_8 : decode cJ2_checkIndex_2214a 8 = .ok (.return_, 1) := by decide +kernel
theorem dJ3_checkIndex_8e157_0 : decode cJ3_checkIndex_8e157 0 = .ok (.iload_n 0, 1) := by decide +kernel
theorem dJ3_checkIndex_8e157_1 : decode cJ3_checkIndex_8e157 1 = .ok (.ifCond .lt 8, 3) := by decide +kernel
theorem dJ3_checkIndex_8e157_4 : decode cJ3_checkIndex_8e157 4 = .ok (.iload_n 0, 1) := by decide +kernel
theorem dJ3_checkIndex_8e157_5 : decode cJ3_checkIndex_8e157 5 = .ok (.iload_n 1, 1) := by decide +kernel
theorem dJ3_checkIndex_8e157_6 : decode cJ3_checkIndex_8e157 6 = .ok (.if_icmp .lt 10, 3) := by decide +kernel
theorem dJ3_checkIndex_8e157_9 : decode cJ3_checkIndex_8e157 9 = .ok (.aload_n 2, 1) := by decide +kernel
theorem dJ3_checkIndex_8e157_10 : decode cJ3_checkIndex_8e157 10 = .ok (.iload_n 0, 1) := by decide +kernel
theorem dJ3_checkIndex_8e157_11 : decode cJ3_checkIndex_8e157 11 = .ok (.iload_n 1, 1) := by decide +kernel
theorem dJ3_checkIndex_8e157_12 : decode cJ3_checkIndex_8e157 12 = .ok (.invokestatic 95, 3) := by decide +kernel
theorem dJ3_checkIndex_8e157_15 : decode cJ3_checkIndex_8e157 15 = .ok (.athrow, 1) := by decide +kernel
theorem dJ3_checkIndex_8e157_16 : decode cJ3_checkIndex_8e157 16 = .ok (.iload_n 0, 1) := by decide +kernel
theorem dJ3_checkIndex_8e157_17 : decode cJ3_checkIndex_8e157 17 = .ok (.ireturn, 1) := by decide +kernel
theorem dL_append_0 : decode cL_append 0 = .ok (.aload 4, 2) := by decide +kernel
theorem dL_append_2 : decode cL_append 2 = .ok (.iconst 0, 1) := by decide +kernel
theorem dL_append_3 : decode cL_append 3 = .ok (.aload_n 0, 1) := by decide +kernel
theorem dL_append_4 : decode cL_append 4 = .ok (.iload_n 1, 1) := by decide +kernel
theorem dL_append_5 : decode cL_append 5 = .ok (.iload_n 2, 1) := by decide +kernel
theorem dL_append_6 : decode cL_append 6 = .ok (.iload_n 3, 1) := by decide +kernel
theorem dL_append_7 : decode cL_append 7 = .ok (.invokevirtual 7, 3) := by decide +kernel
theorem dL_append_10 : decode cL_append 10 = .ok (.i2l, 1) := by decide +kernel
theorem dL_append_11 : decode cL_append 11 = .ok (.lastore, 1) := by decide +kernel
theorem dL_append_12 : decode cL_append 12 = .ok (.goto 15, 3) := by decide +kernel
theorem dL_append_15 : decode cL_append 15 = .ok (.astore 5, 2) := by decide +kernel
theorem dL_append_17 : decode cL_append 17 = .ok (.iconst 1, 1) := by decide +kernel
theorem dL_append_18 : decode cL_append 18 = .ok (.ireturn, 1) := by decide +kernel
theorem dL_append_19 : decode cL_append 19 = .ok (.astore 5, 2) := by decide +kernel
theorem dL_append_21 : decode cL_append 21 = .ok (.iconst 2, 1) := by decide +kernel
theorem dL_append_22 : decode cL_append 22 = .ok (.ireturn, 1) := by decide +kernel
theorem dL_append_23 : decode cL_append 23 = .ok (.astore 5, 2) := by decide +kernel
theorem dL_append_25 : decode cL_append 25 = .ok (.iconst 3, 1) := by decide +kernel
theorem dL_append_26 : decode cL_append 26 = .ok (.ireturn, 1) := by decide +kernel
theorem dL_append_27 : decode cL_append 27 = .ok (.iconst 0, 1) := by decide +kernel
theorem dL_append_28 : decode cL_append 28 = .ok (.ireturn, 1) := by decide +kernel
theorem dL_insert_0 : decode cL_insert 0 = .ok (.aload 5, 2) := by decide +kernel
theorem dL_insert_2 : decode cL_insert 2 = .ok (.iconst 0, 1) := by decide +kernel
theorem dL_insert_3 : decode cL_insert 3 = .ok (.aload_n 0, 1) := by decide +kernel
theorem dL_insert_4 : decode cL_insert 4 = .ok (.iload_n 1, 1) := by decide +kernel
theorem dL_insert_5 : decode cL_insert 5 = .ok (.iload_n 2, 1) := by decide +kernel
theorem dL_insert_6 : decode cL_insert 6 = .ok (.iload_n 3, 1) := by decide +kernel
theorem dL_insert_7 : decode cL_insert 7 = .ok (.iload 4, 2) := by decide +kernel
theorem dL_insert_9 : decode cL_insert 9 = .ok (.invokevirtual 19, 3) := by decide +kernel
theorem dL_insert_12 : decode cL_insert 12 = .ok (.i2l, 1) := by decide +kernel
theorem dL_insert_13 : decode cL_insert 13 = .ok (.lastore, 1) := by decide +kernel
theorem dL_insert_14 : decode cL_insert 14 = .ok (.goto 15, 3) := by decide +kernel
theorem dL_insert_17 : decode cL_insert 17 = .ok (.astore 6, 2) := by decide +kernel
theorem dL_insert_19 : decode cL_insert 19 = .ok (.iconst 1, 1) := by decide +kernel
theorem dL_insert_20 : decode cL_insert 20 = .ok (.ireturn, 1) := by decide +kernel
theorem dL_insert_21 : decode cL_insert 21 = .ok (.astore 6, 2) := by decide +kernel
theorem dL_insert_23 : decode cL_insert 23 = .ok (.iconst 2, 1) := by decide +kernel
theorem dL_insert_24 : decode cL_insert 24 = .ok (.ireturn, 1) := by decide +kernel
theorem dL_insert_25 : decode cL_insert 25 = .ok (.astore 6, 2) := by decide +kernel
theorem dL_insert_27 : decode cL_insert 27 = .ok (.iconst 3, 1) := by decide +kernel
theorem dL_insert_28 : decode cL_insert 28 = .ok (.ireturn, 1) := by decide +kernel
theorem dL_insert_29 : decode cL_insert 29 = .ok (.iconst 0, 1) := by decide +kernel
theorem dL_insert_30 : decode cL_insert 30 = .ok (.ireturn, 1) := by decide +kernel
theorem dL_remove_0 : decode cL_remove 0 = .ok (.aload_n 3, 1) := by decide +kernel
theorem dL_remove_1 : decode cL_remove 1 = .ok (.iconst 0, 1) := by decide +kernel
theorem dL_remove_2 : decode cL_remove 2 = .ok (.aload_n 0, 1) := by decide +kernel
theorem dL_remove_3 : decode cL_remove 3 = .ok (.iload_n 1, 1) := by decide +kernel
theorem dL_remove_4 : decode cL_remove 4 = .ok (.iload_n 2, 1) := by decide +kernel
theorem dL_remove_5 : decode cL_remove 5 = .ok (.invokevirtual 23, 3) := by decide +kernel
theorem dL_remove_8 : decode cL_remove 8 = .ok (.i2l, 1) := by decide +kernel
theorem dL_remove_9 : decode cL_remove 9 = .ok (.lastore, 1) := by decide +kernel
theorem dL_remove_10 : decode cL_remove 10 = .ok (.goto 7, 3) := by decide +kernel
theorem dL_remove_13 : decode cL_remove 13 = .ok (.astore 4, 2) := by decide +kernel
theorem dL_remove_15 : decode cL_remove 15 = .ok (.iconst 1, 1) := by decide +kernel
theorem dL_remove_16 : decode cL_remove 16 = .ok (.ireturn, 1) := by decide +kernel
theorem dL_remove_17 : decode cL_remove 17 = .ok (.iconst 0, 1) := by decide +kernel
theorem dL_remove_18 : decode cL_remove 18 = .ok (.ireturn, 1) := by decide +kernel
theorem dL_retie_0 : decode cL_retie 0 = .ok (.aload 4, 2) := by decide +kernel
theorem dL_retie_2 : decode cL_retie 2 = .ok (.iconst 0, 1) := by decide +kernel
theorem dL_retie_3 : decode cL_retie 3 = .ok (.aload_n 0, 1) := by decide +kernel
theorem dL_retie_4 : decode cL_retie 4 = .ok (.iload_n 1, 1) := by decide +kernel
theorem dL_retie_5 : decode cL_retie 5 = .ok (.iload_n 2, 1) := by decide +kernel
theorem dL_retie_6 : decode cL_retie 6 = .ok (.iload_n 3, 1) := by decide +kernel
theorem dL_retie_7 : decode cL_retie 7 = .ok (.invokevirtual 27, 3) := by decide +kernel
theorem dL_retie_10 : decode cL_retie 10 = .ok (.i2l, 1) := by decide +kernel
theorem dL_retie_11 : decode cL_retie 11 = .ok (.lastore, 1) := by decide +kernel
theorem dL_retie_12 : decode cL_retie 12 = .ok (.goto 11, 3) := by decide +kernel
theorem dL_retie_15 : decode cL_retie 15 = .ok (.astore 5, 2) := by decide +kernel
theorem dL_retie_17 : decode cL_retie 17 = .ok (.iconst 1, 1) := by decide +kernel
theorem dL_retie_18 : decode cL_retie 18 = .ok (.ireturn, 1) := by decide +kernel
theorem dL_retie_19 : decode cL_retie 19 = .ok (.astore 5, 2) := by decide +kernel
theorem dL_retie_21 : decode cL_retie 21 = .ok (.iconst 2, 1) := by decide +kernel
theorem dL_retie_22 : decode cL_retie 22 = .ok (.ireturn, 1) := by decide +kernel
theorem dL_retie_23 : decode cL_retie 23 = .ok (.iconst 0, 1) := by decide +kernel
theorem dL_retie_24 : decode cL_retie 24 = .ok (.ireturn, 1) := by decide +kernel
theorem dL_segmentCount_0 : decode cL_segmentCount 0 = .ok (.aload_n 2, 1) := by decide +kernel
theorem dL_segmentCount_1 : decode cL_segmentCount 1 = .ok (.iconst 0, 1) := by decide +kernel
theorem dL_segmentCount_2 : decode cL_segmentCount 2 = .ok (.aload_n 0, 1) := by decide +kernel
theorem dL_segmentCount_3 : decode cL_segmentCount 3 = .ok (.iload_n 1, 1) := by decide +kernel
theorem dL_segmentCount_4 : decode cL_segmentCount 4 = .ok (.invokevirtual 30, 3) := by decide +kernel
theorem dL_segmentCount_7 : decode cL_segmentCount 7 = .ok (.i2l, 1) := by decide +kernel
theorem dL_segmentCount_8 : decode cL_segmentCount 8 = .ok (.lastore, 1) := by decide +kernel
theorem dL_segmentCount_9 : decode cL_segmentCount 9 = .ok (.goto 6, 3) := by decide +kernel
theorem dL_segmentCount_12 : decode cL_segmentCount 12 = .ok (.astore_n 3, 1) := by decide +kernel
theorem dL_segmentCount_13 : decode cL_segmentCount 13 = .ok (.iconst 1, 1) := by decide +kernel
theorem dL_segmentCount_14 : decode cL_segmentCount 14 = .ok (.ireturn, 1) := by decide +kernel
theorem dL_segmentCount_15 : decode cL_segmentCount 15 = .ok (.iconst 0, 1) := by decide +kernel
theorem dL_segmentCount_16 : decode cL_segmentCount 16 = .ok (.ireturn, 1) := by decide +kernel
theorem dL_length_0 : decode cL_length 0 = .ok (.aload_n 3, 1) := by decide +kernel
theorem dL_length_1 : decode cL_length 1 = .ok (.iconst 0, 1) := by decide +kernel
theorem dL_length_2 : decode cL_length 2 = .ok (.aload_n 0, 1) := by decide +kernel
theorem dL_length_3 : decode cL_length 3 = .ok (.iload_n 1, 1) := by decide +kernel
theorem dL_length_4 : decode cL_length 4 = .ok (.iload_n 2, 1) := by decide +kernel
theorem dL_length_5 : decode cL_length 5 = .ok (.invokevirtual 34, 3) := by decide +kernel
theorem dL_length_8 : decode cL_length 8 = .ok (.i2l, 1) := by decide +kernel
theorem dL_length_9 : decode cL_length 9 = .ok (.lastore, 1) := by decide +kernel
theorem dL_length_10 : decode cL_length 10 = .ok (.goto 7, 3) := by decide +kernel
theorem dL_length_13 : decode cL_length 13 = .ok (.astore 4, 2) := by decide +kernel
theorem dL_length_15 : decode cL_length 15 = .ok (.iconst 1, 1) := by decide +kernel
theorem dL_length_16 : decode cL_length 16 = .ok (.ireturn, 1) := by decide +kernel
theorem dL_length_17 : decode cL_length 17 = .ok (.iconst 0, 1) := by decide +kernel
theorem dL_length_18 : decode cL_length 18 = .ok (.ireturn, 1) := by decide +kernel
theorem dL_colour_0 : decode cL_colour 0 = .ok (.aload_n 3, 1) := by decide +kernel
theorem dL_colour_1 : decode cL_colour 1 = .ok (.iconst 0, 1) := by decide +kernel
theorem dL_colour_2 : decode cL_colour 2 = .ok (.aload_n 0, 1) := by decide +kernel
theorem dL_colour_3 : decode cL_colour 3 = .ok (.iload_n 1, 1) := by decide +kernel
theorem dL_colour_4 : decode cL_colour 4 = .ok (.iload_n 2, 1) := by decide +kernel
theorem dL_colour_5 : decode cL_colour 5 = .ok (.invokevirtual 37, 3) := by decide +kernel
theorem dL_colour_8 : decode cL_colour 8 = .ok (.i2l, 1) := by decide +kernel
theorem dL_colour_9 : decode cL_colour 9 = .ok (.lastore, 1) := by decide +kernel
theorem dL_colour_10 : decode cL_colour 10 = .ok (.goto 7, 3) := by decide +kernel
theorem dL_colour_13 : decode cL_colour 13 = .ok (.astore 4, 2) := by decide +kernel
theorem dL_colour_15 : decode cL_colour 15 = .ok (.iconst 1, 1) := by decide +kernel
theorem dL_colour_16 : decode cL_colour 16 = .ok (.ireturn, 1) := by decide +kernel
theorem dL_colour_17 : decode cL_colour 17 = .ok (.iconst 0, 1) := by decide +kernel
theorem dL_colour_18 : decode cL_colour 18 = .ok (.ireturn, 1) := by decide +kernel
theorem dL_cut_0 : decode cL_cut 0 = .ok (.aload 4, 2) := by decide +kernel
theorem dL_cut_2 : decode cL_cut 2 = .ok (.iconst 0, 1) := by decide +kernel
theorem dL_cut_3 : decode cL_cut 3 = .ok (.aload_n 0, 1) := by decide +kernel
theorem dL_cut_4 : decode cL_cut 4 = .ok (.iload_n 1, 1) := by decide +kernel
theorem dL_cut_5 : decode cL_cut 5 = .ok (.iload_n 2, 1) := by decide +kernel
theorem dL_cut_6 : decode cL_cut 6 = .ok (.iload_n 3, 1) := by decide +kernel
theorem dL_cut_7 : decode cL_cut 7 = .ok (.invokevirtual 40, 3) := by decide +kernel
theorem dL_cut_10 : decode cL_cut 10 = .ok (.i2l, 1) := by decide +kernel
theorem dL_cut_11 : decode cL_cut 11 = .ok (.lastore, 1) := by decide +kernel
theorem dL_cut_12 : decode cL_cut 12 = .ok (.goto 15, 3) := by decide +kernel
theorem dL_cut_15 : decode cL_cut 15 = .ok (.astore 5, 2) := by decide +kernel
theorem dL_cut_17 : decode cL_cut 17 = .ok (.iconst 1, 1) := by decide +kernel
theorem dL_cut_18 : decode cL_cut 18 = .ok (.ireturn, 1) := by decide +kernel
theorem dL_cut_19 : decode cL_cut 19 = .ok (.astore 5, 2) := by decide +kernel
theorem dL_cut_21 : decode cL_cut 21 = .ok (.iconst 2, 1) := by decide +kernel
theorem dL_cut_22 : decode cL_cut 22 = .ok (.ireturn, 1) := by decide +kernel
theorem dL_cut_23 : decode cL_cut 23 = .ok (.astore 5, 2) := by decide +kernel
theorem dL_cut_25 : decode cL_cut 25 = .ok (.iconst 3, 1) := by decide +kernel
theorem dL_cut_26 : decode cL_cut 26 = .ok (.ireturn, 1) := by decide +kernel
theorem dL_cut_27 : decode cL_cut 27 = .ok (.iconst 0, 1) := by decide +kernel
theorem dL_cut_28 : decode cL_cut 28 = .ok (.ireturn, 1) := by decide +kernel
theorem dL_splice_0 : decode cL_splice 0 = .ok (.aload_n 3, 1) := by decide +kernel
theorem dL_splice_1 : decode cL_splice 1 = .ok (.iconst 0, 1) := by decide +kernel
theorem dL_splice_2 : decode cL_splice 2 = .ok (.aload_n 0, 1) := by decide +kernel
theorem dL_splice_3 : decode cL_splice 3 = .ok (.iload_n 1, 1) := by decide +kernel
theorem dL_splice_4 : decode cL_splice 4 = .ok (.iload_n 2, 1) := by decide +kernel
theorem dL_splice_5 : decode cL_splice 5 = .ok (.invokevirtual 43, 3) := by decide +kernel
theorem dL_splice_8 : decode cL_splice 8 = .ok (.i2l, 1) := by decide +kernel
theorem dL_splice_9 : decode cL_splice 9 = .ok (.lastore, 1) := by decide +kernel
theorem dL_splice_10 : decode cL_splice 10 = .ok (.goto 15, 3) := by decide +kernel
theorem dL_splice_13 : decode cL_splice 13 = .ok (.astore 4, 2) := by decide +kernel
theorem dL_splice_15 : decode cL_splice 15 = .ok (.iconst 1, 1) := by decide +kernel
theorem dL_splice_16 : decode cL_splice 16 = .ok (.ireturn, 1) := by decide +kernel
theorem dL_splice_17 : decode cL_splice 17 = .ok (.astore 4, 2) := by decide +kernel
theorem dL_splice_19 : decode cL_splice 19 = .ok (.iconst 2, 1) := by decide +kernel
theorem dL_splice_20 : decode cL_splice 20 = .ok (.ireturn, 1) := by decide +kernel
theorem dL_splice_21 : decode cL_splice 21 = .ok (.astore 4, 2) := by decide +kernel
theorem dL_splice_23 : decode cL_splice 23 = .ok (.iconst 3, 1) := by decide +kernel
theorem dL_splice_24 : decode cL_splice 24 = .ok (.ireturn, 1) := by decide +kernel
theorem dL_splice_25 : decode cL_splice 25 = .ok (.iconst 0, 1) := by decide +kernel
theorem dL_splice_26 : decode cL_splice 26 = .ok (.ireturn, 1) := by decide +kernel
theorem dL_exchange_0 : decode cL_exchange 0 = .ok (.aload_n 3, 1) := by decide +kernel
theorem dL_exchange_1 : decode cL_exchange 1 = .ok (.iconst 0, 1) := by decide +kernel
theorem dL_exchange_2 : decode cL_exchange 2 = .ok (.aload_n 0, 1) := by decide +kernel
theorem dL_exchange_3 : decode cL_exchange 3 = .ok (.iload_n 1, 1) := by decide +kernel
theorem dL_exchange_4 : decode cL_exchange 4 = .ok (.iload_n 2, 1) := by decide +kernel
theorem dL_exchange_5 : decode cL_exchange 5 = .ok (.invokevirtual 46, 3) := by decide +kernel
theorem dL_exchange_8 : decode cL_exchange 8 = .ok (.i2l, 1) := by decide +kernel
theorem dL_exchange_9 : decode cL_exchange 9 = .ok (.lastore, 1) := by decide +kernel
theorem dL_exchange_10 : decode cL_exchange 10 = .ok (.goto 7, 3) := by decide +kernel
theorem dL_exchange_13 : decode cL_exchange 13 = .ok (.astore 4, 2) := by decide +kernel
theorem dL_exchange_15 : decode cL_exchange 15 = .ok (.iconst 1, 1) := by decide +kernel
theorem dL_exchange_16 : decode cL_exchange 16 = .ok (.ireturn, 1) := by decide +kernel
theorem dL_exchange_17 : decode cL_exchange 17 = .ok (.iconst 0, 1) := by decide +kernel
theorem dL_exchange_18 : decode cL_exchange 18 = .ok (.ireturn, 1) := by decide +kernel
theorem dL_flip_0 : decode cL_flip 0 = .ok (.aload 4, 2) := by decide +kernel
theorem dL_flip_2 : decode cL_flip 2 = .ok (.iconst 0, 1) := by decide +kernel
theorem dL_flip_3 : decode cL_flip 3 = .ok (.aload_n 0, 1) := by decide +kernel
theorem dL_flip_4 : decode cL_flip 4 = .ok (.iload_n 1, 1) := by decide +kernel
theorem dL_flip_5 : decode cL_flip 5 = .ok (.iload_n 2, 1) := by decide +kernel
theorem dL_flip_6 : decode cL_flip 6 = .ok (.iload_n 3, 1) := by decide +kernel
theorem dL_flip_7 : decode cL_flip 7 = .ok (.invokevirtual 49, 3) := by decide +kernel
theorem dL_flip_10 : decode cL_flip 10 = .ok (.i2l, 1) := by decide +kernel
theorem dL_flip_11 : decode cL_flip 11 = .ok (.lastore, 1) := by decide +kernel
theorem dL_flip_12 : decode cL_flip 12 = .ok (.goto 11, 3) := by decide +kernel
theorem dL_flip_15 : decode cL_flip 15 = .ok (.astore 5, 2) := by decide +kernel
theorem dL_flip_17 : decode cL_flip 17 = .ok (.iconst 1, 1) := by decide +kernel
theorem dL_flip_18 : decode cL_flip 18 = .ok (.ireturn, 1) := by decide +kernel
theorem dL_flip_19 : decode cL_flip 19 = .ok (.astore 5, 2) := by decide +kernel
theorem dL_flip_21 : decode cL_flip 21 = .ok (.iconst 2, 1) := by decide +kernel
theorem dL_flip_22 : decode cL_flip 22 = .ok (.ireturn, 1) := by decide +kernel
theorem dL_flip_23 : decode cL_flip 23 = .ok (.iconst 0, 1) := by decide +kernel
theorem dL_flip_24 : decode cL_flip 24 = .ok (.ireturn, 1) := by decide +kernel
theorem dL_dye_0 : decode cL_dye 0 = .ok (.aload 5, 2) := by decide +kernel
theorem dL_dye_2 : decode cL_dye 2 = .ok (.iconst 0, 1) := by decide +kernel
theorem dL_dye_3 : decode cL_dye 3 = .ok (.aload_n 0, 1) := by decide +kernel
theorem dL_dye_4 : decode cL_dye 4 = .ok (.iload_n 1, 1) := by decide +kernel
theorem dL_dye_5 : decode cL_dye 5 = .ok (.iload_n 2, 1) := by decide +kernel
theorem dL_dye_6 : decode cL_dye 6 = .ok (.iload_n 3, 1) := by decide +kernel
theorem dL_dye_7 : decode cL_dye 7 = .ok (.iload 4, 2) := by decide +kernel
theorem dL_dye_9 : decode cL_dye 9 = .ok (.invokevirtual 52, 3) := by decide +kernel
theorem dL_dye_12 : decode cL_dye 12 = .ok (.i2l, 1) := by decide +kernel
theorem dL_dye_13 : decode cL_dye 13 = .ok (.lastore, 1) := by decide +kernel
theorem dL_dye_14 : decode cL_dye 14 = .ok (.goto 11, 3) := by decide +kernel
theorem dL_dye_17 : decode cL_dye 17 = .ok (.astore 6, 2) := by decide +kernel
theorem dL_dye_19 : decode cL_dye 19 = .ok (.iconst 1, 1) := by decide +kernel
theorem dL_dye_20 : decode cL_dye 20 = .ok (.ireturn, 1) := by decide +kernel
theorem dL_dye_21 : decode cL_dye 21 = .ok (.astore 6, 2) := by decide +kernel
theorem dL_dye_23 : decode cL_dye 23 = .ok (.iconst 2, 1) := by decide +kernel
theorem dL_dye_24 : decode cL_dye 24 = .ok (.ireturn, 1) := by decide +kernel
theorem dL_dye_25 : decode cL_dye 25 = .ok (.iconst 0, 1) := by decide +kernel
theorem dL_dye_26 : decode cL_dye 26 = .ok (.ireturn, 1) := by decide +kernel
theorem dL_reelLength_0 : decode cL_reelLength 0 = .ok (.aload_n 2, 1) := by decide +kernel
theorem dL_reelLength_1 : decode cL_reelLength 1 = .ok (.iconst 0, 1) := by decide +kernel
theorem dL_reelLength_2 : decode cL_reelLength 2 = .ok (.aload_n 0, 1) := by decide +kernel
theorem dL_reelLength_3 : decode cL_reelLength 3 = .ok (.iload_n 1, 1) := by decide +kernel
theorem dL_reelLength_4 : decode cL_reelLength 4 = .ok (.invokevirtual 55, 3) := by decide +kernel
theorem dL_reelLength_7 : decode cL_reelLength 7 = .ok (.i2l, 1) := by decide +kernel
theorem dL_reelLength_8 : decode cL_reelLength 8 = .ok (.lastore, 1) := by decide +kernel
theorem dL_reelLength_9 : decode cL_reelLength 9 = .ok (.goto 6, 3) := by decide +kernel
theorem dL_reelLength_12 : decode cL_reelLength 12 = .ok (.astore_n 3, 1) := by decide +kernel
theorem dL_reelLength_13 : decode cL_reelLength 13 = .ok (.iconst 1, 1) := by decide +kernel
theorem dL_reelLength_14 : decode cL_reelLength 14 = .ok (.ireturn, 1) := by decide +kernel
theorem dL_reelLength_15 : decode cL_reelLength 15 = .ok (.iconst 0, 1) := by decide +kernel
theorem dL_reelLength_16 : decode cL_reelLength 16 = .ok (.ireturn, 1) := by decide +kernel
theorem dL_lengthBefore_0 : decode cL_lengthBefore 0 = .ok (.aload_n 3, 1) := by decide +kernel
theorem dL_lengthBefore_1 : decode cL_lengthBefore 1 = .ok (.iconst 0, 1) := by decide +kernel
theorem dL_lengthBefore_2 : decode cL_lengthBefore 2 = .ok (.aload_n 0, 1) := by decide +kernel
theorem dL_lengthBefore_3 : decode cL_lengthBefore 3 = .ok (.iload_n 1, 1) := by decide +kernel
theorem dL_lengthBefore_4 : decode cL_lengthBefore 4 = .ok (.iload_n 2, 1) := by decide +kernel
theorem dL_lengthBefore_5 : decode cL_lengthBefore 5 = .ok (.invokevirtual 58, 3) := by decide +kernel
theorem dL_lengthBefore_8 : decode cL_lengthBefore 8 = .ok (.i2l, 1) := by decide +kernel
theorem dL_lengthBefore_9 : decode cL_lengthBefore 9 = .ok (.lastore, 1) := by decide +kernel
theorem dL_lengthBefore_10 : decode cL_lengthBefore 10 = .ok (.goto 7, 3) := by decide +kernel
theorem dL_lengthBefore_13 : decode cL_lengthBefore 13 = .ok (.astore 4, 2) := by decide +kernel
theorem dL_lengthBefore_15 : decode cL_lengthBefore 15 = .ok (.iconst 1, 1) := by decide +kernel
theorem dL_lengthBefore_16 : decode cL_lengthBefore 16 = .ok (.ireturn, 1) := by decide +kernel
theorem dL_lengthBefore_17 : decode cL_lengthBefore 17 = .ok (.iconst 0, 1) := by decide +kernel
theorem dL_lengthBefore_18 : decode cL_lengthBefore 18 = .ok (.ireturn, 1) := by decide +kernel
theorem dL_lengthBeforeByScan_0 : decode cL_lengthBeforeByScan 0 = .ok (.aload_n 3, 1) := by decide +kernel
theorem dL_lengthBeforeByScan_1 : decode cL_lengthBeforeByScan 1 = .ok (.iconst 0, 1) := by decide +kernel
theorem dL_lengthBeforeByScan_2 : decode cL_lengthBeforeByScan 2 = .ok (.aload_n 0, 1) := by decide +kernel
theorem dL_lengthBeforeByScan_3 : decode cL_lengthBeforeByScan 3 = .ok (.iload_n 1, 1) := by decide +kernel
theorem dL_lengthBeforeByScan_4 : decode cL_lengthBeforeByScan 4 = .ok (.iload_n 2, 1) := by decide +kernel
theorem dL_lengthBeforeByScan_5 : decode cL_lengthBeforeByScan 5 = .ok (.invokevirtual 61, 3) := by decide +kernel
theorem dL_lengthBeforeByScan_8 : decode cL_lengthBeforeByScan 8 = .ok (.i2l, 1) := by decide +kernel
theorem dL_lengthBeforeByScan_9 : decode cL_lengthBeforeByScan 9 = .ok (.lastore, 1) := by decide +kernel
theorem dL_lengthBeforeByScan_10 : decode cL_lengthBeforeByScan 10 = .ok (.goto 7, 3) := by decide +kernel
theorem dL_lengthBeforeByScan_13 : decode cL_lengthBeforeByScan 13 = .ok (.astore 4, 2) := by decide +kernel
theorem dL_lengthBeforeByScan_15 : decode cL_lengthBeforeByScan 15 = .ok (.iconst 1, 1) := by decide +kernel
theorem dL_lengthBeforeByScan_16 : decode cL_lengthBeforeByScan 16 = .ok (.ireturn, 1) := by decide +kernel
theorem dL_lengthBeforeByScan_17 : decode cL_lengthBeforeByScan 17 = .ok (.iconst 0, 1) := by decide +kernel
theorem dL_lengthBeforeByScan_18 : decode cL_lengthBeforeByScan 18 = .ok (.ireturn, 1) := by decide +kernel
theorem dL_positionAt_0 : decode cL_positionAt 0 = .ok (.aload_n 3, 1) := by decide +kernel
theorem dL_positionAt_1 : decode cL_positionAt 1 = .ok (.iconst 0, 1) := by decide +kernel
theorem dL_positionAt_2 : decode cL_positionAt 2 = .ok (.aload_n 0, 1) := by decide +kernel
theorem dL_positionAt_3 : decode cL_positionAt 3 = .ok (.iload_n 1, 1) := by decide +kernel
theorem dL_positionAt_4 : decode cL_positionAt 4 = .ok (.iload_n 2, 1) := by decide +kernel
theorem dL_positionAt_5 : decode cL_positionAt 5 = .ok (.invokevirtual 64, 3) := by decide +kernel
theorem dL_positionAt_8 : decode cL_positionAt 8 = .ok (.i2l, 1) := by decide +kernel
theorem dL_positionAt_9 : decode cL_positionAt 9 = .ok (.lastore, 1) := by decide +kernel
theorem dL_positionAt_10 : decode cL_positionAt 10 = .ok (.goto 11, 3) := by decide +kernel
theorem dL_positionAt_13 : decode cL_positionAt 13 = .ok (.astore 4, 2) := by decide +kernel
theorem dL_positionAt_15 : decode cL_positionAt 15 = .ok (.iconst 1, 1) := by decide +kernel
theorem dL_positionAt_16 : decode cL_positionAt 16 = .ok (.ireturn, 1) := by decide +kernel
theorem dL_positionAt_17 : decode cL_positionAt 17 = .ok (.astore 4, 2) := by decide +kernel
theorem dL_positionAt_19 : decode cL_positionAt 19 = .ok (.iconst 2, 1) := by decide +kernel
theorem dL_positionAt_20 : decode cL_positionAt 20 = .ok (.ireturn, 1) := by decide +kernel
theorem dL_positionAt_21 : decode cL_positionAt 21 = .ok (.iconst 0, 1) := by decide +kernel
theorem dL_positionAt_22 : decode cL_positionAt 22 = .ok (.ireturn, 1) := by decide +kernel
theorem dL_rangeLength_0 : decode cL_rangeLength 0 = .ok (.aload 4, 2) := by decide +kernel
theorem dL_rangeLength_2 : decode cL_rangeLength 2 = .ok (.iconst 0, 1) := by decide +kernel
theorem dL_rangeLength_3 : decode cL_rangeLength 3 = .ok (.aload_n 0, 1) := by decide +kernel
theorem dL_rangeLength_4 : decode cL_rangeLength 4 = .ok (.iload_n 1, 1) := by decide +kernel
theorem dL_rangeLength_5 : decode cL_rangeLength 5 = .ok (.iload_n 2, 1) := by decide +kernel
theorem dL_rangeLength_6 : decode cL_rangeLength 6 = .ok (.iload_n 3, 1) := by decide +kernel
theorem dL_rangeLength_7 : decode cL_rangeLength 7 = .ok (.invokevirtual 69, 3) := by decide +kernel
theorem dL_rangeLength_10 : decode cL_rangeLength 10 = .ok (.i2l, 1) := by decide +kernel
theorem dL_rangeLength_11 : decode cL_rangeLength 11 = .ok (.lastore, 1) := by decide +kernel
theorem dL_rangeLength_12 : decode cL_rangeLength 12 = .ok (.goto 11, 3) := by decide +kernel
theorem dL_rangeLength_15 : decode cL_rangeLength 15 = .ok (.astore 5, 2) := by decide +kernel
theorem dL_rangeLength_17 : decode cL_rangeLength 17 = .ok (.iconst 1, 1) := by decide +kernel
theorem dL_rangeLength_18 : decode cL_rangeLength 18 = .ok (.ireturn, 1) := by decide +kernel
theorem dL_rangeLength_19 : decode cL_rangeLength 19 = .ok (.astore 5, 2) := by decide +kernel
theorem dL_rangeLength_21 : decode cL_rangeLength 21 = .ok (.iconst 2, 1) := by decide +kernel
theorem dL_rangeLength_22 : decode cL_rangeLength 22 = .ok (.ireturn, 1) := by decide +kernel
theorem dL_rangeLength_23 : decode cL_rangeLength 23 = .ok (.iconst 0, 1) := by decide +kernel
theorem dL_rangeLength_24 : decode cL_rangeLength 24 = .ok (.ireturn, 1) := by decide +kernel
theorem dL_longestInRange_0 : decode cL_longestInRange 0 = .ok (.aload 4, 2) := by decide +kernel
theorem dL_longestInRange_2 : decode cL_longestInRange 2 = .ok (.iconst 0, 1) := by decide +kernel
theorem dL_longestInRange_3 : decode cL_longestInRange 3 = .ok (.aload_n 0, 1) := by decide +kernel
theorem dL_longestInRange_4 : decode cL_longestInRange 4 = .ok (.iload_n 1, 1) := by decide +kernel
theorem dL_longestInRange_5 : decode cL_longestInRange 5 = .ok (.iload_n 2, 1) := by decide +kernel
theorem dL_longestInRange_6 : decode cL_longestInRange 6 = .ok (.iload_n 3, 1) := by decide +kernel
theorem dL_longestInRange_7 : decode cL_longestInRange 7 = .ok (.invokevirtual 72, 3) := by decide +kernel
theorem dL_longestInRange_10 : decode cL_longestInRange 10 = .ok (.i2l, 1) := by decide +kernel
theorem dL_longestInRange_11 : decode cL_longestInRange 11 = .ok (.lastore, 1) := by decide +kernel
theorem dL_longestInRange_12 : decode cL_longestInRange 12 = .ok (.goto 11, 3) := by decide +kernel
theorem dL_longestInRange_15 : decode cL_longestInRange 15 = .ok (.astore 5, 2) := by decide +kernel
theorem dL_longestInRange_17 : decode cL_longestInRange 17 = .ok (.iconst 1, 1) := by decide +kernel
theorem dL_longestInRange_18 : decode cL_longestInRange 18 = .ok (.ireturn, 1) := by decide +kernel
theorem dL_longestInRange_19 : decode cL_longestInRange 19 = .ok (.astore 5, 2) := by decide +kernel
theorem dL_longestInRange_21 : decode cL_longestInRange 21 = .ok (.iconst 2, 1) := by decide +kernel
theorem dL_longestInRange_22 : decode cL_longestInRange 22 = .ok (.ireturn, 1) := by decide +kernel
theorem dL_longestInRange_23 : decode cL_longestInRange 23 = .ok (.iconst 0, 1) := by decide +kernel
theorem dL_longestInRange_24 : decode cL_longestInRange 24 = .ok (.ireturn, 1) := by decide +kernel
theorem dL_segmentAtRank_0 : decode cL_segmentAtRank 0 = .ok (.aload_n 3, 1) := by decide +kernel
theorem dL_segmentAtRank_1 : decode cL_segmentAtRank 1 = .ok (.iconst 0, 1) := by decide +kernel
theorem dL_segmentAtRank_2 : decode cL_segmentAtRank 2 = .ok (.aload_n 0, 1) := by decide +kernel
theorem dL_segmentAtRank_3 : decode cL_segmentAtRank 3 = .ok (.iload_n 1, 1) := by decide +kernel
theorem dL_segmentAtRank_4 : decode cL_segmentAtRank 4 = .ok (.iload_n 2, 1) := by decide +kernel
theorem dL_segmentAtRank_5 : decode cL_segmentAtRank 5 = .ok (.invokevirtual 75, 3) := by decide +kernel
theorem dL_segmentAtRank_8 : decode cL_segmentAtRank 8 = .ok (.i2l, 1) := by decide +kernel
theorem dL_segmentAtRank_9 : decode cL_segmentAtRank 9 = .ok (.lastore, 1) := by decide +kernel
theorem dL_segmentAtRank_10 : decode cL_segmentAtRank 10 = .ok (.goto 11, 3) := by decide +kernel
theorem dL_segmentAtRank_13 : decode cL_segmentAtRank 13 = .ok (.astore 4, 2) := by decide +kernel
theorem dL_segmentAtRank_15 : decode cL_segmentAtRank 15 = .ok (.iconst 1, 1) := by decide +kernel
theorem dL_segmentAtRank_16 : decode cL_segmentAtRank 16 = .ok (.ireturn, 1) := by decide +kernel
theorem dL_segmentAtRank_17 : decode cL_segmentAtRank 17 = .ok (.astore 4, 2) := by decide +kernel
theorem dL_segmentAtRank_19 : decode cL_segmentAtRank 19 = .ok (.iconst 2, 1) := by decide +kernel
theorem dL_segmentAtRank_20 : decode cL_segmentAtRank 20 = .ok (.ireturn, 1) := by decide +kernel
theorem dL_segmentAtRank_21 : decode cL_segmentAtRank 21 = .ok (.iconst 0, 1) := by decide +kernel
theorem dL_segmentAtRank_22 : decode cL_segmentAtRank 22 = .ok (.ireturn, 1) := by decide +kernel
theorem dL_tangleCount_0 : decode cL_tangleCount 0 = .ok (.aload_n 2, 1) := by decide +kernel
theorem dL_tangleCount_1 : decode cL_tangleCount 1 = .ok (.iconst 0, 1) := by decide +kernel
theorem dL_tangleCount_2 : decode cL_tangleCount 2 = .ok (.aload_n 0, 1) := by decide +kernel
theorem dL_tangleCount_3 : decode cL_tangleCount 3 = .ok (.iload_n 1, 1) := by decide +kernel
theorem dL_tangleCount_4 : decode cL_tangleCount 4 = .ok (.invokevirtual 78, 3) := by decide +kernel
theorem dL_tangleCount_7 : decode cL_tangleCount 7 = .ok (.i2l, 1) := by decide +kernel
theorem dL_tangleCount_8 : decode cL_tangleCount 8 = .ok (.lastore, 1) := by decide +kernel
theorem dL_tangleCount_9 : decode cL_tangleCount 9 = .ok (.goto 6, 3) := by decide +kernel
theorem dL_tangleCount_12 : decode cL_tangleCount 12 = .ok (.astore_n 3, 1) := by decide +kernel
theorem dL_tangleCount_13 : decode cL_tangleCount 13 = .ok (.iconst 1, 1) := by decide +kernel
theorem dL_tangleCount_14 : decode cL_tangleCount 14 = .ok (.ireturn, 1) := by decide +kernel
theorem dL_tangleCount_15 : decode cL_tangleCount 15 = .ok (.iconst 0, 1) := by decide +kernel
theorem dL_tangleCount_16 : decode cL_tangleCount 16 = .ok (.ireturn, 1) := by decide +kernel
theorem dL_tangleCountByScan_0 : decode cL_tangleCountByScan 0 = .ok (.aload_n 2, 1) := by decide +kernel
theorem dL_tangleCountByScan_1 : decode cL_tangleCountByScan 1 = .ok (.iconst 0, 1) := by decide +kernel
theorem dL_tangleCountByScan_2 : decode cL_tangleCountByScan 2 = .ok (.aload_n 0, 1) := by decide +kernel
theorem dL_tangleCountByScan_3 : decode cL_tangleCountByScan 3 = .ok (.iload_n 1, 1) := by decide +kernel
theorem dL_tangleCountByScan_4 : decode cL_tangleCountByScan 4 = .ok (.invokevirtual 81, 3) := by decide +kernel
theorem dL_tangleCountByScan_7 : decode cL_tangleCountByScan 7 = .ok (.i2l, 1) := by decide +kernel
theorem dL_tangleCountByScan_8 : decode cL_tangleCountByScan 8 = .ok (.lastore, 1) := by decide +kernel
theorem dL_tangleCountByScan_9 : decode cL_tangleCountByScan 9 = .ok (.goto 6, 3) := by decide +kernel
theorem dL_tangleCountByScan_12 : decode cL_tangleCountByScan 12 = .ok (.astore_n 3, 1) := by decide +kernel
theorem dL_tangleCountByScan_13 : decode cL_tangleCountByScan 13 = .ok (.iconst 1, 1) := by decide +kernel
theorem dL_tangleCountByScan_14 : decode cL_tangleCountByScan 14 = .ok (.ireturn, 1) := by decide +kernel
theorem dL_tangleCountByScan_15 : decode cL_tangleCountByScan 15 = .ok (.iconst 0, 1) := by decide +kernel
theorem dL_tangleCountByScan_16 : decode cL_tangleCountByScan 16 = .ok (.ireturn, 1) := by decide +kernel
theorem dL_isTangled_0 : decode cL_isTangled 0 = .ok (.aload_n 3, 1) := by decide +kernel
theorem dL_isTangled_1 : decode cL_isTangled 1 = .ok (.iconst 0, 1) := by decide +kernel
theorem dL_isTangled_2 : decode cL_isTangled 2 = .ok (.aload_n 0, 1) := by decide +kernel
theorem dL_isTangled_3 : decode cL_isTangled 3 = .ok (.iload_n 1, 1) := by decide +kernel
theorem dL_isTangled_4 : decode cL_isTangled 4 = .ok (.iload_n 2, 1) := by decide +kernel
theorem dL_isTangled_5 : decode cL_isTangled 5 = .ok (.invokevirtual 84, 3) := by decide +kernel
theorem dL_isTangled_8 : decode cL_isTangled 8 = .ok (.ifCond .eq 7, 3) := by decide +kernel
theorem dL_isTangled_11 : decode cL_isTangled 11 = .ok (.lconst 1, 1) := by decide +kernel
theorem dL_isTangled_12 : decode cL_isTangled 12 = .ok (.goto 4, 3) := by decide +kernel
theorem dL_isTangled_15 : decode cL_isTangled 15 = .ok (.lconst 0, 1) := by decide +kernel
theorem dL_isTangled_16 : decode cL_isTangled 16 = .ok (.lastore, 1) := by decide +kernel
theorem dL_isTangled_17 : decode cL_isTangled 17 = .ok (.goto 7, 3) := by decide +kernel
theorem dL_isTangled_20 : decode cL_isTangled 20 = .ok (.astore 4, 2) := by decide +kernel
theorem dL_isTangled_22 : decode cL_isTangled 22 = .ok (.iconst 1, 1) := by decide +kernel
theorem dL_isTangled_23 : decode cL_isTangled 23 = .ok (.ireturn, 1) := by decide +kernel
theorem dL_isTangled_24 : decode cL_isTangled 24 = .ok (.iconst 0, 1) := by decide +kernel
theorem dL_isTangled_25 : decode cL_isTangled 25 = .ok (.ireturn, 1) := by decide +kernel
theorem dL_longestRun_0 : decode cL_longestRun 0 = .ok (.aload_n 2, 1) := by decide +kernel
theorem dL_longestRun_1 : decode cL_longestRun 1 = .ok (.iconst 0, 1) := by decide +kernel
theorem dL_longestRun_2 : decode cL_longestRun 2 = .ok (.aload_n 0, 1) := by decide +kernel
theorem dL_longestRun_3 : decode cL_longestRun 3 = .ok (.iload_n 1, 1) := by decide +kernel
theorem dL_longestRun_4 : decode cL_longestRun 4 = .ok (.invokevirtual 88, 3) := by decide +kernel
theorem dL_longestRun_7 : decode cL_longestRun 7 = .ok (.i2l, 1) := by decide +kernel
theorem dL_longestRun_8 : decode cL_longestRun 8 = .ok (.lastore, 1) := by decide +kernel
theorem dL_longestRun_9 : decode cL_longestRun 9 = .ok (.goto 6, 3) := by decide +kernel
theorem dL_longestRun_12 : decode cL_longestRun 12 = .ok (.astore_n 3, 1) := by decide +kernel
theorem dL_longestRun_13 : decode cL_longestRun 13 = .ok (.iconst 1, 1) := by decide +kernel
theorem dL_longestRun_14 : decode cL_longestRun 14 = .ok (.ireturn, 1) := by decide +kernel
theorem dL_longestRun_15 : decode cL_longestRun 15 = .ok (.iconst 0, 1) := by decide +kernel
theorem dL_longestRun_16 : decode cL_longestRun 16 = .ok (.ireturn, 1) := by decide +kernel
theorem dL_nextOfColour_0 : decode cL_nextOfColour 0 = .ok (.aload 4, 2) := by decide +kernel
theorem dL_nextOfColour_2 : decode cL_nextOfColour 2 = .ok (.iconst 0, 1) := by decide +kernel
theorem dL_nextOfColour_3 : decode cL_nextOfColour 3 = .ok (.aload_n 0, 1) := by decide +kernel
theorem dL_nextOfColour_4 : decode cL_nextOfColour 4 = .ok (.iload_n 1, 1) := by decide +kernel
theorem dL_nextOfColour_5 : decode cL_nextOfColour 5 = .ok (.iload_n 2, 1) := by decide +kernel
theorem dL_nextOfColour_6 : decode cL_nextOfColour 6 = .ok (.iload_n 3, 1) := by decide +kernel
theorem dL_nextOfColour_7 : decode cL_nextOfColour 7 = .ok (.invokevirtual 91, 3) := by decide +kernel
theorem dL_nextOfColour_10 : decode cL_nextOfColour 10 = .ok (.i2l, 1) := by decide +kernel
theorem dL_nextOfColour_11 : decode cL_nextOfColour 11 = .ok (.lastore, 1) := by decide +kernel
theorem dL_nextOfColour_12 : decode cL_nextOfColour 12 = .ok (.goto 15, 3) := by decide +kernel
theorem dL_nextOfColour_15 : decode cL_nextOfColour 15 = .ok (.astore 5, 2) := by decide +kernel
theorem dL_nextOfColour_17 : decode cL_nextOfColour 17 = .ok (.iconst 1, 1) := by decide +kernel
theorem dL_nextOfColour_18 : decode cL_nextOfColour 18 = .ok (.ireturn, 1) := by decide +kernel
theorem dL_nextOfColour_19 : decode cL_nextOfColour 19 = .ok (.astore 5, 2) := by decide +kernel
theorem dL_nextOfColour_21 : decode cL_nextOfColour 21 = .ok (.iconst 2, 1) := by decide +kernel
theorem dL_nextOfColour_22 : decode cL_nextOfColour 22 = .ok (.ireturn, 1) := by decide +kernel
theorem dL_nextOfColour_23 : decode cL_nextOfColour 23 = .ok (.astore 5, 2) := by decide +kernel
theorem dL_nextOfColour_25 : decode cL_nextOfColour 25 = .ok (.iconst 3, 1) := by decide +kernel
theorem dL_nextOfColour_26 : decode cL_nextOfColour 26 = .ok (.ireturn, 1) := by decide +kernel
theorem dL_nextOfColour_27 : decode cL_nextOfColour 27 = .ok (.iconst 0, 1) := by decide +kernel
theorem dL_nextOfColour_28 : decode cL_nextOfColour 28 = .ok (.ireturn, 1) := by decide +kernel
theorem dL_colourLength_0 : decode cL_colourLength 0 = .ok (.aload_n 3, 1) := by decide +kernel
theorem dL_colourLength_1 : decode cL_colourLength 1 = .ok (.iconst 0, 1) := by decide +kernel
theorem dL_colourLength_2 : decode cL_colourLength 2 = .ok (.aload_n 0, 1) := by decide +kernel
theorem dL_colourLength_3 : decode cL_colourLength 3 = .ok (.iload_n 1, 1) := by decide +kernel
theorem dL_colourLength_4 : decode cL_colourLength 4 = .ok (.iload_n 2, 1) := by decide +kernel
theorem dL_colourLength_5 : decode cL_colourLength 5 = .ok (.invokevirtual 94, 3) := by decide +kernel
theorem dL_colourLength_8 : decode cL_colourLength 8 = .ok (.i2l, 1) := by decide +kernel
theorem dL_colourLength_9 : decode cL_colourLength 9 = .ok (.lastore, 1) := by decide +kernel
theorem dL_colourLength_10 : decode cL_colourLength 10 = .ok (.goto 11, 3) := by decide +kernel
theorem dL_colourLength_13 : decode cL_colourLength 13 = .ok (.astore 4, 2) := by decide +kernel
theorem dL_colourLength_15 : decode cL_colourLength 15 = .ok (.iconst 1, 1) := by decide +kernel
theorem dL_colourLength_16 : decode cL_colourLength 16 = .ok (.ireturn, 1) := by decide +kernel
theorem dL_colourLength_17 : decode cL_colourLength 17 = .ok (.astore 4, 2) := by decide +kernel
theorem dL_colourLength_19 : decode cL_colourLength 19 = .ok (.iconst 2, 1) := by decide +kernel
theorem dL_colourLength_20 : decode cL_colourLength 20 = .ok (.ireturn, 1) := by decide +kernel
theorem dL_colourLength_21 : decode cL_colourLength 21 = .ok (.iconst 0, 1) := by decide +kernel
theorem dL_colourLength_22 : decode cL_colourLength 22 = .ok (.ireturn, 1) := by decide +kernel
theorem dL_colourAtRank_0 : decode cL_colourAtRank 0 = .ok (.aload_n 3, 1) := by decide +kernel
theorem dL_colourAtRank_1 : decode cL_colourAtRank 1 = .ok (.iconst 0, 1) := by decide +kernel
theorem dL_colourAtRank_2 : decode cL_colourAtRank 2 = .ok (.aload_n 0, 1) := by decide +kernel
theorem dL_colourAtRank_3 : decode cL_colourAtRank 3 = .ok (.iload_n 1, 1) := by decide +kernel
theorem dL_colourAtRank_4 : decode cL_colourAtRank 4 = .ok (.iload_n 2, 1) := by decide +kernel
theorem dL_colourAtRank_5 : decode cL_colourAtRank 5 = .ok (.invokevirtual 97, 3) := by decide +kernel
theorem dL_colourAtRank_8 : decode cL_colourAtRank 8 = .ok (.i2l, 1) := by decide +kernel
theorem dL_colourAtRank_9 : decode cL_colourAtRank 9 = .ok (.lastore, 1) := by decide +kernel
theorem dL_colourAtRank_10 : decode cL_colourAtRank 10 = .ok (.goto 11, 3) := by decide +kernel
theorem dL_colourAtRank_13 : decode cL_colourAtRank 13 = .ok (.astore 4, 2) := by decide +kernel
theorem dL_colourAtRank_15 : decode cL_colourAtRank 15 = .ok (.iconst 1, 1) := by decide +kernel
theorem dL_colourAtRank_16 : decode cL_colourAtRank 16 = .ok (.ireturn, 1) := by decide +kernel
theorem dL_colourAtRank_17 : decode cL_colourAtRank 17 = .ok (.astore 4, 2) := by decide +kernel
theorem dL_colourAtRank_19 : decode cL_colourAtRank 19 = .ok (.iconst 2, 1) := by decide +kernel
theorem dL_colourAtRank_20 : decode cL_colourAtRank 20 = .ok (.ireturn, 1) := by decide +kernel
theorem dL_colourAtRank_21 : decode cL_colourAtRank 21 = .ok (.iconst 0, 1) := by decide +kernel
theorem dL_colourAtRank_22 : decode cL_colourAtRank 22 = .ok (.ireturn, 1) := by decide +kernel
theorem dL_isSymmetric_0 : decode cL_isSymmetric 0 = .ok (.aload_n 2, 1) := by decide +kernel
theorem dL_isSymmetric_1 : decode cL_isSymmetric 1 = .ok (.iconst 0, 1) := by decide +kernel
theorem dL_isSymmetric_2 : decode cL_isSymmetric 2 = .ok (.aload_n 0, 1) := by decide +kernel
theorem dL_isSymmetric_3 : decode cL_isSymmetric 3 = .ok (.iload_n 1, 1) := by decide +kernel
theorem dL_isSymmetric_4 : decode cL_isSymmetric 4 = .ok (.invokevirtual 100, 3) := by decide +kernel
theorem dL_isSymmetric_7 : decode cL_isSymmetric 7 = .ok (.ifCond .eq 7, 3) := by decide +kernel
theorem dL_isSymmetric_10 : decode cL_isSymmetric 10 = .ok (.lconst 1, 1) := by decide +kernel
theorem dL_isSymmetric_11 : decode cL_isSymmetric 11 = .ok (.goto 4, 3) := by decide +kernel
theorem dL_isSymmetric_14 : decode cL_isSymmetric 14 = .ok (.lconst 0, 1) := by decide +kernel
theorem dL_isSymmetric_15 : decode cL_isSymmetric 15 = .ok (.lastore, 1) := by decide +kernel
theorem dL_isSymmetric_16 : decode cL_isSymmetric 16 = .ok (.goto 6, 3) := by decide +kernel
theorem dL_isSymmetric_19 : decode cL_isSymmetric 19 = .ok (.astore_n 3, 1) := by decide +kernel
theorem dL_isSymmetric_20 : decode cL_isSymmetric 20 = .ok (.iconst 1, 1) := by decide +kernel
theorem dL_isSymmetric_21 : decode cL_isSymmetric 21 = .ok (.ireturn, 1) := by decide +kernel
theorem dL_isSymmetric_22 : decode cL_isSymmetric 22 = .ok (.iconst 0, 1) := by decide +kernel
theorem dL_isSymmetric_23 : decode cL_isSymmetric 23 = .ok (.ireturn, 1) := by decide +kernel
theorem dL_commonBeginning_0 : decode cL_commonBeginning 0 = .ok (.aload_n 3, 1) := by decide +kernel
theorem dL_commonBeginning_1 : decode cL_commonBeginning 1 = .ok (.iconst 0, 1) := by decide +kernel
theorem dL_commonBeginning_2 : decode cL_commonBeginning 2 = .ok (.aload_n 0, 1) := by decide +kernel
theorem dL_commonBeginning_3 : decode cL_commonBeginning 3 = .ok (.iload_n 1, 1) := by decide +kernel
theorem dL_commonBeginning_4 : decode cL_commonBeginning 4 = .ok (.iload_n 2, 1) := by decide +kernel
theorem dL_commonBeginning_5 : decode cL_commonBeginning 5 = .ok (.invokevirtual 104, 3) := by decide +kernel
theorem dL_commonBeginning_8 : decode cL_commonBeginning 8 = .ok (.i2l, 1) := by decide +kernel
theorem dL_commonBeginning_9 : decode cL_commonBeginning 9 = .ok (.lastore, 1) := by decide +kernel
theorem dL_commonBeginning_10 : decode cL_commonBeginning 10 = .ok (.goto 7, 3) := by decide +kernel
theorem dL_commonBeginning_13 : decode cL_commonBeginning 13 = .ok (.astore 4, 2) := by decide +kernel
theorem dL_commonBeginning_15 : decode cL_commonBeginning 15 = .ok (.iconst 1, 1) := by decide +kernel
theorem dL_commonBeginning_16 : decode cL_commonBeginning 16 = .ok (.ireturn, 1) := by decide +kernel
theorem dL_commonBeginning_17 : decode cL_commonBeginning 17 = .ok (.iconst 0, 1) := by decide +kernel
theorem dL_commonBeginning_18 : decode cL_commonBeginning 18 = .ok (.ireturn, 1) := by decide +kernel
theorem dL_areEqual_0 : decode cL_areEqual 0 = .ok (.aload_n 3, 1) := by decide +kernel
theorem dL_areEqual_1 : decode cL_areEqual 1 = .ok (.iconst 0, 1) := by decide +kernel
theorem dL_areEqual_2 : decode cL_areEqual 2 = .ok (.aload_n 0, 1) := by decide +kernel
theorem dL_areEqual_3 : decode cL_areEqual 3 = .ok (.iload_n 1, 1) := by decide +kernel
theorem dL_areEqual_4 : decode cL_areEqual 4 = .ok (.iload_n 2, 1) := by decide +kernel
theorem dL_areEqual_5 : decode cL_areEqual 5 = .ok (.invokevirtual 107, 3) := by decide +kernel
theorem dL_areEqual_8 : decode cL_areEqual 8 = .ok (.ifCond .eq 7, 3) := by decide +kernel
theorem dL_areEqual_11 : decode cL_areEqual 11 = .ok (.lconst 1, 1) := by decide +kernel
theorem dL_areEqual_12 : decode cL_areEqual 12 = .ok (.goto 4, 3) := by decide +kernel
theorem dL_areEqual_15 : decode cL_areEqual 15 = .ok (.lconst 0, 1) := by decide +kernel
theorem dL_areEqual_16 : decode cL_areEqual 16 = .ok (.lastore, 1) := by decide +kernel
theorem dL_areEqual_17 : decode cL_areEqual 17 = .ok (.goto 7, 3) := by decide +kernel
theorem dL_areEqual_20 : decode cL_areEqual 20 = .ok (.astore 4, 2) := by decide +kernel
theorem dL_areEqual_22 : decode cL_areEqual 22 = .ok (.iconst 1, 1) := by decide +kernel
theorem dL_areEqual_23 : decode cL_areEqual 23 = .ok (.ireturn, 1) := by decide +kernel
theorem dL_areEqual_24 : decode cL_areEqual 24 = .ok (.iconst 0, 1) := by decide +kernel
theorem dL_areEqual_25 : decode cL_areEqual 25 = .ok (.ireturn, 1) := by decide +kernel
theorem dL_type_0 : decode cL_type 0 = .ok (.aload_n 2, 1) := by decide +kernel
theorem dL_type_1 : decode cL_type 1 = .ok (.iconst 0, 1) := by decide +kernel
theorem dL_type_2 : decode cL_type 2 = .ok (.aload_n 0, 1) := by decide +kernel
theorem dL_type_3 : decode cL_type 3 = .ok (.iload_n 1, 1) := by decide +kernel
theorem dL_type_4 : decode cL_type 4 = .ok (.invokevirtual 110, 3) := by decide +kernel
theorem dL_type_7 : decode cL_type 7 = .ok (.i2l, 1) := by decide +kernel
theorem dL_type_8 : decode cL_type 8 = .ok (.lastore, 1) := by decide +kernel
theorem dL_type_9 : decode cL_type 9 = .ok (.goto 9, 3) := by decide +kernel
theorem dL_type_12 : decode cL_type 12 = .ok (.astore_n 3, 1) := by decide +kernel
theorem dL_type_13 : decode cL_type 13 = .ok (.iconst 1, 1) := by decide +kernel
theorem dL_type_14 : decode cL_type 14 = .ok (.ireturn, 1) := by decide +kernel
theorem dL_type_15 : decode cL_type 15 = .ok (.astore_n 3, 1) := by decide +kernel
theorem dL_type_16 : decode cL_type 16 = .ok (.iconst 2, 1) := by decide +kernel
theorem dL_type_17 : decode cL_type 17 = .ok (.ireturn, 1) := by decide +kernel
theorem dL_type_18 : decode cL_type 18 = .ok (.iconst 0, 1) := by decide +kernel
theorem dL_type_19 : decode cL_type 19 = .ok (.ireturn, 1) := by decide +kernel
theorem dL_run_0 : decode cL_run 0 = .ok (.aload_n 1, 1) := by decide +kernel
theorem dL_run_1 : decode cL_run 1 = .ok (.iconst 0, 1) := by decide +kernel
theorem dL_run_2 : decode cL_run 2 = .ok (.aload_n 0, 1) := by decide +kernel
theorem dL_run_3 : decode cL_run 3 = .ok (.invokevirtual 114, 3) := by decide +kernel
theorem dL_run_6 : decode cL_run 6 = .ok (.i2l, 1) := by decide +kernel
theorem dL_run_7 : decode cL_run 7 = .ok (.lastore, 1) := by decide +kernel
theorem dL_run_8 : decode cL_run 8 = .ok (.goto 9, 3) := by decide +kernel
theorem dL_run_11 : decode cL_run 11 = .ok (.astore_n 2, 1) := by decide +kernel
theorem dL_run_12 : decode cL_run 12 = .ok (.iconst 1, 1) := by decide +kernel
theorem dL_run_13 : decode cL_run 13 = .ok (.ireturn, 1) := by decide +kernel
theorem dL_run_14 : decode cL_run 14 = .ok (.astore_n 2, 1) := by decide +kernel
theorem dL_run_15 : decode cL_run 15 = .ok (.iconst 2, 1) := by decide +kernel
theorem dL_run_16 : decode cL_run 16 = .ok (.ireturn, 1) := by decide +kernel
theorem dL_run_17 : decode cL_run 17 = .ok (.iconst 0, 1) := by decide +kernel
theorem dL_run_18 : decode cL_run 18 = .ok (.ireturn, 1) := by decide +kernel
theorem dL_errorPosition_0 : decode cL_errorPosition 0 = .ok (.aload_n 1, 1) := by decide +kernel
theorem dL_errorPosition_1 : decode cL_errorPosition 1 = .ok (.iconst 0, 1) := by decide +kernel
theorem dL_errorPosition_2 : decode cL_errorPosition 2 = .ok (.aload_n 0, 1) := by decide +kernel
theorem dL_errorPosition_3 : decode cL_errorPosition 3 = .ok (.invokevirtual 118, 3) := by decide +kernel
theorem dL_errorPosition_6 : decode cL_errorPosition 6 = .ok (.i2l, 1) := by decide +kernel
theorem dL_errorPosition_7 : decode cL_errorPosition 7 = .ok (.lastore, 1) := by decide +kernel
theorem dL_errorPosition_8 : decode cL_errorPosition 8 = .ok (.goto 6, 3) := by decide +kernel
theorem dL_errorPosition_11 : decode cL_errorPosition 11 = .ok (.astore_n 2, 1) := by decide +kernel
theorem dL_errorPosition_12 : decode cL_errorPosition 12 = .ok (.iconst 1, 1) := by decide +kernel
theorem dL_errorPosition_13 : decode cL_errorPosition 13 = .ok (.ireturn, 1) := by decide +kernel
theorem dL_errorPosition_14 : decode cL_errorPosition 14 = .ok (.iconst 0, 1) := by decide +kernel
theorem dL_errorPosition_15 : decode cL_errorPosition 15 = .ok (.ireturn, 1) := by decide +kernel
theorem dL_failedCommand_0 : decode cL_failedCommand 0 = .ok (.aload_n 1, 1) := by decide +kernel
theorem dL_failedCommand_1 : decode cL_failedCommand 1 = .ok (.iconst 0, 1) := by decide +kernel
theorem dL_failedCommand_2 : decode cL_failedCommand 2 = .ok (.aload_n 0, 1) := by decide +kernel
theorem dL_failedCommand_3 : decode cL_failedCommand 3 = .ok (.invokevirtual 121, 3) := by decide +kernel
theorem dL_failedCommand_6 : decode cL_failedCommand 6 = .ok (.i2l, 1) := by decide +kernel
theorem dL_failedCommand_7 : decode cL_failedCommand 7 = .ok (.lastore, 1) := by decide +kernel
theorem dL_failedCommand_8 : decode cL_failedCommand 8 = .ok (.goto 6, 3) := by decide +kernel
theorem dL_failedCommand_11 : decode cL_failedCommand 11 = .ok (.astore_n 2, 1) := by decide +kernel
theorem dL_failedCommand_12 : decode cL_failedCommand 12 = .ok (.iconst 1, 1) := by decide +kernel
theorem dL_failedCommand_13 : decode cL_failedCommand 13 = .ok (.ireturn, 1) := by decide +kernel
theorem dL_failedCommand_14 : decode cL_failedCommand 14 = .ok (.iconst 0, 1) := by decide +kernel
theorem dL_failedCommand_15 : decode cL_failedCommand 15 = .ok (.ireturn, 1) := by decide +kernel
theorem dL_describeReel_0 : decode cL_describeReel 0 = .ok (.aload_n 2, 1) := by decide +kernel
theorem dL_describeReel_1 : decode cL_describeReel 1 = .ok (.iconst 0, 1) := by decide +kernel
theorem dL_describeReel_2 : decode cL_describeReel 2 = .ok (.aload_n 0, 1) := by decide +kernel
theorem dL_describeReel_3 : decode cL_describeReel 3 = .ok (.iload_n 1, 1) := by decide +kernel
theorem dL_describeReel_4 : decode cL_describeReel 4 = .ok (.invokevirtual 124, 3) := by decide +kernel
theorem dL_describeReel_7 : decode cL_describeReel 7 = .ok (.i2l, 1) := by decide +kernel
theorem dL_describeReel_8 : decode cL_describeReel 8 = .ok (.lastore, 1) := by decide +kernel
theorem dL_describeReel_9 : decode cL_describeReel 9 = .ok (.goto 6, 3) := by decide +kernel
theorem dL_describeReel_12 : decode cL_describeReel 12 = .ok (.astore_n 3, 1) := by decide +kernel
theorem dL_describeReel_13 : decode cL_describeReel 13 = .ok (.iconst 1, 1) := by decide +kernel
theorem dL_describeReel_14 : decode cL_describeReel 14 = .ok (.ireturn, 1) := by decide +kernel
theorem dL_describeReel_15 : decode cL_describeReel 15 = .ok (.iconst 0, 1) := by decide +kernel
theorem dL_describeReel_16 : decode cL_describeReel 16 = .ok (.ireturn, 1) := by decide +kernel
theorem dL_lineAt_0 : decode cL_lineAt 0 = .ok (.aload_n 2, 1) := by decide +kernel
theorem dL_lineAt_1 : decode cL_lineAt 1 = .ok (.iconst 0, 1) := by decide +kernel
theorem dL_lineAt_2 : decode cL_lineAt 2 = .ok (.aload_n 0, 1) := by decide +kernel
theorem dL_lineAt_3 : decode cL_lineAt 3 = .ok (.iload_n 1, 1) := by decide +kernel
theorem dL_lineAt_4 : decode cL_lineAt 4 = .ok (.invokevirtual 127, 3) := by decide +kernel
theorem dL_lineAt_7 : decode cL_lineAt 7 = .ok (.i2l, 1) := by decide +kernel
theorem dL_lineAt_8 : decode cL_lineAt 8 = .ok (.lastore, 1) := by decide +kernel
theorem dL_lineAt_9 : decode cL_lineAt 9 = .ok (.goto 6, 3) := by decide +kernel
theorem dL_lineAt_12 : decode cL_lineAt 12 = .ok (.astore_n 3, 1) := by decide +kernel
theorem dL_lineAt_13 : decode cL_lineAt 13 = .ok (.iconst 1, 1) := by decide +kernel
theorem dL_lineAt_14 : decode cL_lineAt 14 = .ok (.ireturn, 1) := by decide +kernel
theorem dL_lineAt_15 : decode cL_lineAt 15 = .ok (.iconst 0, 1) := by decide +kernel
theorem dL_lineAt_16 : decode cL_lineAt 16 = .ok (.ireturn, 1) := by decide +kernel
theorem dL_meanLength_0 : decode cL_meanLength 0 = .ok (.aload_n 2, 1) := by decide +kernel
theorem dL_meanLength_1 : decode cL_meanLength 1 = .ok (.iconst 0, 1) := by decide +kernel
theorem dL_meanLength_2 : decode cL_meanLength 2 = .ok (.aload_n 0, 1) := by decide +kernel
theorem dL_meanLength_3 : decode cL_meanLength 3 = .ok (.iload_n 1, 1) := by decide +kernel
theorem dL_meanLength_4 : decode cL_meanLength 4 = .ok (.invokevirtual 131, 3) := by decide +kernel
theorem dL_meanLength_7 : decode cL_meanLength 7 = .ok (.dastore, 1) := by decide +kernel
theorem dL_meanLength_8 : decode cL_meanLength 8 = .ok (.goto 9, 3) := by decide +kernel
theorem dL_meanLength_11 : decode cL_meanLength 11 = .ok (.astore_n 3, 1) := by decide +kernel
theorem dL_meanLength_12 : decode cL_meanLength 12 = .ok (.iconst 1, 1) := by decide +kernel
theorem dL_meanLength_13 : decode cL_meanLength 13 = .ok (.ireturn, 1) := by decide +kernel
theorem dL_meanLength_14 : decode cL_meanLength 14 = .ok (.astore_n 3, 1) := by decide +kernel
theorem dL_meanLength_15 : decode cL_meanLength 15 = .ok (.iconst 2, 1) := by decide +kernel
theorem dL_meanLength_16 : decode cL_meanLength 16 = .ok (.ireturn, 1) := by decide +kernel
theorem dL_meanLength_17 : decode cL_meanLength 17 = .ok (.iconst 0, 1) := by decide +kernel
theorem dL_meanLength_18 : decode cL_meanLength 18 = .ok (.ireturn, 1) := by decide +kernel
theorem dL_colourShare_0 : decode cL_colourShare 0 = .ok (.aload_n 3, 1) := by decide +kernel
theorem dL_colourShare_1 : decode cL_colourShare 1 = .ok (.iconst 0, 1) := by decide +kernel
theorem dL_colourShare_2 : decode cL_colourShare 2 = .ok (.aload_n 0, 1) := by decide +kernel
theorem dL_colourShare_3 : decode cL_colourShare 3 = .ok (.iload_n 1, 1) := by decide +kernel
theorem dL_colourShare_4 : decode cL_colourShare 4 = .ok (.iload_n 2, 1) := by decide +kernel
theorem dL_colourShare_5 : decode cL_colourShare 5 = .ok (.invokevirtual 137, 3) := by decide +kernel
theorem dL_colourShare_8 : decode cL_colourShare 8 = .ok (.f2d, 1) := by decide +kernel
theorem dL_colourShare_9 : decode cL_colourShare 9 = .ok (.dastore, 1) := by decide +kernel
theorem dL_colourShare_10 : decode cL_colourShare 10 = .ok (.goto 15, 3) := by decide +kernel
theorem dL_colourShare_13 : decode cL_colourShare 13 = .ok (.astore 4, 2) := by decide +kernel
theorem dL_colourShare_15 : decode cL_colourShare 15 = .ok (.iconst 1, 1) := by decide +kernel
theorem dL_colourShare_16 : decode cL_colourShare 16 = .ok (.ireturn, 1) := by decide +kernel
theorem dL_colourShare_17 : decode cL_colourShare 17 = .ok (.astore 4, 2) := by decide +kernel
theorem dL_colourShare_19 : decode cL_colourShare 19 = .ok (.iconst 2, 1) := by decide +kernel
theorem dL_colourShare_20 : decode cL_colourShare 20 = .ok (.ireturn, 1) := by decide +kernel
theorem dL_colourShare_21 : decode cL_colourShare 21 = .ok (.astore 4, 2) := by decide +kernel
theorem dL_colourShare_23 : decode cL_colourShare 23 = .ok (.iconst 3, 1) := by decide +kernel
theorem dL_colourShare_24 : decode cL_colourShare 24 = .ok (.ireturn, 1) := by decide +kernel
theorem dL_colourShare_25 : decode cL_colourShare 25 = .ok (.iconst 0, 1) := by decide +kernel
theorem dL_colourShare_26 : decode cL_colourShare 26 = .ok (.ireturn, 1) := by decide +kernel
theorem dL_undo_0 : decode cL_undo 0 = .ok (.aload_n 1, 1) := by decide +kernel
theorem dL_undo_1 : decode cL_undo 1 = .ok (.iconst 0, 1) := by decide +kernel
theorem dL_undo_2 : decode cL_undo 2 = .ok (.aload_n 0, 1) := by decide +kernel
theorem dL_undo_3 : decode cL_undo 3 = .ok (.invokevirtual 141, 3) := by decide +kernel
theorem dL_undo_6 : decode cL_undo 6 = .ok (.i2l, 1) := by decide +kernel
theorem dL_undo_7 : decode cL_undo 7 = .ok (.lastore, 1) := by decide +kernel
theorem dL_undo_8 : decode cL_undo 8 = .ok (.goto 6, 3) := by decide +kernel
theorem dL_undo_11 : decode cL_undo 11 = .ok (.astore_n 2, 1) := by decide +kernel
theorem dL_undo_12 : decode cL_undo 12 = .ok (.iconst 1, 1) := by decide +kernel
theorem dL_undo_13 : decode cL_undo 13 = .ok (.ireturn, 1) := by decide +kernel
theorem dL_undo_14 : decode cL_undo 14 = .ok (.iconst 0, 1) := by decide +kernel
theorem dL_undo_15 : decode cL_undo 15 = .ok (.ireturn, 1) := by decide +kernel
theorem dL_restore_0 : decode cL_restore 0 = .ok (.aload_n 1, 1) := by decide +kernel
theorem dL_restore_1 : decode cL_restore 1 = .ok (.iconst 0, 1) := by decide +kernel
theorem dL_restore_2 : decode cL_restore 2 = .ok (.aload_n 0, 1) := by decide +kernel
theorem dL_restore_3 : decode cL_restore 3 = .ok (.invokevirtual 144, 3) := by decide +kernel
theorem dL_restore_6 : decode cL_restore 6 = .ok (.i2l, 1) := by decide +kernel
theorem dL_restore_7 : decode cL_restore 7 = .ok (.lastore, 1) := by decide +kernel
theorem dL_restore_8 : decode cL_restore 8 = .ok (.goto 6, 3) := by decide +kernel
theorem dL_restore_11 : decode cL_restore 11 = .ok (.astore_n 2, 1) := by decide +kernel
theorem dL_restore_12 : decode cL_restore 12 = .ok (.iconst 1, 1) := by decide +kernel
theorem dL_restore_13 : decode cL_restore 13 = .ok (.ireturn, 1) := by decide +kernel
theorem dL_restore_14 : decode cL_restore 14 = .ok (.iconst 0, 1) := by decide +kernel
theorem dL_restore_15 : decode cL_restore 15 = .ok (.ireturn, 1) := by decide +kernel
theorem dL_law_0 : decode cL_law 0 = .ok (.new 8, 3) := by decide +kernel
theorem dL_law_3 : decode cL_law 3 = .ok (.dup, 1) := by decide +kernel
theorem dL_law_4 : decode cL_law 4 = .ok (.invokespecial 147, 3) := by decide +kernel
theorem dL_law_7 : decode cL_law 7 = .ok (.astore_n 1, 1) := by decide +kernel
theorem dL_law_8 : decode cL_law 8 = .ok (.new 148, 3) := by decide +kernel
theorem dL_law_11 : decode cL_law 11 = .ok (.dup, 1) := by decide +kernel
theorem dL_law_12 : decode cL_law 12 = .ok (.invokespecial 150, 3) := by decide +kernel
theorem dL_law_15 : decode cL_law 15 = .ok (.astore_n 2, 1) := by decide +kernel
theorem dL_law_16 : decode cL_law 16 = .ok (.iconst 1, 1) := by decide +kernel
theorem dL_law_17 : decode cL_law 17 = .ok (.newarray .long, 2) := by decide +kernel
theorem dL_law_19 : decode cL_law 19 = .ok (.astore_n 3, 1) := by decide +kernel
theorem dL_law_20 : decode cL_law 20 = .ok (.iconst 1, 1) := by decide +kernel
theorem dL_law_21 : decode cL_law 21 = .ok (.newarray .double, 2) := by decide +kernel
theorem dL_law_23 : decode cL_law 23 = .ok (.astore 4, 2) := by decide +kernel
theorem dL_law_25 : decode cL_law 25 = .ok (.iconst 0, 1) := by decide +kernel
theorem dL_law_26 : decode cL_law 26 = .ok (.istore 5, 2) := by decide +kernel
theorem dL_law_28 : decode cL_law 28 = .ok (.iload 5, 2) := by decide +kernel
theorem dL_law_30 : decode cL_law 30 = .ok (.aload_n 0, 1) := by decide +kernel
theorem dL_law_31 : decode cL_law 31 = .ok (.arraylength, 1) := by decide +kernel
theorem dL_law_32 : decode cL_law 32 = .ok (.iconst 5, 1) := by decide +kernel
theorem dL_law_33 : decode cL_law 33 = .ok (.isub, 1) := by decide +kernel
theorem dL_law_34 : decode cL_law 34 = .ok (.if_icmp .gt 2884, 3) := by decide +kernel
theorem dL_law_37 : decode cL_law 37 = .ok (.aload_n 0, 1) := by decide +kernel
theorem dL_law_38 : decode cL_law 38 = .ok (.iload 5, 2) := by decide +kernel
theorem dL_law_40 : decode cL_law 40 = .ok (.iaload, 1) := by decide +kernel
theorem dL_law_41 : decode cL_law 41 = .ok (.bipush 63, 2) := by decide +kernel
theorem dL_law_43 : decode cL_law 43 = .ok (.iand, 1) := by decide +kernel
theorem dL_law_44 : decode cL_law 44 = .ok (.tableswitch 2868 0 43 #[192, 272, 364, 432, 512, 568, 636, 704, 784, 852, 920, 1000, 1092, 1148, 1216, 1284, 1352, 1432, 1512, 1580, 1594, 1650, 1706, 1781, 1837, 1917, 1985, 2053, 2116, 2184, 2259, 2272, 2285, 2343, 2387, 2431, 2475, 2531, 2587, 2664, 2754, 2767, 2811, 2824], 192) := by decide +kernel
theorem dL_law_236 : decode cL_law 236 = .ok (.aload_n 1, 1) := by decide +kernel
theorem dL_law_237 : decode cL_law 237 = .ok (.aload_n 0, 1) := by decide +kernel
theorem dL_law_238 : decode cL_law 238 = .ok (.iload 5, 2) := by decide +kernel
theorem dL_law_240 : decode cL_law 240 = .ok (.iconst 1, 1) := by decide +kernel
theorem dL_law_241 : decode cL_law 241 = .ok (.iadd, 1) := by decide +kernel
theorem dL_law_242 : decode cL_law 242 = .ok (.iaload, 1) := by decide +kernel
theorem dL_law_243 : decode cL_law 243 = .ok (.aload_n 0, 1) := by decide +kernel
theorem dL_law_244 : decode cL_law 244 = .ok (.iload 5, 2) := by decide +kernel
theorem dL_law_246 : decode cL_law 246 = .ok (.iconst 2, 1) := by decide +kernel
theorem dL_law_247 : decode cL_law 247 = .ok (.iadd, 1) := by decide +kernel
theorem dL_law_248 : decode cL_law 248 = .ok (.iaload, 1) := by decide +kernel
theorem dL_law_249 : decode cL_law 249 = .ok (.aload_n 0, 1) := by decide +kernel
theorem dL_law_250 : decode cL_law 250 = .ok (.iload 5, 2) := by decide +kernel
theorem dL_law_252 : decode cL_law 252 = .ok (.iconst 3, 1) := by decide +kernel
theorem dL_law_253 : decode cL_law 253 = .ok (.iadd, 1) := by decide +kernel
theorem dL_law_254 : decode cL_law 254 = .ok (.iaload, 1) := by decide +kernel
theorem dL_law_255 : decode cL_law 255 = .ok (.aload_n 3, 1) := by decide +kernel
theorem dL_law_256 : decode cL_law 256 = .ok (.invokestatic 151, 3) := by decide +kernel
theorem dL_law_259 : decode cL_law 259 = .ok (.istore 6, 2) := by decide +kernel
theorem dL_law_261 : decode cL_law 261 = .ok (.aload_n 2, 1) := by decide +kernel
theorem dL_law_262 : decode cL_law 262 = .ok (.aload_n 0, 1) := by decide +kernel
theorem dL_law_263 : decode cL_law 263 = .ok (.iload 5, 2) := by decide +kernel
theorem dL_law_265 : decode cL_law 265 = .ok (.iconst 1, 1) := by decide +kernel
theorem dL_law_266 : decode cL_law 266 = .ok (.iadd, 1) := by decide +kernel
theorem dL_law_267 : decode cL_law 267 = .ok (.iaload, 1) := by decide +kernel
theorem dL_law_268 : decode cL_law 268 = .ok (.aload_n 0, 1) := by decide +kernel
theorem dL_law_269 : decode cL_law 269 = .ok (.iload 5, 2) := by decide +kernel
theorem dL_law_271 : decode cL_law 271 = .ok (.iconst 2, 1) := by decide +kernel
theorem dL_law_272 : decode cL_law 272 = .ok (.iadd, 1) := by decide +kernel
theorem dL_law_273 : decode cL_law 273 = .ok (.iaload, 1) := by decide +kernel
theorem dL_law_274 : decode cL_law 274 = .ok (.aload_n 0, 1) := by decide +kernel
theorem dL_law_275 : decode cL_law 275 = .ok (.iload 5, 2) := by decide +kernel
theorem dL_law_277 : decode cL_law 277 = .ok (.iconst 3, 1) := by decide +kernel
theorem dL_law_278 : decode cL_law 278 = .ok (.iadd, 1) := by decide +kernel
theorem dL_law_279 : decode cL_law 279 = .ok (.iaload, 1) := by decide +kernel
theorem dL_law_280 : decode cL_law 280 = .ok (.invokevirtual 156, 3) := by decide +kernel
theorem dL_law_283 : decode cL_law 283 = .ok (.istore 7, 2) := by decide +kernel
theorem dL_law_285 : decode cL_law 285 = .ok (.aload_n 2, 1) := by decide +kernel
theorem dL_law_286 : decode cL_law 286 = .ok (.invokevirtual 157, 3) := by decide +kernel
theorem dL_law_289 : decode cL_law 289 = .ok (.iload 6, 2) := by decide +kernel
theorem dL_law_291 : decode cL_law 291 = .ok (.if_icmp .eq 5, 3) := by decide +kernel
theorem dL_law_294 : decode cL_law 294 = .ok (.iconst 0, 1) := by decide +kernel
theorem dL_law_295 : decode cL_law 295 = .ok (.ireturn, 1) := by decide +kernel
theorem dL_law_296 : decode cL_law 296 = .ok (.iload 6, 2) := by decide +kernel
theorem dL_law_298 : decode cL_law 298 = .ok (.ifCond .ne 15, 3) := by decide +kernel
theorem dL_law_301 : decode cL_law 301 = .ok (.aload_n 3, 1) := by decide +kernel
theorem dL_law_302 : decode cL_law 302 = .ok (.iconst 0, 1) := by decide +kernel
theorem dL_law_303 : decode cL_law 303 = .ok (.laload, 1) := by decide +kernel
theorem dL_law_304 : decode cL_law 304 = .ok (.iload 7, 2) := by decide +kernel
theorem dL_law_306 : decode cL_law 306 = .ok (.i2l, 1) := by decide +kernel
theorem dL_law_307 : decode cL_law 307 = .ok (.lcmp, 1) := by decide +kernel
theorem dL_law_308 : decode cL_law 308 = .ok (.ifCond .eq 5, 3) := by decide +kernel
theorem dL_law_311 : decode cL_law 311 = .ok (.iconst 0, 1) := by decide +kernel
theorem dL_law_312 : decode cL_law 312 = .ok (.ireturn, 1) := by decide +kernel
theorem dL_law_313 : decode cL_law 313 = .ok (.goto 2599, 3) := by decide +kernel
theorem dL_law_316 : decode cL_law 316 = .ok (.aload_n 1, 1) := by decide +kernel
theorem dL_law_317 : decode cL_law 317 = .ok (.aload_n 0, 1) := by decide +kernel
theorem dL_law_318 : decode cL_law 318 = .ok (.iload 5, 2) := by decide +kernel
theorem dL_law_320 : decode cL_law 320 = .ok (.iconst 1, 1) := by decide +kernel
theorem dL_law_321 : decode cL_law 321 = .ok (.iadd, 1) := by decide +kernel
theorem dL_law_322 : decode cL_law 322 = .ok (.iaload, 1) := by decide +kernel
theorem dL_law_323 : decode cL_law 323 = .ok (.aload_n 0, 1) := by decide +kernel
theorem dL_law_324 : decode cL_law 324 = .ok (.iload 5, 2) := by decide +kernel
theorem dL_law_326 : decode cL_law 326 = .ok (.iconst 2, 1) := by decide +kernel
theorem dL_law_327 : decode cL_law 327 = .ok (.iadd, 1) := by decide +kernel
theorem dL_law_328 : decode cL_law 328 = .ok (.iaload, 1) := by decide +kernel
theorem dL_law_329 : decode cL_law 329 = .ok (.aload_n 0, 1) := by decide +kernel
theorem dL_law_330 : decode cL_law 330 = .ok (.iload 5, 2) := by decide +kernel
theorem dL_law_332 : decode cL_law 332 = .ok (.iconst 3, 1) := by decide +kernel
theorem dL_law_333 : decode cL_law 333 = .ok (.iadd, 1) := by decide +kernel
theorem dL_law_334 : decode cL_law 334 = .ok (.iaload, 1) := by decide +kernel
theorem dL_law_335 : decode cL_law 335 = .ok (.aload_n 0, 1) := by decide +kernel
theorem dL_law_336 : decode cL_law 336 = .ok (.iload 5, 2) := by decide +kernel
theorem dL_law_338 : decode cL_law 338 = .ok (.iconst 4, 1) := by decide +kernel
theorem dL_law_339 : decode cL_law 339 = .ok (.iadd, 1) := by decide +kernel
theorem dL_law_340 : decode cL_law 340 = .ok (.iaload, 1) := by decide +kernel
theorem dL_law_341 : decode cL_law 341 = .ok (.aload_n 3, 1) := by decide +kernel
theorem dL_law_342 : decode cL_law 342 = .ok (.invokestatic 160, 3) := by decide +kernel
theorem dL_law_345 : decode cL_law 345 = .ok (.istore 6, 2) := by decide +kernel
theorem dL_law_347 : decode cL_law 347 = .ok (.aload_n 2, 1) := by decide +kernel
theorem dL_law_348 : decode cL_law 348 = .ok (.aload_n 0, 1) := by decide +kernel
theorem dL_law_349 : decode cL_law 349 = .ok (.iload 5, 2) := by decide +kernel
theorem dL_law_351 : decode cL_law 351 = .ok (.iconst 1, 1) := by decide +kernel
theorem dL_law_352 : decode cL_law 352 = .ok (.iadd, 1) := by decide +kernel
theorem dL_law_353 : decode cL_law 353 = .ok (.iaload, 1) := by decide +kernel
theorem dL_law_354 : decode cL_law 354 = .ok (.aload_n 0, 1) := by decide +kernel
theorem dL_law_355 : decode cL_law 355 = .ok (.iload 5, 2) := by decide +kernel
theorem dL_law_357 : decode cL_law 357 = .ok (.iconst 2, 1) := by decide +kernel
theorem dL_law_358 : decode cL_law 358 = .ok (.iadd, 1) := by decide +kernel
theorem dL_law_359 : decode cL_law 359 = .ok (.iaload, 1) := by decide +kernel
theorem dL_law_360 : decode cL_law 360 = .ok (.aload_n 0, 1) := by decide +kernel
theorem dL_law_361 : decode cL_law 361 = .ok (.iload 5, 2) := by decide +kernel
theorem dL_law_363 : decode cL_law 363 = .ok (.iconst 3, 1) := by decide +kernel
theorem dL_law_364 : decode cL_law 364 = .ok (.iadd, 1) := by decide +kernel
theorem dL_law_365 : decode cL_law 365 = .ok (.iaload, 1) := by decide +kernel
theorem dL_law_366 : decode cL_law 366 = .ok (.aload_n 0, 1) := by decide +kernel
theorem dL_law_367 : decode cL_law 367 = .ok (.iload 5, 2) := by decide +kernel
theorem dL_law_369 : decode cL_law 369 = .ok (.iconst 4, 1) := by decide +kernel
theorem dL_law_370 : decode cL_law 370 = .ok (.iadd, 1) := by decide +kernel
theorem dL_law_371 : decode cL_law 371 = .ok (.iaload, 1) := by decide +kernel
theorem dL_law_372 : decode cL_law 372 = .ok (.invokevirtual 163, 3) := by decide +kernel
theorem dL_law_375 : decode cL_law 375 = .ok (.istore 7, 2) := by decide +kernel
theorem dL_law_377 : decode cL_law 377 = .ok (.aload_n 2, 1) := by decide +kernel
theorem dL_law_378 : decode cL_law 378 = .ok (.invokevirtual 157, 3) := by decide +kernel
theorem dL_law_381 : decode cL_law 381 = .ok (.iload 6, 2) := by decide +kernel
theorem dL_law_383 : decode cL_law 383 = .ok (.if_icmp .eq 5, 3) := by decide +kernel
theorem dL_law_386 : decode cL_law 386 = .ok (.iconst 0, 1) := by decide +kernel
theorem dL_law_387 : decode cL_law 387 = .ok (.ireturn, 1) := by decide +kernel
theorem dL_law_388 : decode cL_law 388 = .ok (.iload 6, 2) := by decide +kernel
theorem dL_law_390 : decode cL_law 390 = .ok (.ifCond .ne 15, 3) := by decide +kernel
theorem dL_law_393 : decode cL_law 393 = .ok (.aload_n 3, 1) := by decide +kernel
theorem dL_law_394 : decode cL_law 394 = .ok (.iconst 0, 1) := by decide +kernel
theorem dL_law_395 : decode cL_law 395 = .ok (.laload, 1) := by decide +kernel
theorem dL_law_396 : decode cL_law 396 = .ok (.iload 7, 2) := by decide +kernel
theorem dL_law_398 : decode cL_law 398 = .ok (.i2l, 1) := by decide +kernel
theorem dL_law_399 : decode cL_law 399 = .ok (.lcmp, 1) := by decide +kernel
theorem dL_law_400 : decode cL_law 400 = .ok (.ifCond .eq 5, 3) := by decide +kernel
theorem dL_law_403 : decode cL_law 403 = .ok (.iconst 0, 1) := by decide +kernel
theorem dL_law_404 : decode cL_law 404 = .ok (.ireturn, 1) := by decide +kernel
theorem dL_law_405 : decode cL_law 405 = .ok (.goto 2507, 3) := by decide +kernel
theorem dL_law_408 : decode cL_law 408 = .ok (.aload_n 1, 1) := by decide +kernel
theorem dL_law_409 : decode cL_law 409 = .ok (.aload_n 0, 1) := by decide +kernel
theorem dL_law_410 : decode cL_law 410 = .ok (.iload 5, 2) := by decide +kernel
theorem dL_law_412 : decode cL_law 412 = .ok (.iconst 1, 1) := by decide +kernel
theorem dL_law_413 : decode cL_law 413 = .ok (.iadd, 1) := by decide +kernel
theorem dL_law_414 : decode cL_law 414 = .ok (.iaload, 1) := by decide +kernel
theorem dL_law_415 : decode cL_law 415 = .ok (.aload_n 0, 1) := by decide +kernel
theorem dL_law_416 : decode cL_law 416 = .ok (.iload 5, 2) := by decide +kernel
theorem dL_law_418 : decode cL_law 418 = .ok (.iconst 2, 1) := by decide +kernel
theorem dL_law_419 : decode cL_law 419 = .ok (.iadd, 1) := by decide +kernel
theorem dL_law_420 : decode cL_law 420 = .ok (.iaload, 1) := by decide +kernel
theorem dL_law_421 : decode cL_law 421 = .ok (.aload_n 3, 1) := by decide +kernel
theorem dL_law_422 : decode cL_law 422 = .ok (.invokestatic 164, 3) := by decide +kernel
theorem dL_law_425 : decode cL_law 425 = .ok (.istore 6, 2) := by decide +kernel
theorem dL_law_427 : decode cL_law 427 = .ok (.aload_n 2, 1) := by decide +kernel
theorem dL_law_428 : decode cL_law 428 = .ok (.aload_n 0, 1) := by decide +kernel
theorem dL_law_429 : decode cL_law 429 = .ok (.iload 5, 2) := by decide +kernel
theorem dL_law_431 : decode cL_law 431 = .ok (.iconst 1, 1) := by decide +kernel
theorem dL_law_432 : decode cL_law 432 = .ok (.iadd, 1) := by decide +kernel
theorem dL_law_433 : decode cL_law 433 = .ok (.iaload, 1) := by decide +kernel
theorem dL_law_434 : decode cL_law 434 = .ok (.aload_n 0, 1) := by decide +kernel
theorem dL_law_435 : decode cL_law 435 = .ok (.iload 5, 2) := by decide +kernel
theorem dL_law_437 : decode cL_law 437 = .ok (.iconst 2, 1) := by decide +kernel
theorem dL_law_438 : decode cL_law 438 = .ok (.iadd, 1) := by decide +kernel
theorem dL_law_439 : decode cL_law 439 = .ok (.iaload, 1) := by decide +kernel
theorem dL_law_440 : decode cL_law 440 = .ok (.invokevirtual 167, 3) := by decide +kernel
theorem dL_law_443 : decode cL_law 443 = .ok (.istore 7, 2) := by decide +kernel
theorem dL_law_445 : decode cL_law 445 = .ok (.aload_n 2, 1) := by decide +kernel
theorem dL_law_446 : decode cL_law 446 = .ok (.invokevirtual 157, 3) := by decide +kernel
theorem dL_law_449 : decode cL_law 449 = .ok (.iload 6, 2) := by decide +kernel
theorem dL_law_451 : decode cL_law 451 = .ok (.if_icmp .eq 5, 3) := by decide +kernel
theorem dL_law_454 : decode cL_law 454 = .ok (.iconst 0, 1) := by decide +kernel
theorem dL_law_455 : decode cL_law 455 = .ok (.ireturn, 1) := by decide +kernel
theorem dL_law_456 : decode cL_law 456 = .ok (.iload 6, 2) := by decide +kernel
theorem dL_law_458 : decode cL_law 458 = .ok (.ifCond .ne 15, 3) := by decide +kernel
theorem dL_law_461 : decode cL_law 461 = .ok (.aload_n 3, 1) := by decide +kernel
theorem dL_law_462 : decode cL_law 462 = .ok (.iconst 0, 1) := by decide +kernel
theorem dL_law_463 : decode cL_law 463 = .ok (.laload, 1) := by decide +kernel
theorem dL_law_464 : decode cL_law 464 = .ok (.iload 7, 2) := by decide +kernel
theorem dL_law_466 : decode cL_law 466 = .ok (.i2l, 1) := by decide +kernel
theorem dL_law_467 : decode cL_law 467 = .ok (.lcmp, 1) := by decide +kernel
theorem dL_law_468 : decode cL_law 468 = .ok (.ifCond .eq 5, 3) := by decide +kernel
theorem dL_law_471 : decode cL_law 471 = .ok (.iconst 0, 1) := by decide +kernel
theorem dL_law_472 : decode cL_law 472 = .ok (.ireturn, 1) := by decide +kernel
theorem dL_law_473 : decode cL_law 473 = .ok (.goto 2439, 3) := by decide +kernel
theorem dL_law_476 : decode cL_law 476 = .ok (.aload_n 1, 1) := by decide +kernel
theorem dL_law_477 : decode cL_law 477 = .ok (.aload_n 0, 1) := by decide +kernel
theorem dL_law_478 : decode cL_law 478 = .ok (.iload 5, 2) := by decide +kernel
theorem dL_law_480 : decode cL_law 480 = .ok (.iconst 1, 1) := by decide +kernel
theorem dL_law_481 : decode cL_law 481 = .ok (.iadd, 1) := by decide +kernel
theorem dL_law_482 : decode cL_law 482 = .ok (.iaload, 1) := by decide +kernel
theorem dL_law_483 : decode cL_law 483 = .ok (.aload_n 0, 1) := by decide +kernel
theorem dL_law_484 : decode cL_law 484 = .ok (.iload 5, 2) := by decide +kernel
theorem dL_law_486 : decode cL_law 486 = .ok (.iconst 2, 1) := by decide +kernel
theorem dL_law_487 : decode cL_law 487 = .ok (.iadd, 1) := by decide +kernel
theorem dL_law_488 : decode cL_law 488 = .ok (.iaload, 1) := by decide +kernel
theorem dL_law_489 : decode cL_law 489 = .ok (.aload_n 0, 1) := by decide +kernel
theorem dL_law_490 : decode cL_law 490 = .ok (.iload 5, 2) := by decide +kernel
theorem dL_law_492 : decode cL_law 492 = .ok (.iconst 3, 1) := by decide +kernel
theorem dL_law_493 : decode cL_law 493 = .ok (.iadd, 1) := by decide +kernel
theorem dL_law_494 : decode cL_law 494 = .ok (.iaload, 1) := by decide +kernel
theorem dL_law_495 : decode cL_law 495 = .ok (.aload_n 3, 1) := by decide +kernel
theorem dL_law_496 : decode cL_law 496 = .ok (.invokestatic 168, 3) := by decide +kernel
theorem dL_law_499 : decode cL_law 499 = .ok (.istore 6, 2) := by decide +kernel
theorem dL_law_501 : decode cL_law 501 = .ok (.aload_n 2, 1) := by decide +kernel
theorem dL_law_502 : decode cL_law 502 = .ok (.aload_n 0, 1) := by decide +kernel
theorem dL_law_503 : decode cL_law 503 = .ok (.iload 5, 2) := by decide +kernel
theorem dL_law_505 : decode cL_law 505 = .ok (.iconst 1, 1) := by decide +kernel
theorem dL_law_506 : decode cL_law 506 = .ok (.iadd, 1) := by decide +kernel
theorem dL_law_507 : decode cL_law 507 = .ok (.iaload, 1) := by decide +kernel
theorem dL_law_508 : decode cL_law 508 = .ok (.aload_n 0, 1) := by decide +kernel
theorem dL_law_509 : decode cL_law 509 = .ok (.iload 5, 2) := by decide +kernel
theorem dL_law_511 : decode cL_law 511 = .ok (.iconst 2, 1) := by decide +kernel
theorem dL_law_512 : decode cL_law 512 = .ok (.iadd, 1) := by decide +kernel
theorem dL_law_513 : decode cL_law 513 = .ok (.iaload, 1) := by decide +kernel
theorem dL_law_514 : decode cL_law 514 = .ok (.aload_n 0, 1) := by decide +kernel
theorem dL_law_515 : decode cL_law 515 = .ok (.iload 5, 2) := by decide +kernel
theorem dL_law_517 : decode cL_law 517 = .ok (.iconst 3, 1) := by decide +kernel
theorem dL_law_518 : decode cL_law 518 = .ok (.iadd, 1) := by decide +kernel
theorem dL_law_519 : decode cL_law 519 = .ok (.iaload, 1) := by decide +kernel
theorem dL_law_520 : decode cL_law 520 = .ok (.invokevirtual 170, 3) := by decide +kernel
theorem dL_law_523 : decode cL_law 523 = .ok (.istore 7, 2) := by decide +kernel
theorem dL_law_525 : decode cL_law 525 = .ok (.aload_n 2, 1) := by decide +kernel
theorem dL_law_526 : decode cL_law 526 = .ok (.invokevirtual 157, 3) := by decide +kernel
theorem dL_law_529 : decode cL_law 529 = .ok (.iload 6, 2) := by decide +kernel
theorem dL_law_531 : decode cL_law 531 = .ok (.if_icmp .eq 5, 3) := by decide +kernel
theorem dL_law_534 : decode cL_law 534 = .ok (.iconst 0, 1) := by decide +kernel
theorem dL_law_535 : decode cL_law 535 = .ok (.ireturn, 1) := by decide +kernel
theorem dL_law_536 : decode cL_law 536 = .ok (.iload 6, 2) := by decide +kernel
theorem dL_law_538 : decode cL_law 538 = .ok (.ifCond .ne 15, 3) := by decide +kernel
theorem dL_law_541 : decode cL_law 541 = .ok (.aload_n 3, 1) := by decide +kernel
theorem dL_law_542 : decode cL_law 542 = .ok (.iconst 0, 1) := by decide +kernel
theorem dL_law_543 : decode cL_law 543 = .ok (.laload, 1) := by decide +kernel
theorem dL_law_544 : decode cL_law 544 = .ok (.iload 7, 2) := by decide +kernel
theorem dL_law_546 : decode cL_law 546 = .ok (.i2l, 1) := by decide +kernel
theorem dL_law_547 : decode cL_law 547 = .ok (.lcmp, 1) := by decide +kernel
theorem dL_law_548 : decode cL_law 548 = .ok (.ifCond .eq 5, 3) := by decide +kernel
theorem dL_law_551 : decode cL_law 551 = .ok (.iconst 0, 1) := by decide +kernel
theorem dL_law_552 : decode cL_law 552 = .ok (.ireturn, 1) := by decide +kernel
theorem dL_law_553 : decode cL_law 553 = .ok (.goto 2359, 3) := by decide +kernel
theorem dL_law_556 : decode cL_law 556 = .ok (.aload_n 1, 1) := by decide +kernel
theorem dL_law_557 : decode cL_law 557 = .ok (.aload_n 0, 1) := by decide +kernel
theorem dL_law_558 : decode cL_law 558 = .ok (.iload 5, 2) := by decide +kernel
theorem dL_law_560 : decode cL_law 560 = .ok (.iconst 1, 1) := by decide +kernel
theorem dL_law_561 : decode cL_law 561 = .ok (.iadd, 1) := by decide +kernel
theorem dL_law_562 : decode cL_law 562 = .ok (.iaload, 1) := by decide +kernel
theorem dL_law_563 : decode cL_law 563 = .ok (.aload_n 3, 1) := by decide +kernel
theorem dL_law_564 : decode cL_law 564 = .ok (.invokestatic 171, 3) := by decide +kernel
theorem dL_law_567 : decode cL_law 567 = .ok (.istore 6, 2) := by decide +kernel
theorem dL_law_569 : decode cL_law 569 = .ok (.aload_n 2, 1) := by decide +kernel
theorem dL_law_570 : decode cL_law 570 = .ok (.aload_n 0, 1) := by decide +kernel
theorem dL_law_571 : decode cL_law 571 = .ok (.iload 5, 2) := by decide +kernel
theorem dL_law_573 : decode cL_law 573 = .ok (.iconst 1, 1) := by decide +kernel
theorem dL_law_574 : decode cL_law 574 = .ok (.iadd, 1) := by decide +kernel
theorem dL_law_575 : decode cL_law 575 = .ok (.iaload, 1) := by decide +kernel
theorem dL_law_576 : decode cL_law 576 = .ok (.invokevirtual 174, 3) := by decide +kernel
theorem dL_law_579 : decode cL_law 579 = .ok (.istore 7, 2) := by decide +kernel
theorem dL_law_581 : decode cL_law 581 = .ok (.aload_n 2, 1) := by decide +kernel
theorem dL_law_582 : decode cL_law 582 = .ok (.invokevirtual 157, 3) := by decide +kernel
theorem dL_law_585 : decode cL_law 585 = .ok (.iload 6, 2) := by decide +kernel
theorem dL_law_587 : decode cL_law 587 = .ok (.if_icmp .eq 5, 3) := by decide +kernel
theorem dL_law_590 : decode cL_law 590 = .ok (.iconst 0, 1) := by decide +kernel
theorem dL_law_591 : decode cL_law 591 = .ok (.ireturn, 1) := by decide +kernel
theorem dL_law_592 : decode cL_law 592 = .ok (.iload 6, 2) := by decide +kernel
theorem dL_law_594 : decode cL_law 594 = .ok (.ifCond .ne 15, 3) := by decide +kernel
theorem dL_law_597 : decode cL_law 597 = .ok (.aload_n 3, 1) := by decide +kernel
theorem dL_law_598 : decode cL_law 598 = .ok (.iconst 0, 1) := by decide +kernel
theorem dL_law_599 : decode cL_law 599 = .ok (.laload, 1) := by decide +kernel
theorem dL_law_600 : decode cL_law 600 = .ok (.iload 7, 2) := by decide +kernel
theorem dL_law_602 : decode cL_law 602 = .ok (.i2l, 1) := by decide +kernel
theorem dL_law_603 : decode cL_law 603 = .ok (.lcmp, 1) := by decide +kernel
theorem dL_law_604 : decode cL_law 604 = .ok (.ifCond .eq 5, 3) := by decide +kernel
theorem dL_law_607 : decode cL_law 607 = .ok (.iconst 0, 1) := by decide +kernel
theorem dL_law_608 : decode cL_law 608 = .ok (.ireturn, 1) := by decide +kernel
theorem dL_law_609 : decode cL_law 609 = .ok (.goto 2303, 3) := by decide +kernel
theorem dL_law_612 : decode cL_law 612 = .ok (.aload_n 1, 1) := by decide +kernel
theorem dL_law_613 : decode cL_law 613 = .ok (.aload_n 0, 1) := by decide +kernel
theorem dL_law_614 : decode cL_law 614 = .ok (.iload 5, 2) := by decide +kernel
theorem dL_law_616 : decode cL_law 616 = .ok (.iconst 1, 1) := by decide +kernel
theorem dL_law_617 : decode cL_law 617 = .ok (.iadd, 1) := by decide +kernel
theorem dL_law_618 : decode cL_law 618 = .ok (.iaload, 1) := by decide +kernel
theorem dL_law_619 : decode cL_law 619 = .ok (.aload_n 0, 1) := by decide +kernel
theorem dL_law_620 : decode cL_law 620 = .ok (.iload 5, 2) := by decide +kernel
theorem dL_law_622 : decode cL_law 622 = .ok (.iconst 2, 1) := by decide +kernel
theorem dL_law_623 : decode cL_law 623 = .ok (.iadd, 1) := by decide +kernel
theorem dL_law_624 : decode cL_law 624 = .ok (.iaload, 1) := by decide +kernel
theorem dL_law_625 : decode cL_law 625 = .ok (.aload_n 3, 1) := by decide +kernel
theorem dL_law_626 : decode cL_law 626 = .ok (.invokestatic 175, 3) := by decide +kernel
theorem dL_law_629 : decode cL_law 629 = .ok (.istore 6, 2) := by decide +kernel
theorem dL_law_631 : decode cL_law 631 = .ok (.aload_n 2, 1) := by decide +kernel
theorem dL_law_632 : decode cL_law 632 = .ok (.aload_n 0, 1) := by decide +kernel
theorem dL_law_633 : decode cL_law 633 = .ok (.iload 5, 2) := by decide +kernel
theorem dL_law_635 : decode cL_law 635 = .ok (.iconst 1, 1) := by decide +kernel
theorem dL_law_636 : decode cL_law 636 = .ok (.iadd, 1) := by decide +kernel
theorem dL_law_637 : decode cL_law 637 = .ok (.iaload, 1) := by decide +kernel
theorem dL_law_638 : decode cL_law 638 = .ok (.aload_n 0, 1) := by decide +kernel
theorem dL_law_639 : decode cL_law 639 = .ok (.iload 5, 2) := by decide +kernel
theorem dL_law_641 : decode cL_law 641 = .ok (.iconst 2, 1) := by decide +kernel
theorem dL_law_642 : decode cL_law 642 = .ok (.iadd, 1) := by decide +kernel
theorem dL_law_643 : decode cL_law 643 = .ok (.iaload, 1) := by decide +kernel
theorem dL_law_644 : decode cL_law 644 = .ok (.invokevirtual 177, 3) := by decide +kernel
theorem dL_law_647 : decode cL_law 647 = .ok (.istore 7, 2) := by decide +kernel
theorem dL_law_649 : decode cL_law 649 = .ok (.aload_n 2, 1) := by decide +kernel
theorem dL_law_650 : decode cL_law 650 = .ok (.invokevirtual 157, 3) := by decide +kernel
theorem dL_law_653 : decode cL_law 653 = .ok (.iload 6, 2) := by decide +kernel
theorem dL_law_655 : decode cL_law 655 = .ok (.if_icmp .eq 5, 3) := by decide +kernel
theorem dL_law_658 : decode cL_law 658 = .ok (.iconst 0, 1) := by decide +kernel
theorem dL_law_659 : decode cL_law 659 = .ok (.ireturn, 1) := by decide +kernel
theorem dL_law_660 : decode cL_law 660 = .ok (.iload 6, 2) := by decide +kernel
theorem dL_law_662 : decode cL_law 662 = .ok (.ifCond .ne 15, 3) := by decide +kernel
theorem dL_law_665 : decode cL_law 665 = .ok (.aload_n 3, 1) := by decide +kernel
theorem dL_law_666 : decode cL_law 666 = .ok (.iconst 0, 1) := by decide +kernel
theorem dL_law_667 : decode cL_law 667 = .ok (.laload, 1) := by decide +kernel
theorem dL_law_668 : decode cL_law 668 = .ok (.iload 7, 2) := by decide +kernel
theorem dL_law_670 : decode cL_law 670 = .ok (.i2l, 1) := by decide +kernel
theorem dL_law_671 : decode cL_law 671 = .ok (.lcmp, 1) := by decide +kernel
theorem dL_law_672 : decode cL_law 672 = .ok (.ifCond .eq 5, 3) := by decide +kernel
theorem dL_law_675 : decode cL_law 675 = .ok (.iconst 0, 1) := by decide +kernel
theorem dL_law_676 : decode cL_law 676 = .ok (.ireturn, 1) := by decide +kernel
theorem dL_law_677 : decode cL_law 677 = .ok (.goto 2235, 3) := by decide +kernel
theorem dL_law_680 : decode cL_law 680 = .ok (.aload_n 1, 1) := by decide +kernel
theorem dL_law_681 : decode cL_law 681 = .ok (.aload_n 0, 1) := by decide +kernel
theorem dL_law_682 : decode cL_law 682 = .ok (.iload 5, 2) := by decide +kernel
theorem dL_law_684 : decode cL_law 684 = .ok (.iconst 1, 1) := by decide +kernel
theorem dL_law_685 : decode cL_law 685 = .ok (.iadd, 1) := by decide +kernel
theorem dL_law_686 : decode cL_law 686 = .ok (.iaload, 1) := by decide +kernel
theorem dL_law_687 : decode cL_law 687 = .ok (.aload_n 0, 1) := by decide +kernel
theorem dL_law_688 : decode cL_law 688 = .ok (.iload 5, 2) := by decide +kernel
theorem dL_law_690 : decode cL_law 690 = .ok (.iconst 2, 1) := by decide +kernel
theorem dL_law_691 : decode cL_law 691 = .ok (.iadd, 1) := by decide +kernel
theorem dL_law_692 : decode cL_law 692 = .ok (.iaload, 1) := by decide +kernel
theorem dL_law_693 : decode cL_law 693 = .ok (.aload_n 3, 1) := by decide +kernel
theorem dL_law_694 : decode cL_law 694 = .ok (.invokestatic 178, 3) := by decide +kernel
theorem dL_law_697 : decode cL_law 697 = .ok (.istore 6, 2) := by decide +kernel
theorem dL_law_699 : decode cL_law 699 = .ok (.aload_n 2, 1) := by decide +kernel
theorem dL_law_700 : decode cL_law 700 = .ok (.aload_n 0, 1) := by decide +kernel
theorem dL_law_701 : decode cL_law 701 = .ok (.iload 5, 2) := by decide +kernel
theorem dL_law_703 : decode cL_law 703 = .ok (.iconst 1, 1) := by decide +kernel
theorem dL_law_704 : decode cL_law 704 = .ok (.iadd, 1) := by decide +kernel
theorem dL_law_705 : decode cL_law 705 = .ok (.iaload, 1) := by decide +kernel
theorem dL_law_706 : decode cL_law 706 = .ok (.aload_n 0, 1) := by decide +kernel
theorem dL_law_707 : decode cL_law 707 = .ok (.iload 5, 2) := by decide +kernel
theorem dL_law_709 : decode cL_law 709 = .ok (.iconst 2, 1) := by decide +kernel
theorem dL_law_710 : decode cL_law 710 = .ok (.iadd, 1) := by decide +kernel
theorem dL_law_711 : decode cL_law 711 = .ok (.iaload, 1) := by decide +kernel
theorem dL_law_712 : decode cL_law 712 = .ok (.invokevirtual 180, 3) := by decide +kernel
theorem dL_law_715 : decode cL_law 715 = .ok (.istore 7, 2) := by decide +kernel
theorem dL_law_717 : decode cL_law 717 = .ok (.aload_n 2, 1) := by decide +kernel
theorem dL_law_718 : decode cL_law 718 = .ok (.invokevirtual 157, 3) := by decide +kernel
theorem dL_law_721 : decode cL_law 721 = .ok (.iload 6, 2) := by decide +kernel
theorem dL_law_723 : decode cL_law 723 = .ok (.if_icmp .eq 5, 3) := by decide +kernel
theorem dL_law_726 : decode cL_law 726 = .ok (.iconst 0, 1) := by decide +kernel
theorem dL_law_727 : decode cL_law 727 = .ok (.ireturn, 1) := by decide +kernel
theorem dL_law_728 : decode cL_law 728 = .ok (.iload 6, 2) := by decide +kernel
theorem dL_law_730 : decode cL_law 730 = .ok (.ifCond .ne 15, 3) := by decide +kernel
theorem dL_law_733 : decode cL_law 733 = .ok (.aload_n 3, 1) := by decide +kernel
theorem dL_law_734 : decode cL_law 734 = .ok (.iconst 0, 1) := by decide +kernel
theorem dL_law_735 : decode cL_law 735 = .ok (.laload, 1) := by decide +kernel
theorem dL_law_736 : decode cL_law 736 = .ok (.iload 7, 2) := by decide +kernel
theorem dL_law_738 : decode cL_law 738 = .ok (.i2l, 1) := by decide +kernel
theorem dL_law_739 : decode cL_law 739 = .ok (.lcmp, 1) := by decide +kernel
theorem dL_law_740 : decode cL_law 740 = .ok (.ifCond .eq 5, 3) := by decide +kernel
theorem dL_law_743 : decode cL_law 743 = .ok (.iconst 0, 1) := by decide +kernel
theorem dL_law_744 : decode cL_law 744 = .ok (.ireturn, 1) := by decide +kernel
theorem dL_law_745 : decode cL_law 745 = .ok (.goto 2167, 3) := by decide +kernel
theorem dL_law_748 : decode cL_law 748 = .ok (.aload_n 1, 1) := by decide +kernel
theorem dL_law_749 : decode cL_law 749 = .ok (.aload_n 0, 1) := by decide +kernel
theorem dL_law_750 : decode cL_law 750 = .ok (.iload 5, 2) := by decide +kernel
theorem dL_law_752 : decode cL_law 752 = .ok (.iconst 1, 1) := by decide +kernel
theorem dL_law_753 : decode cL_law 753 = .ok (.iadd, 1) := by decide +kernel
theorem dL_law_754 : decode cL_law 754 = .ok (.iaload, 1) := by decide +kernel
theorem dL_law_755 : decode cL_law 755 = .ok (.aload_n 0, 1) := by decide +kernel
theorem dL_law_756 : decode cL_law 756 = .ok (.iload 5, 2) := by decide +kernel
theorem dL_law_758 : decode cL_law 758 = .ok (.iconst 2, 1) := by decide +kernel
theorem dL_law_759 : decode cL_law 759 = .ok (.iadd, 1) := by decide +kernel
theorem dL_law_760 : decode cL_law 760 = .ok (.iaload, 1) := by decide +kernel
theorem dL_law_761 : decode cL_law 761 = .ok (.aload_n 0, 1) := by decide +kernel
theorem dL_law_762 : decode cL_law 762 = .ok (.iload 5, 2) := by decide +kernel
theorem dL_law_764 : decode cL_law 764 = .ok (.iconst 3, 1) := by decide +kernel
theorem dL_law_765 : decode cL_law 765 = .ok (.iadd, 1) := by decide +kernel
theorem dL_law_766 : decode cL_law 766 = .ok (.iaload, 1) := by decide +kernel
theorem dL_law_767 : decode cL_law 767 = .ok (.aload_n 3, 1) := by decide +kernel
theorem dL_law_768 : decode cL_law 768 = .ok (.invokestatic 181, 3) := by decide +kernel
theorem dL_law_771 : decode cL_law 771 = .ok (.istore 6, 2) := by decide +kernel
theorem dL_law_773 : decode cL_law 773 = .ok (.aload_n 2, 1) := by decide +kernel
theorem dL_law_774 : decode cL_law 774 = .ok (.aload_n 0, 1) := by decide +kernel
theorem dL_law_775 : decode cL_law 775 = .ok (.iload 5, 2) := by decide +kernel
theorem dL_law_777 : decode cL_law 777 = .ok (.iconst 1, 1) := by decide +kernel
theorem dL_law_778 : decode cL_law 778 = .ok (.iadd, 1) := by decide +kernel
theorem dL_law_779 : decode cL_law 779 = .ok (.iaload, 1) := by decide +kernel
theorem dL_law_780 : decode cL_law 780 = .ok (.aload_n 0, 1) := by decide +kernel
theorem dL_law_781 : decode cL_law 781 = .ok (.iload 5, 2) := by decide +kernel
theorem dL_law_783 : decode cL_law 783 = .ok (.iconst 2, 1) := by decide +kernel
theorem dL_law_784 : decode cL_law 784 = .ok (.iadd, 1) := by decide +kernel
theorem dL_law_785 : decode cL_law 785 = .ok (.iaload, 1) := by decide +kernel
theorem dL_law_786 : decode cL_law 786 = .ok (.aload_n 0, 1) := by decide +kernel
theorem dL_law_787 : decode cL_law 787 = .ok (.iload 5, 2) := by decide +kernel
theorem dL_law_789 : decode cL_law 789 = .ok (.iconst 3, 1) := by decide +kernel
theorem dL_law_790 : decode cL_law 790 = .ok (.iadd, 1) := by decide +kernel
theorem dL_law_791 : decode cL_law 791 = .ok (.iaload, 1) := by decide +kernel
theorem dL_law_792 : decode cL_law 792 = .ok (.invokevirtual 183, 3) := by decide +kernel
theorem dL_law_795 : decode cL_law 795 = .ok (.istore 7, 2) := by decide +kernel
theorem dL_law_797 : decode cL_law 797 = .ok (.aload_n 2, 1) := by decide +kernel
theorem dL_law_798 : decode cL_law 798 = .ok (.invokevirtual 157, 3) := by decide +kernel
theorem dL_law_801 : decode cL_law 801 = .ok (.iload 6, 2) := by decide +kernel
theorem dL_law_803 : decode cL_law 803 = .ok (.if_icmp .eq 5, 3) := by decide +kernel
theorem dL_law_806 : decode cL_law 806 = .ok (.iconst 0, 1) := by decide +kernel
theorem dL_law_807 : decode cL_law 807 = .ok (.ireturn, 1) := by decide +kernel
theorem dL_law_808 : decode cL_law 808 = .ok (.iload 6, 2) := by decide +kernel
theorem dL_law_810 : decode cL_law 810 = .ok (.ifCond .ne 15, 3) := by decide +kernel
theorem dL_law_813 : decode cL_law 813 = .ok (.aload_n 3, 1) := by decide +kernel
theorem dL_law_814 : decode cL_law 814 = .ok (.iconst 0, 1) := by decide +kernel
theorem dL_law_815 : decode cL_law 815 = .ok (.laload, 1) := by decide +kernel
theorem dL_law_816 : decode cL_law 816 = .ok (.iload 7, 2) := by decide +kernel
theorem dL_law_818 : decode cL_law 818 = .ok (.i2l, 1) := by decide +kernel
theorem dL_law_819 : decode cL_law 819 = .ok (.lcmp, 1) := by decide +kernel
theorem dL_law_820 : decode cL_law 820 = .ok (.ifCond .eq 5, 3) := by decide +kernel
theorem dL_law_823 : decode cL_law 823 = .ok (.iconst 0, 1) := by decide +kernel
theorem dL_law_824 : decode cL_law 824 = .ok (.ireturn, 1) := by decide +kernel
theorem dL_law_825 : decode cL_law 825 = .ok (.goto 2087, 3) := by decide +kernel
theorem dL_law_828 : decode cL_law 828 = .ok (.aload_n 1, 1) := by decide +kernel
theorem dL_law_829 : decode cL_law 829 = .ok (.aload_n 0, 1) := by decide +kernel
theorem dL_law_830 : decode cL_law 830 = .ok (.iload 5, 2) := by decide +kernel
theorem dL_law_832 : decode cL_law 832 = .ok (.iconst 1, 1) := by decide +kernel
theorem dL_law_833 : decode cL_law 833 = .ok (.iadd, 1) := by decide +kernel
theorem dL_law_834 : decode cL_law 834 = .ok (.iaload, 1) := by decide +kernel
theorem dL_law_835 : decode cL_law 835 = .ok (.aload_n 0, 1) := by decide +kernel
theorem dL_law_836 : decode cL_law 836 = .ok (.iload 5, 2) := by decide +kernel
theorem dL_law_838 : decode cL_law 838 = .ok (.iconst 2, 1) := by decide +kernel
theorem dL_law_839 : decode cL_law 839 = .ok (.iadd, 1) := by decide +kernel
theorem dL_law_840 : decode cL_law 840 = .ok (.iaload, 1) := by decide +kernel
theorem dL_law_841 : decode cL_law 841 = .ok (.aload_n 3, 1) := by decide +kernel
theorem dL_law_842 : decode cL_law 842 = .ok (.invokestatic 184, 3) := by decide +kernel
theorem dL_law_845 : decode cL_law 845 = .ok (.istore 6, 2) := by decide +kernel
theorem dL_law_847 : decode cL_law 847 = .ok (.aload_n 2, 1) := by decide +kernel
theorem dL_law_848 : decode cL_law 848 = .ok (.aload_n 0, 1) := by decide +kernel
theorem dL_law_849 : decode cL_law 849 = .ok (.iload 5, 2) := by decide +kernel
theorem dL_law_851 : decode cL_law 851 = .ok (.iconst 1, 1) := by decide +kernel
theorem dL_law_852 : decode cL_law 852 = .ok (.iadd, 1) := by decide +kernel
theorem dL_law_853 : decode cL_law 853 = .ok (.iaload, 1) := by decide +kernel
theorem dL_law_854 : decode cL_law 854 = .ok (.aload_n 0, 1) := by decide +kernel
theorem dL_law_855 : decode cL_law 855 = .ok (.iload 5, 2) := by decide +kernel
theorem dL_law_857 : decode cL_law 857 = .ok (.iconst 2, 1) := by decide +kernel
theorem dL_law_858 : decode cL_law 858 = .ok (.iadd, 1) := by decide +kernel
theorem dL_law_859 : decode cL_law 859 = .ok (.iaload, 1) := by decide +kernel
theorem dL_law_860 : decode cL_law 860 = .ok (.invokevirtual 186, 3) := by decide +kernel
theorem dL_law_863 : decode cL_law 863 = .ok (.istore 7, 2) := by decide +kernel
theorem dL_law_865 : decode cL_law 865 = .ok (.aload_n 2, 1) := by decide +kernel
theorem dL_law_866 : decode cL_law 866 = .ok (.invokevirtual 157, 3) := by decide +kernel
theorem dL_law_869 : decode cL_law 869 = .ok (.iload 6, 2) := by decide +kernel
theorem dL_law_871 : decode cL_law 871 = .ok (.if_icmp .eq 5, 3) := by decide +kernel
theorem dL_law_874 : decode cL_law 874 = .ok (.iconst 0, 1) := by decide +kernel
theorem dL_law_875 : decode cL_law 875 = .ok (.ireturn, 1) := by decide +kernel
theorem dL_law_876 : decode cL_law 876 = .ok (.iload 6, 2) := by decide +kernel
theorem dL_law_878 : decode cL_law 878 = .ok (.ifCond .ne 15, 3) := by decide +kernel
theorem dL_law_881 : decode cL_law 881 = .ok (.aload_n 3, 1) := by decide +kernel
theorem dL_law_882 : decode cL_law 882 = .ok (.iconst 0, 1) := by decide +kernel
theorem dL_law_883 : decode cL_law 883 = .ok (.laload, 1) := by decide +kernel
theorem dL_law_884 : decode cL_law 884 = .ok (.iload 7, 2) := by decide +kernel
theorem dL_law_886 : decode cL_law 886 = .ok (.i2l, 1) := by decide +kernel
theorem dL_law_887 : decode cL_law 887 = .ok (.lcmp, 1) := by decide +kernel
theorem dL_law_888 : decode cL_law 888 = .ok (.ifCond .eq 5, 3) := by decide +kernel
theorem dL_law_891 : decode cL_law 891 = .ok (.iconst 0, 1) := by decide +kernel
theorem dL_law_892 : decode cL_law 892 = .ok (.ireturn, 1) := by decide +kernel
theorem dL_law_893 : decode cL_law 893 = .ok (.goto 2019, 3) := by decide +kernel
theorem dL_law_896 : decode cL_law 896 = .ok (.aload_n 1, 1) := by decide +kernel
theorem dL_law_897 : decode cL_law 897 = .ok (.aload_n 0, 1) := by decide +kernel
theorem dL_law_898 : decode cL_law 898 = .ok (.iload 5, 2) := by decide +kernel
theorem dL_law_900 : decode cL_law 900 = .ok (.iconst 1, 1) := by decide +kernel
theorem dL_law_901 : decode cL_law 901 = .ok (.iadd, 1) := by decide +kernel
theorem dL_law_902 : decode cL_law 902 = .ok (.iaload, 1) := by decide +kernel
theorem dL_law_903 : decode cL_law 903 = .ok (.aload_n 0, 1) := by decide +kernel
theorem dL_law_904 : decode cL_law 904 = .ok (.iload 5, 2) := by decide +kernel
theorem dL_law_906 : decode cL_law 906 = .ok (.iconst 2, 1) := by decide +kernel
theorem dL_law_907 : decode cL_law 907 = .ok (.iadd, 1) := by decide +kernel
theorem dL_law_908 : decode cL_law 908 = .ok (.iaload, 1) := by decide +kernel
theorem dL_law_909 : decode cL_law 909 = .ok (.aload_n 3, 1) := by decide +kernel
theorem dL_law_910 : decode cL_law 910 = .ok (.invokestatic 187, 3) := by decide +kernel
theorem dL_law_913 : decode cL_law 913 = .ok (.istore 6, 2) := by decide +kernel
theorem dL_law_915 : decode cL_law 915 = .ok (.aload_n 2, 1) := by decide +kernel
theorem dL_law_916 : decode cL_law 916 = .ok (.aload_n 0, 1) := by decide +kernel
theorem dL_law_917 : decode cL_law 917 = .ok (.iload 5, 2) := by decide +kernel
theorem dL_law_919 : decode cL_law 919 = .ok (.iconst 1, 1) := by decide +kernel
theorem dL_law_920 : decode cL_law 920 = .ok (.iadd, 1) := by decide +kernel
theorem dL_law_921 : decode cL_law 921 = .ok (.iaload, 1) := by decide +kernel
theorem dL_law_922 : decode cL_law 922 = .ok (.aload_n 0, 1) := by decide +kernel
theorem dL_law_923 : decode cL_law 923 = .ok (.iload 5, 2) := by decide +kernel
theorem dL_law_925 : decode cL_law 925 = .ok (.iconst 2, 1) := by decide +kernel
theorem dL_law_926 : decode cL_law 926 = .ok (.iadd, 1) := by decide +kernel
theorem dL_law_927 : decode cL_law 927 = .ok (.iaload, 1) := by decide +kernel
theorem dL_law_928 : decode cL_law 928 = .ok (.invokevirtual 189, 3) := by decide +kernel
theorem dL_law_931 : decode cL_law 931 = .ok (.istore 7, 2) := by decide +kernel
theorem dL_law_933 : decode cL_law 933 = .ok (.aload_n 2, 1) := by decide +kernel
theorem dL_law_934 : decode cL_law 934 = .ok (.invokevirtual 157, 3) := by decide +kernel
theorem dL_law_937 : decode cL_law 937 = .ok (.iload 6, 2) := by decide +kernel
theorem dL_law_939 : decode cL_law 939 = .ok (.if_icmp .eq 5, 3) := by decide +kernel
theorem dL_law_942 : decode cL_law 942 = .ok (.iconst 0, 1) := by decide +kernel
theorem dL_law_943 : decode cL_law 943 = .ok (.ireturn, 1) := by decide +kernel
theorem dL_law_944 : decode cL_law 944 = .ok (.iload 6, 2) := by decide +kernel
theorem dL_law_946 : decode cL_law 946 = .ok (.ifCond .ne 15, 3) := by decide +kernel
theorem dL_law_949 : decode cL_law 949 = .ok (.aload_n 3, 1) := by decide +kernel
theorem dL_law_950 : decode cL_law 950 = .ok (.iconst 0, 1) := by decide +kernel
theorem dL_law_951 : decode cL_law 951 = .ok (.laload, 1) := by decide +kernel
theorem dL_law_952 : decode cL_law 952 = .ok (.iload 7, 2) := by decide +kernel
theorem dL_law_954 : decode cL_law 954 = .ok (.i2l, 1) := by decide +kernel
theorem dL_law_955 : decode cL_law 955 = .ok (.lcmp, 1) := by decide +kernel
theorem dL_law_956 : decode cL_law 956 = .ok (.ifCond .eq 5, 3) := by decide +kernel
theorem dL_law_959 : decode cL_law 959 = .ok (.iconst 0, 1) := by decide +kernel
theorem dL_law_960 : decode cL_law 960 = .ok (.ireturn, 1) := by decide +kernel
theorem dL_law_961 : decode cL_law 961 = .ok (.goto 1951, 3) := by decide +kernel
theorem dL_law_964 : decode cL_law 964 = .ok (.aload_n 1, 1) := by decide +kernel
theorem dL_law_965 : decode cL_law 965 = .ok (.aload_n 0, 1) := by decide +kernel
theorem dL_law_966 : decode cL_law 966 = .ok (.iload 5, 2) := by decide +kernel
theorem dL_law_968 : decode cL_law 968 = .ok (.iconst 1, 1) := by decide +kernel
theorem dL_law_969 : decode cL_law 969 = .ok (.iadd, 1) := by decide +kernel
theorem dL_law_970 : decode cL_law 970 = .ok (.iaload, 1) := by decide +kernel
theorem dL_law_971 : decode cL_law 971 = .ok (.aload_n 0, 1) := by decide +kernel
theorem dL_law_972 : decode cL_law 972 = .ok (.iload 5, 2) := by decide +kernel
theorem dL_law_974 : decode cL_law 974 = .ok (.iconst 2, 1) := by decide +kernel
theorem dL_law_975 : decode cL_law 975 = .ok (.iadd, 1) := by decide +kernel
theorem dL_law_976 : decode cL_law 976 = .ok (.iaload, 1) := by decide +kernel
theorem dL_law_977 : decode cL_law 977 = .ok (.aload_n 0, 1) := by decide +kernel
theorem dL_law_978 : decode cL_law 978 = .ok (.iload 5, 2) := by decide +kernel
theorem dL_law_980 : decode cL_law 980 = .ok (.iconst 3, 1) := by decide +kernel
theorem dL_law_981 : decode cL_law 981 = .ok (.iadd, 1) := by decide +kernel
theorem dL_law_982 : decode cL_law 982 = .ok (.iaload, 1) := by decide +kernel
theorem dL_law_983 : decode cL_law 983 = .ok (.aload_n 3, 1) := by decide +kernel
theorem dL_law_984 : decode cL_law 984 = .ok (.invokestatic 190, 3) := by decide +kernel
theorem dL_law_987 : decode cL_law 987 = .ok (.istore 6, 2) := by decide +kernel
theorem dL_law_989 : decode cL_law 989 = .ok (.aload_n 2, 1) := by decide +kernel
theorem dL_law_990 : decode cL_law 990 = .ok (.aload_n 0, 1) := by decide +kernel
theorem dL_law_991 : decode cL_law 991 = .ok (.iload 5, 2) := by decide +kernel
theorem dL_law_993 : decode cL_law 993 = .ok (.iconst 1, 1) := by decide +kernel
theorem dL_law_994 : decode cL_law 994 = .ok (.iadd, 1) := by decide +kernel
theorem dL_law_995 : decode cL_law 995 = .ok (.iaload, 1) := by decide +kernel
theorem dL_law_996 : decode cL_law 996 = .ok (.aload_n 0, 1) := by decide +kernel
theorem dL_law_997 : decode cL_law 997 = .ok (.iload 5, 2) := by decide +kernel
theorem dL_law_999 : decode cL_law 999 = .ok (.iconst 2, 1) := by decide +kernel
theorem dL_law_1000 : decode cL_law 1000 = .ok (.iadd, 1) := by decide +kernel
theorem dL_law_1001 : decode cL_law 1001 = .ok (.iaload, 1) := by decide +kernel
theorem dL_law_1002 : decode cL_law 1002 = .ok (.aload_n 0, 1) := by decide +kernel
theorem dL_law_1003 : decode cL_law 1003 = .ok (.iload 5, 2) := by decide +kernel
theorem dL_law_1005 : decode cL_law 1005 = .ok (.iconst 3, 1) := by decide +kernel
theorem dL_law_1006 : decode cL_law 1006 = .ok (.iadd, 1) := by decide +kernel
theorem dL_law_1007 : decode cL_law 1007 = .ok (.iaload, 1) := by decide +kernel
theorem dL_law_1008 : decode cL_law 1008 = .ok (.invokevirtual 192, 3) := by decide +kernel
theorem dL_law_1011 : decode cL_law 1011 = .ok (.istore 7, 2) := by decide +kernel
theorem dL_law_1013 : decode cL_law 1013 = .ok (.aload_n 2, 1) := by decide +kernel
theorem dL_law_1014 : decode cL_law 1014 = .ok (.invokevirtual 157, 3) := by decide +kernel
theorem dL_law_1017 : decode cL_law 1017 = .ok (.iload 6, 2) := by decide +kernel
theorem dL_law_1019 : decode cL_law 1019 = .ok (.if_icmp .eq 5, 3) := by decide +kernel
theorem dL_law_1022 : decode cL_law 1022 = .ok (.iconst 0, 1) := by decide +kernel
theorem dL_law_1023 : decode cL_law 1023 = .ok (.ireturn, 1) := by decide +kernel
theorem dL_law_1024 : decode cL_law 1024 = .ok (.iload 6, 2) := by decide +kernel
theorem dL_law_1026 : decode cL_law 1026 = .ok (.ifCond .ne 15, 3) := by decide +kernel
theorem dL_law_1029 : decode cL_law 1029 = .ok (.aload_n 3, 1) := by decide +kernel
theorem dL_law_1030 : decode cL_law 1030 = .ok (.iconst 0, 1) := by decide +kernel
theorem dL_law_1031 : decode cL_law 1031 = .ok (.laload, 1) := by decide +kernel
theorem dL_law_1032 : decode cL_law 1032 = .ok (.iload 7, 2) := by decide +kernel
theorem dL_law_1034 : decode cL_law 1034 = .ok (.i2l, 1) := by decide +kernel
theorem dL_law_1035 : decode cL_law 1035 = .ok (.lcmp, 1) := by decide +kernel
theorem dL_law_1036 : decode cL_law 1036 = .ok (.ifCond .eq 5, 3) := by decide +kernel
theorem dL_law_1039 : decode cL_law 1039 = .ok (.iconst 0, 1) := by decide +kernel
theorem dL_law_1040 : decode cL_law 1040 = .ok (.ireturn, 1) := by decide +kernel
theorem dL_law_1041 : decode cL_law 1041 = .ok (.goto 1871, 3) := by decide +kernel
theorem dL_law_1044 : decode cL_law 1044 = .ok (.aload_n 1, 1) := by decide +kernel
theorem dL_law_1045 : decode cL_law 1045 = .ok (.aload_n 0, 1) := by decide +kernel
theorem dL_law_1046 : decode cL_law 1046 = .ok (.iload 5, 2) := by decide +kernel
theorem dL_law_1048 : decode cL_law 1048 = .ok (.iconst 1, 1) := by decide +kernel
theorem dL_law_1049 : decode cL_law 1049 = .ok (.iadd, 1) := by decide +kernel
theorem dL_law_1050 : decode cL_law 1050 = .ok (.iaload, 1) := by decide +kernel
theorem dL_law_1051 : decode cL_law 1051 = .ok (.aload_n 0, 1) := by decide +kernel
theorem dL_law_1052 : decode cL_law 1052 = .ok (.iload 5, 2) := by decide +kernel
theorem dL_law_1054 : decode cL_law 1054 = .ok (.iconst 2, 1) := by decide +kernel
theorem dL_law_1055 : decode cL_law 1055 = .ok (.iadd, 1) := by decide +kernel
theorem dL_law_1056 : decode cL_law 1056 = .ok (.iaload, 1) := by decide +kernel
theorem dL_law_1057 : decode cL_law 1057 = .ok (.aload_n 0, 1) := by decide +kernel
theorem dL_law_1058 : decode cL_law 1058 = .ok (.iload 5, 2) := by decide +kernel
theorem dL_law_1060 : decode cL_law 1060 = .ok (.iconst 3, 1) := by decide +kernel
theorem dL_law_1061 : decode cL_law 1061 = .ok (.iadd, 1) := by decide +kernel
theorem dL_law_1062 : decode cL_law 1062 = .ok (.iaload, 1) := by decide +kernel
theorem dL_law_1063 : decode cL_law 1063 = .ok (.aload_n 0, 1) := by decide +kernel
theorem dL_law_1064 : decode cL_law 1064 = .ok (.iload 5, 2) := by decide +kernel
theorem dL_law_1066 : decode cL_law 1066 = .ok (.iconst 4, 1) := by decide +kernel
theorem dL_law_1067 : decode cL_law 1067 = .ok (.iadd, 1) := by decide +kernel
theorem dL_law_1068 : decode cL_law 1068 = .ok (.iaload, 1) := by decide +kernel
theorem dL_law_1069 : decode cL_law 1069 = .ok (.aload_n 3, 1) := by decide +kernel
theorem dL_law_1070 : decode cL_law 1070 = .ok (.invokestatic 193, 3) := by decide +kernel
theorem dL_law_1073 : decode cL_law 1073 = .ok (.istore 6, 2) := by decide +kernel
theorem dL_law_1075 : decode cL_law 1075 = .ok (.aload_n 2, 1) := by decide +kernel
theorem dL_law_1076 : decode cL_law 1076 = .ok (.aload_n 0, 1) := by decide +kernel
theorem dL_law_1077 : decode cL_law 1077 = .ok (.iload 5, 2) := by decide +kernel
theorem dL_law_1079 : decode cL_law 1079 = .ok (.iconst 1, 1) := by decide +kernel
theorem dL_law_1080 : decode cL_law 1080 = .ok (.iadd, 1) := by decide +kernel
theorem dL_law_1081 : decode cL_law 1081 = .ok (.iaload, 1) := by decide +kernel
theorem dL_law_1082 : decode cL_law 1082 = .ok (.aload_n 0, 1) := by decide +kernel
theorem dL_law_1083 : decode cL_law 1083 = .ok (.iload 5, 2) := by decide +kernel
theorem dL_law_1085 : decode cL_law 1085 = .ok (.iconst 2, 1) := by decide +kernel
theorem dL_law_1086 : decode cL_law 1086 = .ok (.iadd, 1) := by decide +kernel
theorem dL_law_1087 : decode cL_law 1087 = .ok (.iaload, 1) := by decide +kernel
theorem dL_law_1088 : decode cL_law 1088 = .ok (.aload_n 0, 1) := by decide +kernel
theorem dL_law_1089 : decode cL_law 1089 = .ok (.iload 5, 2) := by decide +kernel
theorem dL_law_1091 : decode cL_law 1091 = .ok (.iconst 3, 1) := by decide +kernel
theorem dL_law_1092 : decode cL_law 1092 = .ok (.iadd, 1) := by decide +kernel
theorem dL_law_1093 : decode cL_law 1093 = .ok (.iaload, 1) := by decide +kernel
theorem dL_law_1094 : decode cL_law 1094 = .ok (.aload_n 0, 1) := by decide +kernel
theorem dL_law_1095 : decode cL_law 1095 = .ok (.iload 5, 2) := by decide +kernel
theorem dL_law_1097 : decode cL_law 1097 = .ok (.iconst 4, 1) := by decide +kernel
theorem dL_law_1098 : decode cL_law 1098 = .ok (.iadd, 1) := by decide +kernel
theorem dL_law_1099 : decode cL_law 1099 = .ok (.iaload, 1) := by decide +kernel
theorem dL_law_1100 : decode cL_law 1100 = .ok (.invokevirtual 195, 3) := by decide +kernel
theorem dL_law_1103 : decode cL_law 1103 = .ok (.istore 7, 2) := by decide +kernel
theorem dL_law_1105 : decode cL_law 1105 = .ok (.aload_n 2, 1) := by decide +kernel
theorem dL_law_1106 : decode cL_law 1106 = .ok (.invokevirtual 157, 3) := by decide +kernel
theorem dL_law_1109 : decode cL_law 1109 = .ok (.iload 6, 2) := by decide +kernel
theorem dL_law_1111 : decode cL_law 1111 = .ok (.if_icmp .eq 5, 3) := by decide +kernel
theorem dL_law_1114 : decode cL_law 1114 = .ok (.iconst 0, 1) := by decide +kernel
theorem dL_law_1115 : decode cL_law 1115 = .ok (.ireturn, 1) := by decide +kernel
theorem dL_law_1116 : decode cL_law 1116 = .ok (.iload 6, 2) := by decide +kernel
theorem dL_law_1118 : decode cL_law 1118 = .ok (.ifCond .ne 15, 3) := by decide +kernel
theorem dL_law_1121 : decode cL_law 1121 = .ok (.aload_n 3, 1) := by decide +kernel
theorem dL_law_1122 : decode cL_law 1122 = .ok (.iconst 0, 1) := by decide +kernel
theorem dL_law_1123 : decode cL_law 1123 = .ok (.laload, 1) := by decide +kernel
theorem dL_law_1124 : decode cL_law 1124 = .ok (.iload 7, 2) := by decide +kernel
theorem dL_law_1126 : decode cL_law 1126 = .ok (.i2l, 1) := by decide +kernel
theorem dL_law_1127 : decode cL_law 1127 = .ok (.lcmp, 1) := by decide +kernel
theorem dL_law_1128 : decode cL_law 1128 = .ok (.ifCond .eq 5, 3) := by decide +kernel
theorem dL_law_1131 : decode cL_law 1131 = .ok (.iconst 0, 1) := by decide +kernel
theorem dL_law_1132 : decode cL_law 1132 = .ok (.ireturn, 1) := by decide +kernel
theorem dL_law_1133 : decode cL_law 1133 = .ok (.goto 1779, 3) := by decide +kernel
theorem dL_law_1136 : decode cL_law 1136 = .ok (.aload_n 1, 1) := by decide +kernel
theorem dL_law_1137 : decode cL_law 1137 = .ok (.aload_n 0, 1) := by decide +kernel
theorem dL_law_1138 : decode cL_law 1138 = .ok (.iload 5, 2) := by decide +kernel
theorem dL_law_1140 : decode cL_law 1140 = .ok (.iconst 1, 1) := by decide +kernel
theorem dL_law_1141 : decode cL_law 1141 = .ok (.iadd, 1) := by decide +kernel
theorem dL_law_1142 : decode cL_law 1142 = .ok (.iaload, 1) := by decide +kernel
theorem dL_law_1143 : decode cL_law 1143 = .ok (.aload_n 3, 1) := by decide +kernel
theorem dL_law_1144 : decode cL_law 1144 = .ok (.invokestatic 196, 3) := by decide +kernel
theorem dL_law_1147 : decode cL_law 1147 = .ok (.istore 6, 2) := by decide +kernel
theorem dL_law_1149 : decode cL_law 1149 = .ok (.aload_n 2, 1) := by decide +kernel
theorem dL_law_1150 : decode cL_law 1150 = .ok (.aload_n 0, 1) := by decide +kernel
theorem dL_law_1151 : decode cL_law 1151 = .ok (.iload 5, 2) := by decide +kernel
theorem dL_law_1153 : decode cL_law 1153 = .ok (.iconst 1, 1) := by decide +kernel
theorem dL_law_1154 : decode cL_law 1154 = .ok (.iadd, 1) := by decide +kernel
theorem dL_law_1155 : decode cL_law 1155 = .ok (.iaload, 1) := by decide +kernel
theorem dL_law_1156 : decode cL_law 1156 = .ok (.invokevirtual 198, 3) := by decide +kernel
theorem dL_law_1159 : decode cL_law 1159 = .ok (.istore 7, 2) := by decide +kernel
theorem dL_law_1161 : decode cL_law 1161 = .ok (.aload_n 2, 1) := by decide +kernel
theorem dL_law_1162 : decode cL_law 1162 = .ok (.invokevirtual 157, 3) := by decide +kernel
theorem dL_law_1165 : decode cL_law 1165 = .ok (.iload 6, 2) := by decide +kernel
theorem dL_law_1167 : decode cL_law 1167 = .ok (.if_icmp .eq 5, 3) := by decide +kernel
theorem dL_law_1170 : decode cL_law 1170 = .ok (.iconst 0, 1) := by decide +kernel
theorem dL_law_1171 : decode cL_law 1171 = .ok (.ireturn, 1) := by decide +kernel
theorem dL_law_1172 : decode cL_law 1172 = .ok (.iload 6, 2) := by decide +kernel
theorem dL_law_1174 : decode cL_law 1174 = .ok (.ifCond .ne 15, 3) := by decide +kernel
theorem dL_law_1177 : decode cL_law 1177 = .ok (.aload_n 3, 1) := by decide +kernel
theorem dL_law_1178 : decode cL_law 1178 = .ok (.iconst 0, 1) := by decide +kernel
theorem dL_law_1179 : decode cL_law 1179 = .ok (.laload, 1) := by decide +kernel
theorem dL_law_1180 : decode cL_law 1180 = .ok (.iload 7, 2) := by decide +kernel
theorem dL_law_1182 : decode cL_law 1182 = .ok (.i2l, 1) := by decide +kernel
theorem dL_law_1183 : decode cL_law 1183 = .ok (.lcmp, 1) := by decide +kernel
theorem dL_law_1184 : decode cL_law 1184 = .ok (.ifCond .eq 5, 3) := by decide +kernel
theorem dL_law_1187 : decode cL_law 1187 = .ok (.iconst 0, 1) := by decide +kernel
theorem dL_law_1188 : decode cL_law 1188 = .ok (.ireturn, 1) := by decide +kernel
theorem dL_law_1189 : decode cL_law 1189 = .ok (.goto 1723, 3) := by decide +kernel
theorem dL_law_1192 : decode cL_law 1192 = .ok (.aload_n 1, 1) := by decide +kernel
theorem dL_law_1193 : decode cL_law 1193 = .ok (.aload_n 0, 1) := by decide +kernel
theorem dL_law_1194 : decode cL_law 1194 = .ok (.iload 5, 2) := by decide +kernel
theorem dL_law_1196 : decode cL_law 1196 = .ok (.iconst 1, 1) := by decide +kernel
theorem dL_law_1197 : decode cL_law 1197 = .ok (.iadd, 1) := by decide +kernel
theorem dL_law_1198 : decode cL_law 1198 = .ok (.iaload, 1) := by decide +kernel
theorem dL_law_1199 : decode cL_law 1199 = .ok (.aload_n 0, 1) := by decide +kernel
theorem dL_law_1200 : decode cL_law 1200 = .ok (.iload 5, 2) := by decide +kernel
theorem dL_law_1202 : decode cL_law 1202 = .ok (.iconst 2, 1) := by decide +kernel
theorem dL_law_1203 : decode cL_law 1203 = .ok (.iadd, 1) := by decide +kernel
theorem dL_law_1204 : decode cL_law 1204 = .ok (.iaload, 1) := by decide +kernel
theorem dL_law_1205 : decode cL_law 1205 = .ok (.aload_n 3, 1) := by decide +kernel
theorem dL_law_1206 : decode cL_law 1206 = .ok (.invokestatic 199, 3) := by decide +kernel
theorem dL_law_1209 : decode cL_law 1209 = .ok (.istore 6, 2) := by decide +kernel
theorem dL_law_1211 : decode cL_law 1211 = .ok (.aload_n 2, 1) := by decide +kernel
theorem dL_law_1212 : decode cL_law 1212 = .ok (.aload_n 0, 1) := by decide +kernel
theorem dL_law_1213 : decode cL_law 1213 = .ok (.iload 5, 2) := by decide +kernel
theorem dL_law_1215 : decode cL_law 1215 = .ok (.iconst 1, 1) := by decide +kernel
theorem dL_law_1216 : decode cL_law 1216 = .ok (.iadd, 1) := by decide +kernel
theorem dL_law_1217 : decode cL_law 1217 = .ok (.iaload, 1) := by decide +kernel
theorem dL_law_1218 : decode cL_law 1218 = .ok (.aload_n 0, 1) := by decide +kernel
theorem dL_law_1219 : decode cL_law 1219 = .ok (.iload 5, 2) := by decide +kernel
theorem dL_law_1221 : decode cL_law 1221 = .ok (.iconst 2, 1) := by decide +kernel
theorem dL_law_1222 : decode cL_law 1222 = .ok (.iadd, 1) := by decide +kernel
theorem dL_law_1223 : decode cL_law 1223 = .ok (.iaload, 1) := by decide +kernel
theorem dL_law_1224 : decode cL_law 1224 = .ok (.invokevirtual 201, 3) := by decide +kernel
theorem dL_law_1227 : decode cL_law 1227 = .ok (.istore 7, 2) := by decide +kernel
theorem dL_law_1229 : decode cL_law 1229 = .ok (.aload_n 2, 1) := by decide +kernel
theorem dL_law_1230 : decode cL_law 1230 = .ok (.invokevirtual 157, 3) := by decide +kernel
theorem dL_law_1233 : decode cL_law 1233 = .ok (.iload 6, 2) := by decide +kernel
theorem dL_law_1235 : decode cL_law 1235 = .ok (.if_icmp .eq 5, 3) := by decide +kernel
theorem dL_law_1238 : decode cL_law 1238 = .ok (.iconst 0, 1) := by decide +kernel
theorem dL_law_1239 : decode cL_law 1239 = .ok (.ireturn, 1) := by decide +kernel
theorem dL_law_1240 : decode cL_law 1240 = .ok (.iload 6, 2) := by decide +kernel
theorem dL_law_1242 : decode cL_law 1242 = .ok (.ifCond .ne 15, 3) := by decide +kernel
theorem dL_law_1245 : decode cL_law 1245 = .ok (.aload_n 3, 1) := by decide +kernel
theorem dL_law_1246 : decode cL_law 1246 = .ok (.iconst 0, 1) := by decide +kernel
theorem dL_law_1247 : decode cL_law 1247 = .ok (.laload, 1) := by decide +kernel
theorem dL_law_1248 : decode cL_law 1248 = .ok (.iload 7, 2) := by decide +kernel
theorem dL_law_1250 : decode cL_law 1250 = .ok (.i2l, 1) := by decide +kernel
theorem dL_law_1251 : decode cL_law 1251 = .ok (.lcmp, 1) := by decide +kernel
theorem dL_law_1252 : decode cL_law 1252 = .ok (.ifCond .eq 5, 3) := by decide +kernel
theorem dL_law_1255 : decode cL_law 1255 = .ok (.iconst 0, 1) := by decide +kernel
theorem dL_law_1256 : decode cL_law 1256 = .ok (.ireturn, 1) := by decide +kernel
theorem dL_law_1257 : decode cL_law 1257 = .ok (.goto 1655, 3) := by decide +kernel
theorem dL_law_1260 : decode cL_law 1260 = .ok (.aload_n 1, 1) := by decide +kernel
theorem dL_law_1261 : decode cL_law 1261 = .ok (.aload_n 0, 1) := by decide +kernel
theorem dL_law_1262 : decode cL_law 1262 = .ok (.iload 5, 2) := by decide +kernel
theorem dL_law_1264 : decode cL_law 1264 = .ok (.iconst 1, 1) := by decide +kernel
theorem dL_law_1265 : decode cL_law 1265 = .ok (.iadd, 1) := by decide +kernel
theorem dL_law_1266 : decode cL_law 1266 = .ok (.iaload, 1) := by decide +kernel
theorem dL_law_1267 : decode cL_law 1267 = .ok (.aload_n 0, 1) := by decide +kernel
theorem dL_law_1268 : decode cL_law 1268 = .ok (.iload 5, 2) := by decide +kernel
theorem dL_law_1270 : decode cL_law 1270 = .ok (.iconst 2, 1) := by decide +kernel
theorem dL_law_1271 : decode cL_law 1271 = .ok (.iadd, 1) := by decide +kernel
theorem dL_law_1272 : decode cL_law 1272 = .ok (.iaload, 1) := by decide +kernel
theorem dL_law_1273 : decode cL_law 1273 = .ok (.aload_n 3, 1) := by decide +kernel
theorem dL_law_1274 : decode cL_law 1274 = .ok (.invokestatic 202, 3) := by decide +kernel
theorem dL_law_1277 : decode cL_law 1277 = .ok (.istore 6, 2) := by decide +kernel
theorem dL_law_1279 : decode cL_law 1279 = .ok (.aload_n 2, 1) := by decide +kernel
theorem dL_law_1280 : decode cL_law 1280 = .ok (.aload_n 0, 1) := by decide +kernel
theorem dL_law_1281 : decode cL_law 1281 = .ok (.iload 5, 2) := by decide +kernel
theorem dL_law_1283 : decode cL_law 1283 = .ok (.iconst 1, 1) := by decide +kernel
theorem dL_law_1284 : decode cL_law 1284 = .ok (.iadd, 1) := by decide +kernel
theorem dL_law_1285 : decode cL_law 1285 = .ok (.iaload, 1) := by decide +kernel
theorem dL_law_1286 : decode cL_law 1286 = .ok (.aload_n 0, 1) := by decide +kernel
theorem dL_law_1287 : decode cL_law 1287 = .ok (.iload 5, 2) := by decide +kernel
theorem dL_law_1289 : decode cL_law 1289 = .ok (.iconst 2, 1) := by decide +kernel
theorem dL_law_1290 : decode cL_law 1290 = .ok (.iadd, 1) := by decide +kernel
theorem dL_law_1291 : decode cL_law 1291 = .ok (.iaload, 1) := by decide +kernel
theorem dL_law_1292 : decode cL_law 1292 = .ok (.invokevirtual 204, 3) := by decide +kernel
theorem dL_law_1295 : decode cL_law 1295 = .ok (.istore 7, 2) := by decide +kernel
theorem dL_law_1297 : decode cL_law 1297 = .ok (.aload_n 2, 1) := by decide +kernel
theorem dL_law_1298 : decode cL_law 1298 = .ok (.invokevirtual 157, 3) := by decide +kernel
theorem dL_law_1301 : decode cL_law 1301 = .ok (.iload 6, 2) := by decide +kernel
theorem dL_law_1303 : decode cL_law 1303 = .ok (.if_icmp .eq 5, 3) := by decide +kernel
theorem dL_law_1306 : decode cL_law 1306 = .ok (.iconst 0, 1) := by decide +kernel
theorem dL_law_1307 : decode cL_law 1307 = .ok (.ireturn, 1) := by decide +kernel
theorem dL_law_1308 : decode cL_law 1308 = .ok (.iload 6, 2) := by decide +kernel
theorem dL_law_1310 : decode cL_law 1310 = .ok (.ifCond .ne 15, 3) := by decide +kernel
theorem dL_law_1313 : decode cL_law 1313 = .ok (.aload_n 3, 1) := by decide +kernel
theorem dL_law_1314 : decode cL_law 1314 = .ok (.iconst 0, 1) := by decide +kernel
theorem dL_law_1315 : decode cL_law 1315 = .ok (.laload, 1) := by decide +kernel
theorem dL_law_1316 : decode cL_law 1316 = .ok (.iload 7, 2) := by decide +kernel
theorem dL_law_1318 : decode cL_law 1318 = .ok (.i2l, 1) := by decide +kernel
theorem dL_law_1319 : decode cL_law 1319 = .ok (.lcmp, 1) := by decide +kernel
theorem dL_law_1320 : decode cL_law 1320 = .ok (.ifCond .eq 5, 3) := by decide +kernel
theorem dL_law_1323 : decode cL_law 1323 = .ok (.iconst 0, 1) := by decide +kernel
theorem dL_law_1324 : decode cL_law 1324 = .ok (.ireturn, 1) := by decide +kernel
theorem dL_law_1325 : decode cL_law 1325 = .ok (.goto 1587, 3) := by decide +kernel
theorem dL_law_1328 : decode cL_law 1328 = .ok (.aload_n 1, 1) := by decide +kernel
theorem dL_law_1329 : decode cL_law 1329 = .ok (.aload_n 0, 1) := by decide +kernel
theorem dL_law_1330 : decode cL_law 1330 = .ok (.iload 5, 2) := by decide +kernel
theorem dL_law_1332 : decode cL_law 1332 = .ok (.iconst 1, 1) := by decide +kernel
theorem dL_law_1333 : decode cL_law 1333 = .ok (.iadd, 1) := by decide +kernel
theorem dL_law_1334 : decode cL_law 1334 = .ok (.iaload, 1) := by decide +kernel
theorem dL_law_1335 : decode cL_law 1335 = .ok (.aload_n 0, 1) := by decide +kernel
theorem dL_law_1336 : decode cL_law 1336 = .ok (.iload 5, 2) := by decide +kernel
theorem dL_law_1338 : decode cL_law 1338 = .ok (.iconst 2, 1) := by decide +kernel
theorem dL_law_1339 : decode cL_law 1339 = .ok (.iadd, 1) := by decide +kernel
theorem dL_law_1340 : decode cL_law 1340 = .ok (.iaload, 1) := by decide +kernel
theorem dL_law_1341 : decode cL_law 1341 = .ok (.aload_n 3, 1) := by decide +kernel
theorem dL_law_1342 : decode cL_law 1342 = .ok (.invokestatic 205, 3) := by decide +kernel
theorem dL_law_1345 : decode cL_law 1345 = .ok (.istore 6, 2) := by decide +kernel
theorem dL_law_1347 : decode cL_law 1347 = .ok (.aload_n 2, 1) := by decide +kernel
theorem dL_law_1348 : decode cL_law 1348 = .ok (.aload_n 0, 1) := by decide +kernel
theorem dL_law_1349 : decode cL_law 1349 = .ok (.iload 5, 2) := by decide +kernel
theorem dL_law_1351 : decode cL_law 1351 = .ok (.iconst 1, 1) := by decide +kernel
theorem dL_law_1352 : decode cL_law 1352 = .ok (.iadd, 1) := by decide +kernel
theorem dL_law_1353 : decode cL_law 1353 = .ok (.iaload, 1) := by decide +kernel
theorem dL_law_1354 : decode cL_law 1354 = .ok (.aload_n 0, 1) := by decide +kernel
theorem dL_law_1355 : decode cL_law 1355 = .ok (.iload 5, 2) := by decide +kernel
theorem dL_law_1357 : decode cL_law 1357 = .ok (.iconst 2, 1) := by decide +kernel
theorem dL_law_1358 : decode cL_law 1358 = .ok (.iadd, 1) := by decide +kernel
theorem dL_law_1359 : decode cL_law 1359 = .ok (.iaload, 1) := by decide +kernel
theorem dL_law_1360 : decode cL_law 1360 = .ok (.invokevirtual 207, 3) := by decide +kernel
theorem dL_law_1363 : decode cL_law 1363 = .ok (.istore 7, 2) := by decide +kernel
theorem dL_law_1365 : decode cL_law 1365 = .ok (.aload_n 2, 1) := by decide +kernel
theorem dL_law_1366 : decode cL_law 1366 = .ok (.invokevirtual 157, 3) := by decide +kernel
theorem dL_law_1369 : decode cL_law 1369 = .ok (.iload 6, 2) := by decide +kernel
theorem dL_law_1371 : decode cL_law 1371 = .ok (.if_icmp .eq 5, 3) := by decide +kernel
theorem dL_law_1374 : decode cL_law 1374 = .ok (.iconst 0, 1) := by decide +kernel
theorem dL_law_1375 : decode cL_law 1375 = .ok (.ireturn, 1) := by decide +kernel
theorem dL_law_1376 : decode cL_law 1376 = .ok (.iload 6, 2) := by decide +kernel
theorem dL_law_1378 : decode cL_law 1378 = .ok (.ifCond .ne 15, 3) := by decide +kernel
theorem dL_law_1381 : decode cL_law 1381 = .ok (.aload_n 3, 1) := by decide +kernel
theorem dL_law_1382 : decode cL_law 1382 = .ok (.iconst 0, 1) := by decide +kernel
theorem dL_law_1383 : decode cL_law 1383 = .ok (.laload, 1) := by decide +kernel
theorem dL_law_1384 : decode cL_law 1384 = .ok (.iload 7, 2) := by decide +kernel
theorem dL_law_1386 : decode cL_law 1386 = .ok (.i2l, 1) := by decide +kernel
theorem dL_law_1387 : decode cL_law 1387 = .ok (.lcmp, 1) := by decide +kernel
theorem dL_law_1388 : decode cL_law 1388 = .ok (.ifCond .eq 5, 3) := by decide +kernel
theorem dL_law_1391 : decode cL_law 1391 = .ok (.iconst 0, 1) := by decide +kernel
theorem dL_law_1392 : decode cL_law 1392 = .ok (.ireturn, 1) := by decide +kernel
theorem dL_law_1393 : decode cL_law 1393 = .ok (.goto 1519, 3) := by decide +kernel
theorem dL_law_1396 : decode cL_law 1396 = .ok (.aload_n 1, 1) := by decide +kernel
theorem dL_law_1397 : decode cL_law 1397 = .ok (.aload_n 0, 1) := by decide +kernel
theorem dL_law_1398 : decode cL_law 1398 = .ok (.iload 5, 2) := by decide +kernel
theorem dL_law_1400 : decode cL_law 1400 = .ok (.iconst 1, 1) := by decide +kernel
theorem dL_law_1401 : decode cL_law 1401 = .ok (.iadd, 1) := by decide +kernel
theorem dL_law_1402 : decode cL_law 1402 = .ok (.iaload, 1) := by decide +kernel
theorem dL_law_1403 : decode cL_law 1403 = .ok (.aload_n 0, 1) := by decide +kernel
theorem dL_law_1404 : decode cL_law 1404 = .ok (.iload 5, 2) := by decide +kernel
theorem dL_law_1406 : decode cL_law 1406 = .ok (.iconst 2, 1) := by decide +kernel
theorem dL_law_1407 : decode cL_law 1407 = .ok (.iadd, 1) := by decide +kernel
theorem dL_law_1408 : decode cL_law 1408 = .ok (.iaload, 1) := by decide +kernel
theorem dL_law_1409 : decode cL_law 1409 = .ok (.aload_n 0, 1) := by decide +kernel
theorem dL_law_1410 : decode cL_law 1410 = .ok (.iload 5, 2) := by decide +kernel
theorem dL_law_1412 : decode cL_law 1412 = .ok (.iconst 3, 1) := by decide +kernel
theorem dL_law_1413 : decode cL_law 1413 = .ok (.iadd, 1) := by decide +kernel
theorem dL_law_1414 : decode cL_law 1414 = .ok (.iaload, 1) := by decide +kernel
theorem dL_law_1415 : decode cL_law 1415 = .ok (.aload_n 3, 1) := by decide +kernel
theorem dL_law_1416 : decode cL_law 1416 = .ok (.invokestatic 208, 3) := by decide +kernel
theorem dL_law_1419 : decode cL_law 1419 = .ok (.istore 6, 2) := by decide +kernel
theorem dL_law_1421 : decode cL_law 1421 = .ok (.aload_n 2, 1) := by decide +kernel
theorem dL_law_1422 : decode cL_law 1422 = .ok (.aload_n 0, 1) := by decide +kernel
theorem dL_law_1423 : decode cL_law 1423 = .ok (.iload 5, 2) := by decide +kernel
theorem dL_law_1425 : decode cL_law 1425 = .ok (.iconst 1, 1) := by decide +kernel
theorem dL_law_1426 : decode cL_law 1426 = .ok (.iadd, 1) := by decide +kernel
theorem dL_law_1427 : decode cL_law 1427 = .ok (.iaload, 1) := by decide +kernel
theorem dL_law_1428 : decode cL_law 1428 = .ok (.aload_n 0, 1) := by decide +kernel
theorem dL_law_1429 : decode cL_law 1429 = .ok (.iload 5, 2) := by decide +kernel
theorem dL_law_1431 : decode cL_law 1431 = .ok (.iconst 2, 1) := by decide +kernel
theorem dL_law_1432 : decode cL_law 1432 = .ok (.iadd, 1) := by decide +kernel
theorem dL_law_1433 : decode cL_law 1433 = .ok (.iaload, 1) := by decide +kernel
theorem dL_law_1434 : decode cL_law 1434 = .ok (.aload_n 0, 1) := by decide +kernel
theorem dL_law_1435 : decode cL_law 1435 = .ok (.iload 5, 2) := by decide +kernel
theorem dL_law_1437 : decode cL_law 1437 = .ok (.iconst 3, 1) := by decide +kernel
theorem dL_law_1438 : decode cL_law 1438 = .ok (.iadd, 1) := by decide +kernel
theorem dL_law_1439 : decode cL_law 1439 = .ok (.iaload, 1) := by decide +kernel
theorem dL_law_1440 : decode cL_law 1440 = .ok (.invokevirtual 210, 3) := by decide +kernel
theorem dL_law_1443 : decode cL_law 1443 = .ok (.istore 7, 2) := by decide +kernel
theorem dL_law_1445 : decode cL_law 1445 = .ok (.aload_n 2, 1) := by decide +kernel
theorem dL_law_1446 : decode cL_law 1446 = .ok (.invokevirtual 157, 3) := by decide +kernel
theorem dL_law_1449 : decode cL_law 1449 = .ok (.iload 6, 2) := by decide +kernel
theorem dL_law_1451 : decode cL_law 1451 = .ok (.if_icmp .eq 5, 3) := by decide +kernel
theorem dL_law_1454 : decode cL_law 1454 = .ok (.iconst 0, 1) := by decide +kernel
theorem dL_law_1455 : decode cL_law 1455 = .ok (.ireturn, 1) := by decide +kernel
theorem dL_law_1456 : decode cL_law 1456 = .ok (.iload 6, 2) := by decide +kernel
theorem dL_law_1458 : decode cL_law 1458 = .ok (.ifCond .ne 15, 3) := by decide +kernel
theorem dL_law_1461 : decode cL_law 1461 = .ok (.aload_n 3, 1) := by decide +kernel
theorem dL_law_1462 : decode cL_law 1462 = .ok (.iconst 0, 1) := by decide +kernel
theorem dL_law_1463 : decode cL_law 1463 = .ok (.laload, 1) := by decide +kernel
theorem dL_law_1464 : decode cL_law 1464 = .ok (.iload 7, 2) := by decide +kernel
theorem dL_law_1466 : decode cL_law 1466 = .ok (.i2l, 1) := by decide +kernel
theorem dL_law_1467 : decode cL_law 1467 = .ok (.lcmp, 1) := by decide +kernel
theorem dL_law_1468 : decode cL_law 1468 = .ok (.ifCond .eq 5, 3) := by decide +kernel
theorem dL_law_1471 : decode cL_law 1471 = .ok (.iconst 0, 1) := by decide +kernel
theorem dL_law_1472 : decode cL_law 1472 = .ok (.ireturn, 1) := by decide +kernel
theorem dL_law_1473 : decode cL_law 1473 = .ok (.goto 1439, 3) := by decide +kernel
theorem dL_law_1476 : decode cL_law 1476 = .ok (.aload_n 1, 1) := by decide +kernel
theorem dL_law_1477 : decode cL_law 1477 = .ok (.aload_n 0, 1) := by decide +kernel
theorem dL_law_1478 : decode cL_law 1478 = .ok (.iload 5, 2) := by decide +kernel
theorem dL_law_1480 : decode cL_law 1480 = .ok (.iconst 1, 1) := by decide +kernel
theorem dL_law_1481 : decode cL_law 1481 = .ok (.iadd, 1) := by decide +kernel
theorem dL_law_1482 : decode cL_law 1482 = .ok (.iaload, 1) := by decide +kernel
theorem dL_law_1483 : decode cL_law 1483 = .ok (.aload_n 0, 1) := by decide +kernel
theorem dL_law_1484 : decode cL_law 1484 = .ok (.iload 5, 2) := by decide +kernel
theorem dL_law_1486 : decode cL_law 1486 = .ok (.iconst 2, 1) := by decide +kernel
theorem dL_law_1487 : decode cL_law 1487 = .ok (.iadd, 1) := by decide +kernel
theorem dL_law_1488 : decode cL_law 1488 = .ok (.iaload, 1) := by decide +kernel
theorem dL_law_1489 : decode cL_law 1489 = .ok (.aload_n 0, 1) := by decide +kernel
theorem dL_law_1490 : decode cL_law 1490 = .ok (.iload 5, 2) := by decide +kernel
theorem dL_law_1492 : decode cL_law 1492 = .ok (.iconst 3, 1) := by decide +kernel
theorem dL_law_1493 : decode cL_law 1493 = .ok (.iadd, 1) := by decide +kernel
theorem dL_law_1494 : decode cL_law 1494 = .ok (.iaload, 1) := by decide +kernel
theorem dL_law_1495 : decode cL_law 1495 = .ok (.aload_n 3, 1) := by decide +kernel
theorem dL_law_1496 : decode cL_law 1496 = .ok (.invokestatic 211, 3) := by decide +kernel
theorem dL_law_1499 : decode cL_law 1499 = .ok (.istore 6, 2) := by decide +kernel
theorem dL_law_1501 : decode cL_law 1501 = .ok (.aload_n 2, 1) := by decide +kernel
theorem dL_law_1502 : decode cL_law 1502 = .ok (.aload_n 0, 1) := by decide +kernel
theorem dL_law_1503 : decode cL_law 1503 = .ok (.iload 5, 2) := by decide +kernel
theorem dL_law_1505 : decode cL_law 1505 = .ok (.iconst 1, 1) := by decide +kernel
theorem dL_law_1506 : decode cL_law 1506 = .ok (.iadd, 1) := by decide +kernel
theorem dL_law_1507 : decode cL_law 1507 = .ok (.iaload, 1) := by decide +kernel
theorem dL_law_1508 : decode cL_law 1508 = .ok (.aload_n 0, 1) := by decide +kernel
theorem dL_law_1509 : decode cL_law 1509 = .ok (.iload 5, 2) := by decide +kernel
theorem dL_law_1511 : decode cL_law 1511 = .ok (.iconst 2, 1) := by decide +kernel
theorem dL_law_1512 : decode cL_law 1512 = .ok (.iadd, 1) := by decide +kernel
theorem dL_law_1513 : decode cL_law 1513 = .ok (.iaload, 1) := by decide +kernel
theorem dL_law_1514 : decode cL_law 1514 = .ok (.aload_n 0, 1) := by decide +kernel
theorem dL_law_1515 : decode cL_law 1515 = .ok (.iload 5, 2) := by decide +kernel
theorem dL_law_1517 : decode cL_law 1517 = .ok (.iconst 3, 1) := by decide +kernel
theorem dL_law_1518 : decode cL_law 1518 = .ok (.iadd, 1) := by decide +kernel
theorem dL_law_1519 : decode cL_law 1519 = .ok (.iaload, 1) := by decide +kernel
theorem dL_law_1520 : decode cL_law 1520 = .ok (.invokevirtual 213, 3) := by decide +kernel
theorem dL_law_1523 : decode cL_law 1523 = .ok (.istore 7, 2) := by decide +kernel
theorem dL_law_1525 : decode cL_law 1525 = .ok (.aload_n 2, 1) := by decide +kernel
theorem dL_law_1526 : decode cL_law 1526 = .ok (.invokevirtual 157, 3) := by decide +kernel
theorem dL_law_1529 : decode cL_law 1529 = .ok (.iload 6, 2) := by decide +kernel
theorem dL_law_1531 : decode cL_law 1531 = .ok (.if_icmp .eq 5, 3) := by decide +kernel
theorem dL_law_1534 : decode cL_law 1534 = .ok (.iconst 0, 1) := by decide +kernel
theorem dL_law_1535 : decode cL_law 1535 = .ok (.ireturn, 1) := by decide +kernel
theorem dL_law_1536 : decode cL_law 1536 = .ok (.iload 6, 2) := by decide +kernel
theorem dL_law_1538 : decode cL_law 1538 = .ok (.ifCond .ne 15, 3) := by decide +kernel
theorem dL_law_1541 : decode cL_law 1541 = .ok (.aload_n 3, 1) := by decide +kernel
theorem dL_law_1542 : decode cL_law 1542 = .ok (.iconst 0, 1) := by decide +kernel
theorem dL_law_1543 : decode cL_law 1543 = .ok (.laload, 1) := by decide +kernel
theorem dL_law_1544 : decode cL_law 1544 = .ok (.iload 7, 2) := by decide +kernel
theorem dL_law_1546 : decode cL_law 1546 = .ok (.i2l, 1) := by decide +kernel
theorem dL_law_1547 : decode cL_law 1547 = .ok (.lcmp, 1) := by decide +kernel
theorem dL_law_1548 : decode cL_law 1548 = .ok (.ifCond .eq 5, 3) := by decide +kernel
theorem dL_law_1551 : decode cL_law 1551 = .ok (.iconst 0, 1) := by decide +kernel
theorem dL_law_1552 : decode cL_law 1552 = .ok (.ireturn, 1) := by decide +kernel
theorem dL_law_1553 : decode cL_law 1553 = .ok (.goto 1359, 3) := by decide +kernel
theorem dL_law_1556 : decode cL_law 1556 = .ok (.aload_n 1, 1) := by decide +kernel
theorem dL_law_1557 : decode cL_law 1557 = .ok (.aload_n 0, 1) := by decide +kernel
theorem dL_law_1558 : decode cL_law 1558 = .ok (.iload 5, 2) := by decide +kernel
theorem dL_law_1560 : decode cL_law 1560 = .ok (.iconst 1, 1) := by decide +kernel
theorem dL_law_1561 : decode cL_law 1561 = .ok (.iadd, 1) := by decide +kernel
theorem dL_law_1562 : decode cL_law 1562 = .ok (.iaload, 1) := by decide +kernel
theorem dL_law_1563 : decode cL_law 1563 = .ok (.aload_n 0, 1) := by decide +kernel
theorem dL_law_1564 : decode cL_law 1564 = .ok (.iload 5, 2) := by decide +kernel
theorem dL_law_1566 : decode cL_law 1566 = .ok (.iconst 2, 1) := by decide +kernel
theorem dL_law_1567 : decode cL_law 1567 = .ok (.iadd, 1) := by decide +kernel
theorem dL_law_1568 : decode cL_law 1568 = .ok (.iaload, 1) := by decide +kernel
theorem dL_law_1569 : decode cL_law 1569 = .ok (.aload_n 3, 1) := by decide +kernel
theorem dL_law_1570 : decode cL_law 1570 = .ok (.invokestatic 214, 3) := by decide +kernel
theorem dL_law_1573 : decode cL_law 1573 = .ok (.istore 6, 2) := by decide +kernel
theorem dL_law_1575 : decode cL_law 1575 = .ok (.aload_n 2, 1) := by decide +kernel
theorem dL_law_1576 : decode cL_law 1576 = .ok (.aload_n 0, 1) := by decide +kernel
theorem dL_law_1577 : decode cL_law 1577 = .ok (.iload 5, 2) := by decide +kernel
theorem dL_law_1579 : decode cL_law 1579 = .ok (.iconst 1, 1) := by decide +kernel
theorem dL_law_1580 : decode cL_law 1580 = .ok (.iadd, 1) := by decide +kernel
theorem dL_law_1581 : decode cL_law 1581 = .ok (.iaload, 1) := by decide +kernel
theorem dL_law_1582 : decode cL_law 1582 = .ok (.aload_n 0, 1) := by decide +kernel
theorem dL_law_1583 : decode cL_law 1583 = .ok (.iload 5, 2) := by decide +kernel
theorem dL_law_1585 : decode cL_law 1585 = .ok (.iconst 2, 1) := by decide +kernel
theorem dL_law_1586 : decode cL_law 1586 = .ok (.iadd, 1) := by decide +kernel
theorem dL_law_1587 : decode cL_law 1587 = .ok (.iaload, 1) := by decide +kernel
theorem dL_law_1588 : decode cL_law 1588 = .ok (.invokevirtual 216, 3) := by decide +kernel
theorem dL_law_1591 : decode cL_law 1591 = .ok (.istore 7, 2) := by decide +kernel
theorem dL_law_1593 : decode cL_law 1593 = .ok (.aload_n 2, 1) := by decide +kernel
theorem dL_law_1594 : decode cL_law 1594 = .ok (.invokevirtual 157, 3) := by decide +kernel
theorem dL_law_1597 : decode cL_law 1597 = .ok (.iload 6, 2) := by decide +kernel
theorem dL_law_1599 : decode cL_law 1599 = .ok (.if_icmp .eq 5, 3) := by decide +kernel
theorem dL_law_1602 : decode cL_law 1602 = .ok (.iconst 0, 1) := by decide +kernel
theorem dL_law_1603 : decode cL_law 1603 = .ok (.ireturn, 1) := by decide +kernel
theorem dL_law_1604 : decode cL_law 1604 = .ok (.iload 6, 2) := by decide +kernel
theorem dL_law_1606 : decode cL_law 1606 = .ok (.ifCond .ne 15, 3) := by decide +kernel
theorem dL_law_1609 : decode cL_law 1609 = .ok (.aload_n 3, 1) := by decide +kernel
theorem dL_law_1610 : decode cL_law 1610 = .ok (.iconst 0, 1) := by decide +kernel
theorem dL_law_1611 : decode cL_law 1611 = .ok (.laload, 1) := by decide +kernel
theorem dL_law_1612 : decode cL_law 1612 = .ok (.iload 7, 2) := by decide +kernel
theorem dL_law_1614 : decode cL_law 1614 = .ok (.i2l, 1) := by decide +kernel
theorem dL_law_1615 : decode cL_law 1615 = .ok (.lcmp, 1) := by decide +kernel
theorem dL_law_1616 : decode cL_law 1616 = .ok (.ifCond .eq 5, 3) := by decide +kernel
theorem dL_law_1619 : decode cL_law 1619 = .ok (.iconst 0, 1) := by decide +kernel
theorem dL_law_1620 : decode cL_law 1620 = .ok (.ireturn, 1) := by decide +kernel
theorem dL_law_1621 : decode cL_law 1621 = .ok (.goto 1291, 3) := by decide +kernel
theorem dL_law_1624 : decode cL_law 1624 = .ok (.aload_n 1, 1) := by decide +kernel
theorem dL_law_1625 : decode cL_law 1625 = .ok (.invokevirtual 217, 3) := by decide +kernel
theorem dL_law_1628 : decode cL_law 1628 = .ok (.aload_n 2, 1) := by decide +kernel
theorem dL_law_1629 : decode cL_law 1629 = .ok (.invokevirtual 221, 3) := by decide +kernel
theorem dL_law_1632 : decode cL_law 1632 = .ok (.lcmp, 1) := by decide +kernel
theorem dL_law_1633 : decode cL_law 1633 = .ok (.ifCond .eq 1279, 3) := by decide +kernel
theorem dL_law_1636 : decode cL_law 1636 = .ok (.iconst 0, 1) := by decide +kernel
theorem dL_law_1637 : decode cL_law 1637 = .ok (.ireturn, 1) := by decide +kernel
theorem dL_law_1638 : decode cL_law 1638 = .ok (.aload_n 1, 1) := by decide +kernel
theorem dL_law_1639 : decode cL_law 1639 = .ok (.aload_n 0, 1) := by decide +kernel
theorem dL_law_1640 : decode cL_law 1640 = .ok (.iload 5, 2) := by decide +kernel
theorem dL_law_1642 : decode cL_law 1642 = .ok (.iconst 1, 1) := by decide +kernel
theorem dL_law_1643 : decode cL_law 1643 = .ok (.iadd, 1) := by decide +kernel
theorem dL_law_1644 : decode cL_law 1644 = .ok (.iaload, 1) := by decide +kernel
theorem dL_law_1645 : decode cL_law 1645 = .ok (.aload_n 3, 1) := by decide +kernel
theorem dL_law_1646 : decode cL_law 1646 = .ok (.invokestatic 222, 3) := by decide +kernel
theorem dL_law_1649 : decode cL_law 1649 = .ok (.istore 6, 2) := by decide +kernel
theorem dL_law_1651 : decode cL_law 1651 = .ok (.aload_n 2, 1) := by decide +kernel
theorem dL_law_1652 : decode cL_law 1652 = .ok (.aload_n 0, 1) := by decide +kernel
theorem dL_law_1653 : decode cL_law 1653 = .ok (.iload 5, 2) := by decide +kernel
theorem dL_law_1655 : decode cL_law 1655 = .ok (.iconst 1, 1) := by decide +kernel
theorem dL_law_1656 : decode cL_law 1656 = .ok (.iadd, 1) := by decide +kernel
theorem dL_law_1657 : decode cL_law 1657 = .ok (.iaload, 1) := by decide +kernel
theorem dL_law_1658 : decode cL_law 1658 = .ok (.invokevirtual 224, 3) := by decide +kernel
theorem dL_law_1661 : decode cL_law 1661 = .ok (.istore 7, 2) := by decide +kernel
theorem dL_law_1663 : decode cL_law 1663 = .ok (.aload_n 2, 1) := by decide +kernel
theorem dL_law_1664 : decode cL_law 1664 = .ok (.invokevirtual 157, 3) := by decide +kernel
theorem dL_law_1667 : decode cL_law 1667 = .ok (.iload 6, 2) := by decide +kernel
theorem dL_law_1669 : decode cL_law 1669 = .ok (.if_icmp .eq 5, 3) := by decide +kernel
theorem dL_law_1672 : decode cL_law 1672 = .ok (.iconst 0, 1) := by decide +kernel
theorem dL_law_1673 : decode cL_law 1673 = .ok (.ireturn, 1) := by decide +kernel
theorem dL_law_1674 : decode cL_law 1674 = .ok (.iload 6, 2) := by decide +kernel
theorem dL_law_1676 : decode cL_law 1676 = .ok (.ifCond .ne 15, 3) := by decide +kernel
theorem dL_law_1679 : decode cL_law 1679 = .ok (.aload_n 3, 1) := by decide +kernel
theorem dL_law_1680 : decode cL_law 1680 = .ok (.iconst 0, 1) := by decide +kernel
theorem dL_law_1681 : decode cL_law 1681 = .ok (.laload, 1) := by decide +kernel
theorem dL_law_1682 : decode cL_law 1682 = .ok (.iload 7, 2) := by decide +kernel
theorem dL_law_1684 : decode cL_law 1684 = .ok (.i2l, 1) := by decide +kernel
theorem dL_law_1685 : decode cL_law 1685 = .ok (.lcmp, 1) := by decide +kernel
theorem dL_law_1686 : decode cL_law 1686 = .ok (.ifCond .eq 5, 3) := by decide +kernel
theorem dL_law_1689 : decode cL_law 1689 = .ok (.iconst 0, 1) := by decide +kernel
theorem dL_law_1690 : decode cL_law 1690 = .ok (.ireturn, 1) := by decide +kernel
theorem dL_law_1691 : decode cL_law 1691 = .ok (.goto 1221, 3) := by decide +kernel
theorem dL_law_1694 : decode cL_law 1694 = .ok (.aload_n 1, 1) := by decide +kernel
theorem dL_law_1695 : decode cL_law 1695 = .ok (.aload_n 0, 1) := by decide +kernel
theorem dL_law_1696 : decode cL_law 1696 = .ok (.iload 5, 2) := by decide +kernel
theorem dL_law_1698 : decode cL_law 1698 = .ok (.iconst 1, 1) := by decide +kernel
theorem dL_law_1699 : decode cL_law 1699 = .ok (.iadd, 1) := by decide +kernel
theorem dL_law_1700 : decode cL_law 1700 = .ok (.iaload, 1) := by decide +kernel
theorem dL_law_1701 : decode cL_law 1701 = .ok (.aload_n 3, 1) := by decide +kernel
theorem dL_law_1702 : decode cL_law 1702 = .ok (.invokestatic 225, 3) := by decide +kernel
theorem dL_law_1705 : decode cL_law 1705 = .ok (.istore 6, 2) := by decide +kernel
theorem dL_law_1707 : decode cL_law 1707 = .ok (.aload_n 2, 1) := by decide +kernel
theorem dL_law_1708 : decode cL_law 1708 = .ok (.aload_n 0, 1) := by decide +kernel
theorem dL_law_1709 : decode cL_law 1709 = .ok (.iload 5, 2) := by decide +kernel
theorem dL_law_1711 : decode cL_law 1711 = .ok (.iconst 1, 1) := by decide +kernel
theorem dL_law_1712 : decode cL_law 1712 = .ok (.iadd, 1) := by decide +kernel
theorem dL_law_1713 : decode cL_law 1713 = .ok (.iaload, 1) := by decide +kernel
theorem dL_law_1714 : decode cL_law 1714 = .ok (.invokevirtual 227, 3) := by decide +kernel
theorem dL_law_1717 : decode cL_law 1717 = .ok (.istore 7, 2) := by decide +kernel
theorem dL_law_1719 : decode cL_law 1719 = .ok (.aload_n 2, 1) := by decide +kernel
theorem dL_law_1720 : decode cL_law 1720 = .ok (.invokevirtual 157, 3) := by decide +kernel
theorem dL_law_1723 : decode cL_law 1723 = .ok (.iload 6, 2) := by decide +kernel
theorem dL_law_1725 : decode cL_law 1725 = .ok (.if_icmp .eq 5, 3) := by decide +kernel
theorem dL_law_1728 : decode cL_law 1728 = .ok (.iconst 0, 1) := by decide +kernel
theorem dL_law_1729 : decode cL_law 1729 = .ok (.ireturn, 1) := by decide +kernel
theorem dL_law_1730 : decode cL_law 1730 = .ok (.iload 6, 2) := by decide +kernel
theorem dL_law_1732 : decode cL_law 1732 = .ok (.ifCond .ne 15, 3) := by decide +kernel
theorem dL_law_1735 : decode cL_law 1735 = .ok (.aload_n 3, 1) := by decide +kernel
theorem dL_law_1736 : decode cL_law 1736 = .ok (.iconst 0, 1) := by decide +kernel
theorem dL_law_1737 : decode cL_law 1737 = .ok (.laload, 1) := by decide +kernel
theorem dL_law_1738 : decode cL_law 1738 = .ok (.iload 7, 2) := by decide +kernel
theorem dL_law_1740 : decode cL_law 1740 = .ok (.i2l, 1) := by decide +kernel
theorem dL_law_1741 : decode cL_law 1741 = .ok (.lcmp, 1) := by decide +kernel
theorem dL_law_1742 : decode cL_law 1742 = .ok (.ifCond .eq 5, 3) := by decide +kernel
theorem dL_law_1745 : decode cL_law 1745 = .ok (.iconst 0, 1) := by decide +kernel
theorem dL_law_1746 : decode cL_law 1746 = .ok (.ireturn, 1) := by decide +kernel
theorem dL_law_1747 : decode cL_law 1747 = .ok (.goto 1165, 3) := by decide +kernel
theorem dL_law_1750 : decode cL_law 1750 = .ok (.aload_n 1, 1) := by decide +kernel
theorem dL_law_1751 : decode cL_law 1751 = .ok (.aload_n 0, 1) := by decide +kernel
theorem dL_law_1752 : decode cL_law 1752 = .ok (.iload 5, 2) := by decide +kernel
theorem dL_law_1754 : decode cL_law 1754 = .ok (.iconst 1, 1) := by decide +kernel
theorem dL_law_1755 : decode cL_law 1755 = .ok (.iadd, 1) := by decide +kernel
theorem dL_law_1756 : decode cL_law 1756 = .ok (.iaload, 1) := by decide +kernel
theorem dL_law_1757 : decode cL_law 1757 = .ok (.aload_n 0, 1) := by decide +kernel
theorem dL_law_1758 : decode cL_law 1758 = .ok (.iload 5, 2) := by decide +kernel
theorem dL_law_1760 : decode cL_law 1760 = .ok (.iconst 2, 1) := by decide +kernel
theorem dL_law_1761 : decode cL_law 1761 = .ok (.iadd, 1) := by decide +kernel
theorem dL_law_1762 : decode cL_law 1762 = .ok (.iaload, 1) := by decide +kernel
theorem dL_law_1763 : decode cL_law 1763 = .ok (.aload_n 3, 1) := by decide +kernel
theorem dL_law_1764 : decode cL_law 1764 = .ok (.invokestatic 228, 3) := by decide +kernel
theorem dL_law_1767 : decode cL_law 1767 = .ok (.istore 6, 2) := by decide +kernel
theorem dL_law_1769 : decode cL_law 1769 = .ok (.aload_n 2, 1) := by decide +kernel
theorem dL_law_1770 : decode cL_law 1770 = .ok (.aload_n 0, 1) := by decide +kernel
theorem dL_law_1771 : decode cL_law 1771 = .ok (.iload 5, 2) := by decide +kernel
theorem dL_law_1773 : decode cL_law 1773 = .ok (.iconst 1, 1) := by decide +kernel
theorem dL_law_1774 : decode cL_law 1774 = .ok (.iadd, 1) := by decide +kernel
theorem dL_law_1775 : decode cL_law 1775 = .ok (.iaload, 1) := by decide +kernel
theorem dL_law_1776 : decode cL_law 1776 = .ok (.aload_n 0, 1) := by decide +kernel
theorem dL_law_1777 : decode cL_law 1777 = .ok (.iload 5, 2) := by decide +kernel
theorem dL_law_1779 : decode cL_law 1779 = .ok (.iconst 2, 1) := by decide +kernel
theorem dL_law_1780 : decode cL_law 1780 = .ok (.iadd, 1) := by decide +kernel
theorem dL_law_1781 : decode cL_law 1781 = .ok (.iaload, 1) := by decide +kernel
theorem dL_law_1782 : decode cL_law 1782 = .ok (.invokevirtual 230, 3) := by decide +kernel
theorem dL_law_1785 : decode cL_law 1785 = .ok (.istore 7, 2) := by decide +kernel
theorem dL_law_1787 : decode cL_law 1787 = .ok (.aload_n 2, 1) := by decide +kernel
theorem dL_law_1788 : decode cL_law 1788 = .ok (.invokevirtual 157, 3) := by decide +kernel
theorem dL_law_1791 : decode cL_law 1791 = .ok (.iload 6, 2) := by decide +kernel
theorem dL_law_1793 : decode cL_law 1793 = .ok (.if_icmp .eq 5, 3) := by decide +kernel
theorem dL_law_1796 : decode cL_law 1796 = .ok (.iconst 0, 1) := by decide +kernel
theorem dL_law_1797 : decode cL_law 1797 = .ok (.ireturn, 1) := by decide +kernel
theorem dL_law_1798 : decode cL_law 1798 = .ok (.iload 6, 2) := by decide +kernel
theorem dL_law_1800 : decode cL_law 1800 = .ok (.ifCond .ne 22, 3) := by decide +kernel
theorem dL_law_1803 : decode cL_law 1803 = .ok (.aload_n 3, 1) := by decide +kernel
theorem dL_law_1804 : decode cL_law 1804 = .ok (.iconst 0, 1) := by decide +kernel
theorem dL_law_1805 : decode cL_law 1805 = .ok (.laload, 1) := by decide +kernel
theorem dL_law_1806 : decode cL_law 1806 = .ok (.iload 7, 2) := by decide +kernel
theorem dL_law_1808 : decode cL_law 1808 = .ok (.ifCond .eq 7, 3) := by decide +kernel
theorem dL_law_1811 : decode cL_law 1811 = .ok (.lconst 1, 1) := by decide +kernel
theorem dL_law_1812 : decode cL_law 1812 = .ok (.goto 4, 3) := by decide +kernel
theorem dL_law_1815 : decode cL_law 1815 = .ok (.lconst 0, 1) := by decide +kernel
theorem dL_law_1816 : decode cL_law 1816 = .ok (.lcmp, 1) := by decide +kernel
theorem dL_law_1817 : decode cL_law 1817 = .ok (.ifCond .eq 5, 3) := by decide +kernel
theorem dL_law_1820 : decode cL_law 1820 = .ok (.iconst 0, 1) := by decide +kernel
theorem dL_law_1821 : decode cL_law 1821 = .ok (.ireturn, 1) := by decide +kernel
theorem dL_law_1822 : decode cL_law 1822 = .ok (.goto 1090, 3) := by decide +kernel
theorem dL_law_1825 : decode cL_law 1825 = .ok (.aload_n 1, 1) := by decide +kernel
theorem dL_law_1826 : decode cL_law 1826 = .ok (.aload_n 0, 1) := by decide +kernel
theorem dL_law_1827 : decode cL_law 1827 = .ok (.iload 5, 2) := by decide +kernel
theorem dL_law_1829 : decode cL_law 1829 = .ok (.iconst 1, 1) := by decide +kernel
theorem dL_law_1830 : decode cL_law 1830 = .ok (.iadd, 1) := by decide +kernel
theorem dL_law_1831 : decode cL_law 1831 = .ok (.iaload, 1) := by decide +kernel
theorem dL_law_1832 : decode cL_law 1832 = .ok (.aload_n 3, 1) := by decide +kernel
theorem dL_law_1833 : decode cL_law 1833 = .ok (.invokestatic 231, 3) := by decide +kernel
theorem dL_law_1836 : decode cL_law 1836 = .ok (.istore 6, 2) := by decide +kernel
theorem dL_law_1838 : decode cL_law 1838 = .ok (.aload_n 2, 1) := by decide +kernel
theorem dL_law_1839 : decode cL_law 1839 = .ok (.aload_n 0, 1) := by decide +kernel
theorem dL_law_1840 : decode cL_law 1840 = .ok (.iload 5, 2) := by decide +kernel
theorem dL_law_1842 : decode cL_law 1842 = .ok (.iconst 1, 1) := by decide +kernel
theorem dL_law_1843 : decode cL_law 1843 = .ok (.iadd, 1) := by decide +kernel
theorem dL_law_1844 : decode cL_law 1844 = .ok (.iaload, 1) := by decide +kernel
theorem dL_law_1845 : decode cL_law 1845 = .ok (.invokevirtual 233, 3) := by decide +kernel
theorem dL_law_1848 : decode cL_law 1848 = .ok (.istore 7, 2) := by decide +kernel
theorem dL_law_1850 : decode cL_law 1850 = .ok (.aload_n 2, 1) := by decide +kernel
theorem dL_law_1851 : decode cL_law 1851 = .ok (.invokevirtual 157, 3) := by decide +kernel
theorem dL_law_1854 : decode cL_law 1854 = .ok (.iload 6, 2) := by decide +kernel
theorem dL_law_1856 : decode cL_law 1856 = .ok (.if_icmp .eq 5, 3) := by decide +kernel
theorem dL_law_1859 : decode cL_law 1859 = .ok (.iconst 0, 1) := by decide +kernel
theorem dL_law_1860 : decode cL_law 1860 = .ok (.ireturn, 1) := by decide +kernel
theorem dL_law_1861 : decode cL_law 1861 = .ok (.iload 6, 2) := by decide +kernel
theorem dL_law_1863 : decode cL_law 1863 = .ok (.ifCond .ne 15, 3) := by decide +kernel
theorem dL_law_1866 : decode cL_law 1866 = .ok (.aload_n 3, 1) := by decide +kernel
theorem dL_law_1867 : decode cL_law 1867 = .ok (.iconst 0, 1) := by decide +kernel
theorem dL_law_1868 : decode cL_law 1868 = .ok (.laload, 1) := by decide +kernel
theorem dL_law_1869 : decode cL_law 1869 = .ok (.iload 7, 2) := by decide +kernel
theorem dL_law_1871 : decode cL_law 1871 = .ok (.i2l, 1) := by decide +kernel
theorem dL_law_1872 : decode cL_law 1872 = .ok (.lcmp, 1) := by decide +kernel
theorem dL_law_1873 : decode cL_law 1873 = .ok (.ifCond .eq 5, 3) := by decide +kernel
theorem dL_law_1876 : decode cL_law 1876 = .ok (.iconst 0, 1) := by decide +kernel
theorem dL_law_1877 : decode cL_law 1877 = .ok (.ireturn, 1) := by decide +kernel
theorem dL_law_1878 : decode cL_law 1878 = .ok (.goto 1034, 3) := by decide +kernel
theorem dL_law_1881 : decode cL_law 1881 = .ok (.aload_n 1, 1) := by decide +kernel
theorem dL_law_1882 : decode cL_law 1882 = .ok (.aload_n 0, 1) := by decide +kernel
theorem dL_law_1883 : decode cL_law 1883 = .ok (.iload 5, 2) := by decide +kernel
theorem dL_law_1885 : decode cL_law 1885 = .ok (.iconst 1, 1) := by decide +kernel
theorem dL_law_1886 : decode cL_law 1886 = .ok (.iadd, 1) := by decide +kernel
theorem dL_law_1887 : decode cL_law 1887 = .ok (.iaload, 1) := by decide +kernel
theorem dL_law_1888 : decode cL_law 1888 = .ok (.aload_n 0, 1) := by decide +kernel
theorem dL_law_1889 : decode cL_law 1889 = .ok (.iload 5, 2) := by decide +kernel
theorem dL_law_1891 : decode cL_law 1891 = .ok (.iconst 2, 1) := by decide +kernel
theorem dL_law_1892 : decode cL_law 1892 = .ok (.iadd, 1) := by decide +kernel
theorem dL_law_1893 : decode cL_law 1893 = .ok (.iaload, 1) := by decide +kernel
theorem dL_law_1894 : decode cL_law 1894 = .ok (.aload_n 0, 1) := by decide +kernel
theorem dL_law_1895 : decode cL_law 1895 = .ok (.iload 5, 2) := by decide +kernel
theorem dL_law_1897 : decode cL_law 1897 = .ok (.iconst 3, 1) := by decide +kernel
theorem dL_law_1898 : decode cL_law 1898 = .ok (.iadd, 1) := by decide +kernel
theorem dL_law_1899 : decode cL_law 1899 = .ok (.iaload, 1) := by decide +kernel
theorem dL_law_1900 : decode cL_law 1900 = .ok (.aload_n 3, 1) := by decide +kernel
theorem dL_law_1901 : decode cL_law 1901 = .ok (.invokestatic 234, 3) := by decide +kernel
theorem dL_law_1904 : decode cL_law 1904 = .ok (.istore 6, 2) := by decide +kernel
theorem dL_law_1906 : decode cL_law 1906 = .ok (.aload_n 2, 1) := by decide +kernel
theorem dL_law_1907 : decode cL_law 1907 = .ok (.aload_n 0, 1) := by decide +kernel
theorem dL_law_1908 : decode cL_law 1908 = .ok (.iload 5, 2) := by decide +kernel
theorem dL_law_1910 : decode cL_law 1910 = .ok (.iconst 1, 1) := by decide +kernel
theorem dL_law_1911 : decode cL_law 1911 = .ok (.iadd, 1) := by decide +kernel
theorem dL_law_1912 : decode cL_law 1912 = .ok (.iaload, 1) := by decide +kernel
theorem dL_law_1913 : decode cL_law 1913 = .ok (.aload_n 0, 1) := by decide +kernel
theorem dL_law_1914 : decode cL_law 1914 = .ok (.iload 5, 2) := by decide +kernel
theorem dL_law_1916 : decode cL_law 1916 = .ok (.iconst 2, 1) := by decide +kernel
theorem dL_law_1917 : decode cL_law 1917 = .ok (.iadd, 1) := by decide +kernel
theorem dL_law_1918 : decode cL_law 1918 = .ok (.iaload, 1) := by decide +kernel
theorem dL_law_1919 : decode cL_law 1919 = .ok (.aload_n 0, 1) := by decide +kernel
theorem dL_law_1920 : decode cL_law 1920 = .ok (.iload 5, 2) := by decide +kernel
theorem dL_law_1922 : decode cL_law 1922 = .ok (.iconst 3, 1) := by decide +kernel
theorem dL_law_1923 : decode cL_law 1923 = .ok (.iadd, 1) := by decide +kernel
theorem dL_law_1924 : decode cL_law 1924 = .ok (.iaload, 1) := by decide +kernel
theorem dL_law_1925 : decode cL_law 1925 = .ok (.invokevirtual 236, 3) := by decide +kernel
theorem dL_law_1928 : decode cL_law 1928 = .ok (.istore 7, 2) := by decide +kernel
theorem dL_law_1930 : decode cL_law 1930 = .ok (.aload_n 2, 1) := by decide +kernel
theorem dL_law_1931 : decode cL_law 1931 = .ok (.invokevirtual 157, 3) := by decide +kernel
theorem dL_law_1934 : decode cL_law 1934 = .ok (.iload 6, 2) := by decide +kernel
theorem dL_law_1936 : decode cL_law 1936 = .ok (.if_icmp .eq 5, 3) := by decide +kernel
theorem dL_law_1939 : decode cL_law 1939 = .ok (.iconst 0, 1) := by decide +kernel
theorem dL_law_1940 : decode cL_law 1940 = .ok (.ireturn, 1) := by decide +kernel
theorem dL_law_1941 : decode cL_law 1941 = .ok (.iload 6, 2) := by decide +kernel
theorem dL_law_1943 : decode cL_law 1943 = .ok (.ifCond .ne 15, 3) := by decide +kernel
theorem dL_law_1946 : decode cL_law 1946 = .ok (.aload_n 3, 1) := by decide +kernel
theorem dL_law_1947 : decode cL_law 1947 = .ok (.iconst 0, 1) := by decide +kernel
theorem dL_law_1948 : decode cL_law 1948 = .ok (.laload, 1) := by decide +kernel
theorem dL_law_1949 : decode cL_law 1949 = .ok (.iload 7, 2) := by decide +kernel
theorem dL_law_1951 : decode cL_law 1951 = .ok (.i2l, 1) := by decide +kernel
theorem dL_law_1952 : decode cL_law 1952 = .ok (.lcmp, 1) := by decide +kernel
theorem dL_law_1953 : decode cL_law 1953 = .ok (.ifCond .eq 5, 3) := by decide +kernel
theorem dL_law_1956 : decode cL_law 1956 = .ok (.iconst 0, 1) := by decide +kernel
theorem dL_law_1957 : decode cL_law 1957 = .ok (.ireturn, 1) := by decide +kernel
theorem dL_law_1958 : decode cL_law 1958 = .ok (.goto 954, 3) := by decide +kernel
theorem dL_law_1961 : decode cL_law 1961 = .ok (.aload_n 1, 1) := by decide +kernel
theorem dL_law_1962 : decode cL_law 1962 = .ok (.aload_n 0, 1) := by decide +kernel
theorem dL_law_1963 : decode cL_law 1963 = .ok (.iload 5, 2) := by decide +kernel
theorem dL_law_1965 : decode cL_law 1965 = .ok (.iconst 1, 1) := by decide +kernel
theorem dL_law_1966 : decode cL_law 1966 = .ok (.iadd, 1) := by decide +kernel
theorem dL_law_1967 : decode cL_law 1967 = .ok (.iaload, 1) := by decide +kernel
theorem dL_law_1968 : decode cL_law 1968 = .ok (.aload_n 0, 1) := by decide +kernel
theorem dL_law_1969 : decode cL_law 1969 = .ok (.iload 5, 2) := by decide +kernel
theorem dL_law_1971 : decode cL_law 1971 = .ok (.iconst 2, 1) := by decide +kernel
theorem dL_law_1972 : decode cL_law 1972 = .ok (.iadd, 1) := by decide +kernel
theorem dL_law_1973 : decode cL_law 1973 = .ok (.iaload, 1) := by decide +kernel
theorem dL_law_1974 : decode cL_law 1974 = .ok (.aload_n 3, 1) := by decide +kernel
theorem dL_law_1975 : decode cL_law 1975 = .ok (.invokestatic 237, 3) := by decide +kernel
theorem dL_law_1978 : decode cL_law 1978 = .ok (.istore 6, 2) := by decide +kernel
theorem dL_law_1980 : decode cL_law 1980 = .ok (.aload_n 2, 1) := by decide +kernel
theorem dL_law_1981 : decode cL_law 1981 = .ok (.aload_n 0, 1) := by decide +kernel
theorem dL_law_1982 : decode cL_law 1982 = .ok (.iload 5, 2) := by decide +kernel
theorem dL_law_1984 : decode cL_law 1984 = .ok (.iconst 1, 1) := by decide +kernel
theorem dL_law_1985 : decode cL_law 1985 = .ok (.iadd, 1) := by decide +kernel
theorem dL_law_1986 : decode cL_law 1986 = .ok (.iaload, 1) := by decide +kernel
theorem dL_law_1987 : decode cL_law 1987 = .ok (.aload_n 0, 1) := by decide +kernel
theorem dL_law_1988 : decode cL_law 1988 = .ok (.iload 5, 2) := by decide +kernel
theorem dL_law_1990 : decode cL_law 1990 = .ok (.iconst 2, 1) := by decide +kernel
theorem dL_law_1991 : decode cL_law 1991 = .ok (.iadd, 1) := by decide +kernel
theorem dL_law_1992 : decode cL_law 1992 = .ok (.iaload, 1) := by decide +kernel
theorem dL_law_1993 : decode cL_law 1993 = .ok (.invokevirtual 239, 3) := by decide +kernel
theorem dL_law_1996 : decode cL_law 1996 = .ok (.istore 7, 2) := by decide +kernel
theorem dL_law_1998 : decode cL_law 1998 = .ok (.aload_n 2, 1) := by decide +kernel
theorem dL_law_1999 : decode cL_law 1999 = .ok (.invokevirtual 157, 3) := by decide +kernel
theorem dL_law_2002 : decode cL_law 2002 = .ok (.iload 6, 2) := by decide +kernel
theorem dL_law_2004 : decode cL_law 2004 = .ok (.if_icmp .eq 5, 3) := by decide +kernel
theorem dL_law_2007 : decode cL_law 2007 = .ok (.iconst 0, 1) := by decide +kernel
theorem dL_law_2008 : decode cL_law 2008 = .ok (.ireturn, 1) := by decide +kernel
theorem dL_law_2009 : decode cL_law 2009 = .ok (.iload 6, 2) := by decide +kernel
theorem dL_law_2011 : decode cL_law 2011 = .ok (.ifCond .ne 15, 3) := by decide +kernel
theorem dL_law_2014 : decode cL_law 2014 = .ok (.aload_n 3, 1) := by decide +kernel
theorem dL_law_2015 : decode cL_law 2015 = .ok (.iconst 0, 1) := by decide +kernel
theorem dL_law_2016 : decode cL_law 2016 = .ok (.laload, 1) := by decide +kernel
theorem dL_law_2017 : decode cL_law 2017 = .ok (.iload 7, 2) := by decide +kernel
theorem dL_law_2019 : decode cL_law 2019 = .ok (.i2l, 1) := by decide +kernel
theorem dL_law_2020 : decode cL_law 2020 = .ok (.lcmp, 1) := by decide +kernel
theorem dL_law_2021 : decode cL_law 2021 = .ok (.ifCond .eq 5, 3) := by decide +kernel
theorem dL_law_2024 : decode cL_law 2024 = .ok (.iconst 0, 1) := by decide +kernel
theorem dL_law_2025 : decode cL_law 2025 = .ok (.ireturn, 1) := by decide +kernel
theorem dL_law_2026 : decode cL_law 2026 = .ok (.goto 886, 3) := by decide +kernel
theorem dL_law_2029 : decode cL_law 2029 = .ok (.aload_n 1, 1) := by decide +kernel
theorem dL_law_2030 : decode cL_law 2030 = .ok (.aload_n 0, 1) := by decide +kernel
theorem dL_law_2031 : decode cL_law 2031 = .ok (.iload 5, 2) := by decide +kernel
theorem dL_law_2033 : decode cL_law 2033 = .ok (.iconst 1, 1) := by decide +kernel
theorem dL_law_2034 : decode cL_law 2034 = .ok (.iadd, 1) := by decide +kernel
theorem dL_law_2035 : decode cL_law 2035 = .ok (.iaload, 1) := by decide +kernel
theorem dL_law_2036 : decode cL_law 2036 = .ok (.aload_n 0, 1) := by decide +kernel
theorem dL_law_2037 : decode cL_law 2037 = .ok (.iload 5, 2) := by decide +kernel
theorem dL_law_2039 : decode cL_law 2039 = .ok (.iconst 2, 1) := by decide +kernel
theorem dL_law_2040 : decode cL_law 2040 = .ok (.iadd, 1) := by decide +kernel
theorem dL_law_2041 : decode cL_law 2041 = .ok (.iaload, 1) := by decide +kernel
theorem dL_law_2042 : decode cL_law 2042 = .ok (.aload_n 3, 1) := by decide +kernel
theorem dL_law_2043 : decode cL_law 2043 = .ok (.invokestatic 240, 3) := by decide +kernel
theorem dL_law_2046 : decode cL_law 2046 = .ok (.istore 6, 2) := by decide +kernel
theorem dL_law_2048 : decode cL_law 2048 = .ok (.aload_n 2, 1) := by decide +kernel
theorem dL_law_2049 : decode cL_law 2049 = .ok (.aload_n 0, 1) := by decide +kernel
theorem dL_law_2050 : decode cL_law 2050 = .ok (.iload 5, 2) := by decide +kernel
theorem dL_law_2052 : decode cL_law 2052 = .ok (.iconst 1, 1) := by decide +kernel
theorem dL_law_2053 : decode cL_law 2053 = .ok (.iadd, 1) := by decide +kernel
theorem dL_law_2054 : decode cL_law 2054 = .ok (.iaload, 1) := by decide +kernel
theorem dL_law_2055 : decode cL_law 2055 = .ok (.aload_n 0, 1) := by decide +kernel
theorem dL_law_2056 : decode cL_law 2056 = .ok (.iload 5, 2) := by decide +kernel
theorem dL_law_2058 : decode cL_law 2058 = .ok (.iconst 2, 1) := by decide +kernel
theorem dL_law_2059 : decode cL_law 2059 = .ok (.iadd, 1) := by decide +kernel
theorem dL_law_2060 : decode cL_law 2060 = .ok (.iaload, 1) := by decide +kernel
theorem dL_law_2061 : decode cL_law 2061 = .ok (.invokevirtual 242, 3) := by decide +kernel
theorem dL_law_2064 : decode cL_law 2064 = .ok (.istore 7, 2) := by decide +kernel
theorem dL_law_2066 : decode cL_law 2066 = .ok (.aload_n 2, 1) := by decide +kernel
theorem dL_law_2067 : decode cL_law 2067 = .ok (.invokevirtual 157, 3) := by decide +kernel
theorem dL_law_2070 : decode cL_law 2070 = .ok (.iload 6, 2) := by decide +kernel
theorem dL_law_2072 : decode cL_law 2072 = .ok (.if_icmp .eq 5, 3) := by decide +kernel
theorem dL_law_2075 : decode cL_law 2075 = .ok (.iconst 0, 1) := by decide +kernel
theorem dL_law_2076 : decode cL_law 2076 = .ok (.ireturn, 1) := by decide +kernel
theorem dL_law_2077 : decode cL_law 2077 = .ok (.iload 6, 2) := by decide +kernel
theorem dL_law_2079 : decode cL_law 2079 = .ok (.ifCond .ne 15, 3) := by decide +kernel
theorem dL_law_2082 : decode cL_law 2082 = .ok (.aload_n 3, 1) := by decide +kernel
theorem dL_law_2083 : decode cL_law 2083 = .ok (.iconst 0, 1) := by decide +kernel
theorem dL_law_2084 : decode cL_law 2084 = .ok (.laload, 1) := by decide +kernel
theorem dL_law_2085 : decode cL_law 2085 = .ok (.iload 7, 2) := by decide +kernel
theorem dL_law_2087 : decode cL_law 2087 = .ok (.i2l, 1) := by decide +kernel
theorem dL_law_2088 : decode cL_law 2088 = .ok (.lcmp, 1) := by decide +kernel
theorem dL_law_2089 : decode cL_law 2089 = .ok (.ifCond .eq 5, 3) := by decide +kernel
theorem dL_law_2092 : decode cL_law 2092 = .ok (.iconst 0, 1) := by decide +kernel
theorem dL_law_2093 : decode cL_law 2093 = .ok (.ireturn, 1) := by decide +kernel
theorem dL_law_2094 : decode cL_law 2094 = .ok (.goto 818, 3) := by decide +kernel
theorem dL_law_2097 : decode cL_law 2097 = .ok (.aload_n 1, 1) := by decide +kernel
theorem dL_law_2098 : decode cL_law 2098 = .ok (.aload_n 0, 1) := by decide +kernel
theorem dL_law_2099 : decode cL_law 2099 = .ok (.iload 5, 2) := by decide +kernel
theorem dL_law_2101 : decode cL_law 2101 = .ok (.iconst 1, 1) := by decide +kernel
theorem dL_law_2102 : decode cL_law 2102 = .ok (.iadd, 1) := by decide +kernel
theorem dL_law_2103 : decode cL_law 2103 = .ok (.iaload, 1) := by decide +kernel
theorem dL_law_2104 : decode cL_law 2104 = .ok (.aload_n 3, 1) := by decide +kernel
theorem dL_law_2105 : decode cL_law 2105 = .ok (.invokestatic 243, 3) := by decide +kernel
theorem dL_law_2108 : decode cL_law 2108 = .ok (.istore 6, 2) := by decide +kernel
theorem dL_law_2110 : decode cL_law 2110 = .ok (.aload_n 2, 1) := by decide +kernel
theorem dL_law_2111 : decode cL_law 2111 = .ok (.aload_n 0, 1) := by decide +kernel
theorem dL_law_2112 : decode cL_law 2112 = .ok (.iload 5, 2) := by decide +kernel
theorem dL_law_2114 : decode cL_law 2114 = .ok (.iconst 1, 1) := by decide +kernel
theorem dL_law_2115 : decode cL_law 2115 = .ok (.iadd, 1) := by decide +kernel
theorem dL_law_2116 : decode cL_law 2116 = .ok (.iaload, 1) := by decide +kernel
theorem dL_law_2117 : decode cL_law 2117 = .ok (.invokevirtual 245, 3) := by decide +kernel
theorem dL_law_2120 : decode cL_law 2120 = .ok (.istore 7, 2) := by decide +kernel
theorem dL_law_2122 : decode cL_law 2122 = .ok (.aload_n 2, 1) := by decide +kernel
theorem dL_law_2123 : decode cL_law 2123 = .ok (.invokevirtual 157, 3) := by decide +kernel
theorem dL_law_2126 : decode cL_law 2126 = .ok (.iload 6, 2) := by decide +kernel
theorem dL_law_2128 : decode cL_law 2128 = .ok (.if_icmp .eq 5, 3) := by decide +kernel
theorem dL_law_2131 : decode cL_law 2131 = .ok (.iconst 0, 1) := by decide +kernel
theorem dL_law_2132 : decode cL_law 2132 = .ok (.ireturn, 1) := by decide +kernel
theorem dL_law_2133 : decode cL_law 2133 = .ok (.iload 6, 2) := by decide +kernel
theorem dL_law_2135 : decode cL_law 2135 = .ok (.ifCond .ne 22, 3) := by decide +kernel
theorem dL_law_2138 : decode cL_law 2138 = .ok (.aload_n 3, 1) := by decide +kernel
theorem dL_law_2139 : decode cL_law 2139 = .ok (.iconst 0, 1) := by decide +kernel
theorem dL_law_2140 : decode cL_law 2140 = .ok (.laload, 1) := by decide +kernel
theorem dL_law_2141 : decode cL_law 2141 = .ok (.iload 7, 2) := by decide +kernel
theorem dL_law_2143 : decode cL_law 2143 = .ok (.ifCond .eq 7, 3) := by decide +kernel
theorem dL_law_2146 : decode cL_law 2146 = .ok (.lconst 1, 1) := by decide +kernel
theorem dL_law_2147 : decode cL_law 2147 = .ok (.goto 4, 3) := by decide +kernel
theorem dL_law_2150 : decode cL_law 2150 = .ok (.lconst 0, 1) := by decide +kernel
theorem dL_law_2151 : decode cL_law 2151 = .ok (.lcmp, 1) := by decide +kernel
theorem dL_law_2152 : decode cL_law 2152 = .ok (.ifCond .eq 5, 3) := by decide +kernel
theorem dL_law_2155 : decode cL_law 2155 = .ok (.iconst 0, 1) := by decide +kernel
theorem dL_law_2156 : decode cL_law 2156 = .ok (.ireturn, 1) := by decide +kernel
theorem dL_law_2157 : decode cL_law 2157 = .ok (.goto 755, 3) := by decide +kernel
theorem dL_law_2160 : decode cL_law 2160 = .ok (.aload_n 1, 1) := by decide +kernel
theorem dL_law_2161 : decode cL_law 2161 = .ok (.aload_n 0, 1) := by decide +kernel
theorem dL_law_2162 : decode cL_law 2162 = .ok (.iload 5, 2) := by decide +kernel
theorem dL_law_2164 : decode cL_law 2164 = .ok (.iconst 1, 1) := by decide +kernel
theorem dL_law_2165 : decode cL_law 2165 = .ok (.iadd, 1) := by decide +kernel
theorem dL_law_2166 : decode cL_law 2166 = .ok (.iaload, 1) := by decide +kernel
theorem dL_law_2167 : decode cL_law 2167 = .ok (.aload_n 0, 1) := by decide +kernel
theorem dL_law_2168 : decode cL_law 2168 = .ok (.iload 5, 2) := by decide +kernel
theorem dL_law_2170 : decode cL_law 2170 = .ok (.iconst 2, 1) := by decide +kernel
theorem dL_law_2171 : decode cL_law 2171 = .ok (.iadd, 1) := by decide +kernel
theorem dL_law_2172 : decode cL_law 2172 = .ok (.iaload, 1) := by decide +kernel
theorem dL_law_2173 : decode cL_law 2173 = .ok (.aload_n 3, 1) := by decide +kernel
theorem dL_law_2174 : decode cL_law 2174 = .ok (.invokestatic 246, 3) := by decide +kernel
theorem dL_law_2177 : decode cL_law 2177 = .ok (.istore 6, 2) := by decide +kernel
theorem dL_law_2179 : decode cL_law 2179 = .ok (.aload_n 2, 1) := by decide +kernel
theorem dL_law_2180 : decode cL_law 2180 = .ok (.aload_n 0, 1) := by decide +kernel
theorem dL_law_2181 : decode cL_law 2181 = .ok (.iload 5, 2) := by decide +kernel
theorem dL_law_2183 : decode cL_law 2183 = .ok (.iconst 1, 1) := by decide +kernel
theorem dL_law_2184 : decode cL_law 2184 = .ok (.iadd, 1) := by decide +kernel
theorem dL_law_2185 : decode cL_law 2185 = .ok (.iaload, 1) := by decide +kernel
theorem dL_law_2186 : decode cL_law 2186 = .ok (.aload_n 0, 1) := by decide +kernel
theorem dL_law_2187 : decode cL_law 2187 = .ok (.iload 5, 2) := by decide +kernel
theorem dL_law_2189 : decode cL_law 2189 = .ok (.iconst 2, 1) := by decide +kernel
theorem dL_law_2190 : decode cL_law 2190 = .ok (.iadd, 1) := by decide +kernel
theorem dL_law_2191 : decode cL_law 2191 = .ok (.iaload, 1) := by decide +kernel
theorem dL_law_2192 : decode cL_law 2192 = .ok (.invokevirtual 248, 3) := by decide +kernel
theorem dL_law_2195 : decode cL_law 2195 = .ok (.istore 7, 2) := by decide +kernel
theorem dL_law_2197 : decode cL_law 2197 = .ok (.aload_n 2, 1) := by decide +kernel
theorem dL_law_2198 : decode cL_law 2198 = .ok (.invokevirtual 157, 3) := by decide +kernel
theorem dL_law_2201 : decode cL_law 2201 = .ok (.iload 6, 2) := by decide +kernel
theorem dL_law_2203 : decode cL_law 2203 = .ok (.if_icmp .eq 5, 3) := by decide +kernel
theorem dL_law_2206 : decode cL_law 2206 = .ok (.iconst 0, 1) := by decide +kernel
theorem dL_law_2207 : decode cL_law 2207 = .ok (.ireturn, 1) := by decide +kernel
theorem dL_law_2208 : decode cL_law 2208 = .ok (.iload 6, 2) := by decide +kernel
theorem dL_law_2210 : decode cL_law 2210 = .ok (.ifCond .ne 15, 3) := by decide +kernel
theorem dL_law_2213 : decode cL_law 2213 = .ok (.aload_n 3, 1) := by decide +kernel
theorem dL_law_2214 : decode cL_law 2214 = .ok (.iconst 0, 1) := by decide +kernel
theorem dL_law_2215 : decode cL_law 2215 = .ok (.laload, 1) := by decide +kernel
theorem dL_law_2216 : decode cL_law 2216 = .ok (.iload 7, 2) := by decide +kernel
theorem dL_law_2218 : decode cL_law 2218 = .ok (.i2l, 1) := by decide +kernel
theorem dL_law_2219 : decode cL_law 2219 = .ok (.lcmp, 1) := by decide +kernel
theorem dL_law_2220 : decode cL_law 2220 = .ok (.ifCond .eq 5, 3) := by decide +kernel
theorem dL_law_2223 : decode cL_law 2223 = .ok (.iconst 0, 1) := by decide +kernel
theorem dL_law_2224 : decode cL_law 2224 = .ok (.ireturn, 1) := by decide +kernel
theorem dL_law_2225 : decode cL_law 2225 = .ok (.goto 687, 3) := by decide +kernel
theorem dL_law_2228 : decode cL_law 2228 = .ok (.aload_n 1, 1) := by decide +kernel
theorem dL_law_2229 : decode cL_law 2229 = .ok (.aload_n 0, 1) := by decide +kernel
theorem dL_law_2230 : decode cL_law 2230 = .ok (.iload 5, 2) := by decide +kernel
theorem dL_law_2232 : decode cL_law 2232 = .ok (.iconst 1, 1) := by decide +kernel
theorem dL_law_2233 : decode cL_law 2233 = .ok (.iadd, 1) := by decide +kernel
theorem dL_law_2234 : decode cL_law 2234 = .ok (.iaload, 1) := by decide +kernel
theorem dL_law_2235 : decode cL_law 2235 = .ok (.aload_n 0, 1) := by decide +kernel
theorem dL_law_2236 : decode cL_law 2236 = .ok (.iload 5, 2) := by decide +kernel
theorem dL_law_2238 : decode cL_law 2238 = .ok (.iconst 2, 1) := by decide +kernel
theorem dL_law_2239 : decode cL_law 2239 = .ok (.iadd, 1) := by decide +kernel
theorem dL_law_2240 : decode cL_law 2240 = .ok (.iaload, 1) := by decide +kernel
theorem dL_law_2241 : decode cL_law 2241 = .ok (.aload_n 3, 1) := by decide +kernel
theorem dL_law_2242 : decode cL_law 2242 = .ok (.invokestatic 249, 3) := by decide +kernel
theorem dL_law_2245 : decode cL_law 2245 = .ok (.istore 6, 2) := by decide +kernel
theorem dL_law_2247 : decode cL_law 2247 = .ok (.aload_n 2, 1) := by decide +kernel
theorem dL_law_2248 : decode cL_law 2248 = .ok (.aload_n 0, 1) := by decide +kernel
theorem dL_law_2249 : decode cL_law 2249 = .ok (.iload 5, 2) := by decide +kernel
theorem dL_law_2251 : decode cL_law 2251 = .ok (.iconst 1, 1) := by decide +kernel
theorem dL_law_2252 : decode cL_law 2252 = .ok (.iadd, 1) := by decide +kernel
theorem dL_law_2253 : decode cL_law 2253 = .ok (.iaload, 1) := by decide +kernel
theorem dL_law_2254 : decode cL_law 2254 = .ok (.aload_n 0, 1) := by decide +kernel
theorem dL_law_2255 : decode cL_law 2255 = .ok (.iload 5, 2) := by decide +kernel
theorem dL_law_2257 : decode cL_law 2257 = .ok (.iconst 2, 1) := by decide +kernel
theorem dL_law_2258 : decode cL_law 2258 = .ok (.iadd, 1) := by decide +kernel
theorem dL_law_2259 : decode cL_law 2259 = .ok (.iaload, 1) := by decide +kernel
theorem dL_law_2260 : decode cL_law 2260 = .ok (.invokevirtual 251, 3) := by decide +kernel
theorem dL_law_2263 : decode cL_law 2263 = .ok (.istore 7, 2) := by decide +kernel
theorem dL_law_2265 : decode cL_law 2265 = .ok (.aload_n 2, 1) := by decide +kernel
theorem dL_law_2266 : decode cL_law 2266 = .ok (.invokevirtual 157, 3) := by decide +kernel
theorem dL_law_2269 : decode cL_law 2269 = .ok (.iload 6, 2) := by decide +kernel
theorem dL_law_2271 : decode cL_law 2271 = .ok (.if_icmp .eq 5, 3) := by decide +kernel
theorem dL_law_2274 : decode cL_law 2274 = .ok (.iconst 0, 1) := by decide +kernel
theorem dL_law_2275 : decode cL_law 2275 = .ok (.ireturn, 1) := by decide +kernel
theorem dL_law_2276 : decode cL_law 2276 = .ok (.iload 6, 2) := by decide +kernel
theorem dL_law_2278 : decode cL_law 2278 = .ok (.ifCond .ne 22, 3) := by decide +kernel
theorem dL_law_2281 : decode cL_law 2281 = .ok (.aload_n 3, 1) := by decide +kernel
theorem dL_law_2282 : decode cL_law 2282 = .ok (.iconst 0, 1) := by decide +kernel
theorem dL_law_2283 : decode cL_law 2283 = .ok (.laload, 1) := by decide +kernel
theorem dL_law_2284 : decode cL_law 2284 = .ok (.iload 7, 2) := by decide +kernel
theorem dL_law_2286 : decode cL_law 2286 = .ok (.ifCond .eq 7, 3) := by decide +kernel
theorem dL_law_2289 : decode cL_law 2289 = .ok (.lconst 1, 1) := by decide +kernel
theorem dL_law_2290 : decode cL_law 2290 = .ok (.goto 4, 3) := by decide +kernel
theorem dL_law_2293 : decode cL_law 2293 = .ok (.lconst 0, 1) := by decide +kernel
theorem dL_law_2294 : decode cL_law 2294 = .ok (.lcmp, 1) := by decide +kernel
theorem dL_law_2295 : decode cL_law 2295 = .ok (.ifCond .eq 5, 3) := by decide +kernel
theorem dL_law_2298 : decode cL_law 2298 = .ok (.iconst 0, 1) := by decide +kernel
theorem dL_law_2299 : decode cL_law 2299 = .ok (.ireturn, 1) := by decide +kernel
theorem dL_law_2300 : decode cL_law 2300 = .ok (.goto 612, 3) := by decide +kernel
theorem dL_law_2303 : decode cL_law 2303 = .ok (.aload_n 1, 1) := by decide +kernel
theorem dL_law_2304 : decode cL_law 2304 = .ok (.invokevirtual 252, 3) := by decide +kernel
theorem dL_law_2307 : decode cL_law 2307 = .ok (.aload_n 2, 1) := by decide +kernel
theorem dL_law_2308 : decode cL_law 2308 = .ok (.invokevirtual 255, 3) := by decide +kernel
theorem dL_law_2311 : decode cL_law 2311 = .ok (.if_icmp .eq 601, 3) := by decide +kernel
theorem dL_law_2314 : decode cL_law 2314 = .ok (.iconst 0, 1) := by decide +kernel
theorem dL_law_2315 : decode cL_law 2315 = .ok (.ireturn, 1) := by decide +kernel
theorem dL_law_2316 : decode cL_law 2316 = .ok (.aload_n 1, 1) := by decide +kernel
theorem dL_law_2317 : decode cL_law 2317 = .ok (.invokevirtual 256, 3) := by decide +kernel
theorem dL_law_2320 : decode cL_law 2320 = .ok (.aload_n 2, 1) := by decide +kernel
theorem dL_law_2321 : decode cL_law 2321 = .ok (.invokevirtual 259, 3) := by decide +kernel
theorem dL_law_2324 : decode cL_law 2324 = .ok (.if_icmp .eq 588, 3) := by decide +kernel
theorem dL_law_2327 : decode cL_law 2327 = .ok (.iconst 0, 1) := by decide +kernel
theorem dL_law_2328 : decode cL_law 2328 = .ok (.ireturn, 1) := by decide +kernel
theorem dL_law_2329 : decode cL_law 2329 = .ok (.aload_n 1, 1) := by decide +kernel
theorem dL_law_2330 : decode cL_law 2330 = .ok (.aload_n 0, 1) := by decide +kernel
theorem dL_law_2331 : decode cL_law 2331 = .ok (.iload 5, 2) := by decide +kernel
theorem dL_law_2333 : decode cL_law 2333 = .ok (.iconst 1, 1) := by decide +kernel
theorem dL_law_2334 : decode cL_law 2334 = .ok (.iadd, 1) := by decide +kernel
theorem dL_law_2335 : decode cL_law 2335 = .ok (.iaload, 1) := by decide +kernel
theorem dL_law_2336 : decode cL_law 2336 = .ok (.i2c, 1) := by decide +kernel
theorem dL_law_2337 : decode cL_law 2337 = .ok (.aload_n 3, 1) := by decide +kernel
theorem dL_law_2338 : decode cL_law 2338 = .ok (.invokestatic 260, 3) := by decide +kernel
theorem dL_law_2341 : decode cL_law 2341 = .ok (.istore 6, 2) := by decide +kernel
theorem dL_law_2343 : decode cL_law 2343 = .ok (.aload_n 2, 1) := by decide +kernel
theorem dL_law_2344 : decode cL_law 2344 = .ok (.aload_n 0, 1) := by decide +kernel
theorem dL_law_2345 : decode cL_law 2345 = .ok (.iload 5, 2) := by decide +kernel
theorem dL_law_2347 : decode cL_law 2347 = .ok (.iconst 1, 1) := by decide +kernel
theorem dL_law_2348 : decode cL_law 2348 = .ok (.iadd, 1) := by decide +kernel
theorem dL_law_2349 : decode cL_law 2349 = .ok (.iaload, 1) := by decide +kernel
theorem dL_law_2350 : decode cL_law 2350 = .ok (.i2c, 1) := by decide +kernel
theorem dL_law_2351 : decode cL_law 2351 = .ok (.invokevirtual 263, 3) := by decide +kernel
theorem dL_law_2354 : decode cL_law 2354 = .ok (.istore 7, 2) := by decide +kernel
theorem dL_law_2356 : decode cL_law 2356 = .ok (.aload_n 2, 1) := by decide +kernel
theorem dL_law_2357 : decode cL_law 2357 = .ok (.invokevirtual 157, 3) := by decide +kernel
theorem dL_law_2360 : decode cL_law 2360 = .ok (.iload 6, 2) := by decide +kernel
theorem dL_law_2362 : decode cL_law 2362 = .ok (.if_icmp .eq 5, 3) := by decide +kernel
theorem dL_law_2365 : decode cL_law 2365 = .ok (.iconst 0, 1) := by decide +kernel
theorem dL_law_2366 : decode cL_law 2366 = .ok (.ireturn, 1) := by decide +kernel
theorem dL_law_2367 : decode cL_law 2367 = .ok (.iload 6, 2) := by decide +kernel
theorem dL_law_2369 : decode cL_law 2369 = .ok (.ifCond .ne 15, 3) := by decide +kernel
theorem dL_law_2372 : decode cL_law 2372 = .ok (.aload_n 3, 1) := by decide +kernel
theorem dL_law_2373 : decode cL_law 2373 = .ok (.iconst 0, 1) := by decide +kernel
theorem dL_law_2374 : decode cL_law 2374 = .ok (.laload, 1) := by decide +kernel
theorem dL_law_2375 : decode cL_law 2375 = .ok (.iload 7, 2) := by decide +kernel
theorem dL_law_2377 : decode cL_law 2377 = .ok (.i2l, 1) := by decide +kernel
theorem dL_law_2378 : decode cL_law 2378 = .ok (.lcmp, 1) := by decide +kernel
theorem dL_law_2379 : decode cL_law 2379 = .ok (.ifCond .eq 5, 3) := by decide +kernel
theorem dL_law_2382 : decode cL_law 2382 = .ok (.iconst 0, 1) := by decide +kernel
theorem dL_law_2383 : decode cL_law 2383 = .ok (.ireturn, 1) := by decide +kernel
theorem dL_law_2384 : decode cL_law 2384 = .ok (.goto 528, 3) := by decide +kernel
theorem dL_law_2387 : decode cL_law 2387 = .ok (.aload_n 1, 1) := by decide +kernel
theorem dL_law_2388 : decode cL_law 2388 = .ok (.aload_n 3, 1) := by decide +kernel
theorem dL_law_2389 : decode cL_law 2389 = .ok (.invokestatic 264, 3) := by decide +kernel
theorem dL_law_2392 : decode cL_law 2392 = .ok (.istore 6, 2) := by decide +kernel
theorem dL_law_2394 : decode cL_law 2394 = .ok (.aload_n 2, 1) := by decide +kernel
theorem dL_law_2395 : decode cL_law 2395 = .ok (.invokevirtual 267, 3) := by decide +kernel
theorem dL_law_2398 : decode cL_law 2398 = .ok (.istore 7, 2) := by decide +kernel
theorem dL_law_2400 : decode cL_law 2400 = .ok (.aload_n 2, 1) := by decide +kernel
theorem dL_law_2401 : decode cL_law 2401 = .ok (.invokevirtual 157, 3) := by decide +kernel
theorem dL_law_2404 : decode cL_law 2404 = .ok (.iload 6, 2) := by decide +kernel
theorem dL_law_2406 : decode cL_law 2406 = .ok (.if_icmp .eq 5, 3) := by decide +kernel
theorem dL_law_2409 : decode cL_law 2409 = .ok (.iconst 0, 1) := by decide +kernel
theorem dL_law_2410 : decode cL_law 2410 = .ok (.ireturn, 1) := by decide +kernel
theorem dL_law_2411 : decode cL_law 2411 = .ok (.iload 6, 2) := by decide +kernel
theorem dL_law_2413 : decode cL_law 2413 = .ok (.ifCond .ne 15, 3) := by decide +kernel
theorem dL_law_2416 : decode cL_law 2416 = .ok (.aload_n 3, 1) := by decide +kernel
theorem dL_law_2417 : decode cL_law 2417 = .ok (.iconst 0, 1) := by decide +kernel
theorem dL_law_2418 : decode cL_law 2418 = .ok (.laload, 1) := by decide +kernel
theorem dL_law_2419 : decode cL_law 2419 = .ok (.iload 7, 2) := by decide +kernel
theorem dL_law_2421 : decode cL_law 2421 = .ok (.i2l, 1) := by decide +kernel
theorem dL_law_2422 : decode cL_law 2422 = .ok (.lcmp, 1) := by decide +kernel
theorem dL_law_2423 : decode cL_law 2423 = .ok (.ifCond .eq 5, 3) := by decide +kernel
theorem dL_law_2426 : decode cL_law 2426 = .ok (.iconst 0, 1) := by decide +kernel
theorem dL_law_2427 : decode cL_law 2427 = .ok (.ireturn, 1) := by decide +kernel
theorem dL_law_2428 : decode cL_law 2428 = .ok (.goto 484, 3) := by decide +kernel
theorem dL_law_2431 : decode cL_law 2431 = .ok (.aload_n 1, 1) := by decide +kernel
theorem dL_law_2432 : decode cL_law 2432 = .ok (.aload_n 3, 1) := by decide +kernel
theorem dL_law_2433 : decode cL_law 2433 = .ok (.invokestatic 268, 3) := by decide +kernel
theorem dL_law_2436 : decode cL_law 2436 = .ok (.istore 6, 2) := by decide +kernel
theorem dL_law_2438 : decode cL_law 2438 = .ok (.aload_n 2, 1) := by decide +kernel
theorem dL_law_2439 : decode cL_law 2439 = .ok (.invokevirtual 270, 3) := by decide +kernel
theorem dL_law_2442 : decode cL_law 2442 = .ok (.istore 7, 2) := by decide +kernel
theorem dL_law_2444 : decode cL_law 2444 = .ok (.aload_n 2, 1) := by decide +kernel
theorem dL_law_2445 : decode cL_law 2445 = .ok (.invokevirtual 157, 3) := by decide +kernel
theorem dL_law_2448 : decode cL_law 2448 = .ok (.iload 6, 2) := by decide +kernel
theorem dL_law_2450 : decode cL_law 2450 = .ok (.if_icmp .eq 5, 3) := by decide +kernel
theorem dL_law_2453 : decode cL_law 2453 = .ok (.iconst 0, 1) := by decide +kernel
theorem dL_law_2454 : decode cL_law 2454 = .ok (.ireturn, 1) := by decide +kernel
theorem dL_law_2455 : decode cL_law 2455 = .ok (.iload 6, 2) := by decide +kernel
theorem dL_law_2457 : decode cL_law 2457 = .ok (.ifCond .ne 15, 3) := by decide +kernel
theorem dL_law_2460 : decode cL_law 2460 = .ok (.aload_n 3, 1) := by decide +kernel
theorem dL_law_2461 : decode cL_law 2461 = .ok (.iconst 0, 1) := by decide +kernel
theorem dL_law_2462 : decode cL_law 2462 = .ok (.laload, 1) := by decide +kernel
theorem dL_law_2463 : decode cL_law 2463 = .ok (.iload 7, 2) := by decide +kernel
theorem dL_law_2465 : decode cL_law 2465 = .ok (.i2l, 1) := by decide +kernel
theorem dL_law_2466 : decode cL_law 2466 = .ok (.lcmp, 1) := by decide +kernel
theorem dL_law_2467 : decode cL_law 2467 = .ok (.ifCond .eq 5, 3) := by decide +kernel
theorem dL_law_2470 : decode cL_law 2470 = .ok (.iconst 0, 1) := by decide +kernel
theorem dL_law_2471 : decode cL_law 2471 = .ok (.ireturn, 1) := by decide +kernel
theorem dL_law_2472 : decode cL_law 2472 = .ok (.goto 440, 3) := by decide +kernel
theorem dL_law_2475 : decode cL_law 2475 = .ok (.aload_n 1, 1) := by decide +kernel
theorem dL_law_2476 : decode cL_law 2476 = .ok (.aload_n 3, 1) := by decide +kernel
theorem dL_law_2477 : decode cL_law 2477 = .ok (.invokestatic 271, 3) := by decide +kernel
theorem dL_law_2480 : decode cL_law 2480 = .ok (.istore 6, 2) := by decide +kernel
theorem dL_law_2482 : decode cL_law 2482 = .ok (.aload_n 2, 1) := by decide +kernel
theorem dL_law_2483 : decode cL_law 2483 = .ok (.invokevirtual 273, 3) := by decide +kernel
theorem dL_law_2486 : decode cL_law 2486 = .ok (.istore 7, 2) := by decide +kernel
theorem dL_law_2488 : decode cL_law 2488 = .ok (.aload_n 2, 1) := by decide +kernel
theorem dL_law_2489 : decode cL_law 2489 = .ok (.invokevirtual 157, 3) := by decide +kernel
theorem dL_law_2492 : decode cL_law 2492 = .ok (.iload 6, 2) := by decide +kernel
theorem dL_law_2494 : decode cL_law 2494 = .ok (.if_icmp .eq 5, 3) := by decide +kernel
theorem dL_law_2497 : decode cL_law 2497 = .ok (.iconst 0, 1) := by decide +kernel
theorem dL_law_2498 : decode cL_law 2498 = .ok (.ireturn, 1) := by decide +kernel
theorem dL_law_2499 : decode cL_law 2499 = .ok (.iload 6, 2) := by decide +kernel
theorem dL_law_2501 : decode cL_law 2501 = .ok (.ifCond .ne 15, 3) := by decide +kernel
theorem dL_law_2504 : decode cL_law 2504 = .ok (.aload_n 3, 1) := by decide +kernel
theorem dL_law_2505 : decode cL_law 2505 = .ok (.iconst 0, 1) := by decide +kernel
theorem dL_law_2506 : decode cL_law 2506 = .ok (.laload, 1) := by decide +kernel
theorem dL_law_2507 : decode cL_law 2507 = .ok (.iload 7, 2) := by decide +kernel
theorem dL_law_2509 : decode cL_law 2509 = .ok (.i2l, 1) := by decide +kernel
theorem dL_law_2510 : decode cL_law 2510 = .ok (.lcmp, 1) := by decide +kernel
theorem dL_law_2511 : decode cL_law 2511 = .ok (.ifCond .eq 5, 3) := by decide +kernel
theorem dL_law_2514 : decode cL_law 2514 = .ok (.iconst 0, 1) := by decide +kernel
theorem dL_law_2515 : decode cL_law 2515 = .ok (.ireturn, 1) := by decide +kernel
theorem dL_law_2516 : decode cL_law 2516 = .ok (.goto 396, 3) := by decide +kernel
theorem dL_law_2519 : decode cL_law 2519 = .ok (.aload_n 1, 1) := by decide +kernel
theorem dL_law_2520 : decode cL_law 2520 = .ok (.aload_n 0, 1) := by decide +kernel
theorem dL_law_2521 : decode cL_law 2521 = .ok (.iload 5, 2) := by decide +kernel
theorem dL_law_2523 : decode cL_law 2523 = .ok (.iconst 1, 1) := by decide +kernel
theorem dL_law_2524 : decode cL_law 2524 = .ok (.iadd, 1) := by decide +kernel
theorem dL_law_2525 : decode cL_law 2525 = .ok (.iaload, 1) := by decide +kernel
theorem dL_law_2526 : decode cL_law 2526 = .ok (.aload_n 3, 1) := by decide +kernel
theorem dL_law_2527 : decode cL_law 2527 = .ok (.invokestatic 274, 3) := by decide +kernel
theorem dL_law_2530 : decode cL_law 2530 = .ok (.istore 6, 2) := by decide +kernel
theorem dL_law_2532 : decode cL_law 2532 = .ok (.aload_n 2, 1) := by decide +kernel
theorem dL_law_2533 : decode cL_law 2533 = .ok (.aload_n 0, 1) := by decide +kernel
theorem dL_law_2534 : decode cL_law 2534 = .ok (.iload 5, 2) := by decide +kernel
theorem dL_law_2536 : decode cL_law 2536 = .ok (.iconst 1, 1) := by decide +kernel
theorem dL_law_2537 : decode cL_law 2537 = .ok (.iadd, 1) := by decide +kernel
theorem dL_law_2538 : decode cL_law 2538 = .ok (.iaload, 1) := by decide +kernel
theorem dL_law_2539 : decode cL_law 2539 = .ok (.invokevirtual 276, 3) := by decide +kernel
theorem dL_law_2542 : decode cL_law 2542 = .ok (.istore 7, 2) := by decide +kernel
theorem dL_law_2544 : decode cL_law 2544 = .ok (.aload_n 2, 1) := by decide +kernel
theorem dL_law_2545 : decode cL_law 2545 = .ok (.invokevirtual 157, 3) := by decide +kernel
theorem dL_law_2548 : decode cL_law 2548 = .ok (.iload 6, 2) := by decide +kernel
theorem dL_law_2550 : decode cL_law 2550 = .ok (.if_icmp .eq 5, 3) := by decide +kernel
theorem dL_law_2553 : decode cL_law 2553 = .ok (.iconst 0, 1) := by decide +kernel
theorem dL_law_2554 : decode cL_law 2554 = .ok (.ireturn, 1) := by decide +kernel
theorem dL_law_2555 : decode cL_law 2555 = .ok (.iload 6, 2) := by decide +kernel
theorem dL_law_2557 : decode cL_law 2557 = .ok (.ifCond .ne 15, 3) := by decide +kernel
theorem dL_law_2560 : decode cL_law 2560 = .ok (.aload_n 3, 1) := by decide +kernel
theorem dL_law_2561 : decode cL_law 2561 = .ok (.iconst 0, 1) := by decide +kernel
theorem dL_law_2562 : decode cL_law 2562 = .ok (.laload, 1) := by decide +kernel
theorem dL_law_2563 : decode cL_law 2563 = .ok (.iload 7, 2) := by decide +kernel
theorem dL_law_2565 : decode cL_law 2565 = .ok (.i2l, 1) := by decide +kernel
theorem dL_law_2566 : decode cL_law 2566 = .ok (.lcmp, 1) := by decide +kernel
theorem dL_law_2567 : decode cL_law 2567 = .ok (.ifCond .eq 5, 3) := by decide +kernel
theorem dL_law_2570 : decode cL_law 2570 = .ok (.iconst 0, 1) := by decide +kernel
theorem dL_law_2571 : decode cL_law 2571 = .ok (.ireturn, 1) := by decide +kernel
theorem dL_law_2572 : decode cL_law 2572 = .ok (.goto 340, 3) := by decide +kernel
theorem dL_law_2575 : decode cL_law 2575 = .ok (.aload_n 1, 1) := by decide +kernel
theorem dL_law_2576 : decode cL_law 2576 = .ok (.aload_n 0, 1) := by decide +kernel
theorem dL_law_2577 : decode cL_law 2577 = .ok (.iload 5, 2) := by decide +kernel
theorem dL_law_2579 : decode cL_law 2579 = .ok (.iconst 1, 1) := by decide +kernel
theorem dL_law_2580 : decode cL_law 2580 = .ok (.iadd, 1) := by decide +kernel
theorem dL_law_2581 : decode cL_law 2581 = .ok (.iaload, 1) := by decide +kernel
theorem dL_law_2582 : decode cL_law 2582 = .ok (.aload_n 3, 1) := by decide +kernel
theorem dL_law_2583 : decode cL_law 2583 = .ok (.invokestatic 277, 3) := by decide +kernel
theorem dL_law_2586 : decode cL_law 2586 = .ok (.istore 6, 2) := by decide +kernel
theorem dL_law_2588 : decode cL_law 2588 = .ok (.aload_n 2, 1) := by decide +kernel
theorem dL_law_2589 : decode cL_law 2589 = .ok (.aload_n 0, 1) := by decide +kernel
theorem dL_law_2590 : decode cL_law 2590 = .ok (.iload 5, 2) := by decide +kernel
theorem dL_law_2592 : decode cL_law 2592 = .ok (.iconst 1, 1) := by decide +kernel
theorem dL_law_2593 : decode cL_law 2593 = .ok (.iadd, 1) := by decide +kernel
theorem dL_law_2594 : decode cL_law 2594 = .ok (.iaload, 1) := by decide +kernel
theorem dL_law_2595 : decode cL_law 2595 = .ok (.invokevirtual 279, 3) := by decide +kernel
theorem dL_law_2598 : decode cL_law 2598 = .ok (.istore 7, 2) := by decide +kernel
theorem dL_law_2600 : decode cL_law 2600 = .ok (.aload_n 2, 1) := by decide +kernel
theorem dL_law_2601 : decode cL_law 2601 = .ok (.invokevirtual 157, 3) := by decide +kernel
theorem dL_law_2604 : decode cL_law 2604 = .ok (.iload 6, 2) := by decide +kernel
theorem dL_law_2606 : decode cL_law 2606 = .ok (.if_icmp .eq 5, 3) := by decide +kernel
theorem dL_law_2609 : decode cL_law 2609 = .ok (.iconst 0, 1) := by decide +kernel
theorem dL_law_2610 : decode cL_law 2610 = .ok (.ireturn, 1) := by decide +kernel
theorem dL_law_2611 : decode cL_law 2611 = .ok (.iload 6, 2) := by decide +kernel
theorem dL_law_2613 : decode cL_law 2613 = .ok (.ifCond .ne 15, 3) := by decide +kernel
theorem dL_law_2616 : decode cL_law 2616 = .ok (.aload_n 3, 1) := by decide +kernel
theorem dL_law_2617 : decode cL_law 2617 = .ok (.iconst 0, 1) := by decide +kernel
theorem dL_law_2618 : decode cL_law 2618 = .ok (.laload, 1) := by decide +kernel
theorem dL_law_2619 : decode cL_law 2619 = .ok (.iload 7, 2) := by decide +kernel
theorem dL_law_2621 : decode cL_law 2621 = .ok (.i2l, 1) := by decide +kernel
theorem dL_law_2622 : decode cL_law 2622 = .ok (.lcmp, 1) := by decide +kernel
theorem dL_law_2623 : decode cL_law 2623 = .ok (.ifCond .eq 5, 3) := by decide +kernel
theorem dL_law_2626 : decode cL_law 2626 = .ok (.iconst 0, 1) := by decide +kernel
theorem dL_law_2627 : decode cL_law 2627 = .ok (.ireturn, 1) := by decide +kernel
theorem dL_law_2628 : decode cL_law 2628 = .ok (.goto 284, 3) := by decide +kernel
theorem dL_law_2631 : decode cL_law 2631 = .ok (.aload_n 1, 1) := by decide +kernel
theorem dL_law_2632 : decode cL_law 2632 = .ok (.aload_n 0, 1) := by decide +kernel
theorem dL_law_2633 : decode cL_law 2633 = .ok (.iload 5, 2) := by decide +kernel
theorem dL_law_2635 : decode cL_law 2635 = .ok (.iconst 1, 1) := by decide +kernel
theorem dL_law_2636 : decode cL_law 2636 = .ok (.iadd, 1) := by decide +kernel
theorem dL_law_2637 : decode cL_law 2637 = .ok (.iaload, 1) := by decide +kernel
theorem dL_law_2638 : decode cL_law 2638 = .ok (.aload 4, 2) := by decide +kernel
theorem dL_law_2640 : decode cL_law 2640 = .ok (.invokestatic 280, 3) := by decide +kernel
theorem dL_law_2643 : decode cL_law 2643 = .ok (.istore 6, 2) := by decide +kernel
theorem dL_law_2645 : decode cL_law 2645 = .ok (.aload_n 2, 1) := by decide +kernel
theorem dL_law_2646 : decode cL_law 2646 = .ok (.aload_n 0, 1) := by decide +kernel
theorem dL_law_2647 : decode cL_law 2647 = .ok (.iload 5, 2) := by decide +kernel
theorem dL_law_2649 : decode cL_law 2649 = .ok (.iconst 1, 1) := by decide +kernel
theorem dL_law_2650 : decode cL_law 2650 = .ok (.iadd, 1) := by decide +kernel
theorem dL_law_2651 : decode cL_law 2651 = .ok (.iaload, 1) := by decide +kernel
theorem dL_law_2652 : decode cL_law 2652 = .ok (.invokevirtual 283, 3) := by decide +kernel
theorem dL_law_2655 : decode cL_law 2655 = .ok (.dstore 7, 2) := by decide +kernel
theorem dL_law_2657 : decode cL_law 2657 = .ok (.aload_n 2, 1) := by decide +kernel
theorem dL_law_2658 : decode cL_law 2658 = .ok (.invokevirtual 157, 3) := by decide +kernel
theorem dL_law_2661 : decode cL_law 2661 = .ok (.iload 6, 2) := by decide +kernel
theorem dL_law_2663 : decode cL_law 2663 = .ok (.if_icmp .eq 5, 3) := by decide +kernel
theorem dL_law_2666 : decode cL_law 2666 = .ok (.iconst 0, 1) := by decide +kernel
theorem dL_law_2667 : decode cL_law 2667 = .ok (.ireturn, 1) := by decide +kernel
theorem dL_law_2668 : decode cL_law 2668 = .ok (.iload 6, 2) := by decide +kernel
theorem dL_law_2670 : decode cL_law 2670 = .ok (.ifCond .ne 35, 3) := by decide +kernel
theorem dL_law_2673 : decode cL_law 2673 = .ok (.aload 4, 2) := by decide +kernel
theorem dL_law_2675 : decode cL_law 2675 = .ok (.iconst 0, 1) := by decide +kernel
theorem dL_law_2676 : decode cL_law 2676 = .ok (.daload, 1) := by decide +kernel
theorem dL_law_2677 : decode cL_law 2677 = .ok (.dload 7, 2) := by decide +kernel
theorem dL_law_2679 : decode cL_law 2679 = .ok (.dcmp .l, 1) := by decide +kernel
theorem dL_law_2680 : decode cL_law 2680 = .ok (.ifCond .eq 25, 3) := by decide +kernel
theorem dL_law_2683 : decode cL_law 2683 = .ok (.aload 4, 2) := by decide +kernel
theorem dL_law_2685 : decode cL_law 2685 = .ok (.iconst 0, 1) := by decide +kernel
theorem dL_law_2686 : decode cL_law 2686 = .ok (.daload, 1) := by decide +kernel
theorem dL_law_2687 : decode cL_law 2687 = .ok (.aload 4, 2) := by decide +kernel
theorem dL_law_2689 : decode cL_law 2689 = .ok (.iconst 0, 1) := by decide +kernel
theorem dL_law_2690 : decode cL_law 2690 = .ok (.daload, 1) := by decide +kernel
theorem dL_law_2691 : decode cL_law 2691 = .ok (.dcmp .l, 1) := by decide +kernel
theorem dL_law_2692 : decode cL_law 2692 = .ok (.ifCond .eq 11, 3) := by decide +kernel
theorem dL_law_2695 : decode cL_law 2695 = .ok (.dload 7, 2) := by decide +kernel
theorem dL_law_2697 : decode cL_law 2697 = .ok (.dload 7, 2) := by decide +kernel
theorem dL_law_2699 : decode cL_law 2699 = .ok (.dcmp .l, 1) := by decide +kernel
theorem dL_law_2700 : decode cL_law 2700 = .ok (.ifCond .ne 5, 3) := by decide +kernel
theorem dL_law_2703 : decode cL_law 2703 = .ok (.iconst 0, 1) := by decide +kernel
theorem dL_law_2704 : decode cL_law 2704 = .ok (.ireturn, 1) := by decide +kernel
theorem dL_law_2705 : decode cL_law 2705 = .ok (.goto 207, 3) := by decide +kernel
theorem dL_law_2708 : decode cL_law 2708 = .ok (.aload_n 1, 1) := by decide +kernel
theorem dL_law_2709 : decode cL_law 2709 = .ok (.aload_n 0, 1) := by decide +kernel
theorem dL_law_2710 : decode cL_law 2710 = .ok (.iload 5, 2) := by decide +kernel
theorem dL_law_2712 : decode cL_law 2712 = .ok (.iconst 1, 1) := by decide +kernel
theorem dL_law_2713 : decode cL_law 2713 = .ok (.iadd, 1) := by decide +kernel
theorem dL_law_2714 : decode cL_law 2714 = .ok (.iaload, 1) := by decide +kernel
theorem dL_law_2715 : decode cL_law 2715 = .ok (.aload_n 0, 1) := by decide +kernel
theorem dL_law_2716 : decode cL_law 2716 = .ok (.iload 5, 2) := by decide +kernel
theorem dL_law_2718 : decode cL_law 2718 = .ok (.iconst 2, 1) := by decide +kernel
theorem dL_law_2719 : decode cL_law 2719 = .ok (.iadd, 1) := by decide +kernel
theorem dL_law_2720 : decode cL_law 2720 = .ok (.iaload, 1) := by decide +kernel
theorem dL_law_2721 : decode cL_law 2721 = .ok (.aload 4, 2) := by decide +kernel
theorem dL_law_2723 : decode cL_law 2723 = .ok (.invokestatic 284, 3) := by decide +kernel
theorem dL_law_2726 : decode cL_law 2726 = .ok (.istore 6, 2) := by decide +kernel
theorem dL_law_2728 : decode cL_law 2728 = .ok (.aload_n 2, 1) := by decide +kernel
theorem dL_law_2729 : decode cL_law 2729 = .ok (.aload_n 0, 1) := by decide +kernel
theorem dL_law_2730 : decode cL_law 2730 = .ok (.iload 5, 2) := by decide +kernel
theorem dL_law_2732 : decode cL_law 2732 = .ok (.iconst 1, 1) := by decide +kernel
theorem dL_law_2733 : decode cL_law 2733 = .ok (.iadd, 1) := by decide +kernel
theorem dL_law_2734 : decode cL_law 2734 = .ok (.iaload, 1) := by decide +kernel
theorem dL_law_2735 : decode cL_law 2735 = .ok (.aload_n 0, 1) := by decide +kernel
theorem dL_law_2736 : decode cL_law 2736 = .ok (.iload 5, 2) := by decide +kernel
theorem dL_law_2738 : decode cL_law 2738 = .ok (.iconst 2, 1) := by decide +kernel
theorem dL_law_2739 : decode cL_law 2739 = .ok (.iadd, 1) := by decide +kernel
theorem dL_law_2740 : decode cL_law 2740 = .ok (.iaload, 1) := by decide +kernel
theorem dL_law_2741 : decode cL_law 2741 = .ok (.invokevirtual 287, 3) := by decide +kernel
theorem dL_law_2744 : decode cL_law 2744 = .ok (.fstore 7, 2) := by decide +kernel
theorem dL_law_2746 : decode cL_law 2746 = .ok (.aload_n 2, 1) := by decide +kernel
theorem dL_law_2747 : decode cL_law 2747 = .ok (.invokevirtual 157, 3) := by decide +kernel
theorem dL_law_2750 : decode cL_law 2750 = .ok (.iload 6, 2) := by decide +kernel
theorem dL_law_2752 : decode cL_law 2752 = .ok (.if_icmp .eq 5, 3) := by decide +kernel
theorem dL_law_2755 : decode cL_law 2755 = .ok (.iconst 0, 1) := by decide +kernel
theorem dL_law_2756 : decode cL_law 2756 = .ok (.ireturn, 1) := by decide +kernel
theorem dL_law_2757 : decode cL_law 2757 = .ok (.iload 6, 2) := by decide +kernel
theorem dL_law_2759 : decode cL_law 2759 = .ok (.ifCond .ne 36, 3) := by decide +kernel
theorem dL_law_2762 : decode cL_law 2762 = .ok (.aload 4, 2) := by decide +kernel
theorem dL_law_2764 : decode cL_law 2764 = .ok (.iconst 0, 1) := by decide +kernel
theorem dL_law_2765 : decode cL_law 2765 = .ok (.daload, 1) := by decide +kernel
theorem dL_law_2766 : decode cL_law 2766 = .ok (.fload 7, 2) := by decide +kernel
theorem dL_law_2768 : decode cL_law 2768 = .ok (.f2d, 1) := by decide +kernel
theorem dL_law_2769 : decode cL_law 2769 = .ok (.dcmp .l, 1) := by decide +kernel
theorem dL_law_2770 : decode cL_law 2770 = .ok (.ifCond .eq 25, 3) := by decide +kernel
theorem dL_law_2773 : decode cL_law 2773 = .ok (.aload 4, 2) := by decide +kernel
theorem dL_law_2775 : decode cL_law 2775 = .ok (.iconst 0, 1) := by decide +kernel
theorem dL_law_2776 : decode cL_law 2776 = .ok (.daload, 1) := by decide +kernel
theorem dL_law_2777 : decode cL_law 2777 = .ok (.aload 4, 2) := by decide +kernel
theorem dL_law_2779 : decode cL_law 2779 = .ok (.iconst 0, 1) := by decide +kernel
theorem dL_law_2780 : decode cL_law 2780 = .ok (.daload, 1) := by decide +kernel
theorem dL_law_2781 : decode cL_law 2781 = .ok (.dcmp .l, 1) := by decide +kernel
theorem dL_law_2782 : decode cL_law 2782 = .ok (.ifCond .eq 11, 3) := by decide +kernel
theorem dL_law_2785 : decode cL_law 2785 = .ok (.fload 7, 2) := by decide +kernel
theorem dL_law_2787 : decode cL_law 2787 = .ok (.fload 7, 2) := by decide +kernel
theorem dL_law_2789 : decode cL_law 2789 = .ok (.fcmp .l, 1) := by decide +kernel
theorem dL_law_2790 : decode cL_law 2790 = .ok (.ifCond .ne 5, 3) := by decide +kernel
theorem dL_law_2793 : decode cL_law 2793 = .ok (.iconst 0, 1) := by decide +kernel
theorem dL_law_2794 : decode cL_law 2794 = .ok (.ireturn, 1) := by decide +kernel
theorem dL_law_2795 : decode cL_law 2795 = .ok (.goto 117, 3) := by decide +kernel
theorem dL_law_2798 : decode cL_law 2798 = .ok (.aload_n 1, 1) := by decide +kernel
theorem dL_law_2799 : decode cL_law 2799 = .ok (.invokevirtual 288, 3) := by decide +kernel
theorem dL_law_2802 : decode cL_law 2802 = .ok (.aload_n 2, 1) := by decide +kernel
theorem dL_law_2803 : decode cL_law 2803 = .ok (.invokevirtual 292, 3) := by decide +kernel
theorem dL_law_2806 : decode cL_law 2806 = .ok (.if_icmp .eq 106, 3) := by decide +kernel
theorem dL_law_2809 : decode cL_law 2809 = .ok (.iconst 0, 1) := by decide +kernel
theorem dL_law_2810 : decode cL_law 2810 = .ok (.ireturn, 1) := by decide +kernel
theorem dL_law_2811 : decode cL_law 2811 = .ok (.aload_n 1, 1) := by decide +kernel
theorem dL_law_2812 : decode cL_law 2812 = .ok (.aload_n 3, 1) := by decide +kernel
theorem dL_law_2813 : decode cL_law 2813 = .ok (.invokestatic 293, 3) := by decide +kernel
theorem dL_law_2816 : decode cL_law 2816 = .ok (.istore 6, 2) := by decide +kernel
theorem dL_law_2818 : decode cL_law 2818 = .ok (.aload_n 2, 1) := by decide +kernel
theorem dL_law_2819 : decode cL_law 2819 = .ok (.invokevirtual 295, 3) := by decide +kernel
theorem dL_law_2822 : decode cL_law 2822 = .ok (.istore 7, 2) := by decide +kernel
theorem dL_law_2824 : decode cL_law 2824 = .ok (.aload_n 2, 1) := by decide +kernel
theorem dL_law_2825 : decode cL_law 2825 = .ok (.invokevirtual 157, 3) := by decide +kernel
theorem dL_law_2828 : decode cL_law 2828 = .ok (.iload 6, 2) := by decide +kernel
theorem dL_law_2830 : decode cL_law 2830 = .ok (.if_icmp .eq 5, 3) := by decide +kernel
theorem dL_law_2833 : decode cL_law 2833 = .ok (.iconst 0, 1) := by decide +kernel
theorem dL_law_2834 : decode cL_law 2834 = .ok (.ireturn, 1) := by decide +kernel
theorem dL_law_2835 : decode cL_law 2835 = .ok (.iload 6, 2) := by decide +kernel
theorem dL_law_2837 : decode cL_law 2837 = .ok (.ifCond .ne 15, 3) := by decide +kernel
theorem dL_law_2840 : decode cL_law 2840 = .ok (.aload_n 3, 1) := by decide +kernel
theorem dL_law_2841 : decode cL_law 2841 = .ok (.iconst 0, 1) := by decide +kernel
theorem dL_law_2842 : decode cL_law 2842 = .ok (.laload, 1) := by decide +kernel
theorem dL_law_2843 : decode cL_law 2843 = .ok (.iload 7, 2) := by decide +kernel
theorem dL_law_2845 : decode cL_law 2845 = .ok (.i2l, 1) := by decide +kernel
theorem dL_law_2846 : decode cL_law 2846 = .ok (.lcmp, 1) := by decide +kernel
theorem dL_law_2847 : decode cL_law 2847 = .ok (.ifCond .eq 5, 3) := by decide +kernel
theorem dL_law_2850 : decode cL_law 2850 = .ok (.iconst 0, 1) := by decide +kernel
theorem dL_law_2851 : decode cL_law 2851 = .ok (.ireturn, 1) := by decide +kernel
theorem dL_law_2852 : decode cL_law 2852 = .ok (.goto 60, 3) := by decide +kernel
theorem dL_law_2855 : decode cL_law 2855 = .ok (.aload_n 1, 1) := by decide +kernel
theorem dL_law_2856 : decode cL_law 2856 = .ok (.invokevirtual 296, 3) := by decide +kernel
theorem dL_law_2859 : decode cL_law 2859 = .ok (.aload_n 2, 1) := by decide +kernel
theorem dL_law_2860 : decode cL_law 2860 = .ok (.invokevirtual 299, 3) := by decide +kernel
theorem dL_law_2863 : decode cL_law 2863 = .ok (.if_icmp .eq 49, 3) := by decide +kernel
theorem dL_law_2866 : decode cL_law 2866 = .ok (.iconst 0, 1) := by decide +kernel
theorem dL_law_2867 : decode cL_law 2867 = .ok (.ireturn, 1) := by decide +kernel
theorem dL_law_2868 : decode cL_law 2868 = .ok (.aload_n 1, 1) := by decide +kernel
theorem dL_law_2869 : decode cL_law 2869 = .ok (.aload_n 3, 1) := by decide +kernel
theorem dL_law_2870 : decode cL_law 2870 = .ok (.invokestatic 300, 3) := by decide +kernel
theorem dL_law_2873 : decode cL_law 2873 = .ok (.istore 6, 2) := by decide +kernel
theorem dL_law_2875 : decode cL_law 2875 = .ok (.aload_n 2, 1) := by decide +kernel
theorem dL_law_2876 : decode cL_law 2876 = .ok (.invokevirtual 302, 3) := by decide +kernel
theorem dL_law_2879 : decode cL_law 2879 = .ok (.istore 7, 2) := by decide +kernel
theorem dL_law_2881 : decode cL_law 2881 = .ok (.aload_n 2, 1) := by decide +kernel
theorem dL_law_2882 : decode cL_law 2882 = .ok (.invokevirtual 157, 3) := by decide +kernel
theorem dL_law_2885 : decode cL_law 2885 = .ok (.iload 6, 2) := by decide +kernel
theorem dL_law_2887 : decode cL_law 2887 = .ok (.if_icmp .eq 5, 3) := by decide +kernel
theorem dL_law_2890 : decode cL_law 2890 = .ok (.iconst 0, 1) := by decide +kernel
theorem dL_law_2891 : decode cL_law 2891 = .ok (.ireturn, 1) := by decide +kernel
theorem dL_law_2892 : decode cL_law 2892 = .ok (.iload 6, 2) := by decide +kernel
theorem dL_law_2894 : decode cL_law 2894 = .ok (.ifCond .ne 15, 3) := by decide +kernel
theorem dL_law_2897 : decode cL_law 2897 = .ok (.aload_n 3, 1) := by decide +kernel
theorem dL_law_2898 : decode cL_law 2898 = .ok (.iconst 0, 1) := by decide +kernel
theorem dL_law_2899 : decode cL_law 2899 = .ok (.laload, 1) := by decide +kernel
theorem dL_law_2900 : decode cL_law 2900 = .ok (.iload 7, 2) := by decide +kernel
theorem dL_law_2902 : decode cL_law 2902 = .ok (.i2l, 1) := by decide +kernel
theorem dL_law_2903 : decode cL_law 2903 = .ok (.lcmp, 1) := by decide +kernel
theorem dL_law_2904 : decode cL_law 2904 = .ok (.ifCond .eq 5, 3) := by decide +kernel
theorem dL_law_2907 : decode cL_law 2907 = .ok (.iconst 0, 1) := by decide +kernel
theorem dL_law_2908 : decode cL_law 2908 = .ok (.ireturn, 1) := by decide +kernel
theorem dL_law_2909 : decode cL_law 2909 = .ok (.goto 3, 3) := by decide +kernel
theorem dL_law_2912 : decode cL_law 2912 = .ok (.iinc 5 5, 3) := by decide +kernel
theorem dL_law_2915 : decode cL_law 2915 = .ok (.goto (-2887), 3) := by decide +kernel
theorem dL_law_2918 : decode cL_law 2918 = .ok (.iconst 1, 1) := by decide +kernel
theorem dL_law_2919 : decode cL_law 2919 = .ok (.ireturn, 1) := by decide +kernel

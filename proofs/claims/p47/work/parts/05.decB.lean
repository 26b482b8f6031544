theorem dX4_exchange_0 : decode cX4_exchange 0 = .ok (.aload_n 0, 1) := by decide +kernel
theorem dX4_exchange_1 : decode cX4_exchange 1 = .ok (.bipush 6, 2) := by decide +kernel
theorem dX4_exchange_3 : decode cX4_exchange 3 = .ok (.iload_n 1, 1) := by decide +kernel
theorem dX4_exchange_4 : decode cX4_exchange 4 = .ok (.iload_n 2, 1) := by decide +kernel
theorem dX4_exchange_5 : decode cX4_exchange 5 = .ok (.iconst 0, 1) := by decide +kernel
theorem dX4_exchange_6 : decode cX4_exchange 6 = .ok (.iconst 0, 1) := by decide +kernel
theorem dX4_exchange_7 : decode cX4_exchange 7 = .ok (.invokevirtual 55, 3) := by decide +kernel
theorem dX4_exchange_10 : decode cX4_exchange 10 = .ok (.ireturn, 1) := by decide +kernel
theorem dX4_flip_0 : decode cX4_flip 0 = .ok (.aload_n 0, 1) := by decide +kernel
theorem dX4_flip_1 : decode cX4_flip 1 = .ok (.bipush 7, 2) := by decide +kernel
theorem dX4_flip_3 : decode cX4_flip 3 = .ok (.iload_n 1, 1) := by decide +kernel
theorem dX4_flip_4 : decode cX4_flip 4 = .ok (.iload_n 2, 1) := by decide +kernel
theorem dX4_flip_5 : decode cX4_flip 5 = .ok (.iload_n 3, 1) := by decide +kernel
theorem dX4_flip_6 : decode cX4_flip 6 = .ok (.iconst 0, 1) := by decide +kernel
theorem dX4_flip_7 : decode cX4_flip 7 = .ok (.invokevirtual 55, 3) := by decide +kernel
theorem dX4_flip_10 : decode cX4_flip 10 = .ok (.ireturn, 1) := by decide +kernel
theorem dX4_dye_0 : decode cX4_dye 0 = .ok (.aload_n 0, 1) := by decide +kernel
theorem dX4_dye_1 : decode cX4_dye 1 = .ok (.bipush 8, 2) := by decide +kernel
theorem dX4_dye_3 : decode cX4_dye 3 = .ok (.iload_n 1, 1) := by decide +kernel
theorem dX4_dye_4 : decode cX4_dye 4 = .ok (.iload_n 2, 1) := by decide +kernel
theorem dX4_dye_5 : decode cX4_dye 5 = .ok (.iload_n 3, 1) := by decide +kernel
theorem dX4_dye_6 : decode cX4_dye 6 = .ok (.iload 4, 2) := by decide +kernel
theorem dX4_dye_8 : decode cX4_dye 8 = .ok (.invokevirtual 55, 3) := by decide +kernel
theorem dX4_dye_11 : decode cX4_dye 11 = .ok (.ireturn, 1) := by decide +kernel
theorem dX4_reelLength_0 : decode cX4_reelLength 0 = .ok (.iload_n 1, 1) := by decide +kernel
theorem dX4_reelLength_1 : decode cX4_reelLength 1 = .ok (.invokestatic 59, 3) := by decide +kernel
theorem dX4_reelLength_4 : decode cX4_reelLength 4 = .ok (.invokestatic 63, 3) := by decide +kernel
theorem dX4_reelLength_7 : decode cX4_reelLength 7 = .ok (.aload_n 0, 1) := by decide +kernel
theorem dX4_reelLength_8 : decode cX4_reelLength 8 = .ok (.getfield 12, 3) := by decide +kernel
theorem dX4_reelLength_11 : decode cX4_reelLength 11 = .ok (.iload_n 1, 1) := by decide +kernel
theorem dX4_reelLength_12 : decode cX4_reelLength 12 = .ok (.invokevirtual 80, 3) := by decide +kernel
theorem dX4_reelLength_15 : decode cX4_reelLength 15 = .ok (.ireturn, 1) := by decide +kernel
theorem dX4_lengthBefore_0 : decode cX4_lengthBefore 0 = .ok (.aload_n 0, 1) := by decide +kernel
theorem dX4_lengthBefore_1 : decode cX4_lengthBefore 1 = .ok (.iload_n 1, 1) := by decide +kernel
theorem dX4_lengthBefore_2 : decode cX4_lengthBefore 2 = .ok (.iload_n 2, 1) := by decide +kernel
theorem dX4_lengthBefore_3 : decode cX4_lengthBefore 3 = .ok (.invokevirtual 83, 3) := by decide +kernel
theorem dX4_lengthBefore_6 : decode cX4_lengthBefore 6 = .ok (.invokestatic 63, 3) := by decide +kernel
theorem dX4_lengthBefore_9 : decode cX4_lengthBefore 9 = .ok (.aload_n 0, 1) := by decide +kernel
theorem dX4_lengthBefore_10 : decode cX4_lengthBefore 10 = .ok (.getfield 12, 3) := by decide +kernel
theorem dX4_lengthBefore_13 : decode cX4_lengthBefore 13 = .ok (.iload_n 1, 1) := by decide +kernel
theorem dX4_lengthBefore_14 : decode cX4_lengthBefore 14 = .ok (.iload_n 2, 1) := by decide +kernel
theorem dX4_lengthBefore_15 : decode cX4_lengthBefore 15 = .ok (.invokevirtual 86, 3) := by decide +kernel
theorem dX4_lengthBefore_18 : decode cX4_lengthBefore 18 = .ok (.ireturn, 1) := by decide +kernel
theorem dX4_lengthBeforeByScan_0 : decode cX4_lengthBeforeByScan 0 = .ok (.aload_n 0, 1) := by decide +kernel
theorem dX4_lengthBeforeByScan_1 : decode cX4_lengthBeforeByScan 1 = .ok (.iload_n 1, 1) := by decide +kernel
theorem dX4_lengthBeforeByScan_2 : decode cX4_lengthBeforeByScan 2 = .ok (.iload_n 2, 1) := by decide +kernel
theorem dX4_lengthBeforeByScan_3 : decode cX4_lengthBeforeByScan 3 = .ok (.invokevirtual 83, 3) := by decide +kernel
theorem dX4_lengthBeforeByScan_6 : decode cX4_lengthBeforeByScan 6 = .ok (.invokestatic 63, 3) := by decide +kernel
theorem dX4_lengthBeforeByScan_9 : decode cX4_lengthBeforeByScan 9 = .ok (.aload_n 0, 1) := by decide +kernel
theorem dX4_lengthBeforeByScan_10 : decode cX4_lengthBeforeByScan 10 = .ok (.getfield 12, 3) := by decide +kernel
theorem dX4_lengthBeforeByScan_13 : decode cX4_lengthBeforeByScan 13 = .ok (.iload_n 1, 1) := by decide +kernel
theorem dX4_lengthBeforeByScan_14 : decode cX4_lengthBeforeByScan 14 = .ok (.iconst 0, 1) := by decide +kernel
theorem dX4_lengthBeforeByScan_15 : decode cX4_lengthBeforeByScan 15 = .ok (.iload_n 2, 1) := by decide +kernel
theorem dX4_lengthBeforeByScan_16 : decode cX4_lengthBeforeByScan 16 = .ok (.iconst 1, 1) := by decide +kernel
theorem dX4_lengthBeforeByScan_17 : decode cX4_lengthBeforeByScan 17 = .ok (.isub, 1) := by decide +kernel
theorem dX4_lengthBeforeByScan_18 : decode cX4_lengthBeforeByScan 18 = .ok (.invokevirtual 89, 3) := by decide +kernel
theorem dX4_lengthBeforeByScan_21 : decode cX4_lengthBeforeByScan 21 = .ok (.ireturn, 1) := by decide +kernel
theorem dX4_positionAt_0 : decode cX4_positionAt 0 = .ok (.iload_n 1, 1) := by decide +kernel
theorem dX4_positionAt_1 : decode cX4_positionAt 1 = .ok (.invokestatic 59, 3) := by decide +kernel
theorem dX4_positionAt_4 : decode cX4_positionAt 4 = .ok (.invokestatic 63, 3) := by decide +kernel
theorem dX4_positionAt_7 : decode cX4_positionAt 7 = .ok (.aload_n 0, 1) := by decide +kernel
theorem dX4_positionAt_8 : decode cX4_positionAt 8 = .ok (.getfield 12, 3) := by decide +kernel
theorem dX4_positionAt_11 : decode cX4_positionAt 11 = .ok (.iload_n 1, 1) := by decide +kernel
theorem dX4_positionAt_12 : decode cX4_positionAt 12 = .ok (.iload_n 2, 1) := by decide +kernel
theorem dX4_positionAt_13 : decode cX4_positionAt 13 = .ok (.invokevirtual 93, 3) := by decide +kernel
theorem dX4_positionAt_16 : decode cX4_positionAt 16 = .ok (.invokestatic 96, 3) := by decide +kernel
theorem dX4_positionAt_19 : decode cX4_positionAt 19 = .ok (.ireturn, 1) := by decide +kernel
theorem dX4_rangeLength_0 : decode cX4_rangeLength 0 = .ok (.aload_n 0, 1) := by decide +kernel
theorem dX4_rangeLength_1 : decode cX4_rangeLength 1 = .ok (.iload_n 1, 1) := by decide +kernel
theorem dX4_rangeLength_2 : decode cX4_rangeLength 2 = .ok (.iload_n 2, 1) := by decide +kernel
theorem dX4_rangeLength_3 : decode cX4_rangeLength 3 = .ok (.iload_n 3, 1) := by decide +kernel
theorem dX4_rangeLength_4 : decode cX4_rangeLength 4 = .ok (.invokevirtual 99, 3) := by decide +kernel
theorem dX4_rangeLength_7 : decode cX4_rangeLength 7 = .ok (.invokestatic 63, 3) := by decide +kernel
theorem dX4_rangeLength_10 : decode cX4_rangeLength 10 = .ok (.aload_n 0, 1) := by decide +kernel
theorem dX4_rangeLength_11 : decode cX4_rangeLength 11 = .ok (.getfield 12, 3) := by decide +kernel
theorem dX4_rangeLength_14 : decode cX4_rangeLength 14 = .ok (.iload_n 1, 1) := by decide +kernel
theorem dX4_rangeLength_15 : decode cX4_rangeLength 15 = .ok (.iload_n 2, 1) := by decide +kernel
theorem dX4_rangeLength_16 : decode cX4_rangeLength 16 = .ok (.iload_n 3, 1) := by decide +kernel
theorem dX4_rangeLength_17 : decode cX4_rangeLength 17 = .ok (.invokevirtual 89, 3) := by decide +kernel
theorem dX4_rangeLength_20 : decode cX4_rangeLength 20 = .ok (.ireturn, 1) := by decide +kernel
theorem dX4_longestInRange_0 : decode cX4_longestInRange 0 = .ok (.aload_n 0, 1) := by decide +kernel
theorem dX4_longestInRange_1 : decode cX4_longestInRange 1 = .ok (.iload_n 1, 1) := by decide +kernel
theorem dX4_longestInRange_2 : decode cX4_longestInRange 2 = .ok (.iload_n 2, 1) := by decide +kernel
theorem dX4_longestInRange_3 : decode cX4_longestInRange 3 = .ok (.iload_n 3, 1) := by decide +kernel
theorem dX4_longestInRange_4 : decode cX4_longestInRange 4 = .ok (.invokevirtual 99, 3) := by decide +kernel
theorem dX4_longestInRange_7 : decode cX4_longestInRange 7 = .ok (.invokestatic 63, 3) := by decide +kernel
theorem dX4_longestInRange_10 : decode cX4_longestInRange 10 = .ok (.aload_n 0, 1) := by decide +kernel
theorem dX4_longestInRange_11 : decode cX4_longestInRange 11 = .ok (.getfield 12, 3) := by decide +kernel
theorem dX4_longestInRange_14 : decode cX4_longestInRange 14 = .ok (.iload_n 1, 1) := by decide +kernel
theorem dX4_longestInRange_15 : decode cX4_longestInRange 15 = .ok (.iload_n 2, 1) := by decide +kernel
theorem dX4_longestInRange_16 : decode cX4_longestInRange 16 = .ok (.iload_n 3, 1) := by decide +kernel
theorem dX4_longestInRange_17 : decode cX4_longestInRange 17 = .ok (.invokevirtual 102, 3) := by decide +kernel
theorem dX4_longestInRange_20 : decode cX4_longestInRange 20 = .ok (.ireturn, 1) := by decide +kernel
theorem dX4_segmentAtRank_0 : decode cX4_segmentAtRank 0 = .ok (.iload_n 1, 1) := by decide +kernel
theorem dX4_segmentAtRank_1 : decode cX4_segmentAtRank 1 = .ok (.invokestatic 59, 3) := by decide +kernel
theorem dX4_segmentAtRank_4 : decode cX4_segmentAtRank 4 = .ok (.invokestatic 63, 3) := by decide +kernel
theorem dX4_segmentAtRank_7 : decode cX4_segmentAtRank 7 = .ok (.aload_n 0, 1) := by decide +kernel
theorem dX4_segmentAtRank_8 : decode cX4_segmentAtRank 8 = .ok (.getfield 12, 3) := by decide +kernel
theorem dX4_segmentAtRank_11 : decode cX4_segmentAtRank 11 = .ok (.iload_n 1, 1) := by decide +kernel
theorem dX4_segmentAtRank_12 : decode cX4_segmentAtRank 12 = .ok (.iload_n 2, 1) := by decide +kernel
theorem dX4_segmentAtRank_13 : decode cX4_segmentAtRank 13 = .ok (.invokevirtual 105, 3) := by decide +kernel
theorem dX4_segmentAtRank_16 : decode cX4_segmentAtRank 16 = .ok (.invokestatic 96, 3) := by decide +kernel
theorem dX4_segmentAtRank_19 : decode cX4_segmentAtRank 19 = .ok (.ireturn, 1) := by decide +kernel
theorem dX4_totalLength_0 : decode cX4_totalLength 0 = .ok (.lconst 0, 1) := by decide +kernel
theorem dX4_totalLength_1 : decode cX4_totalLength 1 = .ok (.lstore_n 1, 1) := by decide +kernel
theorem dX4_totalLength_2 : decode cX4_totalLength 2 = .ok (.iconst 0, 1) := by decide +kernel
theorem dX4_totalLength_3 : decode cX4_totalLength 3 = .ok (.istore_n 3, 1) := by decide +kernel
theorem dX4_totalLength_4 : decode cX4_totalLength 4 = .ok (.iload_n 3, 1) := by decide +kernel
theorem dX4_totalLength_5 : decode cX4_totalLength 5 = .ok (.iconst 4, 1) := by decide +kernel
theorem dX4_totalLength_6 : decode cX4_totalLength 6 = .ok (.if_icmp .ge 21, 3) := by decide +kernel
theorem dX4_totalLength_9 : decode cX4_totalLength 9 = .ok (.lload_n 1, 1) := by decide +kernel
theorem dX4_totalLength_10 : decode cX4_totalLength 10 = .ok (.aload_n 0, 1) := by decide +kernel
theorem dX4_totalLength_11 : decode cX4_totalLength 11 = .ok (.getfield 12, 3) := by decide +kernel
theorem dX4_totalLength_14 : decode cX4_totalLength 14 = .ok (.iload_n 3, 1) := by decide +kernel
theorem dX4_totalLength_15 : decode cX4_totalLength 15 = .ok (.invokevirtual 80, 3) := by decide +kernel
theorem dX4_totalLength_18 : decode cX4_totalLength 18 = .ok (.i2l, 1) := by decide +kernel
theorem dX4_totalLength_19 : decode cX4_totalLength 19 = .ok (.ladd, 1) := by decide +kernel
theorem dX4_totalLength_20 : decode cX4_totalLength 20 = .ok (.lstore_n 1, 1) := by decide +kernel
theorem dX4_totalLength_21 : decode cX4_totalLength 21 = .ok (.iinc 3 1, 3) := by decide +kernel
theorem dX4_totalLength_24 : decode cX4_totalLength 24 = .ok (.goto (-20), 3) := by decide +kernel
theorem dX4_totalLength_27 : decode cX4_totalLength 27 = .ok (.lload_n 1, 1) := by decide +kernel
theorem dX4_totalLength_28 : decode cX4_totalLength 28 = .ok (.lreturn, 1) := by decide +kernel
theorem dX4_tangleCount_0 : decode cX4_tangleCount 0 = .ok (.iload_n 1, 1) := by decide +kernel
theorem dX4_tangleCount_1 : decode cX4_tangleCount 1 = .ok (.invokestatic 59, 3) := by decide +kernel
theorem dX4_tangleCount_4 : decode cX4_tangleCount 4 = .ok (.invokestatic 63, 3) := by decide +kernel
theorem dX4_tangleCount_7 : decode cX4_tangleCount 7 = .ok (.aload_n 0, 1) := by decide +kernel
theorem dX4_tangleCount_8 : decode cX4_tangleCount 8 = .ok (.getfield 12, 3) := by decide +kernel
theorem dX4_tangleCount_11 : decode cX4_tangleCount 11 = .ok (.iload_n 1, 1) := by decide +kernel
theorem dX4_tangleCount_12 : decode cX4_tangleCount 12 = .ok (.invokevirtual 108, 3) := by decide +kernel
theorem dX4_tangleCount_15 : decode cX4_tangleCount 15 = .ok (.ireturn, 1) := by decide +kernel
theorem dX4_tangleCountByScan_0 : decode cX4_tangleCountByScan 0 = .ok (.iload_n 1, 1) := by decide +kernel
theorem dX4_tangleCountByScan_1 : decode cX4_tangleCountByScan 1 = .ok (.invokestatic 59, 3) := by decide +kernel
theorem dX4_tangleCountByScan_4 : decode cX4_tangleCountByScan 4 = .ok (.invokestatic 63, 3) := by decide +kernel
theorem dX4_tangleCountByScan_7 : decode cX4_tangleCountByScan 7 = .ok (.aload_n 0, 1) := by decide +kernel
theorem dX4_tangleCountByScan_8 : decode cX4_tangleCountByScan 8 = .ok (.getfield 12, 3) := by decide +kernel
theorem dX4_tangleCountByScan_11 : decode cX4_tangleCountByScan 11 = .ok (.iload_n 1, 1) := by decide +kernel
theorem dX4_tangleCountByScan_12 : decode cX4_tangleCountByScan 12 = .ok (.invokevirtual 111, 3) := by decide +kernel
theorem dX4_tangleCountByScan_15 : decode cX4_tangleCountByScan 15 = .ok (.ireturn, 1) := by decide +kernel
theorem dX4_isTangled_0 : decode cX4_isTangled 0 = .ok (.aload_n 0, 1) := by decide +kernel
theorem dX4_isTangled_1 : decode cX4_isTangled 1 = .ok (.iload_n 1, 1) := by decide +kernel
theorem dX4_isTangled_2 : decode cX4_isTangled 2 = .ok (.iload_n 2, 1) := by decide +kernel
theorem dX4_isTangled_3 : decode cX4_isTangled 3 = .ok (.invokevirtual 70, 3) := by decide +kernel
theorem dX4_isTangled_6 : decode cX4_isTangled 6 = .ok (.invokestatic 63, 3) := by decide +kernel
theorem dX4_isTangled_9 : decode cX4_isTangled 9 = .ok (.aload_n 0, 1) := by decide +kernel
theorem dX4_isTangled_10 : decode cX4_isTangled 10 = .ok (.getfield 12, 3) := by decide +kernel
theorem dX4_isTangled_13 : decode cX4_isTangled 13 = .ok (.iload_n 1, 1) := by decide +kernel
theorem dX4_isTangled_14 : decode cX4_isTangled 14 = .ok (.iload_n 2, 1) := by decide +kernel
theorem dX4_isTangled_15 : decode cX4_isTangled 15 = .ok (.iconst 1, 1) := by decide +kernel
theorem dX4_isTangled_16 : decode cX4_isTangled 16 = .ok (.isub, 1) := by decide +kernel
theorem dX4_isTangled_17 : decode cX4_isTangled 17 = .ok (.invokevirtual 114, 3) := by decide +kernel
theorem dX4_isTangled_20 : decode cX4_isTangled 20 = .ok (.ifCond .ne 15, 3) := by decide +kernel
theorem dX4_isTangled_23 : decode cX4_isTangled 23 = .ok (.aload_n 0, 1) := by decide +kernel
theorem dX4_isTangled_24 : decode cX4_isTangled 24 = .ok (.getfield 12, 3) := by decide +kernel
theorem dX4_isTangled_27 : decode cX4_isTangled 27 = .ok (.iload_n 1, 1) := by decide +kernel
theorem dX4_isTangled_28 : decode cX4_isTangled 28 = .ok (.iload_n 2, 1) := by decide +kernel
theorem dX4_isTangled_29 : decode cX4_isTangled 29 = .ok (.invokevirtual 114, 3) := by decide +kernel
theorem dX4_isTangled_32 : decode cX4_isTangled 32 = .ok (.ifCond .eq 7, 3) := by decide +kernel
theorem dX4_isTangled_35 : decode cX4_isTangled 35 = .ok (.iconst 1, 1) := by decide +kernel
theorem dX4_isTangled_36 : decode cX4_isTangled 36 = .ok (.goto 4, 3) := by decide +kernel
theorem dX4_isTangled_39 : decode cX4_isTangled 39 = .ok (.iconst 0, 1) := by decide +kernel
theorem dX4_isTangled_40 : decode cX4_isTangled 40 = .ok (.ireturn, 1) := by decide +kernel
theorem dX4_longestRun_0 : decode cX4_longestRun 0 = .ok (.iload_n 1, 1) := by decide +kernel
theorem dX4_longestRun_1 : decode cX4_longestRun 1 = .ok (.invokestatic 59, 3) := by decide +kernel
theorem dX4_longestRun_4 : decode cX4_longestRun 4 = .ok (.invokestatic 63, 3) := by decide +kernel
theorem dX4_longestRun_7 : decode cX4_longestRun 7 = .ok (.aload_n 0, 1) := by decide +kernel
theorem dX4_longestRun_8 : decode cX4_longestRun 8 = .ok (.getfield 12, 3) := by decide +kernel
theorem dX4_longestRun_11 : decode cX4_longestRun 11 = .ok (.iload_n 1, 1) := by decide +kernel
theorem dX4_longestRun_12 : decode cX4_longestRun 12 = .ok (.invokevirtual 118, 3) := by decide +kernel
theorem dX4_longestRun_15 : decode cX4_longestRun 15 = .ok (.ireturn, 1) := by decide +kernel
theorem dX4_nextOfColour_0 : decode cX4_nextOfColour 0 = .ok (.aload_n 0, 1) := by decide +kernel
theorem dX4_nextOfColour_1 : decode cX4_nextOfColour 1 = .ok (.iload_n 1, 1) := by decide +kernel
theorem dX4_nextOfColour_2 : decode cX4_nextOfColour 2 = .ok (.iload_n 2, 1) := by decide +kernel
theorem dX4_nextOfColour_3 : decode cX4_nextOfColour 3 = .ok (.invokevirtual 70, 3) := by decide +kernel
theorem dX4_nextOfColour_6 : decode cX4_nextOfColour 6 = .ok (.invokestatic 63, 3) := by decide +kernel
theorem dX4_nextOfColour_9 : decode cX4_nextOfColour 9 = .ok (.iload_n 3, 1) := by decide +kernel
theorem dX4_nextOfColour_10 : decode cX4_nextOfColour 10 = .ok (.invokestatic 121, 3) := by decide +kernel
theorem dX4_nextOfColour_13 : decode cX4_nextOfColour 13 = .ok (.invokestatic 63, 3) := by decide +kernel
theorem dX4_nextOfColour_16 : decode cX4_nextOfColour 16 = .ok (.aload_n 0, 1) := by decide +kernel
theorem dX4_nextOfColour_17 : decode cX4_nextOfColour 17 = .ok (.getfield 12, 3) := by decide +kernel
theorem dX4_nextOfColour_20 : decode cX4_nextOfColour 20 = .ok (.iload_n 1, 1) := by decide +kernel
theorem dX4_nextOfColour_21 : decode cX4_nextOfColour 21 = .ok (.iload_n 2, 1) := by decide +kernel
theorem dX4_nextOfColour_22 : decode cX4_nextOfColour 22 = .ok (.iload_n 3, 1) := by decide +kernel
theorem dX4_nextOfColour_23 : decode cX4_nextOfColour 23 = .ok (.invokevirtual 124, 3) := by decide +kernel
theorem dX4_nextOfColour_26 : decode cX4_nextOfColour 26 = .ok (.invokestatic 96, 3) := by decide +kernel
theorem dX4_nextOfColour_29 : decode cX4_nextOfColour 29 = .ok (.ireturn, 1) := by decide +kernel
theorem dX4_colourLength_0 : decode cX4_colourLength 0 = .ok (.iload_n 1, 1) := by decide +kernel
theorem dX4_colourLength_1 : decode cX4_colourLength 1 = .ok (.invokestatic 59, 3) := by decide +kernel
theorem dX4_colourLength_4 : decode cX4_colourLength 4 = .ok (.invokestatic 63, 3) := by decide +kernel
theorem dX4_colourLength_7 : decode cX4_colourLength 7 = .ok (.iload_n 2, 1) := by decide +kernel
theorem dX4_colourLength_8 : decode cX4_colourLength 8 = .ok (.invokestatic 121, 3) := by decide +kernel
theorem dX4_colourLength_11 : decode cX4_colourLength 11 = .ok (.invokestatic 63, 3) := by decide +kernel
theorem dX4_colourLength_14 : decode cX4_colourLength 14 = .ok (.aload_n 0, 1) := by decide +kernel
theorem dX4_colourLength_15 : decode cX4_colourLength 15 = .ok (.getfield 12, 3) := by decide +kernel
theorem dX4_colourLength_18 : decode cX4_colourLength 18 = .ok (.iload_n 1, 1) := by decide +kernel
theorem dX4_colourLength_19 : decode cX4_colourLength 19 = .ok (.iload_n 2, 1) := by decide +kernel
theorem dX4_colourLength_20 : decode cX4_colourLength 20 = .ok (.invokevirtual 127, 3) := by decide +kernel
theorem dX4_colourLength_23 : decode cX4_colourLength 23 = .ok (.ireturn, 1) := by decide +kernel
theorem dX4_colourAtRank_0 : decode cX4_colourAtRank 0 = .ok (.iload_n 1, 1) := by decide +kernel
theorem dX4_colourAtRank_1 : decode cX4_colourAtRank 1 = .ok (.invokestatic 59, 3) := by decide +kernel
theorem dX4_colourAtRank_4 : decode cX4_colourAtRank 4 = .ok (.invokestatic 63, 3) := by decide +kernel
theorem dX4_colourAtRank_7 : decode cX4_colourAtRank 7 = .ok (.aload_n 0, 1) := by decide +kernel
theorem dX4_colourAtRank_8 : decode cX4_colourAtRank 8 = .ok (.getfield 12, 3) := by decide +kernel
theorem dX4_colourAtRank_11 : decode cX4_colourAtRank 11 = .ok (.iload_n 1, 1) := by decide +kernel
theorem dX4_colourAtRank_12 : decode cX4_colourAtRank 12 = .ok (.iload_n 2, 1) := by decide +kernel
theorem dX4_colourAtRank_13 : decode cX4_colourAtRank 13 = .ok (.invokevirtual 130, 3) := by decide +kernel
theorem dX4_colourAtRank_16 : decode cX4_colourAtRank 16 = .ok (.invokestatic 96, 3) := by decide +kernel
theorem dX4_colourAtRank_19 : decode cX4_colourAtRank 19 = .ok (.ireturn, 1) := by decide +kernel
theorem dX4_isSymmetric_0 : decode cX4_isSymmetric 0 = .ok (.iload_n 1, 1) := by decide +kernel
theorem dX4_isSymmetric_1 : decode cX4_isSymmetric 1 = .ok (.invokestatic 59, 3) := by decide +kernel
theorem dX4_isSymmetric_4 : decode cX4_isSymmetric 4 = .ok (.invokestatic 63, 3) := by decide +kernel
theorem dX4_isSymmetric_7 : decode cX4_isSymmetric 7 = .ok (.aload_n 0, 1) := by decide +kernel
theorem dX4_isSymmetric_8 : decode cX4_isSymmetric 8 = .ok (.getfield 12, 3) := by decide +kernel
theorem dX4_isSymmetric_11 : decode cX4_isSymmetric 11 = .ok (.iload_n 1, 1) := by decide +kernel
theorem dX4_isSymmetric_12 : decode cX4_isSymmetric 12 = .ok (.invokevirtual 133, 3) := by decide +kernel
theorem dX4_isSymmetric_15 : decode cX4_isSymmetric 15 = .ok (.ireturn, 1) := by decide +kernel
theorem dX4_commonBeginning_0 : decode cX4_commonBeginning 0 = .ok (.iload_n 1, 1) := by decide +kernel
theorem dX4_commonBeginning_1 : decode cX4_commonBeginning 1 = .ok (.iload_n 2, 1) := by decide +kernel
theorem dX4_commonBeginning_2 : decode cX4_commonBeginning 2 = .ok (.invokestatic 137, 3) := by decide +kernel
theorem dX4_commonBeginning_5 : decode cX4_commonBeginning 5 = .ok (.invokestatic 63, 3) := by decide +kernel
theorem dX4_commonBeginning_8 : decode cX4_commonBeginning 8 = .ok (.aload_n 0, 1) := by decide +kernel
theorem dX4_commonBeginning_9 : decode cX4_commonBeginning 9 = .ok (.getfield 12, 3) := by decide +kernel
theorem dX4_commonBeginning_12 : decode cX4_commonBeginning 12 = .ok (.iload_n 1, 1) := by decide +kernel
theorem dX4_commonBeginning_13 : decode cX4_commonBeginning 13 = .ok (.iload_n 2, 1) := by decide +kernel
theorem dX4_commonBeginning_14 : decode cX4_commonBeginning 14 = .ok (.invokevirtual 140, 3) := by decide +kernel
theorem dX4_commonBeginning_17 : decode cX4_commonBeginning 17 = .ok (.ireturn, 1) := by decide +kernel
theorem dX4_areEqual_0 : decode cX4_areEqual 0 = .ok (.iload_n 1, 1) := by decide +kernel
theorem dX4_areEqual_1 : decode cX4_areEqual 1 = .ok (.iload_n 2, 1) := by decide +kernel
theorem dX4_areEqual_2 : decode cX4_areEqual 2 = .ok (.invokestatic 137, 3) := by decide +kernel
theorem dX4_areEqual_5 : decode cX4_areEqual 5 = .ok (.invokestatic 63, 3) := by decide +kernel
theorem dX4_areEqual_8 : decode cX4_areEqual 8 = .ok (.aload_n 0, 1) := by decide +kernel
theorem dX4_areEqual_9 : decode cX4_areEqual 9 = .ok (.getfield 12, 3) := by decide +kernel
theorem dX4_areEqual_12 : decode cX4_areEqual 12 = .ok (.iload_n 1, 1) := by decide +kernel
theorem dX4_areEqual_13 : decode cX4_areEqual 13 = .ok (.invokevirtual 67, 3) := by decide +kernel
theorem dX4_areEqual_16 : decode cX4_areEqual 16 = .ok (.istore_n 3, 1) := by decide +kernel
theorem dX4_areEqual_17 : decode cX4_areEqual 17 = .ok (.iload_n 3, 1) := by decide +kernel
theorem dX4_areEqual_18 : decode cX4_areEqual 18 = .ok (.aload_n 0, 1) := by decide +kernel
theorem dX4_areEqual_19 : decode cX4_areEqual 19 = .ok (.getfield 12, 3) := by decide +kernel
theorem dX4_areEqual_22 : decode cX4_areEqual 22 = .ok (.iload_n 2, 1) := by decide +kernel
theorem dX4_areEqual_23 : decode cX4_areEqual 23 = .ok (.invokevirtual 67, 3) := by decide +kernel
theorem dX4_areEqual_26 : decode cX4_areEqual 26 = .ok (.if_icmp .ne 20, 3) := by decide +kernel
theorem dX4_areEqual_29 : decode cX4_areEqual 29 = .ok (.iload_n 3, 1) := by decide +kernel
theorem dX4_areEqual_30 : decode cX4_areEqual 30 = .ok (.aload_n 0, 1) := by decide +kernel
theorem dX4_areEqual_31 : decode cX4_areEqual 31 = .ok (.getfield 12, 3) := by decide +kernel
theorem dX4_areEqual_34 : decode cX4_areEqual 34 = .ok (.iload_n 1, 1) := by decide +kernel
theorem dX4_areEqual_35 : decode cX4_areEqual 35 = .ok (.iload_n 2, 1) := by decide +kernel
theorem dX4_areEqual_36 : decode cX4_areEqual 36 = .ok (.invokevirtual 140, 3) := by decide +kernel
theorem dX4_areEqual_39 : decode cX4_areEqual 39 = .ok (.if_icmp .ne 7, 3) := by decide +kernel
theorem dX4_areEqual_42 : decode cX4_areEqual 42 = .ok (.iconst 1, 1) := by decide +kernel
theorem dX4_areEqual_43 : decode cX4_areEqual 43 = .ok (.goto 4, 3) := by decide +kernel
theorem dX4_areEqual_46 : decode cX4_areEqual 46 = .ok (.iconst 0, 1) := by decide +kernel
theorem dX4_areEqual_47 : decode cX4_areEqual 47 = .ok (.ireturn, 1) := by decide +kernel
theorem dX4_cutCount_0 : decode cX4_cutCount 0 = .ok (.aload_n 0, 1) := by decide +kernel
theorem dX4_cutCount_1 : decode cX4_cutCount 1 = .ok (.getfield 12, 3) := by decide +kernel
theorem dX4_cutCount_4 : decode cX4_cutCount 4 = .ok (.sipush 308, 3) := by decide +kernel
theorem dX4_cutCount_7 : decode cX4_cutCount 7 = .ok (.invokevirtual 143, 3) := by decide +kernel
theorem dX4_cutCount_10 : decode cX4_cutCount 10 = .ok (.ireturn, 1) := by decide +kernel
theorem dX4_spliceCount_0 : decode cX4_spliceCount 0 = .ok (.aload_n 0, 1) := by decide +kernel
theorem dX4_spliceCount_1 : decode cX4_spliceCount 1 = .ok (.getfield 12, 3) := by decide +kernel
theorem dX4_spliceCount_4 : decode cX4_spliceCount 4 = .ok (.sipush 309, 3) := by decide +kernel
theorem dX4_spliceCount_7 : decode cX4_spliceCount 7 = .ok (.invokevirtual 143, 3) := by decide +kernel
theorem dX4_spliceCount_10 : decode cX4_spliceCount 10 = .ok (.ireturn, 1) := by decide +kernel
theorem dX4_type_0 : decode cX4_type 0 = .ok (.iload_n 1, 1) := by decide +kernel
theorem dX4_type_1 : decode cX4_type 1 = .ok (.bipush 32, 2) := by decide +kernel
theorem dX4_type_3 : decode cX4_type 3 = .ok (.if_icmp .lt 9, 3) := by decide +kernel
theorem dX4_type_6 : decode cX4_type 6 = .ok (.iload_n 1, 1) := by decide +kernel
theorem dX4_type_7 : decode cX4_type 7 = .ok (.bipush 126, 2) := by decide +kernel
theorem dX4_type_9 : decode cX4_type 9 = .ok (.if_icmp .le 13, 3) := by decide +kernel
theorem dX4_type_12 : decode cX4_type 12 = .ok (.new 146, 3) := by decide +kernel
theorem dX4_type_15 : decode cX4_type 15 = .ok (.dup, 1) := by decide +kernel
theorem dX4_type_16 : decode cX4_type 16 = .ok (.ldc 148, 2) := by decide +kernel
theorem dX4_type_18 : decode cX4_type 18 = .ok (.invokespecial 150, 3) := by decide +kernel
theorem dX4_type_21 : decode cX4_type 21 = .ok (.athrow, 1) := by decide +kernel
theorem dX4_type_22 : decode cX4_type 22 = .ok (.aload_n 0, 1) := by decide +kernel
theorem dX4_type_23 : decode cX4_type 23 = .ok (.getfield 37, 3) := by decide +kernel
theorem dX4_type_26 : decode cX4_type 26 = .ok (.invokevirtual 153, 3) := by decide +kernel
theorem dX4_type_29 : decode cX4_type 29 = .ok (.ifCond .eq 13, 3) := by decide +kernel
theorem dX4_type_32 : decode cX4_type 32 = .ok (.new 157, 3) := by decide +kernel
theorem dX4_type_35 : decode cX4_type 35 = .ok (.dup, 1) := by decide +kernel
theorem dX4_type_36 : decode cX4_type 36 = .ok (.ldc 159, 2) := by decide +kernel
theorem dX4_type_38 : decode cX4_type 38 = .ok (.invokespecial 161, 3) := by decide +kernel
theorem dX4_type_41 : decode cX4_type 41 = .ok (.athrow, 1) := by decide +kernel
theorem dX4_type_42 : decode cX4_type 42 = .ok (.aload_n 0, 1) := by decide +kernel
theorem dX4_type_43 : decode cX4_type 43 = .ok (.getfield 37, 3) := by decide +kernel
theorem dX4_type_46 : decode cX4_type 46 = .ok (.iload_n 1, 1) := by decide +kernel
theorem dX4_type_47 : decode cX4_type 47 = .ok (.invokevirtual 162, 3) := by decide +kernel
theorem dX4_type_50 : decode cX4_type 50 = .ok (.ireturn, 1) := by decide +kernel
theorem dX4_run_0 : decode cX4_run 0 = .ok (.aload_n 0, 1) := by decide +kernel
theorem dX4_run_1 : decode cX4_run 1 = .ok (.getfield 37, 3) := by decide +kernel
theorem dX4_run_4 : decode cX4_run 4 = .ok (.invokevirtual 166, 3) := by decide +kernel
theorem dX4_run_7 : decode cX4_run 7 = .ok (.istore_n 1, 1) := by decide +kernel
theorem dX4_run_8 : decode cX4_run 8 = .ok (.aload_n 0, 1) := by decide +kernel
theorem dX4_run_9 : decode cX4_run 9 = .ok (.getfield 37, 3) := by decide +kernel
theorem dX4_run_12 : decode cX4_run 12 = .ok (.invokevirtual 170, 3) := by decide +kernel
theorem dX4_run_15 : decode cX4_run 15 = .ok (.iload_n 1, 1) := by decide +kernel
theorem dX4_run_16 : decode cX4_run 16 = .ok (.iconst (-1), 1) := by decide +kernel
theorem dX4_run_17 : decode cX4_run 17 = .ok (.if_icmp .eq 18, 3) := by decide +kernel
theorem dX4_run_20 : decode cX4_run 20 = .ok (.aload_n 0, 1) := by decide +kernel
theorem dX4_run_21 : decode cX4_run 21 = .ok (.iload_n 1, 1) := by decide +kernel
theorem dX4_run_22 : decode cX4_run 22 = .ok (.putfield 48, 3) := by decide +kernel
theorem dX4_run_25 : decode cX4_run 25 = .ok (.new 146, 3) := by decide +kernel
theorem dX4_run_28 : decode cX4_run 28 = .ok (.dup, 1) := by decide +kernel
theorem dX4_run_29 : decode cX4_run 29 = .ok (.ldc 173, 2) := by decide +kernel
theorem dX4_run_31 : decode cX4_run 31 = .ok (.invokespecial 150, 3) := by decide +kernel
theorem dX4_run_34 : decode cX4_run 34 = .ok (.athrow, 1) := by decide +kernel
theorem dX4_run_35 : decode cX4_run 35 = .ok (.aload_n 0, 1) := by decide +kernel
theorem dX4_run_36 : decode cX4_run 36 = .ok (.getfield 12, 3) := by decide +kernel
theorem dX4_run_39 : decode cX4_run 39 = .ok (.aload_n 0, 1) := by decide +kernel
theorem dX4_run_40 : decode cX4_run 40 = .ok (.getfield 16, 3) := by decide +kernel
theorem dX4_run_43 : decode cX4_run 43 = .ok (.iconst 0, 1) := by decide +kernel
theorem dX4_run_44 : decode cX4_run 44 = .ok (.invokevirtual 175, 3) := by decide +kernel
theorem dX4_run_47 : decode cX4_run 47 = .ok (.aload_n 0, 1) := by decide +kernel
theorem dX4_run_48 : decode cX4_run 48 = .ok (.invokevirtual 179, 3) := by decide +kernel
theorem dX4_run_51 : decode cX4_run 51 = .ok (.istore_n 2, 1) := by decide +kernel
theorem dX4_run_52 : decode cX4_run 52 = .ok (.iload_n 2, 1) := by decide +kernel
theorem dX4_run_53 : decode cX4_run 53 = .ok (.iconst (-1), 1) := by decide +kernel
theorem dX4_run_54 : decode cX4_run 54 = .ok (.if_icmp .eq 30, 3) := by decide +kernel
theorem dX4_run_57 : decode cX4_run 57 = .ok (.aload_n 0, 1) := by decide +kernel
theorem dX4_run_58 : decode cX4_run 58 = .ok (.getfield 12, 3) := by decide +kernel
theorem dX4_run_61 : decode cX4_run 61 = .ok (.aload_n 0, 1) := by decide +kernel
theorem dX4_run_62 : decode cX4_run 62 = .ok (.getfield 16, 3) := by decide +kernel
theorem dX4_run_65 : decode cX4_run 65 = .ok (.iconst 0, 1) := by decide +kernel
theorem dX4_run_66 : decode cX4_run 66 = .ok (.invokevirtual 182, 3) := by decide +kernel
theorem dX4_run_69 : decode cX4_run 69 = .ok (.aload_n 0, 1) := by decide +kernel
theorem dX4_run_70 : decode cX4_run 70 = .ok (.iload_n 2, 1) := by decide +kernel
theorem dX4_run_71 : decode cX4_run 71 = .ok (.putfield 52, 3) := by decide +kernel
theorem dX4_run_74 : decode cX4_run 74 = .ok (.new 157, 3) := by decide +kernel
theorem dX4_run_77 : decode cX4_run 77 = .ok (.dup, 1) := by decide +kernel
theorem dX4_run_78 : decode cX4_run 78 = .ok (.ldc 185, 2) := by decide +kernel
theorem dX4_run_80 : decode cX4_run 80 = .ok (.invokespecial 161, 3) := by decide +kernel
theorem dX4_run_83 : decode cX4_run 83 = .ok (.athrow, 1) := by decide +kernel
theorem dX4_run_84 : decode cX4_run 84 = .ok (.aload_n 0, 1) := by decide +kernel
theorem dX4_run_85 : decode cX4_run 85 = .ok (.getfield 30, 3) := by decide +kernel
theorem dX4_run_88 : decode cX4_run 88 = .ok (.aload_n 0, 1) := by decide +kernel
theorem dX4_run_89 : decode cX4_run 89 = .ok (.getfield 16, 3) := by decide +kernel
theorem dX4_run_92 : decode cX4_run 92 = .ok (.invokevirtual 187, 3) := by decide +kernel
theorem dX4_run_95 : decode cX4_run 95 = .ok (.aload_n 0, 1) := by decide +kernel
theorem dX4_run_96 : decode cX4_run 96 = .ok (.getfield 12, 3) := by decide +kernel
theorem dX4_run_99 : decode cX4_run 99 = .ok (.invokevirtual 191, 3) := by decide +kernel
theorem dX4_run_102 : decode cX4_run 102 = .ok (.aload_n 0, 1) := by decide +kernel
theorem dX4_run_103 : decode cX4_run 103 = .ok (.getfield 37, 3) := by decide +kernel
theorem dX4_run_106 : decode cX4_run 106 = .ok (.invokevirtual 194, 3) := by decide +kernel
theorem dX4_run_109 : decode cX4_run 109 = .ok (.ireturn, 1) := by decide +kernel
theorem dX4_describeReel_0 : decode cX4_describeReel 0 = .ok (.iload_n 1, 1) := by decide +kernel
theorem dX4_describeReel_1 : decode cX4_describeReel 1 = .ok (.invokestatic 59, 3) := by decide +kernel
theorem dX4_describeReel_4 : decode cX4_describeReel 4 = .ok (.invokestatic 63, 3) := by decide +kernel
theorem dX4_describeReel_7 : decode cX4_describeReel 7 = .ok (.aload_n 0, 1) := by decide +kernel
theorem dX4_describeReel_8 : decode cX4_describeReel 8 = .ok (.getfield 44, 3) := by decide +kernel
theorem dX4_describeReel_11 : decode cX4_describeReel 11 = .ok (.invokevirtual 197, 3) := by decide +kernel
theorem dX4_describeReel_14 : decode cX4_describeReel 14 = .ok (.iconst 0, 1) := by decide +kernel
theorem dX4_describeReel_15 : decode cX4_describeReel 15 = .ok (.istore_n 2, 1) := by decide +kernel
theorem dX4_describeReel_16 : decode cX4_describeReel 16 = .ok (.iload_n 2, 1) := by decide +kernel
theorem dX4_describeReel_17 : decode cX4_describeReel 17 = .ok (.aload_n 0, 1) := by decide +kernel
theorem dX4_describeReel_18 : decode cX4_describeReel 18 = .ok (.getfield 12, 3) := by decide +kernel
theorem dX4_describeReel_21 : decode cX4_describeReel 21 = .ok (.iload_n 1, 1) := by decide +kernel
theorem dX4_describeReel_22 : decode cX4_describeReel 22 = .ok (.invokevirtual 67, 3) := by decide +kernel
theorem dX4_describeReel_25 : decode cX4_describeReel 25 = .ok (.if_icmp .ge 77, 3) := by decide +kernel
theorem dX4_describeReel_28 : decode cX4_describeReel 28 = .ok (.iload_n 2, 1) := by decide +kernel
theorem dX4_describeReel_29 : decode cX4_describeReel 29 = .ok (.ifCond .le 31, 3) := by decide +kernel
theorem dX4_describeReel_32 : decode cX4_describeReel 32 = .ok (.aload_n 0, 1) := by decide +kernel
theorem dX4_describeReel_33 : decode cX4_describeReel 33 = .ok (.getfield 44, 3) := by decide +kernel
theorem dX4_describeReel_36 : decode cX4_describeReel 36 = .ok (.aload_n 0, 1) := by decide +kernel
theorem dX4_describeReel_37 : decode cX4_describeReel 37 = .ok (.getfield 12, 3) := by decide +kernel
theorem dX4_describeReel_40 : decode cX4_describeReel 40 = .ok (.iload_n 1, 1) := by decide +kernel
theorem dX4_describeReel_41 : decode cX4_describeReel 41 = .ok (.iload_n 2, 1) := by decide +kernel
theorem dX4_describeReel_42 : decode cX4_describeReel 42 = .ok (.iconst 1, 1) := by decide +kernel
theorem dX4_describeReel_43 : decode cX4_describeReel 43 = .ok (.isub, 1) := by decide +kernel
theorem dX4_describeReel_44 : decode cX4_describeReel 44 = .ok (.invokevirtual 114, 3) := by decide +kernel
theorem dX4_describeReel_47 : decode cX4_describeReel 47 = .ok (.ifCond .eq 8, 3) := by decide +kernel
theorem dX4_describeReel_50 : decode cX4_describeReel 50 = .ok (.bipush 61, 2) := by decide +kernel
theorem dX4_describeReel_52 : decode cX4_describeReel 52 = .ok (.goto 5, 3) := by decide +kernel
theorem dX4_describeReel_55 : decode cX4_describeReel 55 = .ok (.bipush 45, 2) := by decide +kernel
theorem dX4_describeReel_57 : decode cX4_describeReel 57 = .ok (.invokevirtual 200, 3) := by decide +kernel
theorem dX4_describeReel_60 : decode cX4_describeReel 60 = .ok (.aload_n 0, 1) := by decide +kernel
theorem dX4_describeReel_61 : decode cX4_describeReel 61 = .ok (.getfield 44, 3) := by decide +kernel
theorem dX4_describeReel_64 : decode cX4_describeReel 64 = .ok (.aload_n 0, 1) := by decide +kernel
theorem dX4_describeReel_65 : decode cX4_describeReel 65 = .ok (.getfield 12, 3) := by decide +kernel
theorem dX4_describeReel_68 : decode cX4_describeReel 68 = .ok (.iload_n 1, 1) := by decide +kernel
theorem dX4_describeReel_69 : decode cX4_describeReel 69 = .ok (.iload_n 2, 1) := by decide +kernel
theorem dX4_describeReel_70 : decode cX4_describeReel 70 = .ok (.invokevirtual 74, 3) := by decide +kernel
theorem dX4_describeReel_73 : decode cX4_describeReel 73 = .ok (.invokevirtual 204, 3) := by decide +kernel
theorem dX4_describeReel_76 : decode cX4_describeReel 76 = .ok (.aload_n 0, 1) := by decide +kernel
theorem dX4_describeReel_77 : decode cX4_describeReel 77 = .ok (.getfield 44, 3) := by decide +kernel
theorem dX4_describeReel_80 : decode cX4_describeReel 80 = .ok (.bipush 97, 2) := by decide +kernel
theorem dX4_describeReel_82 : decode cX4_describeReel 82 = .ok (.aload_n 0, 1) := by decide +kernel
theorem dX4_describeReel_83 : decode cX4_describeReel 83 = .ok (.getfield 12, 3) := by decide +kernel
theorem dX4_describeReel_86 : decode cX4_describeReel 86 = .ok (.iload_n 1, 1) := by decide +kernel
theorem dX4_describeReel_87 : decode cX4_describeReel 87 = .ok (.iload_n 2, 1) := by decide +kernel
theorem dX4_describeReel_88 : decode cX4_describeReel 88 = .ok (.invokevirtual 77, 3) := by decide +kernel
theorem dX4_describeReel_91 : decode cX4_describeReel 91 = .ok (.iadd, 1) := by decide +kernel
theorem dX4_describeReel_92 : decode cX4_describeReel 92 = .ok (.i2c, 1) := by decide +kernel
theorem dX4_describeReel_93 : decode cX4_describeReel 93 = .ok (.invokevirtual 200, 3) := by decide +kernel
theorem dX4_describeReel_96 : decode cX4_describeReel 96 = .ok (.iinc 2 1, 3) := by decide +kernel
theorem dX4_describeReel_99 : decode cX4_describeReel 99 = .ok (.goto (-83), 3) := by decide +kernel
theorem dX4_describeReel_102 : decode cX4_describeReel 102 = .ok (.aload_n 0, 1) := by decide +kernel
theorem dX4_describeReel_103 : decode cX4_describeReel 103 = .ok (.getfield 44, 3) := by decide +kernel
theorem dX4_describeReel_106 : decode cX4_describeReel 106 = .ok (.invokevirtual 207, 3) := by decide +kernel
theorem dX4_describeReel_109 : decode cX4_describeReel 109 = .ok (.ireturn, 1) := by decide +kernel
theorem dX4_lineAt_0 : decode cX4_lineAt 0 = .ok (.iload_n 1, 1) := by decide +kernel
theorem dX4_lineAt_1 : decode cX4_lineAt 1 = .ok (.ifCond .lt 14, 3) := by decide +kernel
theorem dX4_lineAt_4 : decode cX4_lineAt 4 = .ok (.iload_n 1, 1) := by decide +kernel
theorem dX4_lineAt_5 : decode cX4_lineAt 5 = .ok (.aload_n 0, 1) := by decide +kernel
theorem dX4_lineAt_6 : decode cX4_lineAt 6 = .ok (.getfield 44, 3) := by decide +kernel
theorem dX4_lineAt_9 : decode cX4_lineAt 9 = .ok (.invokevirtual 207, 3) := by decide +kernel
theorem dX4_lineAt_12 : decode cX4_lineAt 12 = .ok (.if_icmp .lt 13, 3) := by decide +kernel
theorem dX4_lineAt_15 : decode cX4_lineAt 15 = .ok (.new 210, 3) := by decide +kernel
theorem dX4_lineAt_18 : decode cX4_lineAt 18 = .ok (.dup, 1) := by decide +kernel
theorem dX4_lineAt_19 : decode cX4_lineAt 19 = .ok (.ldc 212, 2) := by decide +kernel
theorem dX4_lineAt_21 : decode cX4_lineAt 21 = .ok (.invokespecial 214, 3) := by decide +kernel
theorem dX4_lineAt_24 : decode cX4_lineAt 24 = .ok (.athrow, 1) := by decide +kernel
theorem dX4_lineAt_25 : decode cX4_lineAt 25 = .ok (.aload_n 0, 1) := by decide +kernel
theorem dX4_lineAt_26 : decode cX4_lineAt 26 = .ok (.getfield 44, 3) := by decide +kernel
theorem dX4_lineAt_29 : decode cX4_lineAt 29 = .ok (.iload_n 1, 1) := by decide +kernel
theorem dX4_lineAt_30 : decode cX4_lineAt 30 = .ok (.invokevirtual 215, 3) := by decide +kernel
theorem dX4_lineAt_33 : decode cX4_lineAt 33 = .ok (.ireturn, 1) := by decide +kernel
theorem dX4_meanLength_0 : decode cX4_meanLength 0 = .ok (.iload_n 1, 1) := by decide +kernel
theorem dX4_meanLength_1 : decode cX4_meanLength 1 = .ok (.invokestatic 59, 3) := by decide +kernel
theorem dX4_meanLength_4 : decode cX4_meanLength 4 = .ok (.invokestatic 63, 3) := by decide +kernel
theorem dX4_meanLength_7 : decode cX4_meanLength 7 = .ok (.aload_n 0, 1) := by decide +kernel
theorem dX4_meanLength_8 : decode cX4_meanLength 8 = .ok (.getfield 12, 3) := by decide +kernel
theorem dX4_meanLength_11 : decode cX4_meanLength 11 = .ok (.iload_n 1, 1) := by decide +kernel
theorem dX4_meanLength_12 : decode cX4_meanLength 12 = .ok (.invokevirtual 67, 3) := by decide +kernel
theorem dX4_meanLength_15 : decode cX4_meanLength 15 = .ok (.istore_n 2, 1) := by decide +kernel
theorem dX4_meanLength_16 : decode cX4_meanLength 16 = .ok (.iload_n 2, 1) := by decide +kernel
theorem dX4_meanLength_17 : decode cX4_meanLength 17 = .ok (.ifCond .ne 13, 3) := by decide +kernel
theorem dX4_meanLength_20 : decode cX4_meanLength 20 = .ok (.new 219, 3) := by decide +kernel
theorem dX4_meanLength_23 : decode cX4_meanLength 23 = .ok (.dup, 1) := by decide +kernel
theorem dX4_meanLength_24 : decode cX4_meanLength 24 = .ok (.ldc 221, 2) := by decide +kernel
theorem dX4_meanLength_26 : decode cX4_meanLength 26 = .ok (.invokespecial 223, 3) := by decide +kernel
theorem dX4_meanLength_29 : decode cX4_meanLength 29 = .ok (.athrow, 1) := by decide +kernel
theorem dX4_meanLength_30 : decode cX4_meanLength 30 = .ok (.aload_n 0, 1) := by decide +kernel
theorem dX4_meanLength_31 : decode cX4_meanLength 31 = .ok (.getfield 12, 3) := by decide +kernel
theorem dX4_meanLength_34 : decode cX4_meanLength 34 = .ok (.iload_n 1, 1) := by decide +kernel
theorem dX4_meanLength_35 : decode cX4_meanLength 35 = .ok (.invokevirtual 80, 3) := by decide +kernel
theorem dX4_meanLength_38 : decode cX4_meanLength 38 = .ok (.i2d, 1) := by decide +kernel
theorem dX4_meanLength_39 : decode cX4_meanLength 39 = .ok (.iload_n 2, 1) := by decide +kernel
theorem dX4_meanLength_40 : decode cX4_meanLength 40 = .ok (.i2d, 1) := by decide +kernel
theorem dX4_meanLength_41 : decode cX4_meanLength 41 = .ok (.ddiv, 1) := by decide +kernel
theorem dX4_meanLength_42 : decode cX4_meanLength 42 = .ok (.dreturn, 1) := by decide +kernel
theorem dX4_colourShare_0 : decode cX4_colourShare 0 = .ok (.iload_n 1, 1) := by decide +kernel
theorem dX4_colourShare_1 : decode cX4_colourShare 1 = .ok (.invokestatic 59, 3) := by decide +kernel
theorem dX4_colourShare_4 : decode cX4_colourShare 4 = .ok (.invokestatic 63, 3) := by decide +kernel
theorem dX4_colourShare_7 : decode cX4_colourShare 7 = .ok (.iload_n 2, 1) := by decide +kernel
theorem dX4_colourShare_8 : decode cX4_colourShare 8 = .ok (.invokestatic 121, 3) := by decide +kernel
theorem dX4_colourShare_11 : decode cX4_colourShare 11 = .ok (.invokestatic 63, 3) := by decide +kernel
theorem dX4_colourShare_14 : decode cX4_colourShare 14 = .ok (.aload_n 0, 1) := by decide +kernel
theorem dX4_colourShare_15 : decode cX4_colourShare 15 = .ok (.getfield 12, 3) := by decide +kernel
theorem dX4_colourShare_18 : decode cX4_colourShare 18 = .ok (.iload_n 1, 1) := by decide +kernel
theorem dX4_colourShare_19 : decode cX4_colourShare 19 = .ok (.invokevirtual 80, 3) := by decide +kernel
theorem dX4_colourShare_22 : decode cX4_colourShare 22 = .ok (.istore_n 3, 1) := by decide +kernel
theorem dX4_colourShare_23 : decode cX4_colourShare 23 = .ok (.iload_n 3, 1) := by decide +kernel
theorem dX4_colourShare_24 : decode cX4_colourShare 24 = .ok (.ifCond .ne 13, 3) := by decide +kernel
theorem dX4_colourShare_27 : decode cX4_colourShare 27 = .ok (.new 219, 3) := by decide +kernel
theorem dX4_colourShare_30 : decode cX4_colourShare 30 = .ok (.dup, 1) := by decide +kernel
theorem dX4_colourShare_31 : decode cX4_colourShare 31 = .ok (.ldc 221, 2) := by decide +kernel
theorem dX4_colourShare_33 : decode cX4_colourShare 33 = .ok (.invokespecial 223, 3) := by decide +kernel
theorem dX4_colourShare_36 : decode cX4_colourShare 36 = .ok (.athrow, 1) := by decide +kernel
theorem dX4_colourShare_37 : decode cX4_colourShare 37 = .ok (.aload_n 0, 1) := by decide +kernel
theorem dX4_colourShare_38 : decode cX4_colourShare 38 = .ok (.getfield 12, 3) := by decide +kernel
theorem dX4_colourShare_41 : decode cX4_colourShare 41 = .ok (.iload_n 1, 1) := by decide +kernel
theorem dX4_colourShare_42 : decode cX4_colourShare 42 = .ok (.iload_n 2, 1) := by decide +kernel
theorem dX4_colourShare_43 : decode cX4_colourShare 43 = .ok (.invokevirtual 127, 3) := by decide +kernel
theorem dX4_colourShare_46 : decode cX4_colourShare 46 = .ok (.i2f, 1) := by decide +kernel
theorem dX4_colourShare_47 : decode cX4_colourShare 47 = .ok (.iload_n 3, 1) := by decide +kernel
theorem dX4_colourShare_48 : decode cX4_colourShare 48 = .ok (.i2f, 1) := by decide +kernel
theorem dX4_colourShare_49 : decode cX4_colourShare 49 = .ok (.fdiv, 1) := by decide +kernel
theorem dX4_colourShare_50 : decode cX4_colourShare 50 = .ok (.freturn, 1) := by decide +kernel
theorem dX4_isConsistent_0 : decode cX4_isConsistent 0 = .ok (.iconst 0, 1) := by decide +kernel
theorem dX4_isConsistent_1 : decode cX4_isConsistent 1 = .ok (.istore_n 1, 1) := by decide +kernel
theorem dX4_isConsistent_2 : decode cX4_isConsistent 2 = .ok (.iload_n 1, 1) := by decide +kernel
theorem dX4_isConsistent_3 : decode cX4_isConsistent 3 = .ok (.iconst 4, 1) := by decide +kernel
theorem dX4_isConsistent_4 : decode cX4_isConsistent 4 = .ok (.if_icmp .ge 22, 3) := by decide +kernel
theorem dX4_isConsistent_7 : decode cX4_isConsistent 7 = .ok (.aload_n 0, 1) := by decide +kernel
theorem dX4_isConsistent_8 : decode cX4_isConsistent 8 = .ok (.getfield 12, 3) := by decide +kernel
theorem dX4_isConsistent_11 : decode cX4_isConsistent 11 = .ok (.iload_n 1, 1) := by decide +kernel
theorem dX4_isConsistent_12 : decode cX4_isConsistent 12 = .ok (.invokevirtual 224, 3) := by decide +kernel
theorem dX4_isConsistent_15 : decode cX4_isConsistent 15 = .ok (.ifCond .ne 5, 3) := by decide +kernel
theorem dX4_isConsistent_18 : decode cX4_isConsistent 18 = .ok (.iconst 0, 1) := by decide +kernel
theorem dX4_isConsistent_19 : decode cX4_isConsistent 19 = .ok (.ireturn, 1) := by decide +kernel
theorem dX4_isConsistent_20 : decode cX4_isConsistent 20 = .ok (.iinc 1 1, 3) := by decide +kernel
theorem dX4_isConsistent_23 : decode cX4_isConsistent 23 = .ok (.goto (-21), 3) := by decide +kernel
theorem dX4_isConsistent_26 : decode cX4_isConsistent 26 = .ok (.iconst 1, 1) := by decide +kernel
theorem dX4_isConsistent_27 : decode cX4_isConsistent 27 = .ok (.ireturn, 1) := by decide +kernel
theorem dX4_undo_0 : decode cX4_undo 0 = .ok (.aload_n 0, 1) := by decide +kernel
theorem dX4_undo_1 : decode cX4_undo 1 = .ok (.getfield 30, 3) := by decide +kernel
theorem dX4_undo_4 : decode cX4_undo 4 = .ok (.invokevirtual 227, 3) := by decide +kernel
theorem dX4_undo_7 : decode cX4_undo 7 = .ok (.ifCond .ne 13, 3) := by decide +kernel
theorem dX4_undo_10 : decode cX4_undo 10 = .ok (.new 157, 3) := by decide +kernel
theorem dX4_undo_13 : decode cX4_undo 13 = .ok (.dup, 1) := by decide +kernel
theorem dX4_undo_14 : decode cX4_undo 14 = .ok (.ldc 228, 2) := by decide +kernel
theorem dX4_undo_16 : decode cX4_undo 16 = .ok (.invokespecial 161, 3) := by decide +kernel
theorem dX4_undo_19 : decode cX4_undo 19 = .ok (.athrow, 1) := by decide +kernel
theorem dX4_undo_20 : decode cX4_undo 20 = .ok (.aload_n 0, 1) := by decide +kernel
theorem dX4_undo_21 : decode cX4_undo 21 = .ok (.getfield 30, 3) := by decide +kernel
theorem dX4_undo_24 : decode cX4_undo 24 = .ok (.aload_n 0, 1) := by decide +kernel
theorem dX4_undo_25 : decode cX4_undo 25 = .ok (.getfield 12, 3) := by decide +kernel
theorem dX4_undo_28 : decode cX4_undo 28 = .ok (.invokevirtual 230, 3) := by decide +kernel
theorem dX4_undo_31 : decode cX4_undo 31 = .ok (.aload_n 0, 1) := by decide +kernel
theorem dX4_undo_32 : decode cX4_undo 32 = .ok (.getfield 30, 3) := by decide +kernel
theorem dX4_undo_35 : decode cX4_undo 35 = .ok (.invokevirtual 227, 3) := by decide +kernel
theorem dX4_undo_38 : decode cX4_undo 38 = .ok (.ireturn, 1) := by decide +kernel
theorem dX4_save_0 : decode cX4_save 0 = .ok (.aload_n 0, 1) := by decide +kernel
theorem dX4_save_1 : decode cX4_save 1 = .ok (.getfield 12, 3) := by decide +kernel
theorem dX4_save_4 : decode cX4_save 4 = .ok (.aload_n 0, 1) := by decide +kernel
theorem dX4_save_5 : decode cX4_save 5 = .ok (.getfield 20, 3) := by decide +kernel
theorem dX4_save_8 : decode cX4_save 8 = .ok (.iconst 0, 1) := by decide +kernel
theorem dX4_save_9 : decode cX4_save 9 = .ok (.invokevirtual 175, 3) := by decide +kernel
theorem dX4_save_12 : decode cX4_save 12 = .ok (.aload_n 0, 1) := by decide +kernel
theorem dX4_save_13 : decode cX4_save 13 = .ok (.iconst 1, 1) := by decide +kernel
theorem dX4_save_14 : decode cX4_save 14 = .ok (.putfield 23, 3) := by decide +kernel
theorem dX4_save_17 : decode cX4_save 17 = .ok (.aload_n 0, 1) := by decide +kernel
theorem dX4_save_18 : decode cX4_save 18 = .ok (.getfield 12, 3) := by decide +kernel
theorem dX4_save_21 : decode cX4_save 21 = .ok (.invokevirtual 234, 3) := by decide +kernel
theorem dX4_save_24 : decode cX4_save 24 = .ok (.ireturn, 1) := by decide +kernel
theorem dX4_restore_0 : decode cX4_restore 0 = .ok (.aload_n 0, 1) := by decide +kernel
theorem dX4_restore_1 : decode cX4_restore 1 = .ok (.getfield 23, 3) := by decide +kernel
theorem dX4_restore_4 : decode cX4_restore 4 = .ok (.ifCond .ne 13, 3) := by decide +kernel
theorem dX4_restore_7 : decode cX4_restore 7 = .ok (.new 157, 3) := by decide +kernel
theorem dX4_restore_10 : decode cX4_restore 10 = .ok (.dup, 1) := by decide +kernel
theorem dX4_restore_11 : decode cX4_restore 11 = .ok (.ldc 237, 2) := by decide +kernel
theorem dX4_restore_13 : decode cX4_restore 13 = .ok (.invokespecial 161, 3) := by decide +kernel
theorem dX4_restore_16 : decode cX4_restore 16 = .ok (.athrow, 1) := by decide +kernel
theorem dX4_restore_17 : decode cX4_restore 17 = .ok (.aload_n 0, 1) := by decide +kernel
theorem dX4_restore_18 : decode cX4_restore 18 = .ok (.getfield 12, 3) := by decide +kernel
theorem dX4_restore_21 : decode cX4_restore 21 = .ok (.aload_n 0, 1) := by decide +kernel
theorem dX4_restore_22 : decode cX4_restore 22 = .ok (.getfield 20, 3) := by decide +kernel
theorem dX4_restore_25 : decode cX4_restore 25 = .ok (.iconst 0, 1) := by decide +kernel
theorem dX4_restore_26 : decode cX4_restore 26 = .ok (.invokevirtual 182, 3) := by decide +kernel
theorem dX4_restore_29 : decode cX4_restore 29 = .ok (.aload_n 0, 1) := by decide +kernel
theorem dX4_restore_30 : decode cX4_restore 30 = .ok (.getfield 30, 3) := by decide +kernel
theorem dX4_restore_33 : decode cX4_restore 33 = .ok (.invokevirtual 239, 3) := by decide +kernel
theorem dX4_restore_36 : decode cX4_restore 36 = .ok (.aload_n 0, 1) := by decide +kernel
theorem dX4_restore_37 : decode cX4_restore 37 = .ok (.getfield 12, 3) := by decide +kernel
theorem dX4_restore_40 : decode cX4_restore 40 = .ok (.invokevirtual 234, 3) := by decide +kernel
theorem dX4_restore_43 : decode cX4_restore 43 = .ok (.ireturn, 1) := by decide +kernel
theorem dX4_raise_0 : decode cX4_raise 0 = .ok (.iload_n 0, 1) := by decide +kernel
theorem dX4_raise_1 : decode cX4_raise 1 = .ok (.tableswitch 57 1 3 #[27, 37, 47], 27) := by decide +kernel
theorem dX4_raise_28 : decode cX4_raise 28 = .ok (.new 210, 3) := by decide +kernel
theorem dX4_raise_31 : decode cX4_raise 31 = .ok (.dup, 1) := by decide +kernel
theorem dX4_raise_32 : decode cX4_raise 32 = .ok (.ldc 242, 2) := by decide +kernel
theorem dX4_raise_34 : decode cX4_raise 34 = .ok (.invokespecial 214, 3) := by decide +kernel
theorem dX4_raise_37 : decode cX4_raise 37 = .ok (.athrow, 1) := by decide +kernel
theorem dX4_raise_38 : decode cX4_raise 38 = .ok (.new 146, 3) := by decide +kernel
theorem dX4_raise_41 : decode cX4_raise 41 = .ok (.dup, 1) := by decide +kernel
theorem dX4_raise_42 : decode cX4_raise 42 = .ok (.ldc 244, 2) := by decide +kernel
theorem dX4_raise_44 : decode cX4_raise 44 = .ok (.invokespecial 150, 3) := by decide +kernel
theorem dX4_raise_47 : decode cX4_raise 47 = .ok (.athrow, 1) := by decide +kernel
theorem dX4_raise_48 : decode cX4_raise 48 = .ok (.new 157, 3) := by decide +kernel
theorem dX4_raise_51 : decode cX4_raise 51 = .ok (.dup, 1) := by decide +kernel
theorem dX4_raise_52 : decode cX4_raise 52 = .ok (.ldc 246, 2) := by decide +kernel
theorem dX4_raise_54 : decode cX4_raise 54 = .ok (.invokespecial 161, 3) := by decide +kernel
theorem dX4_raise_57 : decode cX4_raise 57 = .ok (.athrow, 1) := by decide +kernel
theorem dX4_raise_58 : decode cX4_raise 58 = .ok (.return_, 1) := by decide +kernel
theorem dX4_found_0 : decode cX4_found 0 = .ok (.iload_n 0, 1) := by decide +kernel
theorem dX4_found_1 : decode cX4_found 1 = .ok (.iconst (-1), 1) := by decide +kernel
theorem dX4_found_2 : decode cX4_found 2 = .ok (.if_icmp .ne 13, 3) := by decide +kernel
theorem dX4_found_5 : decode cX4_found 5 = .ok (.new 248, 3) := by decide +kernel
theorem dX4_found_8 : decode cX4_found 8 = .ok (.dup, 1) := by decide +kernel
theorem dX4_found_9 : decode cX4_found 9 = .ok (.ldc 250, 2) := by decide +kernel
theorem dX4_found_11 : decode cX4_found 11 = .ok (.invokespecial 252, 3) := by decide +kernel
theorem dX4_found_14 : decode cX4_found 14 = .ok (.athrow, 1) := by decide +kernel
theorem dX4_found_15 : decode cX4_found 15 = .ok (.iload_n 0, 1) := by decide +kernel
theorem dX4_found_16 : decode cX4_found 16 = .ok (.ireturn, 1) := by decide +kernel
theorem dX4_isReel_0 : decode cX4_isReel 0 = .ok (.iload_n 0, 1) := by decide +kernel
theorem dX4_isReel_1 : decode cX4_isReel 1 = .ok (.ifCond .lt 12, 3) := by decide +kernel
theorem dX4_isReel_4 : decode cX4_isReel 4 = .ok (.iload_n 0, 1) := by decide +kernel
theorem dX4_isReel_5 : decode cX4_isReel 5 = .ok (.iconst 4, 1) := by decide +kernel
theorem dX4_isReel_6 : decode cX4_isReel 6 = .ok (.if_icmp .ge 7, 3) := by decide +kernel
theorem dX4_isReel_9 : decode cX4_isReel 9 = .ok (.iconst 1, 1) := by decide +kernel
theorem dX4_isReel_10 : decode cX4_isReel 10 = .ok (.goto 4, 3) := by decide +kernel
theorem dX4_isReel_13 : decode cX4_isReel 13 = .ok (.iconst 0, 1) := by decide +kernel
theorem dX4_isReel_14 : decode cX4_isReel 14 = .ok (.ireturn, 1) := by decide +kernel
theorem dX4_isLength_0 : decode cX4_isLength 0 = .ok (.iload_n 0, 1) := by decide +kernel
theorem dX4_isLength_1 : decode cX4_isLength 1 = .ok (.iconst 1, 1) := by decide +kernel
theorem dX4_isLength_2 : decode cX4_isLength 2 = .ok (.if_icmp .lt 13, 3) := by decide +kernel
theorem dX4_isLength_5 : decode cX4_isLength 5 = .ok (.iload_n 0, 1) := by decide +kernel
theorem dX4_isLength_6 : decode cX4_isLength 6 = .ok (.bipush 99, 2) := by decide +kernel
theorem dX4_isLength_8 : decode cX4_isLength 8 = .ok (.if_icmp .gt 7, 3) := by decide +kernel
theorem dX4_isLength_11 : decode cX4_isLength 11 = .ok (.iconst 1, 1) := by decide +kernel
theorem dX4_isLength_12 : decode cX4_isLength 12 = .ok (.goto 4, 3) := by decide +kernel
theorem dX4_isLength_15 : decode cX4_isLength 15 = .ok (.iconst 0, 1) := by decide +kernel
theorem dX4_isLength_16 : decode cX4_isLength 16 = .ok (.ireturn, 1) := by decide +kernel
theorem dX4_isColour_0 : decode cX4_isColour 0 = .ok (.iload_n 0, 1) := by decide +kernel
theorem dX4_isColour_1 : decode cX4_isColour 1 = .ok (.ifCond .lt 13, 3) := by decide +kernel
theorem dX4_isColour_4 : decode cX4_isColour 4 = .ok (.iload_n 0, 1) := by decide +kernel
theorem dX4_isColour_5 : decode cX4_isColour 5 = .ok (.bipush 8, 2) := by decide +kernel
theorem dX4_isColour_7 : decode cX4_isColour 7 = .ok (.if_icmp .ge 7, 3) := by decide +kernel
theorem dX4_isColour_10 : decode cX4_isColour 10 = .ok (.iconst 1, 1) := by decide +kernel
theorem dX4_isColour_11 : decode cX4_isColour 11 = .ok (.goto 4, 3) := by decide +kernel
theorem dX4_isColour_14 : decode cX4_isColour 14 = .ok (.iconst 0, 1) := by decide +kernel
theorem dX4_isColour_15 : decode cX4_isColour 15 = .ok (.ireturn, 1) := by decide +kernel
theorem dX4_isPosition_0 : decode cX4_isPosition 0 = .ok (.iload_n 1, 1) := by decide +kernel
theorem dX4_isPosition_1 : decode cX4_isPosition 1 = .ok (.invokestatic 253, 3) := by decide +kernel
theorem dX4_isPosition_4 : decode cX4_isPosition 4 = .ok (.ifCond .eq 23, 3) := by decide +kernel
theorem dX4_isPosition_7 : decode cX4_isPosition 7 = .ok (.iload_n 2, 1) := by decide +kernel
theorem dX4_isPosition_8 : decode cX4_isPosition 8 = .ok (.ifCond .lt 19, 3) := by decide +kernel
theorem dX4_isPosition_11 : decode cX4_isPosition 11 = .ok (.iload_n 2, 1) := by decide +kernel
theorem dX4_isPosition_12 : decode cX4_isPosition 12 = .ok (.aload_n 0, 1) := by decide +kernel
theorem dX4_isPosition_13 : decode cX4_isPosition 13 = .ok (.getfield 12, 3) := by decide +kernel
theorem dX4_isPosition_16 : decode cX4_isPosition 16 = .ok (.iload_n 1, 1) := by decide +kernel
theorem dX4_isPosition_17 : decode cX4_isPosition 17 = .ok (.invokevirtual 67, 3) := by decide +kernel
theorem dX4_isPosition_20 : decode cX4_isPosition 20 = .ok (.if_icmp .ge 7, 3) := by decide +kernel
theorem dX4_isPosition_23 : decode cX4_isPosition 23 = .ok (.iconst 1, 1) := by decide +kernel
theorem dX4_isPosition_24 : decode cX4_isPosition 24 = .ok (.goto 4, 3) := by decide +kernel
theorem dX4_isPosition_27 : decode cX4_isPosition 27 = .ok (.iconst 0, 1) := by decide +kernel
theorem dX4_isPosition_28 : decode cX4_isPosition 28 = .ok (.ireturn, 1) := by decide +kernel
theorem dX4_reelFault_0 : decode cX4_reelFault 0 = .ok (.iload_n 0, 1) := by decide +kernel
theorem dX4_reelFault_1 : decode cX4_reelFault 1 = .ok (.invokestatic 253, 3) := by decide +kernel
theorem dX4_reelFault_4 : decode cX4_reelFault 4 = .ok (.ifCond .eq 7, 3) := by decide +kernel
theorem dX4_reelFault_7 : decode cX4_reelFault 7 = .ok (.iconst 0, 1) := by decide +kernel
theorem dX4_reelFault_8 : decode cX4_reelFault 8 = .ok (.goto 4, 3) := by decide +kernel
theorem dX4_reelFault_11 : decode cX4_reelFault 11 = .ok (.iconst 1, 1) := by decide +kernel
theorem dX4_reelFault_12 : decode cX4_reelFault 12 = .ok (.ireturn, 1) := by decide +kernel
theorem dX4_pairFault_0 : decode cX4_pairFault 0 = .ok (.iload_n 0, 1) := by decide +kernel
theorem dX4_pairFault_1 : decode cX4_pairFault 1 = .ok (.invokestatic 253, 3) := by decide +kernel
theorem dX4_pairFault_4 : decode cX4_pairFault 4 = .ok (.ifCond .eq 14, 3) := by decide +kernel
theorem dX4_pairFault_7 : decode cX4_pairFault 7 = .ok (.iload_n 1, 1) := by decide +kernel
theorem dX4_pairFault_8 : decode cX4_pairFault 8 = .ok (.invokestatic 253, 3) := by decide +kernel
theorem dX4_pairFault_11 : decode cX4_pairFault 11 = .ok (.ifCond .eq 7, 3) := by decide +kernel
theorem dX4_pairFault_14 : decode cX4_pairFault 14 = .ok (.iconst 0, 1) := by decide +kernel
theorem dX4_pairFault_15 : decode cX4_pairFault 15 = .ok (.goto 4, 3) := by decide +kernel
theorem dX4_pairFault_18 : decode cX4_pairFault 18 = .ok (.iconst 1, 1) := by decide +kernel
theorem dX4_pairFault_19 : decode cX4_pairFault 19 = .ok (.ireturn, 1) := by decide +kernel
theorem dX4_colourFault_0 : decode cX4_colourFault 0 = .ok (.iload_n 0, 1) := by decide +kernel
theorem dX4_colourFault_1 : decode cX4_colourFault 1 = .ok (.invokestatic 256, 3) := by decide +kernel
theorem dX4_colourFault_4 : decode cX4_colourFault 4 = .ok (.ifCond .eq 7, 3) := by decide +kernel
theorem dX4_colourFault_7 : decode cX4_colourFault 7 = .ok (.iconst 0, 1) := by decide +kernel
theorem dX4_colourFault_8 : decode cX4_colourFault 8 = .ok (.goto 4, 3) := by decide +kernel
theorem dX4_colourFault_11 : decode cX4_colourFault 11 = .ok (.iconst 2, 1) := by decide +kernel
theorem dX4_colourFault_12 : decode cX4_colourFault 12 = .ok (.ireturn, 1) := by decide +kernel
theorem dX4_positionFault_0 : decode cX4_positionFault 0 = .ok (.aload_n 0, 1) := by decide +kernel
theorem dX4_positionFault_1 : decode cX4_positionFault 1 = .ok (.iload_n 1, 1) := by decide +kernel
theorem dX4_positionFault_2 : decode cX4_positionFault 2 = .ok (.iload_n 2, 1) := by decide +kernel
theorem dX4_positionFault_3 : decode cX4_positionFault 3 = .ok (.invokevirtual 259, 3) := by decide +kernel
theorem dX4_positionFault_6 : decode cX4_positionFault 6 = .ok (.ifCond .eq 7, 3) := by decide +kernel
theorem dX4_positionFault_9 : decode cX4_positionFault 9 = .ok (.iconst 0, 1) := by decide +kernel
theorem dX4_positionFault_10 : decode cX4_positionFault 10 = .ok (.goto 4, 3) := by decide +kernel
theorem dX4_positionFault_13 : decode cX4_positionFault 13 = .ok (.iconst 1, 1) := by decide +kernel
theorem dX4_positionFault_14 : decode cX4_positionFault 14 = .ok (.ireturn, 1) := by decide +kernel
theorem dX4_borderFault_0 : decode cX4_borderFault 0 = .ok (.iload_n 1, 1) := by decide +kernel
theorem dX4_borderFault_1 : decode cX4_borderFault 1 = .ok (.invokestatic 253, 3) := by decide +kernel
theorem dX4_borderFault_4 : decode cX4_borderFault 4 = .ok (.ifCond .eq 23, 3) := by decide +kernel
theorem dX4_borderFault_7 : decode cX4_borderFault 7 = .ok (.iload_n 2, 1) := by decide +kernel
theorem dX4_borderFault_8 : decode cX4_borderFault 8 = .ok (.ifCond .lt 19, 3) := by decide +kernel
theorem dX4_borderFault_11 : decode cX4_borderFault 11 = .ok (.iload_n 2, 1) := by decide +kernel
theorem dX4_borderFault_12 : decode cX4_borderFault 12 = .ok (.aload_n 0, 1) := by decide +kernel
theorem dX4_borderFault_13 : decode cX4_borderFault 13 = .ok (.getfield 12, 3) := by decide +kernel
theorem dX4_borderFault_16 : decode cX4_borderFault 16 = .ok (.iload_n 1, 1) := by decide +kernel
theorem dX4_borderFault_17 : decode cX4_borderFault 17 = .ok (.invokevirtual 67, 3) := by decide +kernel
theorem dX4_borderFault_20 : decode cX4_borderFault 20 = .ok (.if_icmp .gt 7, 3) := by decide +kernel
theorem dX4_borderFault_23 : decode cX4_borderFault 23 = .ok (.iconst 1, 1) := by decide +kernel
theorem dX4_borderFault_24 : decode cX4_borderFault 24 = .ok (.goto 4, 3) := by decide +kernel
theorem dX4_borderFault_27 : decode cX4_borderFault 27 = .ok (.iconst 0, 1) := by decide +kernel
theorem dX4_borderFault_28 : decode cX4_borderFault 28 = .ok (.istore_n 3, 1) := by decide +kernel
theorem dX4_borderFault_29 : decode cX4_borderFault 29 = .ok (.iload_n 3, 1) := by decide +kernel
theorem dX4_borderFault_30 : decode cX4_borderFault 30 = .ok (.ifCond .eq 7, 3) := by decide +kernel
theorem dX4_borderFault_33 : decode cX4_borderFault 33 = .ok (.iconst 0, 1) := by decide +kernel
theorem dX4_borderFault_34 : decode cX4_borderFault 34 = .ok (.goto 4, 3) := by decide +kernel
theorem dX4_borderFault_37 : decode cX4_borderFault 37 = .ok (.iconst 1, 1) := by decide +kernel
theorem dX4_borderFault_38 : decode cX4_borderFault 38 = .ok (.ireturn, 1) := by decide +kernel
theorem dX4_rangeFault_0 : decode cX4_rangeFault 0 = .ok (.aload_n 0, 1) := by decide +kernel
theorem dX4_rangeFault_1 : decode cX4_rangeFault 1 = .ok (.iload_n 1, 1) := by decide +kernel
theorem dX4_rangeFault_2 : decode cX4_rangeFault 2 = .ok (.iload_n 2, 1) := by decide +kernel
theorem dX4_rangeFault_3 : decode cX4_rangeFault 3 = .ok (.invokevirtual 259, 3) := by decide +kernel
theorem dX4_rangeFault_6 : decode cX4_rangeFault 6 = .ok (.ifCond .eq 12, 3) := by decide +kernel
theorem dX4_rangeFault_9 : decode cX4_rangeFault 9 = .ok (.aload_n 0, 1) := by decide +kernel
theorem dX4_rangeFault_10 : decode cX4_rangeFault 10 = .ok (.iload_n 1, 1) := by decide +kernel
theorem dX4_rangeFault_11 : decode cX4_rangeFault 11 = .ok (.iload_n 3, 1) := by decide +kernel
theorem dX4_rangeFault_12 : decode cX4_rangeFault 12 = .ok (.invokevirtual 259, 3) := by decide +kernel
theorem dX4_rangeFault_15 : decode cX4_rangeFault 15 = .ok (.ifCond .ne 5, 3) := by decide +kernel
theorem dX4_rangeFault_18 : decode cX4_rangeFault 18 = .ok (.iconst 1, 1) := by decide +kernel
theorem dX4_rangeFault_19 : decode cX4_rangeFault 19 = .ok (.ireturn, 1) := by decide +kernel
theorem dX4_rangeFault_20 : decode cX4_rangeFault 20 = .ok (.iload_n 2, 1) := by decide +kernel
theorem dX4_rangeFault_21 : decode cX4_rangeFault 21 = .ok (.iload_n 3, 1) := by decide +kernel
theorem dX4_rangeFault_22 : decode cX4_rangeFault 22 = .ok (.if_icmp .gt 7, 3) := by decide +kernel
theorem dX4_rangeFault_25 : decode cX4_rangeFault 25 = .ok (.iconst 0, 1) := by decide +kernel
theorem dX4_rangeFault_26 : decode cX4_rangeFault 26 = .ok (.goto 4, 3) := by decide +kernel
theorem dX4_rangeFault_29 : decode cX4_rangeFault 29 = .ok (.iconst 2, 1) := by decide +kernel
theorem dX4_rangeFault_30 : decode cX4_rangeFault 30 = .ok (.ireturn, 1) := by decide +kernel
theorem dX4_addFault_0 : decode cX4_addFault 0 = .ok (.iload_n 1, 1) := by decide +kernel
theorem dX4_addFault_1 : decode cX4_addFault 1 = .ok (.invokestatic 253, 3) := by decide +kernel
theorem dX4_addFault_4 : decode cX4_addFault 4 = .ok (.ifCond .ne 5, 3) := by decide +kernel
theorem dX4_addFault_7 : decode cX4_addFault 7 = .ok (.iconst 1, 1) := by decide +kernel
theorem dX4_addFault_8 : decode cX4_addFault 8 = .ok (.ireturn, 1) := by decide +kernel
theorem dX4_addFault_9 : decode cX4_addFault 9 = .ok (.aload_n 0, 1) := by decide +kernel
theorem dX4_addFault_10 : decode cX4_addFault 10 = .ok (.iload_n 1, 1) := by decide +kernel
theorem dX4_addFault_11 : decode cX4_addFault 11 = .ok (.iload_n 2, 1) := by decide +kernel
theorem dX4_addFault_12 : decode cX4_addFault 12 = .ok (.iload_n 3, 1) := by decide +kernel
theorem dX4_addFault_13 : decode cX4_addFault 13 = .ok (.invokevirtual 262, 3) := by decide +kernel
theorem dX4_addFault_16 : decode cX4_addFault 16 = .ok (.ireturn, 1) := by decide +kernel
theorem dX4_putFault_0 : decode cX4_putFault 0 = .ok (.aload_n 0, 1) := by decide +kernel
theorem dX4_putFault_1 : decode cX4_putFault 1 = .ok (.iload_n 1, 1) := by decide +kernel
theorem dX4_putFault_2 : decode cX4_putFault 2 = .ok (.iload_n 2, 1) := by decide +kernel
theorem dX4_putFault_3 : decode cX4_putFault 3 = .ok (.invokevirtual 83, 3) := by decide +kernel
theorem dX4_putFault_6 : decode cX4_putFault 6 = .ok (.ifCond .eq 5, 3) := by decide +kernel
theorem dX4_putFault_9 : decode cX4_putFault 9 = .ok (.iconst 1, 1) := by decide +kernel
theorem dX4_putFault_10 : decode cX4_putFault 10 = .ok (.ireturn, 1) := by decide +kernel
theorem dX4_putFault_11 : decode cX4_putFault 11 = .ok (.aload_n 0, 1) := by decide +kernel
theorem dX4_putFault_12 : decode cX4_putFault 12 = .ok (.iload_n 1, 1) := by decide +kernel
theorem dX4_putFault_13 : decode cX4_putFault 13 = .ok (.iload_n 3, 1) := by decide +kernel
theorem dX4_putFault_14 : decode cX4_putFault 14 = .ok (.iload 4, 2) := by decide +kernel
theorem dX4_putFault_16 : decode cX4_putFault 16 = .ok (.invokevirtual 262, 3) := by decide +kernel
theorem dX4_putFault_19 : decode cX4_putFault 19 = .ok (.ireturn, 1) := by decide +kernel
theorem dX4_newSegmentFault_0 : decode cX4_newSegmentFault 0 = .ok (.iload_n 2, 1) := by decide +kernel
theorem dX4_newSegmentFault_1 : decode cX4_newSegmentFault 1 = .ok (.invokestatic 265, 3) := by decide +kernel
theorem dX4_newSegmentFault_4 : decode cX4_newSegmentFault 4 = .ok (.ifCond .eq 10, 3) := by decide +kernel
theorem dX4_newSegmentFault_7 : decode cX4_newSegmentFault 7 = .ok (.iload_n 3, 1) := by decide +kernel
theorem dX4_newSegmentFault_8 : decode cX4_newSegmentFault 8 = .ok (.invokestatic 256, 3) := by decide +kernel
theorem dX4_newSegmentFault_11 : decode cX4_newSegmentFault 11 = .ok (.ifCond .ne 5, 3) := by decide +kernel
theorem dX4_newSegmentFault_14 : decode cX4_newSegmentFault 14 = .ok (.iconst 2, 1) := by decide +kernel
theorem dX4_newSegmentFault_15 : decode cX4_newSegmentFault 15 = .ok (.ireturn, 1) := by decide +kernel
theorem dX4_newSegmentFault_16 : decode cX4_newSegmentFault 16 = .ok (.aload_n 0, 1) := by decide +kernel
theorem dX4_newSegmentFault_17 : decode cX4_newSegmentFault 17 = .ok (.getfield 12, 3) := by decide +kernel
theorem dX4_newSegmentFault_20 : decode cX4_newSegmentFault 20 = .ok (.iload_n 1, 1) := by decide +kernel
theorem dX4_newSegmentFault_21 : decode cX4_newSegmentFault 21 = .ok (.invokevirtual 67, 3) := by decide +kernel
theorem dX4_newSegmentFault_24 : decode cX4_newSegmentFault 24 = .ok (.bipush 60, 2) := by decide +kernel
theorem dX4_newSegmentFault_26 : decode cX4_newSegmentFault 26 = .ok (.if_icmp .ge 7, 3) := by decide +kernel
theorem dX4_newSegmentFault_29 : decode cX4_newSegmentFault 29 = .ok (.iconst 0, 1) := by decide +kernel
theorem dX4_newSegmentFault_30 : decode cX4_newSegmentFault 30 = .ok (.goto 4, 3) := by decide +kernel
theorem dX4_newSegmentFault_33 : decode cX4_newSegmentFault 33 = .ok (.iconst 3, 1) := by decide +kernel
theorem dX4_newSegmentFault_34 : decode cX4_newSegmentFault 34 = .ok (.ireturn, 1) := by decide +kernel
theorem dX4_tieFault_0 : decode cX4_tieFault 0 = .ok (.aload_n 0, 1) := by decide +kernel
theorem dX4_tieFault_1 : decode cX4_tieFault 1 = .ok (.iload_n 1, 1) := by decide +kernel
theorem dX4_tieFault_2 : decode cX4_tieFault 2 = .ok (.iload_n 2, 1) := by decide +kernel
theorem dX4_tieFault_3 : decode cX4_tieFault 3 = .ok (.invokevirtual 259, 3) := by decide +kernel
theorem dX4_tieFault_6 : decode cX4_tieFault 6 = .ok (.ifCond .ne 5, 3) := by decide +kernel
theorem dX4_tieFault_9 : decode cX4_tieFault 9 = .ok (.iconst 1, 1) := by decide +kernel
theorem dX4_tieFault_10 : decode cX4_tieFault 10 = .ok (.ireturn, 1) := by decide +kernel
theorem dX4_tieFault_11 : decode cX4_tieFault 11 = .ok (.iload_n 3, 1) := by decide +kernel
theorem dX4_tieFault_12 : decode cX4_tieFault 12 = .ok (.invokestatic 265, 3) := by decide +kernel
theorem dX4_tieFault_15 : decode cX4_tieFault 15 = .ok (.ifCond .eq 7, 3) := by decide +kernel
theorem dX4_tieFault_18 : decode cX4_tieFault 18 = .ok (.iconst 0, 1) := by decide +kernel
theorem dX4_tieFault_19 : decode cX4_tieFault 19 = .ok (.goto 4, 3) := by decide +kernel
theorem dX4_tieFault_22 : decode cX4_tieFault 22 = .ok (.iconst 2, 1) := by decide +kernel
theorem dX4_tieFault_23 : decode cX4_tieFault 23 = .ok (.ireturn, 1) := by decide +kernel
theorem dX4_cutFault_0 : decode cX4_cutFault 0 = .ok (.aload_n 0, 1) := by decide +kernel
theorem dX4_cutFault_1 : decode cX4_cutFault 1 = .ok (.iload_n 1, 1) := by decide +kernel
theorem dX4_cutFault_2 : decode cX4_cutFault 2 = .ok (.iload_n 2, 1) := by decide +kernel
theorem dX4_cutFault_3 : decode cX4_cutFault 3 = .ok (.invokevirtual 83, 3) := by decide +kernel
theorem dX4_cutFault_6 : decode cX4_cutFault 6 = .ok (.ifCond .ne 10, 3) := by decide +kernel
theorem dX4_cutFault_9 : decode cX4_cutFault 9 = .ok (.iload_n 3, 1) := by decide +kernel
theorem dX4_cutFault_10 : decode cX4_cutFault 10 = .ok (.invokestatic 253, 3) := by decide +kernel
theorem dX4_cutFault_13 : decode cX4_cutFault 13 = .ok (.ifCond .ne 5, 3) := by decide +kernel
theorem dX4_cutFault_16 : decode cX4_cutFault 16 = .ok (.iconst 1, 1) := by decide +kernel
theorem dX4_cutFault_17 : decode cX4_cutFault 17 = .ok (.ireturn, 1) := by decide +kernel
theorem dX4_cutFault_18 : decode cX4_cutFault 18 = .ok (.iload_n 1, 1) := by decide +kernel
theorem dX4_cutFault_19 : decode cX4_cutFault 19 = .ok (.iload_n 3, 1) := by decide +kernel
theorem dX4_cutFault_20 : decode cX4_cutFault 20 = .ok (.if_icmp .ne 5, 3) := by decide +kernel
theorem dX4_cutFault_23 : decode cX4_cutFault 23 = .ok (.iconst 2, 1) := by decide +kernel
theorem dX4_cutFault_24 : decode cX4_cutFault 24 = .ok (.ireturn, 1) := by decide +kernel
theorem dX4_cutFault_25 : decode cX4_cutFault 25 = .ok (.aload_n 0, 1) := by decide +kernel
theorem dX4_cutFault_26 : decode cX4_cutFault 26 = .ok (.getfield 12, 3) := by decide +kernel
theorem dX4_cutFault_29 : decode cX4_cutFault 29 = .ok (.iload_n 3, 1) := by decide +kernel
theorem dX4_cutFault_30 : decode cX4_cutFault 30 = .ok (.invokevirtual 67, 3) := by decide +kernel
theorem dX4_cutFault_33 : decode cX4_cutFault 33 = .ok (.ifCond .ne 7, 3) := by decide +kernel
theorem dX4_cutFault_36 : decode cX4_cutFault 36 = .ok (.iconst 0, 1) := by decide +kernel
theorem dX4_cutFault_37 : decode cX4_cutFault 37 = .ok (.goto 4, 3) := by decide +kernel
theorem dX4_cutFault_40 : decode cX4_cutFault 40 = .ok (.iconst 3, 1) := by decide +kernel
theorem dX4_cutFault_41 : decode cX4_cutFault 41 = .ok (.ireturn, 1) := by decide +kernel
theorem dX4_joinFault_0 : decode cX4_joinFault 0 = .ok (.iload_n 1, 1) := by decide +kernel
theorem dX4_joinFault_1 : decode cX4_joinFault 1 = .ok (.iload_n 2, 1) := by decide +kernel
theorem dX4_joinFault_2 : decode cX4_joinFault 2 = .ok (.invokestatic 137, 3) := by decide +kernel
theorem dX4_joinFault_5 : decode cX4_joinFault 5 = .ok (.ifCond .eq 5, 3) := by decide +kernel
theorem dX4_joinFault_8 : decode cX4_joinFault 8 = .ok (.iconst 1, 1) := by decide +kernel
theorem dX4_joinFault_9 : decode cX4_joinFault 9 = .ok (.ireturn, 1) := by decide +kernel
theorem dX4_joinFault_10 : decode cX4_joinFault 10 = .ok (.iload_n 1, 1) := by decide +kernel
theorem dX4_joinFault_11 : decode cX4_joinFault 11 = .ok (.iload_n 2, 1) := by decide +kernel
theorem dX4_joinFault_12 : decode cX4_joinFault 12 = .ok (.if_icmp .ne 5, 3) := by decide +kernel
theorem dX4_joinFault_15 : decode cX4_joinFault 15 = .ok (.iconst 2, 1) := by decide +kernel
theorem dX4_joinFault_16 : decode cX4_joinFault 16 = .ok (.ireturn, 1) := by decide +kernel
theorem dX4_joinFault_17 : decode cX4_joinFault 17 = .ok (.aload_n 0, 1) := by decide +kernel
theorem dX4_joinFault_18 : decode cX4_joinFault 18 = .ok (.getfield 12, 3) := by decide +kernel
theorem dX4_joinFault_21 : decode cX4_joinFault 21 = .ok (.iload_n 1, 1) := by decide +kernel
theorem dX4_joinFault_22 : decode cX4_joinFault 22 = .ok (.invokevirtual 67, 3) := by decide +kernel
theorem dX4_joinFault_25 : decode cX4_joinFault 25 = .ok (.aload_n 0, 1) := by decide +kernel
theorem dX4_joinFault_26 : decode cX4_joinFault 26 = .ok (.getfield 12, 3) := by decide +kernel
theorem dX4_joinFault_29 : decode cX4_joinFault 29 = .ok (.iload_n 2, 1) := by decide +kernel
theorem dX4_joinFault_30 : decode cX4_joinFault 30 = .ok (.invokevirtual 67, 3) := by decide +kernel
theorem dX4_joinFault_33 : decode cX4_joinFault 33 = .ok (.iadd, 1) := by decide +kernel
theorem dX4_joinFault_34 : decode cX4_joinFault 34 = .ok (.bipush 60, 2) := by decide +kernel
theorem dX4_joinFault_36 : decode cX4_joinFault 36 = .ok (.if_icmp .gt 7, 3) := by decide +kernel
theorem dX4_joinFault_39 : decode cX4_joinFault 39 = .ok (.iconst 0, 1) := by decide +kernel
theorem dX4_joinFault_40 : decode cX4_joinFault 40 = .ok (.goto 4, 3) := by decide +kernel
theorem dX4_joinFault_43 : decode cX4_joinFault 43 = .ok (.iconst 3, 1) := by decide +kernel
theorem dX4_joinFault_44 : decode cX4_joinFault 44 = .ok (.ireturn, 1) := by decide +kernel
theorem dX4_dyeFault_0 : decode cX4_dyeFault 0 = .ok (.aload_n 0, 1) := by decide +kernel
theorem dX4_dyeFault_1 : decode cX4_dyeFault 1 = .ok (.iload_n 1, 1) := by decide +kernel
theorem dX4_dyeFault_2 : decode cX4_dyeFault 2 = .ok (.iload_n 2, 1) := by decide +kernel
theorem dX4_dyeFault_3 : decode cX4_dyeFault 3 = .ok (.iload_n 3, 1) := by decide +kernel
theorem dX4_dyeFault_4 : decode cX4_dyeFault 4 = .ok (.invokevirtual 99, 3) := by decide +kernel
theorem dX4_dyeFault_7 : decode cX4_dyeFault 7 = .ok (.istore 5, 2) := by decide +kernel
theorem dX4_dyeFault_9 : decode cX4_dyeFault 9 = .ok (.iload 5, 2) := by decide +kernel
theorem dX4_dyeFault_11 : decode cX4_dyeFault 11 = .ok (.ifCond .ne 11, 3) := by decide +kernel
theorem dX4_dyeFault_14 : decode cX4_dyeFault 14 = .ok (.iload 4, 2) := by decide +kernel
theorem dX4_dyeFault_16 : decode cX4_dyeFault 16 = .ok (.invokestatic 121, 3) := by decide +kernel
theorem dX4_dyeFault_19 : decode cX4_dyeFault 19 = .ok (.goto 5, 3) := by decide +kernel
theorem dX4_dyeFault_22 : decode cX4_dyeFault 22 = .ok (.iload 5, 2) := by decide +kernel
theorem dX4_dyeFault_24 : decode cX4_dyeFault 24 = .ok (.ireturn, 1) := by decide +kernel
theorem dX4_change_0 : decode cX4_change 0 = .ok (.aload_n 0, 1) := by decide +kernel
theorem dX4_change_1 : decode cX4_change 1 = .ok (.iload_n 1, 1) := by decide +kernel
theorem dX4_change_2 : decode cX4_change 2 = .ok (.iload_n 2, 1) := by decide +kernel
theorem dX4_change_3 : decode cX4_change 3 = .ok (.iload_n 3, 1) := by decide +kernel
theorem dX4_change_4 : decode cX4_change 4 = .ok (.iload 4, 2) := by decide +kernel
theorem dX4_change_6 : decode cX4_change 6 = .ok (.iload 5, 2) := by decide +kernel
theorem dX4_change_8 : decode cX4_change 8 = .ok (.invokevirtual 268, 3) := by decide +kernel
theorem dX4_change_11 : decode cX4_change 11 = .ok (.invokestatic 63, 3) := by decide +kernel
theorem dX4_change_14 : decode cX4_change 14 = .ok (.aload_n 0, 1) := by decide +kernel
theorem dX4_change_15 : decode cX4_change 15 = .ok (.getfield 12, 3) := by decide +kernel
theorem dX4_change_18 : decode cX4_change 18 = .ok (.aload_n 0, 1) := by decide +kernel
theorem dX4_change_19 : decode cX4_change 19 = .ok (.getfield 16, 3) := by decide +kernel
theorem dX4_change_22 : decode cX4_change 22 = .ok (.iconst 0, 1) := by decide +kernel
theorem dX4_change_23 : decode cX4_change 23 = .ok (.invokevirtual 175, 3) := by decide +kernel
theorem dX4_change_26 : decode cX4_change 26 = .ok (.aload_n 0, 1) := by decide +kernel
theorem dX4_change_27 : decode cX4_change 27 = .ok (.getfield 30, 3) := by decide +kernel
theorem dX4_change_30 : decode cX4_change 30 = .ok (.aload_n 0, 1) := by decide +kernel
theorem dX4_change_31 : decode cX4_change 31 = .ok (.getfield 16, 3) := by decide +kernel
theorem dX4_change_34 : decode cX4_change 34 = .ok (.invokevirtual 187, 3) := by decide +kernel
theorem dX4_change_37 : decode cX4_change 37 = .ok (.aload_n 0, 1) := by decide +kernel
theorem dX4_change_38 : decode cX4_change 38 = .ok (.iload_n 1, 1) := by decide +kernel
theorem dX4_change_39 : decode cX4_change 39 = .ok (.iload_n 2, 1) := by decide +kernel
theorem dX4_change_40 : decode cX4_change 40 = .ok (.iload_n 3, 1) := by decide +kernel
theorem dX4_change_41 : decode cX4_change 41 = .ok (.iload 4, 2) := by decide +kernel
theorem dX4_change_43 : decode cX4_change 43 = .ok (.iload 5, 2) := by decide +kernel
theorem dX4_change_45 : decode cX4_change 45 = .ok (.invokevirtual 271, 3) := by decide +kernel
theorem dX4_change_48 : decode cX4_change 48 = .ok (.istore 6, 2) := by decide +kernel
theorem dX4_change_50 : decode cX4_change 50 = .ok (.aload_n 0, 1) := by decide +kernel
theorem dX4_change_51 : decode cX4_change 51 = .ok (.getfield 12, 3) := by decide +kernel
theorem dX4_change_54 : decode cX4_change 54 = .ok (.invokevirtual 191, 3) := by decide +kernel
theorem dX4_change_57 : decode cX4_change 57 = .ok (.iload 6, 2) := by decide +kernel
theorem dX4_change_59 : decode cX4_change 59 = .ok (.ireturn, 1) := by decide +kernel
theorem dX4_faultOf_0 : decode cX4_faultOf 0 = .ok (.iload_n 1, 1) := by decide +kernel
theorem dX4_faultOf_1 : decode cX4_faultOf 1 = .ok (.tableswitch 129 0 8 #[51, 60, 71, 78, 87, 96, 103, 109, 118], 51) := by decide +kernel
theorem dX4_faultOf_52 : decode cX4_faultOf 52 = .ok (.aload_n 0, 1) := by decide +kernel
theorem dX4_faultOf_53 : decode cX4_faultOf 53 = .ok (.iload_n 2, 1) := by decide +kernel
theorem dX4_faultOf_54 : decode cX4_faultOf 54 = .ok (.iload_n 3, 1) := by decide +kernel
theorem dX4_faultOf_55 : decode cX4_faultOf 55 = .ok (.iload 4, 2) := by decide +kernel
theorem dX4_faultOf_57 : decode cX4_faultOf 57 = .ok (.invokevirtual 274, 3) := by decide +kernel
theorem dX4_faultOf_60 : decode cX4_faultOf 60 = .ok (.ireturn, 1) := by decide +kernel
theorem dX4_faultOf_61 : decode cX4_faultOf 61 = .ok (.aload_n 0, 1) := by decide +kernel
theorem dX4_faultOf_62 : decode cX4_faultOf 62 = .ok (.iload_n 2, 1) := by decide +kernel
theorem dX4_faultOf_63 : decode cX4_faultOf 63 = .ok (.iload_n 3, 1) := by decide +kernel
theorem dX4_faultOf_64 : decode cX4_faultOf 64 = .ok (.iload 4, 2) := by decide +kernel
theorem dX4_faultOf_66 : decode cX4_faultOf 66 = .ok (.iload 5, 2) := by decide +kernel
theorem dX4_faultOf_68 : decode cX4_faultOf 68 = .ok (.invokevirtual 277, 3) := by decide +kernel
theorem dX4_faultOf_71 : decode cX4_faultOf 71 = .ok (.ireturn, 1) := by decide +kernel
theorem dX4_faultOf_72 : decode cX4_faultOf 72 = .ok (.aload_n 0, 1) := by decide +kernel
theorem dX4_faultOf_73 : decode cX4_faultOf 73 = .ok (.iload_n 2, 1) := by decide +kernel
theorem dX4_faultOf_74 : decode cX4_faultOf 74 = .ok (.iload_n 3, 1) := by decide +kernel
theorem dX4_faultOf_75 : decode cX4_faultOf 75 = .ok (.invokevirtual 70, 3) := by decide +kernel
theorem dX4_faultOf_78 : decode cX4_faultOf 78 = .ok (.ireturn, 1) := by decide +kernel
theorem dX4_faultOf_79 : decode cX4_faultOf 79 = .ok (.aload_n 0, 1) := by decide +kernel
theorem dX4_faultOf_80 : decode cX4_faultOf 80 = .ok (.iload_n 2, 1) := by decide +kernel
theorem dX4_faultOf_81 : decode cX4_faultOf 81 = .ok (.iload_n 3, 1) := by decide +kernel
theorem dX4_faultOf_82 : decode cX4_faultOf 82 = .ok (.iload 4, 2) := by decide +kernel
theorem dX4_faultOf_84 : decode cX4_faultOf 84 = .ok (.invokevirtual 281, 3) := by decide +kernel
theorem dX4_faultOf_87 : decode cX4_faultOf 87 = .ok (.ireturn, 1) := by decide +kernel
theorem dX4_faultOf_88 : decode cX4_faultOf 88 = .ok (.aload_n 0, 1) := by decide +kernel
theorem dX4_faultOf_89 : decode cX4_faultOf 89 = .ok (.iload_n 2, 1) := by decide +kernel
theorem dX4_faultOf_90 : decode cX4_faultOf 90 = .ok (.iload_n 3, 1) := by decide +kernel
theorem dX4_faultOf_91 : decode cX4_faultOf 91 = .ok (.iload 4, 2) := by decide +kernel
theorem dX4_faultOf_93 : decode cX4_faultOf 93 = .ok (.invokevirtual 284, 3) := by decide +kernel
theorem dX4_faultOf_96 : decode cX4_faultOf 96 = .ok (.ireturn, 1) := by decide +kernel
theorem dX4_faultOf_97 : decode cX4_faultOf 97 = .ok (.aload_n 0, 1) := by decide +kernel
theorem dX4_faultOf_98 : decode cX4_faultOf 98 = .ok (.iload_n 2, 1) := by decide +kernel
theorem dX4_faultOf_99 : decode cX4_faultOf 99 = .ok (.iload_n 3, 1) := by decide +kernel
theorem dX4_faultOf_100 : decode cX4_faultOf 100 = .ok (.invokevirtual 287, 3) := by decide +kernel
theorem dX4_faultOf_103 : decode cX4_faultOf 103 = .ok (.ireturn, 1) := by decide +kernel
theorem dX4_faultOf_104 : decode cX4_faultOf 104 = .ok (.iload_n 2, 1) := by decide +kernel
theorem dX4_faultOf_105 : decode cX4_faultOf 105 = .ok (.iload_n 3, 1) := by decide +kernel
theorem dX4_faultOf_106 : decode cX4_faultOf 106 = .ok (.invokestatic 137, 3) := by decide +kernel
theorem dX4_faultOf_109 : decode cX4_faultOf 109 = .ok (.ireturn, 1) := by decide +kernel
theorem dX4_faultOf_110 : decode cX4_faultOf 110 = .ok (.aload_n 0, 1) := by decide +kernel
theorem dX4_faultOf_111 : decode cX4_faultOf 111 = .ok (.iload_n 2, 1) := by decide +kernel
theorem dX4_faultOf_112 : decode cX4_faultOf 112 = .ok (.iload_n 3, 1) := by decide +kernel
theorem dX4_faultOf_113 : decode cX4_faultOf 113 = .ok (.iload 4, 2) := by decide +kernel
theorem dX4_faultOf_115 : decode cX4_faultOf 115 = .ok (.invokevirtual 99, 3) := by decide +kernel
theorem dX4_faultOf_118 : decode cX4_faultOf 118 = .ok (.ireturn, 1) := by decide +kernel
theorem dX4_faultOf_119 : decode cX4_faultOf 119 = .ok (.aload_n 0, 1) := by decide +kernel
theorem dX4_faultOf_120 : decode cX4_faultOf 120 = .ok (.iload_n 2, 1) := by decide +kernel
theorem dX4_faultOf_121 : decode cX4_faultOf 121 = .ok (.iload_n 3, 1) := by decide +kernel
theorem dX4_faultOf_122 : decode cX4_faultOf 122 = .ok (.iload 4, 2) := by decide +kernel
theorem dX4_faultOf_124 : decode cX4_faultOf 124 = .ok (.iload 5, 2) := by decide +kernel
theorem dX4_faultOf_126 : decode cX4_faultOf 126 = .ok (.invokevirtual 290, 3) := by decide +kernel
theorem dX4_faultOf_129 : decode cX4_faultOf 129 = .ok (.ireturn, 1) := by decide +kernel
theorem dX4_faultOf_130 : decode cX4_faultOf 130 = .ok (.iconst 3, 1) := by decide +kernel
theorem dX4_faultOf_131 : decode cX4_faultOf 131 = .ok (.ireturn, 1) := by decide +kernel
theorem dX4_carryOut_0 : decode cX4_carryOut 0 = .ok (.iload_n 1, 1) := by decide +kernel
theorem dX4_carryOut_1 : decode cX4_carryOut 1 = .ok (.tableswitch 165 0 8 #[51, 71, 85, 95, 107, 119, 129, 139, 151], 51) := by decide +kernel
theorem dX4_carryOut_52 : decode cX4_carryOut 52 = .ok (.aload_n 0, 1) := by decide +kernel
theorem dX4_carryOut_53 : decode cX4_carryOut 53 = .ok (.getfield 12, 3) := by decide +kernel
theorem dX4_carryOut_56 : decode cX4_carryOut 56 = .ok (.iload_n 2, 1) := by decide +kernel
theorem dX4_carryOut_57 : decode cX4_carryOut 57 = .ok (.aload_n 0, 1) := by decide +kernel
theorem dX4_carryOut_58 : decode cX4_carryOut 58 = .ok (.getfield 12, 3) := by decide +kernel
theorem dX4_carryOut_61 : decode cX4_carryOut 61 = .ok (.iload_n 2, 1) := by decide +kernel
theorem dX4_carryOut_62 : decode cX4_carryOut 62 = .ok (.invokevirtual 67, 3) := by decide +kernel
theorem dX4_carryOut_65 : decode cX4_carryOut 65 = .ok (.iload_n 3, 1) := by decide +kernel
theorem dX4_carryOut_66 : decode cX4_carryOut 66 = .ok (.iload 4, 2) := by decide +kernel
theorem dX4_carryOut_68 : decode cX4_carryOut 68 = .ok (.invokevirtual 293, 3) := by decide +kernel
theorem dX4_carryOut_71 : decode cX4_carryOut 71 = .ok (.ireturn, 1) := by decide +kernel
theorem dX4_carryOut_72 : decode cX4_carryOut 72 = .ok (.aload_n 0, 1) := by decide +kernel
theorem dX4_carryOut_73 : decode cX4_carryOut 73 = .ok (.getfield 12, 3) := by decide +kernel
theorem dX4_carryOut_76 : decode cX4_carryOut 76 = .ok (.iload_n 2, 1) := by decide +kernel
theorem dX4_carryOut_77 : decode cX4_carryOut 77 = .ok (.iload_n 3, 1) := by decide +kernel
theorem dX4_carryOut_78 : decode cX4_carryOut 78 = .ok (.iload 4, 2) := by decide +kernel
theorem dX4_carryOut_80 : decode cX4_carryOut 80 = .ok (.iload 5, 2) := by decide +kernel
theorem dX4_carryOut_82 : decode cX4_carryOut 82 = .ok (.invokevirtual 293, 3) := by decide +kernel
theorem dX4_carryOut_85 : decode cX4_carryOut 85 = .ok (.ireturn, 1) := by decide +kernel
theorem dX4_carryOut_86 : decode cX4_carryOut 86 = .ok (.aload_n 0, 1) := by decide +kernel
theorem dX4_carryOut_87 : decode cX4_carryOut 87 = .ok (.getfield 12, 3) := by decide +kernel
theorem dX4_carryOut_90 : decode cX4_carryOut 90 = .ok (.iload_n 2, 1) := by decide +kernel
theorem dX4_carryOut_91 : decode cX4_carryOut 91 = .ok (.iload_n 3, 1) := by decide +kernel
theorem dX4_carryOut_92 : decode cX4_carryOut 92 = .ok (.invokevirtual 296, 3) := by decide +kernel
theorem dX4_carryOut_95 : decode cX4_carryOut 95 = .ok (.ireturn, 1) := by decide +kernel
theorem dX4_carryOut_96 : decode cX4_carryOut 96 = .ok (.aload_n 0, 1) := by decide +kernel
theorem dX4_carryOut_97 : decode cX4_carryOut 97 = .ok (.getfield 12, 3) := by decide +kernel
theorem dX4_carryOut_100 : decode cX4_carryOut 100 = .ok (.iload_n 2, 1) := by decide +kernel
theorem dX4_carryOut_101 : decode cX4_carryOut 101 = .ok (.iload_n 3, 1) := by decide +kernel
theorem dX4_carryOut_102 : decode cX4_carryOut 102 = .ok (.iload 4, 2) := by decide +kernel
theorem dX4_carryOut_104 : decode cX4_carryOut 104 = .ok (.invokevirtual 299, 3) := by decide +kernel
theorem dX4_carryOut_107 : decode cX4_carryOut 107 = .ok (.ireturn, 1) := by decide +kernel
theorem dX4_carryOut_108 : decode cX4_carryOut 108 = .ok (.aload_n 0, 1) := by decide +kernel
theorem dX4_carryOut_109 : decode cX4_carryOut 109 = .ok (.getfield 12, 3) := by decide +kernel
theorem dX4_carryOut_112 : decode cX4_carryOut 112 = .ok (.iload_n 2, 1) := by decide +kernel
theorem dX4_carryOut_113 : decode cX4_carryOut 113 = .ok (.iload_n 3, 1) := by decide +kernel
theorem dX4_carryOut_114 : decode cX4_carryOut 114 = .ok (.iload 4, 2) := by decide +kernel
theorem dX4_carryOut_116 : decode cX4_carryOut 116 = .ok (.invokevirtual 302, 3) := by decide +kernel
theorem dX4_carryOut_119 : decode cX4_carryOut 119 = .ok (.ireturn, 1) := by decide +kernel
theorem dX4_carryOut_120 : decode cX4_carryOut 120 = .ok (.aload_n 0, 1) := by decide +kernel
theorem dX4_carryOut_121 : decode cX4_carryOut 121 = .ok (.getfield 12, 3) := by decide +kernel
theorem dX4_carryOut_124 : decode cX4_carryOut 124 = .ok (.iload_n 2, 1) := by decide +kernel
theorem dX4_carryOut_125 : decode cX4_carryOut 125 = .ok (.iload_n 3, 1) := by decide +kernel
theorem dX4_carryOut_126 : decode cX4_carryOut 126 = .ok (.invokevirtual 305, 3) := by decide +kernel
theorem dX4_carryOut_129 : decode cX4_carryOut 129 = .ok (.ireturn, 1) := by decide +kernel
theorem dX4_carryOut_130 : decode cX4_carryOut 130 = .ok (.aload_n 0, 1) := by decide +kernel
theorem dX4_carryOut_131 : decode cX4_carryOut 131 = .ok (.getfield 12, 3) := by decide +kernel
theorem dX4_carryOut_134 : decode cX4_carryOut 134 = .ok (.iload_n 2, 1) := by decide +kernel
theorem dX4_carryOut_135 : decode cX4_carryOut 135 = .ok (.iload_n 3, 1) := by decide +kernel
theorem dX4_carryOut_136 : decode cX4_carryOut 136 = .ok (.invokevirtual 308, 3) := by decide +kernel
theorem dX4_carryOut_139 : decode cX4_carryOut 139 = .ok (.ireturn, 1) := by decide +kernel
theorem dX4_carryOut_140 : decode cX4_carryOut 140 = .ok (.aload_n 0, 1) := by decide +kernel
theorem dX4_carryOut_141 : decode cX4_carryOut 141 = .ok (.getfield 12, 3) := by decide +kernel
theorem dX4_carryOut_144 : decode cX4_carryOut 144 = .ok (.iload_n 2, 1) := by decide +kernel
theorem dX4_carryOut_145 : decode cX4_carryOut 145 = .ok (.iload_n 3, 1) := by decide +kernel
theorem dX4_carryOut_146 : decode cX4_carryOut 146 = .ok (.iload 4, 2) := by decide +kernel
theorem dX4_carryOut_148 : decode cX4_carryOut 148 = .ok (.invokevirtual 311, 3) := by decide +kernel
theorem dX4_carryOut_151 : decode cX4_carryOut 151 = .ok (.ireturn, 1) := by decide +kernel
theorem dX4_carryOut_152 : decode cX4_carryOut 152 = .ok (.aload_n 0, 1) := by decide +kernel
theorem dX4_carryOut_153 : decode cX4_carryOut 153 = .ok (.getfield 12, 3) := by decide +kernel
theorem dX4_carryOut_156 : decode cX4_carryOut 156 = .ok (.iload_n 2, 1) := by decide +kernel
theorem dX4_carryOut_157 : decode cX4_carryOut 157 = .ok (.iload_n 3, 1) := by decide +kernel
theorem dX4_carryOut_158 : decode cX4_carryOut 158 = .ok (.iload 4, 2) := by decide +kernel
theorem dX4_carryOut_160 : decode cX4_carryOut 160 = .ok (.iload 5, 2) := by decide +kernel
theorem dX4_carryOut_162 : decode cX4_carryOut 162 = .ok (.invokevirtual 314, 3) := by decide +kernel
theorem dX4_carryOut_165 : decode cX4_carryOut 165 = .ok (.ireturn, 1) := by decide +kernel
theorem dX4_carryOut_166 : decode cX4_carryOut 166 = .ok (.iconst (-1), 1) := by decide +kernel
theorem dX4_carryOut_167 : decode cX4_carryOut 167 = .ok (.ireturn, 1) := by decide +kernel
theorem dX4_carryOutCommands_0 : decode cX4_carryOutCommands 0 = .ok (.iconst 0, 1) := by decide +kernel
theorem dX4_carryOutCommands_1 : decode cX4_carryOutCommands 1 = .ok (.istore_n 1, 1) := by decide +kernel
theorem dX4_carryOutCommands_2 : decode cX4_carryOutCommands 2 = .ok (.iload_n 1, 1) := by decide +kernel
theorem dX4_carryOutCommands_3 : decode cX4_carryOutCommands 3 = .ok (.aload_n 0, 1) := by decide +kernel
theorem dX4_carryOutCommands_4 : decode cX4_carryOutCommands 4 = .ok (.getfield 37, 3) := by decide +kernel
theorem dX4_carryOutCommands_7 : decode cX4_carryOutCommands 7 = .ok (.invokevirtual 194, 3) := by decide +kernel
theorem dX4_carryOutCommands_10 : decode cX4_carryOutCommands 10 = .ok (.if_icmp .ge 91, 3) := by decide +kernel
theorem dX4_carryOutCommands_13 : decode cX4_carryOutCommands 13 = .ok (.aload_n 0, 1) := by decide +kernel
theorem dX4_carryOutCommands_14 : decode cX4_carryOutCommands 14 = .ok (.getfield 37, 3) := by decide +kernel
theorem dX4_carryOutCommands_17 : decode cX4_carryOutCommands 17 = .ok (.iload_n 1, 1) := by decide +kernel
theorem dX4_carryOutCommands_18 : decode cX4_carryOutCommands 18 = .ok (.invokevirtual 317, 3) := by decide +kernel
theorem dX4_carryOutCommands_21 : decode cX4_carryOutCommands 21 = .ok (.istore_n 2, 1) := by decide +kernel
theorem dX4_carryOutCommands_22 : decode cX4_carryOutCommands 22 = .ok (.aload_n 0, 1) := by decide +kernel
theorem dX4_carryOutCommands_23 : decode cX4_carryOutCommands 23 = .ok (.getfield 37, 3) := by decide +kernel
theorem dX4_carryOutCommands_26 : decode cX4_carryOutCommands 26 = .ok (.iload_n 1, 1) := by decide +kernel
theorem dX4_carryOutCommands_27 : decode cX4_carryOutCommands 27 = .ok (.iconst 0, 1) := by decide +kernel
theorem dX4_carryOutCommands_28 : decode cX4_carryOutCommands 28 = .ok (.invokevirtual 320, 3) := by decide +kernel
theorem dX4_carryOutCommands_31 : decode cX4_carryOutCommands 31 = .ok (.istore_n 3, 1) := by decide +kernel
theorem dX4_carryOutCommands_32 : decode cX4_carryOutCommands 32 = .ok (.aload_n 0, 1) := by decide +kernel
theorem dX4_carryOutCommands_33 : decode cX4_carryOutCommands 33 = .ok (.getfield 37, 3) := by decide +kernel
theorem dX4_carryOutCommands_36 : decode cX4_carryOutCommands 36 = .ok (.iload_n 1, 1) := by decide +kernel
theorem dX4_carryOutCommands_37 : decode cX4_carryOutCommands 37 = .ok (.iconst 1, 1) := by decide +kernel
theorem dX4_carryOutCommands_38 : decode cX4_carryOutCommands 38 = .ok (.invokevirtual 320, 3) := by decide +kernel
theorem dX4_carryOutCommands_41 : decode cX4_carryOutCommands 41 = .ok (.istore 4, 2) := by decide +kernel
theorem dX4_carryOutCommands_43 : decode cX4_carryOutCommands 43 = .ok (.aload_n 0, 1) := by decide +kernel
theorem dX4_carryOutCommands_44 : decode cX4_carryOutCommands 44 = .ok (.getfield 37, 3) := by decide +kernel
theorem dX4_carryOutCommands_47 : decode cX4_carryOutCommands 47 = .ok (.iload_n 1, 1) := by decide +kernel
theorem dX4_carryOutCommands_48 : decode cX4_carryOutCommands 48 = .ok (.iconst 2, 1) := by decide +kernel
theorem dX4_carryOutCommands_49 : decode cX4_carryOutCommands 49 = .ok (.invokevirtual 320, 3) := by decide +kernel
theorem dX4_carryOutCommands_52 : decode cX4_carryOutCommands 52 = .ok (.istore 5, 2) := by decide +kernel
theorem dX4_carryOutCommands_54 : decode cX4_carryOutCommands 54 = .ok (.aload_n 0, 1) := by decide +kernel
theorem dX4_carryOutCommands_55 : decode cX4_carryOutCommands 55 = .ok (.getfield 37, 3) := by decide +kernel
theorem dX4_carryOutCommands_58 : decode cX4_carryOutCommands 58 = .ok (.iload_n 1, 1) := by decide +kernel
theorem dX4_carryOutCommands_59 : decode cX4_carryOutCommands 59 = .ok (.iconst 3, 1) := by decide +kernel
theorem dX4_carryOutCommands_60 : decode cX4_carryOutCommands 60 = .ok (.invokevirtual 320, 3) := by decide +kernel
theorem dX4_carryOutCommands_63 : decode cX4_carryOutCommands 63 = .ok (.istore 6, 2) := by decide +kernel
theorem dX4_carryOutCommands_65 : decode cX4_carryOutCommands 65 = .ok (.aload_n 0, 1) := by decide +kernel
theorem dX4_carryOutCommands_66 : decode cX4_carryOutCommands 66 = .ok (.iload_n 2, 1) := by decide +kernel
theorem dX4_carryOutCommands_67 : decode cX4_carryOutCommands 67 = .ok (.iload_n 3, 1) := by decide +kernel
theorem dX4_carryOutCommands_68 : decode cX4_carryOutCommands 68 = .ok (.iload 4, 2) := by decide +kernel
theorem dX4_carryOutCommands_70 : decode cX4_carryOutCommands 70 = .ok (.iload 5, 2) := by decide +kernel
theorem dX4_carryOutCommands_72 : decode cX4_carryOutCommands 72 = .ok (.iload 6, 2) := by decide +kernel
theorem dX4_carryOutCommands_74 : decode cX4_carryOutCommands 74 = .ok (.invokevirtual 268, 3) := by decide +kernel
theorem dX4_carryOutCommands_77 : decode cX4_carryOutCommands 77 = .ok (.ifCond .eq 5, 3) := by decide +kernel
theorem dX4_carryOutCommands_80 : decode cX4_carryOutCommands 80 = .ok (.iload_n 1, 1) := by decide +kernel
theorem dX4_carryOutCommands_81 : decode cX4_carryOutCommands 81 = .ok (.ireturn, 1) := by decide +kernel
theorem dX4_carryOutCommands_82 : decode cX4_carryOutCommands 82 = .ok (.aload_n 0, 1) := by decide +kernel
theorem dX4_carryOutCommands_83 : decode cX4_carryOutCommands 83 = .ok (.iload_n 2, 1) := by decide +kernel
theorem dX4_carryOutCommands_84 : decode cX4_carryOutCommands 84 = .ok (.iload_n 3, 1) := by decide +kernel
theorem dX4_carryOutCommands_85 : decode cX4_carryOutCommands 85 = .ok (.iload 4, 2) := by decide +kernel
theorem dX4_carryOutCommands_87 : decode cX4_carryOutCommands 87 = .ok (.iload 5, 2) := by decide +kernel
theorem dX4_carryOutCommands_89 : decode cX4_carryOutCommands 89 = .ok (.iload 6, 2) := by decide +kernel
theorem dX4_carryOutCommands_91 : decode cX4_carryOutCommands 91 = .ok (.invokevirtual 271, 3) := by decide +kernel
theorem dX4_carryOutCommands_94 : decode cX4_carryOutCommands 94 = .ok (.pop, 1) := by decide +kernel
theorem dX4_carryOutCommands_95 : decode cX4_carryOutCommands 95 = .ok (.iinc 1 1, 3) := by decide +kernel
theorem dX4_carryOutCommands_98 : decode cX4_carryOutCommands 98 = .ok (.goto (-96), 3) := by decide +kernel
theorem dX4_carryOutCommands_101 : decode cX4_carryOutCommands 101 = .ok (.iconst (-1), 1) := by decide +kernel
theorem dX4_carryOutCommands_102 : decode cX4_carryOutCommands 102 = .ok (.ireturn, 1) := by decide +kernel
theorem dX4_copyRow_0 : decode cX4_copyRow 0 = .ok (.aload_n 0, 1) := by decide +kernel
theorem dX4_copyRow_1 : decode cX4_copyRow 1 = .ok (.iload_n 1, 1) := by decide +kernel
theorem dX4_copyRow_2 : decode cX4_copyRow 2 = .ok (.invokestatic 323, 3) := by decide +kernel
theorem dX4_copyRow_5 : decode cX4_copyRow 5 = .ok (.ifCond .eq 21, 3) := by decide +kernel
theorem dX4_copyRow_8 : decode cX4_copyRow 8 = .ok (.aload_n 2, 1) := by decide +kernel
theorem dX4_copyRow_9 : decode cX4_copyRow 9 = .ok (.iload_n 3, 1) := by decide +kernel
theorem dX4_copyRow_10 : decode cX4_copyRow 10 = .ok (.invokestatic 323, 3) := by decide +kernel
theorem dX4_copyRow_13 : decode cX4_copyRow 13 = .ok (.ifCond .eq 13, 3) := by decide +kernel
theorem dX4_copyRow_16 : decode cX4_copyRow 16 = .ok (.aload_n 0, 1) := by decide +kernel
theorem dX4_copyRow_17 : decode cX4_copyRow 17 = .ok (.iload_n 1, 1) := by decide +kernel
theorem dX4_copyRow_18 : decode cX4_copyRow 18 = .ok (.aload_n 2, 1) := by decide +kernel
theorem dX4_copyRow_19 : decode cX4_copyRow 19 = .ok (.iload_n 3, 1) := by decide +kernel
theorem dX4_copyRow_20 : decode cX4_copyRow 20 = .ok (.sipush 310, 3) := by decide +kernel
theorem dX4_copyRow_23 : decode cX4_copyRow 23 = .ok (.invokestatic 327, 3) := by decide +kernel
theorem dX4_copyRow_26 : decode cX4_copyRow 26 = .ok (.return_, 1) := by decide +kernel
theorem dX4_hasRowAt_0 : decode cX4_hasRowAt 0 = .ok (.iload_n 1, 1) := by decide +kernel
theorem dX4_hasRowAt_1 : decode cX4_hasRowAt 1 = .ok (.ifCond .lt 17, 3) := by decide +kernel
theorem dX4_hasRowAt_4 : decode cX4_hasRowAt 4 = .ok (.iload_n 1, 1) := by decide +kernel
theorem dX4_hasRowAt_5 : decode cX4_hasRowAt 5 = .ok (.aload_n 0, 1) := by decide +kernel
theorem dX4_hasRowAt_6 : decode cX4_hasRowAt 6 = .ok (.arraylength, 1) := by decide +kernel
theorem dX4_hasRowAt_7 : decode cX4_hasRowAt 7 = .ok (.sipush 310, 3) := by decide +kernel
theorem dX4_hasRowAt_10 : decode cX4_hasRowAt 10 = .ok (.isub, 1) := by decide +kernel
theorem dX4_hasRowAt_11 : decode cX4_hasRowAt 11 = .ok (.if_icmp .gt 7, 3) := by decide +kernel
theorem dX4_hasRowAt_14 : decode cX4_hasRowAt 14 = .ok (.iconst 1, 1) := by decide +kernel
theorem dX4_hasRowAt_15 : decode cX4_hasRowAt 15 = .ok (.goto 4, 3) := by decide +kernel
theorem dX4_hasRowAt_18 : decode cX4_hasRowAt 18 = .ok (.iconst 0, 1) := by decide +kernel
theorem dX4_hasRowAt_19 : decode cX4_hasRowAt 19 = .ok (.ireturn, 1) := by decide +kernel
theorem dJ5_init_d00df_0 : decode cJ5_init_d00df 0 = .ok (.aload_n 0, 1) := by decide +kernel
theorem dJ5_init_d00df_1 : decode cJ5_init_d00df 1 = .ok (.invokespecial 3, 3) := by decide +kernel
theorem dJ5_init_d00df_4 : decode cJ5_init_d00df 4 = .ok (.getstatic 18, 3) := by decide +kernel
theorem dJ5_init_d00df_7 : decode cJ5_init_d00df 7 = .ok (.ifCond .eq 18, 3) := by decide +kernel
theorem dJ5_init_d00df_10 : decode cJ5_init_d00df 10 = .ok (.aload_n 0, 1) := by decide +kernel
theorem dJ5_init_d00df_11 : decode cJ5_init_d00df 11 = .ok (.iload_n 1, 1) := by decide +kernel
theorem dJ5_init_d00df_12 : decode cJ5_init_d00df 12 = .ok (.newarray .byte, 2) := by decide +kernel
theorem dJ5_init_d00df_14 : decode cJ5_init_d00df 14 = .ok (.putfield 15, 3) := by decide +kernel
theorem dJ5_init_d00df_17 : decode cJ5_init_d00df 17 = .ok (.aload_n 0, 1) := by decide +kernel
theorem dJ5_init_d00df_18 : decode cJ5_init_d00df 18 = .ok (.iconst 0, 1) := by decide +kernel
theorem dJ5_init_d00df_19 : decode cJ5_init_d00df 19 = .ok (.putfield 22, 3) := by decide +kernel
theorem dJ5_init_d00df_22 : decode cJ5_init_d00df 22 = .ok (.goto 16, 3) := by decide +kernel
theorem dJ5_init_d00df_25 : decode cJ5_init_d00df 25 = .ok (.aload_n 0, 1) := by decide +kernel
theorem dJ5_init_d00df_26 : decode cJ5_init_d00df 26 = .ok (.iload_n 1, 1) := by decide +kernel
theorem dJ5_init_d00df_27 : decode cJ5_init_d00df 27 = .ok (.invokestatic 26, 3) := by decide +kernel
theorem dJ5_init_d00df_30 : decode cJ5_init_d00df 30 = .ok (.putfield 15, 3) := by decide +kernel
theorem dJ5_init_d00df_33 : decode cJ5_init_d00df 33 = .ok (.aload_n 0, 1) := by decide +kernel
theorem dJ5_init_d00df_34 : decode cJ5_init_d00df 34 = .ok (.iconst 1, 1) := by decide +kernel
theorem dJ5_init_d00df_35 : decode cJ5_init_d00df 35 = .ok (.putfield 22, 3) := by decide +kernel
theorem dJ5_init_d00df_38 : decode cJ5_init_d00df 38 = .ok (.return_, 1) := by decide +kernel
theorem dJ5_length_8abf5_0 : decode cJ5_length_8abf5 0 = .ok (.aload_n 0, 1) := by decide +kernel
theorem dJ5_length_8abf5_1 : decode cJ5_length_8abf5 1 = .ok (.getfield 79, 3) := by decide +kernel
theorem dJ5_length_8abf5_4 : decode cJ5_length_8abf5 4 = .ok (.ireturn, 1) := by decide +kernel
theorem dJ5_ensureCapacityInternal_d00df_0 : decode cJ5_ensureCapacityInternal_d00df 0 = .ok (.aload_n 0, 1) := by decide +kernel
theorem dJ5_ensureCapacityInternal_d00df_1 : decode cJ5_ensureCapacityInternal_d00df 1 = .ok (.getfield 15, 3) := by decide +kernel
theorem dJ5_ensureCapacityInternal_d00df_4 : decode cJ5_ensureCapacityInternal_d00df 4 = .ok (.arraylength, 1) := by decide +kernel
theorem dJ5_ensureCapacityInternal_d00df_5 : decode cJ5_ensureCapacityInternal_d00df 5 = .ok (.aload_n 0, 1) := by decide +kernel
theorem dJ5_ensureCapacityInternal_d00df_6 : decode cJ5_ensureCapacityInternal_d00df 6 = .ok (.getfield 22, 3) := by decide +kernel
theorem dJ5_ensureCapacityInternal_d00df_9 : decode cJ5_ensureCapacityInternal_d00df 9 = .ok (.ishr, 1) := by decide +kernel
theorem dJ5_ensureCapacityInternal_d00df_10 : decode cJ5_ensureCapacityInternal_d00df 10 = .ok (.istore_n 2, 1) := by decide +kernel
theorem dJ5_ensureCapacityInternal_d00df_11 : decode cJ5_ensureCapacityInternal_d00df 11 = .ok (.iload_n 1, 1) := by decide +kernel
theorem dJ5_ensureCapacityInternal_d00df_12 : decode cJ5_ensureCapacityInternal_d00df 12 = .ok (.iload_n 2, 1) := by decide +kernel
theorem dJ5_ensureCapacityInternal_d00df_13 : decode cJ5_ensureCapacityInternal_d00df 13 = .ok (.isub, 1) := by decide +kernel
theorem dJ5_ensureCapacityInternal_d00df_14 : decode cJ5_ensureCapacityInternal_d00df 14 = .ok (.ifCond .le 24, 3) := by decide +kernel
theorem dJ5_ensureCapacityInternal_d00df_17 : decode cJ5_ensureCapacityInternal_d00df 17 = .ok (.aload_n 0, 1) := by decide +kernel
theorem dJ5_ensureCapacityInternal_d00df_18 : decode cJ5_ensureCapacityInternal_d00df 18 = .ok (.aload_n 0, 1) := by decide +kernel
theorem dJ5_ensureCapacityInternal_d00df_19 : decode cJ5_ensureCapacityInternal_d00df 19 = .ok (.getfield 15, 3) := by decide +kernel
theorem dJ5_ensureCapacityInternal_d00df_22 : decode cJ5_ensureCapacityInternal_d00df 22 = .ok (.aload_n 0, 1) := by decide +kernel
theorem dJ5_ensureCapacityInternal_d00df_23 : decode cJ5_ensureCapacityInternal_d00df 23 = .ok (.iload_n 1, 1) := by decide +kernel
theorem dJ5_ensureCapacityInternal_d00df_24 : decode cJ5_ensureCapacityInternal_d00df 24 = .ok (.invokevirtual 104, 3) := by decide +kernel
theorem dJ5_ensureCapacityInternal_d00df_27 : decode cJ5_ensureCapacityInternal_d00df 27 = .ok (.aload_n 0, 1) := by decide +kernel
theorem dJ5_ensureCapacityInternal_d00df_28 : decode cJ5_ensureCapacityInternal_d00df 28 = .ok (.getfield 22, 3) := by decide +kernel
theorem dJ5_ensureCapacityInternal_d00df_31 : decode cJ5_ensureCapacityInternal_d00df 31 = .ok (.ishl, 1) := by decide +kernel
theorem dJ5_ensureCapacityInternal_d00df_32 : decode cJ5_ensureCapacityInternal_d00df 32 = .ok (.invokestatic 108, 3) := by decide +kernel
theorem dJ5_ensureCapacityInternal_d00df_35 : decode cJ5_ensureCapacityInternal_d00df 35 = .ok (.putfield 15, 3) := by decide +kernel
theorem dJ5_ensureCapacityInternal_d00df_38 : decode cJ5_ensureCapacityInternal_d00df 38 = .ok (.return_, 1) := by decide +kernel
theorem dJ5_newCapacity_0f7a4_0 : decode cJ5_newCapacity_0f7a4 0 = .ok (.aload_n 0, 1) := by decide +kernel
theorem dJ5_newCapacity_0f7a4_1 : decode cJ5_newCapacity_0f7a4 1 = .ok (.getfield 15, 3) := by decide +kernel
theorem dJ5_newCapacity_0f7a4_4 : decode cJ5_newCapacity_0f7a4 4 = .ok (.arraylength, 1) := by decide +kernel
theorem dJ5_newCapacity_0f7a4_5 : decode cJ5_newCapacity_0f7a4 5 = .ok (.istore_n 2, 1) := by decide +kernel
theorem dJ5_newCapacity_0f7a4_6 : decode cJ5_newCapacity_0f7a4 6 = .ok (.iload_n 1, 1) := by decide +kernel
theorem dJ5_newCapacity_0f7a4_7 : decode cJ5_newCapacity_0f7a4 7 = .ok (.aload_n 0, 1) := by decide +kernel
theorem dJ5_newCapacity_0f7a4_8 : decode cJ5_newCapacity_0f7a4 8 = .ok (.getfield 22, 3) := by decide +kernel
theorem dJ5_newCapacity_0f7a4_11 : decode cJ5_newCapacity_0f7a4 11 = .ok (.ishl, 1) := by decide +kernel
theorem dJ5_newCapacity_0f7a4_12 : decode cJ5_newCapacity_0f7a4 12 = .ok (.istore_n 3, 1) := by decide +kernel
theorem dJ5_newCapacity_0f7a4_13 : decode cJ5_newCapacity_0f7a4 13 = .ok (.iload_n 3, 1) := by decide +kernel
theorem dJ5_newCapacity_0f7a4_14 : decode cJ5_newCapacity_0f7a4 14 = .ok (.iload_n 2, 1) := by decide +kernel
theorem dJ5_newCapacity_0f7a4_15 : decode cJ5_newCapacity_0f7a4 15 = .ok (.isub, 1) := by decide +kernel
theorem dJ5_newCapacity_0f7a4_16 : decode cJ5_newCapacity_0f7a4 16 = .ok (.istore 4, 2) := by decide +kernel
theorem dJ5_newCapacity_0f7a4_18 : decode cJ5_newCapacity_0f7a4 18 = .ok (.iload_n 2, 1) := by decide +kernel
theorem dJ5_newCapacity_0f7a4_19 : decode cJ5_newCapacity_0f7a4 19 = .ok (.iload 4, 2) := by decide +kernel
theorem dJ5_newCapacity_0f7a4_21 : decode cJ5_newCapacity_0f7a4 21 = .ok (.iload_n 2, 1) := by decide +kernel
theorem dJ5_newCapacity_0f7a4_22 : decode cJ5_newCapacity_0f7a4 22 = .ok (.iconst 2, 1) := by decide +kernel
theorem dJ5_newCapacity_0f7a4_23 : decode cJ5_newCapacity_0f7a4 23 = .ok (.aload_n 0, 1) := by decide +kernel
theorem dJ5_newCapacity_0f7a4_24 : decode cJ5_newCapacity_0f7a4 24 = .ok (.getfield 22, 3) := by decide +kernel
theorem dJ5_newCapacity_0f7a4_27 : decode cJ5_newCapacity_0f7a4 27 = .ok (.ishl, 1) := by decide +kernel
theorem dJ5_newCapacity_0f7a4_28 : decode cJ5_newCapacity_0f7a4 28 = .ok (.iadd, 1) := by decide +kernel
theorem dJ5_newCapacity_0f7a4_29 : decode cJ5_newCapacity_0f7a4 29 = .ok (.invokestatic 114, 3) := by decide +kernel
theorem dJ5_newCapacity_0f7a4_32 : decode cJ5_newCapacity_0f7a4 32 = .ok (.istore 5, 2) := by decide +kernel
theorem dJ5_newCapacity_0f7a4_34 : decode cJ5_newCapacity_0f7a4 34 = .ok (.iload 5, 2) := by decide +kernel
theorem dJ5_newCapacity_0f7a4_36 : decode cJ5_newCapacity_0f7a4 36 = .ok (.ldc 39, 2) := by decide +kernel
theorem dJ5_newCapacity_0f7a4_38 : decode cJ5_newCapacity_0f7a4 38 = .ok (.if_icmp .ne 13, 3) := by decide +kernel
theorem dJ5_newCapacity_0f7a4_41 : decode cJ5_newCapacity_0f7a4 41 = .ok (.new 120, 3) := by decide +kernel
theorem dJ5_newCapacity_0f7a4_44 : decode cJ5_newCapacity_0f7a4 44 = .ok (.dup, 1) := by decide +kernel
theorem dJ5_newCapacity_0f7a4_45 : decode cJ5_newCapacity_0f7a4 45 = .ok (.ldc 122, 2) := by decide +kernel
theorem dJ5_newCapacity_0f7a4_47 : decode cJ5_newCapacity_0f7a4 47 = .ok (.invokespecial 124, 3) := by decide +kernel
theorem dJ5_newCapacity_0f7a4_50 : decode cJ5_newCapacity_0f7a4 50 = .ok (.athrow, 1) := by decide +kernel
theorem dJ5_newCapacity_0f7a4_51 : decode cJ5_newCapacity_0f7a4 51 = .ok (.iload 5, 2) := by decide +kernel
theorem dJ5_newCapacity_0f7a4_53 : decode cJ5_newCapacity_0f7a4 53 = .ok (.aload_n 0, 1) := by decide +kernel
theorem dJ5_newCapacity_0f7a4_54 : decode cJ5_newCapacity_0f7a4 54 = .ok (.getfield 22, 3) := by decide +kernel
theorem dJ5_newCapacity_0f7a4_57 : decode cJ5_newCapacity_0f7a4 57 = .ok (.ishr, 1) := by decide +kernel
theorem dJ5_newCapacity_0f7a4_58 : decode cJ5_newCapacity_0f7a4 58 = .ok (.ireturn, 1) := by decide +kernel
theorem dJ5_append_cf1ce_0 : decode cJ5_append_cf1ce 0 = .ok (.aload_n 1, 1) := by decide +kernel
theorem dJ5_append_cf1ce_1 : decode cJ5_append_cf1ce 1 = .ok (.ifnonnull 8, 3) := by decide +kernel
theorem dJ5_append_cf1ce_4 : decode cJ5_append_cf1ce 4 = .ok (.aload_n 0, 1) := by decide +kernel
theorem dJ5_append_cf1ce_5 : decode cJ5_append_cf1ce 5 = .ok (.invokevirtual 204, 3) := by decide +kernel
theorem dJ5_append_cf1ce_8 : decode cJ5_append_cf1ce 8 = .ok (.areturn, 1) := by decide +kernel
theorem dJ5_append_cf1ce_9 : decode cJ5_append_cf1ce 9 = .ok (.aload_n 1, 1) := by decide +kernel
theorem dJ5_append_cf1ce_10 : decode cJ5_append_cf1ce 10 = .ok (.invokevirtual 32, 3) := by decide +kernel
theorem dJ5_append_cf1ce_13 : decode cJ5_append_cf1ce 13 = .ok (.istore_n 2, 1) := by decide +kernel
theorem dJ5_append_cf1ce_14 : decode cJ5_append_cf1ce 14 = .ok (.aload_n 0, 1) := by decide +kernel
theorem dJ5_append_cf1ce_15 : decode cJ5_append_cf1ce 15 = .ok (.aload_n 0, 1) := by decide +kernel
theorem dJ5_append_cf1ce_16 : decode cJ5_append_cf1ce 16 = .ok (.getfield 79, 3) := by decide +kernel
theorem dJ5_append_cf1ce_19 : decode cJ5_append_cf1ce 19 = .ok (.iload_n 2, 1) := by decide +kernel
theorem dJ5_append_cf1ce_20 : decode cJ5_append_cf1ce 20 = .ok (.iadd, 1) := by decide +kernel
theorem dJ5_append_cf1ce_21 : decode cJ5_append_cf1ce 21 = .ok (.invokevirtual 100, 3) := by decide +kernel
theorem dJ5_append_cf1ce_24 : decode cJ5_append_cf1ce 24 = .ok (.aload_n 0, 1) := by decide +kernel
theorem dJ5_append_cf1ce_25 : decode cJ5_append_cf1ce 25 = .ok (.aload_n 0, 1) := by decide +kernel
theorem dJ5_append_cf1ce_26 : decode cJ5_append_cf1ce 26 = .ok (.getfield 79, 3) := by decide +kernel
theorem dJ5_append_cf1ce_29 : decode cJ5_append_cf1ce 29 = .ok (.aload_n 1, 1) := by decide +kernel
theorem dJ5_append_cf1ce_30 : decode cJ5_append_cf1ce 30 = .ok (.invokevirtual 208, 3) := by decide +kernel
theorem dJ5_append_cf1ce_33 : decode cJ5_append_cf1ce 33 = .ok (.aload_n 0, 1) := by decide +kernel
theorem dJ5_append_cf1ce_34 : decode cJ5_append_cf1ce 34 = .ok (.dup, 1) := by decide +kernel
theorem dJ5_append_cf1ce_35 : decode cJ5_append_cf1ce 35 = .ok (.getfield 79, 3) := by decide +kernel
theorem dJ5_append_cf1ce_38 : decode cJ5_append_cf1ce 38 = .ok (.iload_n 2, 1) := by decide +kernel
theorem dJ5_append_cf1ce_39 : decode cJ5_append_cf1ce 39 = .ok (.iadd, 1) := by decide +kernel
theorem dJ5_append_cf1ce_40 : decode cJ5_append_cf1ce 40 = .ok (.putfield 79, 3) := by decide +kernel
theorem dJ5_append_cf1ce_43 : decode cJ5_append_cf1ce 43 = .ok (.aload_n 0, 1) := by decide +kernel
theorem dJ5_append_cf1ce_44 : decode cJ5_append_cf1ce 44 = .ok (.areturn, 1) := by decide +kernel
theorem dJ5_append_c97b9_0 : decode cJ5_append_c97b9 0 = .ok (.aload_n 0, 1) := by decide +kernel
theorem dJ5_append_c97b9_1 : decode cJ5_append_c97b9 1 = .ok (.getfield 79, 3) := by decide +kernel
theorem dJ5_append_c97b9_4 : decode cJ5_append_c97b9 4 = .ok (.istore_n 2, 1) := by decide +kernel
theorem dJ5_append_c97b9_5 : decode cJ5_append_c97b9 5 = .ok (.iload_n 2, 1) := by decide +kernel
theorem dJ5_append_c97b9_6 : decode cJ5_append_c97b9 6 = .ok (.iload_n 1, 1) := by decide +kernel
theorem dJ5_append_c97b9_7 : decode cJ5_append_c97b9 7 = .ok (.invokestatic 245, 3) := by decide +kernel
theorem dJ5_append_c97b9_10 : decode cJ5_append_c97b9 10 = .ok (.iadd, 1) := by decide +kernel
theorem dJ5_append_c97b9_11 : decode cJ5_append_c97b9 11 = .ok (.istore_n 3, 1) := by decide +kernel
theorem dJ5_append_c97b9_12 : decode cJ5_append_c97b9 12 = .ok (.aload_n 0, 1) := by decide +kernel
theorem dJ5_append_c97b9_13 : decode cJ5_append_c97b9 13 = .ok (.iload_n 3, 1) := by decide +kernel
theorem dJ5_append_c97b9_14 : decode cJ5_append_c97b9 14 = .ok (.invokevirtual 100, 3) := by decide +kernel
theorem dJ5_append_c97b9_17 : decode cJ5_append_c97b9 17 = .ok (.aload_n 0, 1) := by decide +kernel
theorem dJ5_append_c97b9_18 : decode cJ5_append_c97b9 18 = .ok (.invokevirtual 83, 3) := by decide +kernel
theorem dJ5_append_c97b9_21 : decode cJ5_append_c97b9 21 = .ok (.ifCond .eq 16, 3) := by decide +kernel
theorem dJ5_append_c97b9_24 : decode cJ5_append_c97b9 24 = .ok (.iload_n 1, 1) := by decide +kernel
theorem dJ5_append_c97b9_25 : decode cJ5_append_c97b9 25 = .ok (.iload_n 3, 1) := by decide +kernel
theorem dJ5_append_c97b9_26 : decode cJ5_append_c97b9 26 = .ok (.aload_n 0, 1) := by decide +kernel
theorem dJ5_append_c97b9_27 : decode cJ5_append_c97b9 27 = .ok (.getfield 15, 3) := by decide +kernel
theorem dJ5_append_c97b9_30 : decode cJ5_append_c97b9 30 = .ok (.invokestatic 248, 3) := by decide +kernel
theorem dJ5_append_c97b9_33 : decode cJ5_append_c97b9 33 = .ok (.pop, 1) := by decide +kernel
theorem dJ5_append_c97b9_34 : decode cJ5_append_c97b9 34 = .ok (.goto 14, 3) := by decide +kernel
theorem dJ5_append_c97b9_37 : decode cJ5_append_c97b9 37 = .ok (.iload_n 1, 1) := by decide +kernel
theorem dJ5_append_c97b9_38 : decode cJ5_append_c97b9 38 = .ok (.iload_n 2, 1) := by decide +kernel
theorem dJ5_append_c97b9_39 : decode cJ5_append_c97b9 39 = .ok (.iload_n 3, 1) := by decide +kernel
theorem dJ5_append_c97b9_40 : decode cJ5_append_c97b9 40 = .ok (.aload_n 0, 1) := by decide +kernel
theorem dJ5_append_c97b9_41 : decode cJ5_append_c97b9 41 = .ok (.getfield 15, 3) := by decide +kernel
theorem dJ5_append_c97b9_44 : decode cJ5_append_c97b9 44 = .ok (.invokestatic 251, 3) := by decide +kernel
theorem dJ5_append_c97b9_47 : decode cJ5_append_c97b9 47 = .ok (.pop, 1) := by decide +kernel
theorem dJ5_append_c97b9_48 : decode cJ5_append_c97b9 48 = .ok (.aload_n 0, 1) := by decide +kernel
theorem dJ5_append_c97b9_49 : decode cJ5_append_c97b9 49 = .ok (.iload_n 3, 1) := by decide +kernel
theorem dJ5_append_c97b9_50 : decode cJ5_append_c97b9 50 = .ok (.putfield 79, 3) := by decide +kernel
theorem dJ5_append_c97b9_53 : decode cJ5_append_c97b9 53 = .ok (.aload_n 0, 1) := by decide +kernel
theorem dJ5_append_c97b9_54 : decode cJ5_append_c97b9 54 = .ok (.areturn, 1) := by decide +kernel
theorem dJ5_getValue_6d5f1_0 : decode cJ5_getValue_6d5f1 0 = .ok (.aload_n 0, 1) := by decide +kernel
theorem dJ5_getValue_6d5f1_1 : decode cJ5_getValue_6d5f1 1 = .ok (.getfield 15, 3) := by decide +kernel
theorem dJ5_getValue_6d5f1_4 : decode cJ5_getValue_6d5f1 4 = .ok (.areturn, 1) := by decide +kernel
theorem dJ5_isLatin1_aae02_0 : decode cJ5_isLatin1_aae02 0 = .ok (.getstatic 18, 3) := by decide +kernel
theorem dJ5_isLatin1_aae02_3 : decode cJ5_isLatin1_aae02 3 = .ok (.ifCond .eq 14, 3) := by decide +kernel
theorem dJ5_isLatin1_aae02_6 : decode cJ5_isLatin1_aae02 6 = .ok (.aload_n 0, 1) := by decide +kernel
theorem dJ5_isLatin1_aae02_7 : decode cJ5_isLatin1_aae02 7 = .ok (.getfield 22, 3) := by decide +kernel
theorem dJ5_isLatin1_aae02_10 : decode cJ5_isLatin1_aae02 10 = .ok (.ifCond .ne 7, 3) := by decide +kernel
theorem dJ5_isLatin1_aae02_13 : decode cJ5_isLatin1_aae02 13 = .ok (.iconst 1, 1) := by decide +kernel
theorem dJ5_isLatin1_aae02_14 : decode cJ5_isLatin1_aae02 14 = .ok (.goto 4, 3) := by decide +kernel
theorem dJ5_isLatin1_aae02_17 : decode cJ5_isLatin1_aae02 17 = .ok (.iconst 0, 1) := by decide +kernel
theorem dJ5_isLatin1_aae02_18 : decode cJ5_isLatin1_aae02 18 = .ok (.ireturn, 1) := by decide +kernel
theorem dJ5_inflateIfNeededFor_a7421_0 : decode cJ5_inflateIfNeededFor_a7421 0 = .ok (.getstatic 18, 3) := by decide +kernel
theorem dJ5_inflateIfNeededFor_a7421_3 : decode cJ5_inflateIfNeededFor_a7421 3 = .ok (.ifCond .eq 18, 3) := by decide +kernel
theorem dJ5_inflateIfNeededFor_a7421_6 : decode cJ5_inflateIfNeededFor_a7421 6 = .ok (.aload_n 0, 1) := by decide +kernel
theorem dJ5_inflateIfNeededFor_a7421_7 : decode cJ5_inflateIfNeededFor_a7421 7 = .ok (.getfield 22, 3) := by decide +kernel
theorem dJ5_inflateIfNeededFor_a7421_10 : decode cJ5_inflateIfNeededFor_a7421 10 = .ok (.aload_n 1, 1) := by decide +kernel
theorem dJ5_inflateIfNeededFor_a7421_11 : decode cJ5_inflateIfNeededFor_a7421 11 = .ok (.invokevirtual 40, 3) := by decide +kernel
theorem dJ5_inflateIfNeededFor_a7421_14 : decode cJ5_inflateIfNeededFor_a7421 14 = .ok (.if_icmp .eq 7, 3) := by decide +kernel
theorem dJ5_inflateIfNeededFor_a7421_17 : decode cJ5_inflateIfNeededFor_a7421 17 = .ok (.aload_n 0, 1) := by decide +kernel
theorem dJ5_inflateIfNeededFor_a7421_18 : decode cJ5_inflateIfNeededFor_a7421 18 = .ok (.invokevirtual 195, 3) := by decide +kernel
theorem dJ5_inflateIfNeededFor_a7421_21 : decode cJ5_inflateIfNeededFor_a7421 21 = .ok (.return_, 1) := by decide +kernel
theorem dJ5_putStringAt_47b60_0 : decode cJ5_putStringAt_47b60 0 = .ok (.aload_n 0, 1) := by decide +kernel
theorem dJ5_putStringAt_47b60_1 : decode cJ5_putStringAt_47b60 1 = .ok (.aload_n 2, 1) := by decide +kernel
theorem dJ5_putStringAt_47b60_2 : decode cJ5_putStringAt_47b60 2 = .ok (.invokevirtual 397, 3) := by decide +kernel
theorem dJ5_putStringAt_47b60_5 : decode cJ5_putStringAt_47b60 5 = .ok (.aload_n 2, 1) := by decide +kernel
theorem dJ5_putStringAt_47b60_6 : decode cJ5_putStringAt_47b60 6 = .ok (.aload_n 0, 1) := by decide +kernel
theorem dJ5_putStringAt_47b60_7 : decode cJ5_putStringAt_47b60 7 = .ok (.getfield 15, 3) := by decide +kernel
theorem dJ5_putStringAt_47b60_10 : decode cJ5_putStringAt_47b60 10 = .ok (.iload_n 1, 1) := by decide +kernel
theorem dJ5_putStringAt_47b60_11 : decode cJ5_putStringAt_47b60 11 = .ok (.aload_n 0, 1) := by decide +kernel
theorem dJ5_putStringAt_47b60_12 : decode cJ5_putStringAt_47b60 12 = .ok (.getfield 22, 3) := by decide +kernel
theorem dJ5_putStringAt_47b60_15 : decode cJ5_putStringAt_47b60 15 = .ok (.invokevirtual 399, 3) := by decide +kernel
theorem dJ5_putStringAt_47b60_18 : decode cJ5_putStringAt_47b60 18 = .ok (.return_, 1) := by decide +kernel
theorem dJ6_getChars_ba4f3_0 : decode cJ6_getChars_ba4f3 0 = .ok (.iload_n 1, 1) := by decide +kernel
theorem dJ6_getChars_ba4f3_1 : decode cJ6_getChars_ba4f3 1 = .ok (.istore 5, 2) := by decide +kernel
theorem dJ6_getChars_ba4f3_3 : decode cJ6_getChars_ba4f3 3 = .ok (.iload_n 0, 1) := by decide +kernel
theorem dJ6_getChars_ba4f3_4 : decode cJ6_getChars_ba4f3 4 = .ok (.ifCond .ge 7, 3) := by decide +kernel
theorem dJ6_getChars_ba4f3_7 : decode cJ6_getChars_ba4f3 7 = .ok (.iconst 1, 1) := by decide +kernel
theorem dJ6_getChars_ba4f3_8 : decode cJ6_getChars_ba4f3 8 = .ok (.goto 4, 3) := by decide +kernel
theorem dJ6_getChars_ba4f3_11 : decode cJ6_getChars_ba4f3 11 = .ok (.iconst 0, 1) := by decide +kernel
theorem dJ6_getChars_ba4f3_12 : decode cJ6_getChars_ba4f3 12 = .ok (.istore 6, 2) := by decide +kernel
theorem dJ6_getChars_ba4f3_14 : decode cJ6_getChars_ba4f3 14 = .ok (.iload 6, 2) := by decide +kernel
theorem dJ6_getChars_ba4f3_16 : decode cJ6_getChars_ba4f3 16 = .ok (.ifCond .ne 6, 3) := by decide +kernel
theorem dJ6_getChars_ba4f3_19 : decode cJ6_getChars_ba4f3 19 = .ok (.iload_n 0, 1) := by decide +kernel
theorem dJ6_getChars_ba4f3_20 : decode cJ6_getChars_ba4f3 20 = .ok (.ineg, 1) := by decide +kernel
theorem dJ6_getChars_ba4f3_21 : decode cJ6_getChars_ba4f3 21 = .ok (.istore_n 0, 1) := by decide +kernel
theorem dJ6_getChars_ba4f3_22 : decode cJ6_getChars_ba4f3 22 = .ok (.iload_n 0, 1) := by decide +kernel
theorem dJ6_getChars_ba4f3_23 : decode cJ6_getChars_ba4f3 23 = .ok (.bipush (-100), 2) := by decide +kernel
theorem dJ6_getChars_ba4f3_25 : decode cJ6_getChars_ba4f3 25 = .ok (.if_icmp .gt 47, 3) := by decide +kernel
theorem dJ6_getChars_ba4f3_28 : decode cJ6_getChars_ba4f3 28 = .ok (.iload_n 0, 1) := by decide +kernel
theorem dJ6_getChars_ba4f3_29 : decode cJ6_getChars_ba4f3 29 = .ok (.bipush 100, 2) := by decide +kernel
theorem dJ6_getChars_ba4f3_31 : decode cJ6_getChars_ba4f3 31 = .ok (.idiv, 1) := by decide +kernel
theorem dJ6_getChars_ba4f3_32 : decode cJ6_getChars_ba4f3 32 = .ok (.istore_n 3, 1) := by decide +kernel
theorem dJ6_getChars_ba4f3_33 : decode cJ6_getChars_ba4f3 33 = .ok (.iload_n 3, 1) := by decide +kernel
theorem dJ6_getChars_ba4f3_34 : decode cJ6_getChars_ba4f3 34 = .ok (.bipush 100, 2) := by decide +kernel
theorem dJ6_getChars_ba4f3_36 : decode cJ6_getChars_ba4f3 36 = .ok (.imul, 1) := by decide +kernel
theorem dJ6_getChars_ba4f3_37 : decode cJ6_getChars_ba4f3 37 = .ok (.iload_n 0, 1) := by decide +kernel
theorem dJ6_getChars_ba4f3_38 : decode cJ6_getChars_ba4f3 38 = .ok (.isub, 1) := by decide +kernel
theorem dJ6_getChars_ba4f3_39 : decode cJ6_getChars_ba4f3 39 = .ok (.istore 4, 2) := by decide +kernel
theorem dJ6_getChars_ba4f3_41 : decode cJ6_getChars_ba4f3 41 = .ok (.iload_n 3, 1) := by decide +kernel
theorem dJ6_getChars_ba4f3_42 : decode cJ6_getChars_ba4f3 42 = .ok (.istore_n 0, 1) := by decide +kernel
theorem dJ6_getChars_ba4f3_43 : decode cJ6_getChars_ba4f3 43 = .ok (.aload_n 2, 1) := by decide +kernel
theorem dJ6_getChars_ba4f3_44 : decode cJ6_getChars_ba4f3 44 = .ok (.iinc 5 (-1), 3) := by decide +kernel
theorem dJ6_getChars_ba4f3_47 : decode cJ6_getChars_ba4f3 47 = .ok (.iload 5, 2) := by decide +kernel
theorem dJ6_getChars_ba4f3_49 : decode cJ6_getChars_ba4f3 49 = .ok (.getstatic 83, 3) := by decide +kernel
theorem dJ6_getChars_ba4f3_52 : decode cJ6_getChars_ba4f3 52 = .ok (.iload 4, 2) := by decide +kernel
theorem dJ6_getChars_ba4f3_54 : decode cJ6_getChars_ba4f3 54 = .ok (.baload, 1) := by decide +kernel
theorem dJ6_getChars_ba4f3_55 : decode cJ6_getChars_ba4f3 55 = .ok (.bastore, 1) := by decide +kernel
theorem dJ6_getChars_ba4f3_56 : decode cJ6_getChars_ba4f3 56 = .ok (.aload_n 2, 1) := by decide +kernel
theorem dJ6_getChars_ba4f3_57 : decode cJ6_getChars_ba4f3 57 = .ok (.iinc 5 (-1), 3) := by decide +kernel
theorem dJ6_getChars_ba4f3_60 : decode cJ6_getChars_ba4f3 60 = .ok (.iload 5, 2) := by decide +kernel
theorem dJ6_getChars_ba4f3_62 : decode cJ6_getChars_ba4f3 62 = .ok (.getstatic 87, 3) := by decide +kernel
theorem dJ6_getChars_ba4f3_65 : decode cJ6_getChars_ba4f3 65 = .ok (.iload 4, 2) := by decide +kernel
theorem dJ6_getChars_ba4f3_67 : decode cJ6_getChars_ba4f3 67 = .ok (.baload, 1) := by decide +kernel
theorem dJ6_getChars_ba4f3_68 : decode cJ6_getChars_ba4f3 68 = .ok (.bastore, 1) := by decide +kernel
theorem dJ6_getChars_ba4f3_69 : decode cJ6_getChars_ba4f3 69 = .ok (.goto (-47), 3) := by decide +kernel
theorem dJ6_getChars_ba4f3_72 : decode cJ6_getChars_ba4f3 72 = .ok (.aload_n 2, 1) := by decide +kernel
theorem dJ6_getChars_ba4f3_73 : decode cJ6_getChars_ba4f3 73 = .ok (.iinc 5 (-1), 3) := by decide +kernel
theorem dJ6_getChars_ba4f3_76 : decode cJ6_getChars_ba4f3 76 = .ok (.iload 5, 2) := by decide +kernel
theorem dJ6_getChars_ba4f3_78 : decode cJ6_getChars_ba4f3 78 = .ok (.getstatic 83, 3) := by decide +kernel
theorem dJ6_getChars_ba4f3_81 : decode cJ6_getChars_ba4f3 81 = .ok (.iload_n 0, 1) := by decide +kernel
theorem dJ6_getChars_ba4f3_82 : decode cJ6_getChars_ba4f3 82 = .ok (.ineg, 1) := by decide +kernel
theorem dJ6_getChars_ba4f3_83 : decode cJ6_getChars_ba4f3 83 = .ok (.baload, 1) := by decide +kernel
theorem dJ6_getChars_ba4f3_84 : decode cJ6_getChars_ba4f3 84 = .ok (.bastore, 1) := by decide +kernel
theorem dJ6_getChars_ba4f3_85 : decode cJ6_getChars_ba4f3 85 = .ok (.iload_n 0, 1) := by decide +kernel
theorem dJ6_getChars_ba4f3_86 : decode cJ6_getChars_ba4f3 86 = .ok (.bipush (-9), 2) := by decide +kernel
theorem dJ6_getChars_ba4f3_88 : decode cJ6_getChars_ba4f3 88 = .ok (.if_icmp .ge 16, 3) := by decide +kernel
theorem dJ6_getChars_ba4f3_91 : decode cJ6_getChars_ba4f3 91 = .ok (.aload_n 2, 1) := by decide +kernel
theorem dJ6_getChars_ba4f3_92 : decode cJ6_getChars_ba4f3 92 = .ok (.iinc 5 (-1), 3) := by decide +kernel
theorem dJ6_getChars_ba4f3_95 : decode cJ6_getChars_ba4f3 95 = .ok (.iload 5, 2) := by decide +kernel
theorem dJ6_getChars_ba4f3_97 : decode cJ6_getChars_ba4f3 97 = .ok (.getstatic 87, 3) := by decide +kernel
theorem dJ6_getChars_ba4f3_100 : decode cJ6_getChars_ba4f3 100 = .ok (.iload_n 0, 1) := by decide +kernel
theorem dJ6_getChars_ba4f3_101 : decode cJ6_getChars_ba4f3 101 = .ok (.ineg, 1) := by decide +kernel
theorem dJ6_getChars_ba4f3_102 : decode cJ6_getChars_ba4f3 102 = .ok (.baload, 1) := by decide +kernel
theorem dJ6_getChars_ba4f3_103 : decode cJ6_getChars_ba4f3 103 = .ok (.bastore, 1) := by decide +kernel
theorem dJ6_getChars_ba4f3_104 : decode cJ6_getChars_ba4f3 104 = .ok (.iload 6, 2) := by decide +kernel
theorem dJ6_getChars_ba4f3_106 : decode cJ6_getChars_ba4f3 106 = .ok (.ifCond .eq 12, 3) := by decide +kernel
theorem dJ6_getChars_ba4f3_109 : decode cJ6_getChars_ba4f3 109 = .ok (.aload_n 2, 1) := by decide +kernel
theorem dJ6_getChars_ba4f3_110 : decode cJ6_getChars_ba4f3 110 = .ok (.iinc 5 (-1), 3) := by decide +kernel
theorem dJ6_getChars_ba4f3_113 : decode cJ6_getChars_ba4f3 113 = .ok (.iload 5, 2) := by decide +kernel
theorem dJ6_getChars_ba4f3_115 : decode cJ6_getChars_ba4f3 115 = .ok (.bipush 45, 2) := by decide +kernel
theorem dJ6_getChars_ba4f3_117 : decode cJ6_getChars_ba4f3 117 = .ok (.bastore, 1) := by decide +kernel
theorem dJ6_getChars_ba4f3_118 : decode cJ6_getChars_ba4f3 118 = .ok (.iload 5, 2) := by decide +kernel
theorem dJ6_getChars_ba4f3_120 : decode cJ6_getChars_ba4f3 120 = .ok (.ireturn, 1) := by decide +kernel
theorem dJ6_stringSize_0f7a4_0 : decode cJ6_stringSize_0f7a4 0 = .ok (.iconst 1, 1) := by decide +kernel
theorem dJ6_stringSize_0f7a4_1 : decode cJ6_stringSize_0f7a4 1 = .ok (.istore_n 1, 1) := by decide +kernel
theorem dJ6_stringSize_0f7a4_2 : decode cJ6_stringSize_0f7a4 2 = .ok (.iload_n 0, 1) := by decide +kernel
theorem dJ6_stringSize_0f7a4_3 : decode cJ6_stringSize_0f7a4 3 = .ok (.ifCond .lt 8, 3) := by decide +kernel
theorem dJ6_stringSize_0f7a4_6 : decode cJ6_stringSize_0f7a4 6 = .ok (.iconst 0, 1) := by decide +kernel
theorem dJ6_stringSize_0f7a4_7 : decode cJ6_stringSize_0f7a4 7 = .ok (.istore_n 1, 1) := by decide +kernel
theorem dJ6_stringSize_0f7a4_8 : decode cJ6_stringSize_0f7a4 8 = .ok (.iload_n 0, 1) := by decide +kernel
theorem dJ6_stringSize_0f7a4_9 : decode cJ6_stringSize_0f7a4 9 = .ok (.ineg, 1) := by decide +kernel
theorem dJ6_stringSize_0f7a4_10 : decode cJ6_stringSize_0f7a4 10 = .ok (.istore_n 0, 1) := by decide +kernel
theorem dJ6_stringSize_0f7a4_11 : decode cJ6_stringSize_0f7a4 11 = .ok (.bipush (-10), 2) := by decide +kernel
theorem dJ6_stringSize_0f7a4_13 : decode cJ6_stringSize_0f7a4 13 = .ok (.istore_n 2, 1) := by decide +kernel
theorem dJ6_stringSize_0f7a4_14 : decode cJ6_stringSize_0f7a4 14 = .ok (.iconst 1, 1) := by decide +kernel
theorem dJ6_stringSize_0f7a4_15 : decode cJ6_stringSize_0f7a4 15 = .ok (.istore_n 3, 1) := by decide +kernel
theorem dJ6_stringSize_0f7a4_16 : decode cJ6_stringSize_0f7a4 16 = .ok (.iload_n 3, 1) := by decide +kernel
theorem dJ6_stringSize_0f7a4_17 : decode cJ6_stringSize_0f7a4 17 = .ok (.bipush 10, 2) := by decide +kernel
theorem dJ6_stringSize_0f7a4_19 : decode cJ6_stringSize_0f7a4 19 = .ok (.if_icmp .ge 23, 3) := by decide +kernel
theorem dJ6_stringSize_0f7a4_22 : decode cJ6_stringSize_0f7a4 22 = .ok (.iload_n 0, 1) := by decide +kernel
theorem dJ6_stringSize_0f7a4_23 : decode cJ6_stringSize_0f7a4 23 = .ok (.iload_n 2, 1) := by decide +kernel
theorem dJ6_stringSize_0f7a4_24 : decode cJ6_stringSize_0f7a4 24 = .ok (.if_icmp .le 7, 3) := by decide +kernel
theorem dJ6_stringSize_0f7a4_27 : decode cJ6_stringSize_0f7a4 27 = .ok (.iload_n 3, 1) := by decide +kernel
theorem dJ6_stringSize_0f7a4_28 : decode cJ6_stringSize_0f7a4 28 = .ok (.iload_n 1, 1) := by decide +kernel
theorem dJ6_stringSize_0f7a4_29 : decode cJ6_stringSize_0f7a4 29 = .ok (.iadd, 1) := by decide +kernel
theorem dJ6_stringSize_0f7a4_30 : decode cJ6_stringSize_0f7a4 30 = .ok (.ireturn, 1) := by decide +kernel
theorem dJ6_stringSize_0f7a4_31 : decode cJ6_stringSize_0f7a4 31 = .ok (.bipush 10, 2) := by decide +kernel
theorem dJ6_stringSize_0f7a4_33 : decode cJ6_stringSize_0f7a4 33 = .ok (.iload_n 2, 1) := by decide +kernel
theorem dJ6_stringSize_0f7a4_34 : decode cJ6_stringSize_0f7a4 34 = .ok (.imul, 1) := by decide +kernel
theorem dJ6_stringSize_0f7a4_35 : decode cJ6_stringSize_0f7a4 35 = .ok (.istore_n 2, 1) := by decide +kernel
theorem dJ6_stringSize_0f7a4_36 : decode cJ6_stringSize_0f7a4 36 = .ok (.iinc 3 1, 3) := by decide +kernel
theorem dJ6_stringSize_0f7a4_39 : decode cJ6_stringSize_0f7a4 39 = .ok (.goto (-23), 3) := by decide +kernel
theorem dJ6_stringSize_0f7a4_42 : decode cJ6_stringSize_0f7a4 42 = .ok (.bipush 10, 2) := by decide +kernel
theorem dJ6_stringSize_0f7a4_44 : decode cJ6_stringSize_0f7a4 44 = .ok (.iload_n 1, 1) := by decide +kernel
theorem dJ6_stringSize_0f7a4_45 : decode cJ6_stringSize_0f7a4 45 = .ok (.iadd, 1) := by decide +kernel
theorem dJ6_stringSize_0f7a4_46 : decode cJ6_stringSize_0f7a4 46 = .ok (.ireturn, 1) := by decide +kernel
theorem dJ9_max_7cf53_0 : decode cJ9_max_7cf53 0 = .ok (.iload_n 0, 1) := by decide +kernel
theorem dJ9_max_7cf53_1 : decode cJ9_max_7cf53 1 = .ok (.iload_n 1, 1) := by decide +kernel
theorem dJ9_max_7cf53_2 : decode cJ9_max_7cf53 2 = .ok (.if_icmp .lt 7, 3) := by decide +kernel
theorem dJ9_max_7cf53_5 : decode cJ9_max_7cf53 5 = .ok (.iload_n 0, 1) := by decide +kernel
theorem dJ9_max_7cf53_6 : decode cJ9_max_7cf53 6 = .ok (.goto 4, 3) := by decide +kernel
theorem dJ9_max_7cf53_9 : decode cJ9_max_7cf53 9 = .ok (.iload_n 1, 1) := by decide +kernel
theorem dJ9_max_7cf53_10 : decode cJ9_max_7cf53 10 = .ok (.ireturn, 1) := by decide +kernel
theorem dJ9_min_7cf53_0 : decode cJ9_min_7cf53 0 = .ok (.iload_n 0, 1) := by decide +kernel
theorem dJ9_min_7cf53_1 : decode cJ9_min_7cf53 1 = .ok (.iload_n 1, 1) := by decide +kernel
theorem dJ9_min_7cf53_2 : decode cJ9_min_7cf53 2 = .ok (.if_icmp .gt 7, 3) := by decide +kernel
theorem dJ9_min_7cf53_5 : decode cJ9_min_7cf53 5 = .ok (.iload_n 0, 1) := by decide +kernel
theorem dJ9_min_7cf53_6 : decode cJ9_min_7cf53 6 = .ok (.goto 4, 3) := by decide +kernel
theorem dJ9_min_7cf53_9 : decode cJ9_min_7cf53 9 = .ok (.iload_n 1, 1) := by decide +kernel
theorem dJ9_min_7cf53_10 : decode cJ9_min_7cf53 10 = .ok (.ireturn, 1) := by decide +kernel
theorem dJ0_init_81219_0 : decode cJ0_init_81219 0 = .ok (.aload_n 0, 1) := by decide +kernel
theorem dJ0_init_81219_1 : decode cJ0_init_81219 1 = .ok (.aload_n 1, 1) := by decide +kernel
theorem dJ0_init_81219_2 : decode cJ0_init_81219 2 = .ok (.aconst_null, 1) := by decide +kernel
theorem dJ0_init_81219_3 : decode cJ0_init_81219 3 = .ok (.invokespecial 489, 3) := by decide +kernel
theorem dJ0_init_81219_6 : decode cJ0_init_81219 6 = .ok (.return_, 1) := by decide +kernel
theorem dJ0_length_8abf5_0 : decode cJ0_length_8abf5 0 = .ok (.aload_n 0, 1) := by decide +kernel
theorem dJ0_length_8abf5_1 : decode cJ0_length_8abf5 1 = .ok (.getfield 9, 3) := by decide +kernel
theorem dJ0_length_8abf5_4 : decode cJ0_length_8abf5 4 = .ok (.arraylength, 1) := by decide +kernel
theorem dJ0_length_8abf5_5 : decode cJ0_length_8abf5 5 = .ok (.aload_n 0, 1) := by decide +kernel
theorem dJ0_length_8abf5_6 : decode cJ0_length_8abf5 6 = .ok (.invokevirtual 335, 3) := by decide +kernel
theorem dJ0_length_8abf5_9 : decode cJ0_length_8abf5 9 = .ok (.ishr, 1) := by decide +kernel
theorem dJ0_length_8abf5_10 : decode cJ0_length_8abf5 10 = .ok (.ireturn, 1) := by decide +kernel
theorem dJ0_isEmpty_aae02_0 : decode cJ0_isEmpty_aae02 0 = .ok (.aload_n 0, 1) := by decide +kernel
theorem dJ0_isEmpty_aae02_1 : decode cJ0_isEmpty_aae02 1 = .ok (.getfield 9, 3) := by decide +kernel
theorem dJ0_isEmpty_aae02_4 : decode cJ0_isEmpty_aae02 4 = .ok (.arraylength, 1) := by decide +kernel
theorem dJ0_isEmpty_aae02_5 : decode cJ0_isEmpty_aae02 5 = .ok (.ifCond .ne 7, 3) := by decide +kernel
theorem dJ0_isEmpty_aae02_8 : decode cJ0_isEmpty_aae02 8 = .ok (.iconst 1, 1) := by decide +kernel
theorem dJ0_isEmpty_aae02_9 : decode cJ0_isEmpty_aae02 9 = .ok (.goto 4, 3) := by decide +kernel
theorem dJ0_isEmpty_aae02_12 : decode cJ0_isEmpty_aae02 12 = .ok (.iconst 0, 1) := by decide +kernel
theorem dJ0_isEmpty_aae02_13 : decode cJ0_isEmpty_aae02 13 = .ok (.ireturn, 1) := by decide +kernel
theorem dJ0_charAt_5068e_0 : decode cJ0_charAt_5068e 0 = .ok (.aload_n 0, 1) := by decide +kernel
theorem dJ0_charAt_5068e_1 : decode cJ0_charAt_5068e 1 = .ok (.invokevirtual 492, 3) := by decide +kernel
theorem dJ0_charAt_5068e_4 : decode cJ0_charAt_5068e 4 = .ok (.ifCond .eq 12, 3) := by decide +kernel
theorem dJ0_charAt_5068e_7 : decode cJ0_charAt_5068e 7 = .ok (.aload_n 0, 1) := by decide +kernel
theorem dJ0_charAt_5068e_8 : decode cJ0_charAt_5068e 8 = .ok (.getfield 9, 3) := by decide +kernel
theorem dJ0_charAt_5068e_11 : decode cJ0_charAt_5068e 11 = .ok (.iload_n 1, 1) := by decide +kernel
theorem dJ0_charAt_5068e_12 : decode cJ0_charAt_5068e 12 = .ok (.invokestatic 495, 3) := by decide +kernel
theorem dJ0_charAt_5068e_15 : decode cJ0_charAt_5068e 15 = .ok (.ireturn, 1) := by decide +kernel
theorem dJ0_charAt_5068e_16 : decode cJ0_charAt_5068e 16 = .ok (.aload_n 0, 1) := by decide +kernel
theorem dJ0_charAt_5068e_17 : decode cJ0_charAt_5068e 17 = .ok (.getfield 9, 3) := by decide +kernel
theorem dJ0_charAt_5068e_20 : decode cJ0_charAt_5068e 20 = .ok (.iload_n 1, 1) := by decide +kernel
theorem dJ0_charAt_5068e_21 : decode cJ0_charAt_5068e 21 = .ok (.invokestatic 498, 3) := by decide +kernel
theorem dJ0_charAt_5068e_24 : decode cJ0_charAt_5068e 24 = .ok (.ireturn, 1) := by decide +kernel
theorem dJ0_getBytes_840e7_0 : decode cJ0_getBytes_840e7 0 = .ok (.aload_n 0, 1) := by decide +kernel
theorem dJ0_getBytes_840e7_1 : decode cJ0_getBytes_840e7 1 = .ok (.invokevirtual 335, 3) := by decide +kernel
theorem dJ0_getBytes_840e7_4 : decode cJ0_getBytes_840e7 4 = .ok (.iload_n 3, 1) := by decide +kernel
theorem dJ0_getBytes_840e7_5 : decode cJ0_getBytes_840e7 5 = .ok (.if_icmp .ne 23, 3) := by decide +kernel
theorem dJ0_getBytes_840e7_8 : decode cJ0_getBytes_840e7 8 = .ok (.aload_n 0, 1) := by decide +kernel
theorem dJ0_getBytes_840e7_9 : decode cJ0_getBytes_840e7 9 = .ok (.getfield 9, 3) := by decide +kernel
theorem dJ0_getBytes_840e7_12 : decode cJ0_getBytes_840e7 12 = .ok (.iconst 0, 1) := by decide +kernel
theorem dJ0_getBytes_840e7_13 : decode cJ0_getBytes_840e7 13 = .ok (.aload_n 1, 1) := by decide +kernel
theorem dJ0_getBytes_840e7_14 : decode cJ0_getBytes_840e7 14 = .ok (.iload_n 2, 1) := by decide +kernel
theorem dJ0_getBytes_840e7_15 : decode cJ0_getBytes_840e7 15 = .ok (.iload_n 3, 1) := by decide +kernel
theorem dJ0_getBytes_840e7_16 : decode cJ0_getBytes_840e7 16 = .ok (.ishl, 1) := by decide +kernel
theorem dJ0_getBytes_840e7_17 : decode cJ0_getBytes_840e7 17 = .ok (.aload_n 0, 1) := by decide +kernel
theorem dJ0_getBytes_840e7_18 : decode cJ0_getBytes_840e7 18 = .ok (.getfield 9, 3) := by decide +kernel
theorem dJ0_getBytes_840e7_21 : decode cJ0_getBytes_840e7 21 = .ok (.arraylength, 1) := by decide +kernel
theorem dJ0_getBytes_840e7_22 : decode cJ0_getBytes_840e7 22 = .ok (.invokestatic 212, 3) := by decide +kernel
theorem dJ0_getBytes_840e7_25 : decode cJ0_getBytes_840e7 25 = .ok (.goto 18, 3) := by decide +kernel
theorem dJ0_getBytes_840e7_28 : decode cJ0_getBytes_840e7 28 = .ok (.aload_n 0, 1) := by decide +kernel
theorem dJ0_getBytes_840e7_29 : decode cJ0_getBytes_840e7 29 = .ok (.getfield 9, 3) := by decide +kernel
theorem dJ0_getBytes_840e7_32 : decode cJ0_getBytes_840e7 32 = .ok (.iconst 0, 1) := by decide +kernel
theorem dJ0_getBytes_840e7_33 : decode cJ0_getBytes_840e7 33 = .ok (.aload_n 1, 1) := by decide +kernel
theorem dJ0_getBytes_840e7_34 : decode cJ0_getBytes_840e7 34 = .ok (.iload_n 2, 1) := by decide +kernel
theorem dJ0_getBytes_840e7_35 : decode cJ0_getBytes_840e7 35 = .ok (.aload_n 0, 1) := by decide +kernel
theorem dJ0_getBytes_840e7_36 : decode cJ0_getBytes_840e7 36 = .ok (.getfield 9, 3) := by decide +kernel
theorem dJ0_getBytes_840e7_39 : decode cJ0_getBytes_840e7 39 = .ok (.arraylength, 1) := by decide +kernel
theorem dJ0_getBytes_840e7_40 : decode cJ0_getBytes_840e7 40 = .ok (.invokestatic 106, 3) := by decide +kernel
theorem dJ0_getBytes_840e7_43 : decode cJ0_getBytes_840e7 43 = .ok (.return_, 1) := by decide +kernel
theorem dJ0_init_db425_0 : decode cJ0_init_db425 0 = .ok (.aload_n 0, 1) := by decide +kernel
theorem dJ0_init_db425_1 : decode cJ0_init_db425 1 = .ok (.invokespecial 1, 3) := by decide +kernel
theorem dJ0_init_db425_4 : decode cJ0_init_db425 4 = .ok (.aload_n 1, 1) := by decide +kernel
theorem dJ0_init_db425_5 : decode cJ0_init_db425 5 = .ok (.invokevirtual 552, 3) := by decide +kernel
theorem dJ0_init_db425_8 : decode cJ0_init_db425 8 = .ok (.astore_n 3, 1) := by decide +kernel
theorem dJ0_init_db425_9 : decode cJ0_init_db425 9 = .ok (.aload_n 1, 1) := by decide +kernel
theorem dJ0_init_db425_10 : decode cJ0_init_db425 10 = .ok (.invokevirtual 549, 3) := by decide +kernel
theorem dJ0_init_db425_13 : decode cJ0_init_db425 13 = .ok (.istore 4, 2) := by decide +kernel
theorem dJ0_init_db425_15 : decode cJ0_init_db425 15 = .ok (.aload_n 1, 1) := by decide +kernel
theorem dJ0_init_db425_16 : decode cJ0_init_db425 16 = .ok (.invokevirtual 1047, 3) := by decide +kernel
theorem dJ0_init_db425_19 : decode cJ0_init_db425 19 = .ok (.ifCond .eq 22, 3) := by decide +kernel
theorem dJ0_init_db425_22 : decode cJ0_init_db425 22 = .ok (.aload_n 0, 1) := by decide +kernel
theorem dJ0_init_db425_23 : decode cJ0_init_db425 23 = .ok (.iconst 0, 1) := by decide +kernel
theorem dJ0_init_db425_24 : decode cJ0_init_db425 24 = .ok (.putfield 15, 3) := by decide +kernel
theorem dJ0_init_db425_27 : decode cJ0_init_db425 27 = .ok (.aload_n 0, 1) := by decide +kernel
theorem dJ0_init_db425_28 : decode cJ0_init_db425 28 = .ok (.aload_n 3, 1) := by decide +kernel
theorem dJ0_init_db425_29 : decode cJ0_init_db425 29 = .ok (.iconst 0, 1) := by decide +kernel
theorem dJ0_init_db425_30 : decode cJ0_init_db425 30 = .ok (.iload 4, 2) := by decide +kernel
theorem dJ0_init_db425_32 : decode cJ0_init_db425 32 = .ok (.invokestatic 54, 3) := by decide +kernel
theorem dJ0_init_db425_35 : decode cJ0_init_db425 35 = .ok (.putfield 9, 3) := by decide +kernel
theorem dJ0_init_db425_38 : decode cJ0_init_db425 38 = .ok (.goto 59, 3) := by decide +kernel
theorem dJ0_init_db425_41 : decode cJ0_init_db425 41 = .ok (.getstatic 38, 3) := by decide +kernel
theorem dJ0_init_db425_44 : decode cJ0_init_db425 44 = .ok (.ifCond .eq 35, 3) := by decide +kernel
theorem dJ0_init_db425_47 : decode cJ0_init_db425 47 = .ok (.aload_n 1, 1) := by decide +kernel
theorem dJ0_init_db425_48 : decode cJ0_init_db425 48 = .ok (.getfield 1048, 3) := by decide +kernel
theorem dJ0_init_db425_51 : decode cJ0_init_db425 51 = .ok (.ifCond .eq 28, 3) := by decide +kernel
theorem dJ0_init_db425_54 : decode cJ0_init_db425 54 = .ok (.aload_n 0, 1) := by decide +kernel
theorem dJ0_init_db425_55 : decode cJ0_init_db425 55 = .ok (.aload_n 3, 1) := by decide +kernel
theorem dJ0_init_db425_56 : decode cJ0_init_db425 56 = .ok (.iconst 0, 1) := by decide +kernel
theorem dJ0_init_db425_57 : decode cJ0_init_db425 57 = .ok (.iload 4, 2) := by decide +kernel
theorem dJ0_init_db425_59 : decode cJ0_init_db425 59 = .ok (.invokestatic 1051, 3) := by decide +kernel
theorem dJ0_init_db425_62 : decode cJ0_init_db425 62 = .ok (.putfield 9, 3) := by decide +kernel
theorem dJ0_init_db425_65 : decode cJ0_init_db425 65 = .ok (.aload_n 0, 1) := by decide +kernel
theorem dJ0_init_db425_66 : decode cJ0_init_db425 66 = .ok (.aload_n 0, 1) := by decide +kernel
theorem dJ0_init_db425_67 : decode cJ0_init_db425 67 = .ok (.getfield 9, 3) := by decide +kernel
theorem dJ0_init_db425_70 : decode cJ0_init_db425 70 = .ok (.iload 4, 2) := by decide +kernel
theorem dJ0_init_db425_72 : decode cJ0_init_db425 72 = .ok (.invokestatic 47, 3) := by decide +kernel
theorem dJ0_init_db425_75 : decode cJ0_init_db425 75 = .ok (.putfield 15, 3) := by decide +kernel
theorem dJ0_init_db425_78 : decode cJ0_init_db425 78 = .ok (.return_, 1) := by decide +kernel
theorem dJ0_init_db425_79 : decode cJ0_init_db425 79 = .ok (.aload_n 0, 1) := by decide +kernel
theorem dJ0_init_db425_80 : decode cJ0_init_db425 80 = .ok (.iconst 1, 1) := by decide +kernel
theorem dJ0_init_db425_81 : decode cJ0_init_db425 81 = .ok (.putfield 15, 3) := by decide +kernel
theorem dJ0_init_db425_84 : decode cJ0_init_db425 84 = .ok (.aload_n 0, 1) := by decide +kernel
theorem dJ0_init_db425_85 : decode cJ0_init_db425 85 = .ok (.aload_n 3, 1) := by decide +kernel
theorem dJ0_init_db425_86 : decode cJ0_init_db425 86 = .ok (.iconst 0, 1) := by decide +kernel
theorem dJ0_init_db425_87 : decode cJ0_init_db425 87 = .ok (.iload 4, 2) := by decide +kernel
theorem dJ0_init_db425_89 : decode cJ0_init_db425 89 = .ok (.iconst 1, 1) := by decide +kernel
theorem dJ0_init_db425_90 : decode cJ0_init_db425 90 = .ok (.ishl, 1) := by decide +kernel
theorem dJ0_init_db425_91 : decode cJ0_init_db425 91 = .ok (.invokestatic 54, 3) := by decide +kernel
theorem dJ0_init_db425_94 : decode cJ0_init_db425 94 = .ok (.putfield 9, 3) := by decide +kernel
theorem dJ0_init_db425_97 : decode cJ0_init_db425 97 = .ok (.return_, 1) := by decide +kernel
theorem dJ0_coder_7d493_0 : decode cJ0_coder_7d493 0 = .ok (.getstatic 38, 3) := by decide +kernel
theorem dJ0_coder_7d493_3 : decode cJ0_coder_7d493 3 = .ok (.ifCond .eq 10, 3) := by decide +kernel
theorem dJ0_coder_7d493_6 : decode cJ0_coder_7d493 6 = .ok (.aload_n 0, 1) := by decide +kernel
theorem dJ0_coder_7d493_7 : decode cJ0_coder_7d493 7 = .ok (.getfield 15, 3) := by decide +kernel
theorem dJ0_coder_7d493_10 : decode cJ0_coder_7d493 10 = .ok (.goto 4, 3) := by decide +kernel
theorem dJ0_coder_7d493_13 : decode cJ0_coder_7d493 13 = .ok (.iconst 1, 1) := by decide +kernel
theorem dJ0_coder_7d493_14 : decode cJ0_coder_7d493 14 = .ok (.ireturn, 1) := by decide +kernel
theorem dJ0_isLatin1_aae02_0 : decode cJ0_isLatin1_aae02 0 = .ok (.getstatic 38, 3) := by decide +kernel
theorem dJ0_isLatin1_aae02_3 : decode cJ0_isLatin1_aae02 3 = .ok (.ifCond .eq 14, 3) := by decide +kernel
theorem dJ0_isLatin1_aae02_6 : decode cJ0_isLatin1_aae02 6 = .ok (.aload_n 0, 1) := by decide +kernel
theorem dJ0_isLatin1_aae02_7 : decode cJ0_isLatin1_aae02 7 = .ok (.getfield 15, 3) := by decide +kernel
theorem dJ0_isLatin1_aae02_10 : decode cJ0_isLatin1_aae02 10 = .ok (.ifCond .ne 7, 3) := by decide +kernel
theorem dJ0_isLatin1_aae02_13 : decode cJ0_isLatin1_aae02 13 = .ok (.iconst 1, 1) := by decide +kernel
theorem dJ0_isLatin1_aae02_14 : decode cJ0_isLatin1_aae02 14 = .ok (.goto 4, 3) := by decide +kernel
theorem dJ0_isLatin1_aae02_17 : decode cJ0_isLatin1_aae02 17 = .ok (.iconst 0, 1) := by decide +kernel
theorem dJ0_isLatin1_aae02_18 : decode cJ0_isLatin1_aae02 18 = .ok (.ireturn, 1) := by decide +kernel
theorem dJ0_checkIndex_df160_0 : decode cJ0_checkIndex_df160 0 = .ok (.iload_n 0, 1) := by decide +kernel
theorem dJ0_checkIndex_df160_1 : decode cJ0_checkIndex_df160 1 = .ok (.iload_n 1, 1) := by decide +kernel
theorem dJ0_checkIndex_df160_2 : decode cJ0_checkIndex_df160 2 = .ok (.getstatic 1053, 3) := by decide +kernel
theorem dJ0_checkIndex_df160_5 : decode cJ0_checkIndex_df160 5 = .ok (.invokestatic 1059, 3) := by decide +kernel
theorem dJ0_checkIndex_df160_8 : decode cJ0_checkIndex_df160 8 = .ok (.pop, 1) := by decide +kernel
theorem dJ0_checkIndex_df160_9 : decode cJ0_checkIndex_df160 9 = .ok (.return_, 1) := by decide +kernel
theorem dJ4_init_da8c8_0 : decode cJ4_init_da8c8 0 = .ok (.aload_n 0, 1) := by decide +kernel
theorem dJ4_init_da8c8_1 : decode cJ4_init_da8c8 1 = .ok (.bipush 16, 2) := by decide +kernel
theorem dJ4_init_da8c8_3 : decode cJ4_init_da8c8 3 = .ok (.invokespecial 1, 3) := by decide +kernel
theorem dJ4_init_da8c8_6 : decode cJ4_init_da8c8 6 = .ok (.return_, 1) := by decide +kernel
theorem dJ4_append_15ec4_0 : decode cJ4_append_15ec4 0 = .ok (.aload_n 0, 1) := by decide +kernel
theorem dJ4_append_15ec4_1 : decode cJ4_append_15ec4 1 = .ok (.aload_n 1, 1) := by decide +kernel
theorem dJ4_append_15ec4_2 : decode cJ4_append_15ec4 2 = .ok (.invokespecial 29, 3) := by decide +kernel
theorem dJ4_append_15ec4_5 : decode cJ4_append_15ec4 5 = .ok (.pop, 1) := by decide +kernel
theorem dJ4_append_15ec4_6 : decode cJ4_append_15ec4 6 = .ok (.aload_n 0, 1) := by decide +kernel
theorem dJ4_append_15ec4_7 : decode cJ4_append_15ec4 7 = .ok (.areturn, 1) := by decide +kernel
theorem dJ4_append_bf812_0 : decode cJ4_append_bf812 0 = .ok (.aload_n 0, 1) := by decide +kernel
theorem dJ4_append_bf812_1 : decode cJ4_append_bf812 1 = .ok (.iload_n 1, 1) := by decide +kernel
theorem dJ4_append_bf812_2 : decode cJ4_append_bf812 2 = .ok (.invokespecial 53, 3) := by decide +kernel
theorem dJ4_append_bf812_5 : decode cJ4_append_bf812 5 = .ok (.pop, 1) := by decide +kernel
theorem dJ4_append_bf812_6 : decode cJ4_append_bf812 6 = .ok (.aload_n 0, 1) := by decide +kernel
theorem dJ4_append_bf812_7 : decode cJ4_append_bf812 7 = .ok (.areturn, 1) := by decide +kernel
theorem dJ4_toString_0e30d_0 : decode cJ4_toString_0e30d 0 = .ok (.new 18, 3) := by decide +kernel
theorem dJ4_toString_0e30d_3 : decode cJ4_toString_0e30d 3 = .ok (.dup, 1) := by decide +kernel
theorem dJ4_toString_0e30d_4 : decode cJ4_toString_0e30d 4 = .ok (.aload_n 0, 1) := by decide +kernel
theorem dJ4_toString_0e30d_5 : decode cJ4_toString_0e30d 5 = .ok (.invokespecial 137, 3) := by decide +kernel
theorem dJ4_toString_0e30d_8 : decode cJ4_toString_0e30d 8 = .ok (.areturn, 1) := by decide +kernel
theorem dJ4_length_8abf5_0 : decode cJ4_length_8abf5 0 = .ok (.aload_n 0, 1) := by decide +kernel
theorem dJ4_length_8abf5_1 : decode cJ4_length_8abf5 1 = .ok (.invokespecial 343, 3) := by decide +kernel
theorem dJ4_length_8abf5_4 : decode cJ4_length_8abf5 4 = .ok (.ireturn, 1) := by decide +kernel
theorem dJ1_charAt_3b067_0 : decode cJ1_charAt_3b067 0 = .ok (.iload_n 1, 1) := by decide +kernel
theorem dJ1_charAt_3b067_1 : decode cJ1_charAt_3b067 1 = .ok (.aload_n 0, 1) := by decide +kernel
theorem dJ1_charAt_3b067_2 : decode cJ1_charAt_3b067 2 = .ok (.arraylength, 1) := by decide +kernel
theorem dJ1_charAt_3b067_3 : decode cJ1_charAt_3b067 3 = .ok (.invokestatic 9, 3) := by decide +kernel
theorem dJ1_charAt_3b067_6 : decode cJ1_charAt_3b067 6 = .ok (.aload_n 0, 1) := by decide +kernel
theorem dJ1_charAt_3b067_7 : decode cJ1_charAt_3b067 7 = .ok (.iload_n 1, 1) := by decide +kernel
theorem dJ1_charAt_3b067_8 : decode cJ1_charAt_3b067 8 = .ok (.baload, 1) := by decide +kernel
theorem dJ1_charAt_3b067_9 : decode cJ1_charAt_3b067 9 = .ok (.sipush 255, 3) := by decide +kernel
theorem dJ1_charAt_3b067_12 : decode cJ1_charAt_3b067 12 = .ok (.iand, 1) := by decide +kernel
theorem dJ1_charAt_3b067_13 : decode cJ1_charAt_3b067 13 = .ok (.i2c, 1) := by decide +kernel
theorem dJ1_charAt_3b067_14 : decode cJ1_charAt_3b067 14 = .ok (.ireturn, 1) := by decide +kernel
theorem dJ7_copyOf_9075b_0 : decode cJ7_copyOf_9075b 0 = .ok (.iload_n 1, 1) := by decide +kernel
theorem dJ7_copyOf_9075b_1 : decode cJ7_copyOf_9075b 1 = .ok (.aload_n 0, 1) := by decide +kernel
theorem dJ7_copyOf_9075b_2 : decode cJ7_copyOf_9075b 2 = .ok (.arraylength, 1) := by decide +kernel
theorem dJ7_copyOf_9075b_3 : decode cJ7_copyOf_9075b 3 = .ok (.if_icmp .ne 11, 3) := by decide +kernel
theorem dJ7_copyOf_9075b_6 : decode cJ7_copyOf_9075b 6 = .ok (.aload_n 0, 1) := by decide +kernel
theorem dJ7_copyOf_9075b_7 : decode cJ7_copyOf_9075b 7 = .ok (.invokevirtual 310, 3) := by decide +kernel
theorem dJ7_copyOf_9075b_10 : decode cJ7_copyOf_9075b 10 = .ok (.checkcast 311, 3) := by decide +kernel
theorem dJ7_copyOf_9075b_13 : decode cJ7_copyOf_9075b 13 = .ok (.areturn, 1) := by decide +kernel
theorem dJ7_copyOf_9075b_14 : decode cJ7_copyOf_9075b 14 = .ok (.iload_n 1, 1) := by decide +kernel
theorem dJ7_copyOf_9075b_15 : decode cJ7_copyOf_9075b 15 = .ok (.newarray .byte, 2) := by decide +kernel
theorem dJ7_copyOf_9075b_17 : decode cJ7_copyOf_9075b 17 = .ok (.astore_n 2, 1) := by decide +kernel
theorem dJ7_copyOf_9075b_18 : decode cJ7_copyOf_9075b 18 = .ok (.aload_n 0, 1) := by decide +kernel
theorem dJ7_copyOf_9075b_19 : decode cJ7_copyOf_9075b 19 = .ok (.iconst 0, 1) := by decide +kernel
theorem dJ7_copyOf_9075b_20 : decode cJ7_copyOf_9075b 20 = .ok (.aload_n 2, 1) := by decide +kernel
theorem dJ7_copyOf_9075b_21 : decode cJ7_copyOf_9075b 21 = .ok (.iconst 0, 1) := by decide +kernel
theorem dJ7_copyOf_9075b_22 : decode cJ7_copyOf_9075b 22 = .ok (.aload_n 0, 1) := by decide +kernel
theorem dJ7_copyOf_9075b_23 : decode cJ7_copyOf_9075b 23 = .ok (.arraylength, 1) := by decide +kernel
theorem dJ7_copyOf_9075b_24 : decode cJ7_copyOf_9075b 24 = .ok (.iload_n 1, 1) := by decide +kernel
theorem dJ7_copyOf_9075b_25 : decode cJ7_copyOf_9075b 25 = .ok (.invokestatic 304, 3) := by decide +kernel
theorem dJ7_copyOf_9075b_28 : decode cJ7_copyOf_9075b 28 = .ok (.invokestatic 150, 3) := by decide +kernel
theorem dJ7_copyOf_9075b_31 : decode cJ7_copyOf_9075b 31 = .ok (.aload_n 2, 1) := by decide +kernel
theorem dJ7_copyOf_9075b_32 : decode cJ7_copyOf_9075b 32 = .ok (.areturn, 1) := by decide +kernel
theorem dJ7_copyOfRange_39247_0 : decode cJ7_copyOfRange_39247 0 = .ok (.iload_n 1, 1) := by decide +kernel
theorem dJ7_copyOfRange_39247_1 : decode cJ7_copyOfRange_39247 1 = .ok (.ifCond .ne 9, 3) := by decide +kernel
theorem dJ7_copyOfRange_39247_4 : decode cJ7_copyOfRange_39247 4 = .ok (.iload_n 2, 1) := by decide +kernel
theorem dJ7_copyOfRange_39247_5 : decode cJ7_copyOfRange_39247 5 = .ok (.aload_n 0, 1) := by decide +kernel
theorem dJ7_copyOfRange_39247_6 : decode cJ7_copyOfRange_39247 6 = .ok (.arraylength, 1) := by decide +kernel
theorem dJ7_copyOfRange_39247_7 : decode cJ7_copyOfRange_39247 7 = .ok (.if_icmp .eq 10, 3) := by decide +kernel
theorem dJ7_copyOfRange_39247_10 : decode cJ7_copyOfRange_39247 10 = .ok (.aload_n 0, 1) := by decide +kernel
theorem dJ7_copyOfRange_39247_11 : decode cJ7_copyOfRange_39247 11 = .ok (.iload_n 1, 1) := by decide +kernel
theorem dJ7_copyOfRange_39247_12 : decode cJ7_copyOfRange_39247 12 = .ok (.iload_n 2, 1) := by decide +kernel
theorem dJ7_copyOfRange_39247_13 : decode cJ7_copyOfRange_39247 13 = .ok (.invokestatic 339, 3) := by decide +kernel
theorem dJ7_copyOfRange_39247_16 : decode cJ7_copyOfRange_39247 16 = .ok (.areturn, 1) := by decide +kernel
theorem dJ7_copyOfRange_39247_17 : decode cJ7_copyOfRange_39247 17 = .ok (.aload_n 0, 1) := by decide +kernel
theorem dJ7_copyOfRange_39247_18 : decode cJ7_copyOfRange_39247 18 = .ok (.invokevirtual 310, 3) := by decide +kernel
theorem dJ7_copyOfRange_39247_21 : decode cJ7_copyOfRange_39247 21 = .ok (.checkcast 311, 3) := by decide +kernel
theorem dJ7_copyOfRange_39247_24 : decode cJ7_copyOfRange_39247 24 = .ok (.areturn, 1) := by decide +kernel
theorem dJ7_copyOfRangeByte_39247_0 : decode cJ7_copyOfRangeByte_39247 0 = .ok (.iload_n 1, 1) := by decide +kernel
theorem dJ7_copyOfRangeByte_39247_1 : decode cJ7_copyOfRangeByte_39247 1 = .ok (.iload_n 2, 1) := by decide +kernel
theorem dJ7_copyOfRangeByte_39247_2 : decode cJ7_copyOfRangeByte_39247 2 = .ok (.invokestatic 343, 3) := by decide +kernel
theorem dJ7_copyOfRangeByte_39247_5 : decode cJ7_copyOfRangeByte_39247 5 = .ok (.iload_n 2, 1) := by decide +kernel
theorem dJ7_copyOfRangeByte_39247_6 : decode cJ7_copyOfRangeByte_39247 6 = .ok (.iload_n 1, 1) := by decide +kernel
theorem dJ7_copyOfRangeByte_39247_7 : decode cJ7_copyOfRangeByte_39247 7 = .ok (.isub, 1) := by decide +kernel
theorem dJ7_copyOfRangeByte_39247_8 : decode cJ7_copyOfRangeByte_39247 8 = .ok (.istore_n 3, 1) := by decide +kernel
theorem dJ7_copyOfRangeByte_39247_9 : decode cJ7_copyOfRangeByte_39247 9 = .ok (.iload_n 3, 1) := by decide +kernel
theorem dJ7_copyOfRangeByte_39247_10 : decode cJ7_copyOfRangeByte_39247 10 = .ok (.newarray .byte, 2) := by decide +kernel
theorem dJ7_copyOfRangeByte_39247_12 : decode cJ7_copyOfRangeByte_39247 12 = .ok (.astore 4, 2) := by decide +kernel
theorem dJ7_copyOfRangeByte_39247_14 : decode cJ7_copyOfRangeByte_39247 14 = .ok (.aload_n 0, 1) := by decide +kernel
theorem dJ7_copyOfRangeByte_39247_15 : decode cJ7_copyOfRangeByte_39247 15 = .ok (.iload_n 1, 1) := by decide +kernel
theorem dJ7_copyOfRangeByte_39247_16 : decode cJ7_copyOfRangeByte_39247 16 = .ok (.aload 4, 2) := by decide +kernel
theorem dJ7_copyOfRangeByte_39247_18 : decode cJ7_copyOfRangeByte_39247 18 = .ok (.iconst 0, 1) := by decide +kernel
theorem dJ7_copyOfRangeByte_39247_19 : decode cJ7_copyOfRangeByte_39247 19 = .ok (.aload_n 0, 1) := by decide +kernel
theorem dJ7_copyOfRangeByte_39247_20 : decode cJ7_copyOfRangeByte_39247 20 = .ok (.arraylength, 1) := by decide +kernel
theorem dJ7_copyOfRangeByte_39247_21 : decode cJ7_copyOfRangeByte_39247 21 = .ok (.iload_n 1, 1) := by decide +kernel
theorem dJ7_copyOfRangeByte_39247_22 : decode cJ7_copyOfRangeByte_39247 22 = .ok (.isub, 1) := by decide +kernel
theorem dJ7_copyOfRangeByte_39247_23 : decode cJ7_copyOfRangeByte_39247 23 = .ok (.iload_n 3, 1) := by decide +kernel
theorem dJ7_copyOfRangeByte_39247_24 : decode cJ7_copyOfRangeByte_39247 24 = .ok (.invokestatic 304, 3) := by decide +kernel
theorem dJ7_copyOfRangeByte_39247_27 : decode cJ7_copyOfRangeByte_39247 27 = .ok (.invokestatic 150, 3) := by decide +kernel
theorem dJ7_copyOfRangeByte_39247_30 : decode cJ7_copyOfRangeByte_39247 30 = .ok (.aload 4, 2) := by decide +kernel
theorem dJ7_copyOfRangeByte_39247_32 : decode cJ7_copyOfRangeByte_39247 32 = .ok (.areturn, 1) := by decide +kernel
theorem dJ8_newLength_cabcc_0 : decode cJ8_newLength_cabcc 0 = .ok (.iload_n 0, 1) := by decide +kernel
theorem dJ8_newLength_cabcc_1 : decode cJ8_newLength_cabcc 1 = .ok (.iload_n 1, 1) := by decide +kernel
theorem dJ8_newLength_cabcc_2 : decode cJ8_newLength_cabcc 2 = .ok (.iload_n 2, 1) := by decide +kernel
theorem dJ8_newLength_cabcc_3 : decode cJ8_newLength_cabcc 3 = .ok (.invokestatic 194, 3) := by decide +kernel
theorem dJ8_newLength_cabcc_6 : decode cJ8_newLength_cabcc 6 = .ok (.iadd, 1) := by decide +kernel
theorem dJ8_newLength_cabcc_7 : decode cJ8_newLength_cabcc 7 = .ok (.istore_n 3, 1) := by decide +kernel
theorem dJ8_newLength_cabcc_8 : decode cJ8_newLength_cabcc 8 = .ok (.iconst 0, 1) := by decide +kernel
theorem dJ8_newLength_cabcc_9 : decode cJ8_newLength_cabcc 9 = .ok (.iload_n 3, 1) := by decide +kernel
theorem dJ8_newLength_cabcc_10 : decode cJ8_newLength_cabcc 10 = .ok (.if_icmp .ge 11, 3) := by decide +kernel
theorem dJ8_newLength_cabcc_13 : decode cJ8_newLength_cabcc 13 = .ok (.iload_n 3, 1) := by decide +kernel
theorem dJ8_newLength_cabcc_14 : decode cJ8_newLength_cabcc 14 = .ok (.ldc 200, 2) := by decide +kernel
theorem dJ8_newLength_cabcc_16 : decode cJ8_newLength_cabcc 16 = .ok (.if_icmp .gt 5, 3) := by decide +kernel
theorem dJ8_newLength_cabcc_19 : decode cJ8_newLength_cabcc 19 = .ok (.iload_n 3, 1) := by decide +kernel
theorem dJ8_newLength_cabcc_20 : decode cJ8_newLength_cabcc 20 = .ok (.ireturn, 1) := by decide +kernel
theorem dJ8_newLength_cabcc_21 : decode cJ8_newLength_cabcc 21 = .ok (.iload_n 0, 1) := by decide +kernel
theorem dJ8_newLength_cabcc_22 : decode cJ8_newLength_cabcc 22 = .ok (.iload_n 1, 1) := by decide +kernel
theorem dJ8_newLength_cabcc_23 : decode cJ8_newLength_cabcc 23 = .ok (.invokestatic 201, 3) := by decide +kernel
theorem dJ8_newLength_cabcc_26 : decode cJ8_newLength_cabcc 26 = .ok (.ireturn, 1) := by decide +kernel
theorem dJ3_checkIndex_8e157_0 : decode cJ3_checkIndex_8e157 0 = .ok (.iload_n 0, 1) := by decide +kernel
theorem dJ3_checkIndex_8e157_1 : decode cJ3_checkIndex_8e157 1 = .ok (.ifCond .lt 8, 3) := by decide +kernel
theorem dJ3_checkIndex_8e157_4 : decode cJ3_checkIndex_8e157 4 = .ok (.iload_n 0, 1) := by decide +kernel
theorem dJ3_checkIndex_8e157_5 : decode cJ3_checkIndex_8e157 5 = .ok (.iload_n 1, 1) := by decide +kernel
theorem dJ3_checkIndex_8e157_6 : decode cJ3_checkIndex_8e157 6 = .ok (.if_icmp .lt 10, 3) := by decide +kernel
theorem dJ3_checkIndex_8e157_9 : decode cJ3_checkIndex_8e157 9 = .ok (.aload_n 2, 1) := by decide +kernel
theorem dJ3_checkIndex_8e157_10 : decode cJ3_checkIndex_8e157 10 = .ok (.iload_n 0, 1) := by decide +kernel
theorem dJ3_checkIndex_8e157_11 : decode cJ3_checkIndex_8e157 11 = .ok (.iload_n 1, 1) := by decide +kernel
theorem dJ3_checkIndex_8e157_12 : decode cJ3_checkIndex_8e157 12 = .ok (.invokestatic 95, 3) := by decide +kernel
theorem dJ3_checkIndex_8e157_15 : decode cJ3_checkIndex_8e157 15 = .ok (.athrow, 1) := by decide +kernel
theorem dJ3_checkIndex_8e157_16 : decode cJ3_checkIndex_8e157 16 = .ok (.iload_n 0, 1) := by decide +kernel
theorem dJ3_checkIndex_8e157_17 : decode cJ3_checkIndex_8e157 17 = .ok (.ireturn, 1) := by decide +kernel
theorem dL_cell_0 : decode cL_cell 0 = .ok (.iload_n 1, 1) := by decide +kernel
theorem dL_cell_1 : decode cL_cell 1 = .ok (.aload_n 0, 1) := by decide +kernel
theorem dL_cell_2 : decode cL_cell 2 = .ok (.arraylength, 1) := by decide +kernel
theorem dL_cell_3 : decode cL_cell 3 = .ok (.if_icmp .ge 9, 3) := by decide +kernel
theorem dL_cell_6 : decode cL_cell 6 = .ok (.aload_n 0, 1) := by decide +kernel
theorem dL_cell_7 : decode cL_cell 7 = .ok (.iload_n 1, 1) := by decide +kernel
theorem dL_cell_8 : decode cL_cell 8 = .ok (.iaload, 1) := by decide +kernel
theorem dL_cell_9 : decode cL_cell 9 = .ok (.goto 7, 3) := by decide +kernel
theorem dL_cell_12 : decode cL_cell 12 = .ok (.ldc 7, 2) := by decide +kernel
theorem dL_cell_14 : decode cL_cell 14 = .ok (.iload_n 1, 1) := by decide +kernel
theorem dL_cell_15 : decode cL_cell 15 = .ok (.imul, 1) := by decide +kernel
theorem dL_cell_16 : decode cL_cell 16 = .ok (.ireturn, 1) := by decide +kernel
theorem dL_pick_0 : decode cL_pick 0 = .ok (.aload_n 0, 1) := by decide +kernel
theorem dL_pick_1 : decode cL_pick 1 = .ok (.iload_n 1, 1) := by decide +kernel
theorem dL_pick_2 : decode cL_pick 2 = .ok (.invokestatic 8, 3) := by decide +kernel
theorem dL_pick_5 : decode cL_pick 5 = .ok (.iconst 1, 1) := by decide +kernel
theorem dL_pick_6 : decode cL_pick 6 = .ok (.iushr, 1) := by decide +kernel
theorem dL_pick_7 : decode cL_pick 7 = .ok (.iload_n 2, 1) := by decide +kernel
theorem dL_pick_8 : decode cL_pick 8 = .ok (.irem, 1) := by decide +kernel
theorem dL_pick_9 : decode cL_pick 9 = .ok (.ireturn, 1) := by decide +kernel
theorem dL_append_0 : decode cL_append 0 = .ok (.aload_n 0, 1) := by decide +kernel
theorem dL_append_1 : decode cL_append 1 = .ok (.iload_n 1, 1) := by decide +kernel
theorem dL_append_2 : decode cL_append 2 = .ok (.iload_n 2, 1) := by decide +kernel
theorem dL_append_3 : decode cL_append 3 = .ok (.iload_n 3, 1) := by decide +kernel
theorem dL_append_4 : decode cL_append 4 = .ok (.invokevirtual 14, 3) := by decide +kernel
theorem dL_append_7 : decode cL_append 7 = .ok (.ireturn, 1) := by decide +kernel
theorem dL_append_8 : decode cL_append 8 = .ok (.astore 4, 2) := by decide +kernel
theorem dL_append_10 : decode cL_append 10 = .ok (.bipush (-77), 2) := by decide +kernel
theorem dL_append_12 : decode cL_append 12 = .ok (.ireturn, 1) := by decide +kernel
theorem dL_append_13 : decode cL_append 13 = .ok (.astore 4, 2) := by decide +kernel
theorem dL_append_15 : decode cL_append 15 = .ok (.bipush (-78), 2) := by decide +kernel
theorem dL_append_17 : decode cL_append 17 = .ok (.ireturn, 1) := by decide +kernel
theorem dL_append_18 : decode cL_append 18 = .ok (.astore 4, 2) := by decide +kernel
theorem dL_append_20 : decode cL_append 20 = .ok (.bipush (-79), 2) := by decide +kernel
theorem dL_append_22 : decode cL_append 22 = .ok (.ireturn, 1) := by decide +kernel
theorem dL_insert_0 : decode cL_insert 0 = .ok (.aload_n 0, 1) := by decide +kernel
theorem dL_insert_1 : decode cL_insert 1 = .ok (.iload_n 1, 1) := by decide +kernel
theorem dL_insert_2 : decode cL_insert 2 = .ok (.iload_n 2, 1) := by decide +kernel
theorem dL_insert_3 : decode cL_insert 3 = .ok (.iload_n 3, 1) := by decide +kernel
theorem dL_insert_4 : decode cL_insert 4 = .ok (.iload 4, 2) := by decide +kernel
theorem dL_insert_6 : decode cL_insert 6 = .ok (.invokevirtual 26, 3) := by decide +kernel
theorem dL_insert_9 : decode cL_insert 9 = .ok (.ireturn, 1) := by decide +kernel
theorem dL_insert_10 : decode cL_insert 10 = .ok (.astore 5, 2) := by decide +kernel
theorem dL_insert_12 : decode cL_insert 12 = .ok (.bipush (-77), 2) := by decide +kernel
theorem dL_insert_14 : decode cL_insert 14 = .ok (.ireturn, 1) := by decide +kernel
theorem dL_insert_15 : decode cL_insert 15 = .ok (.astore 5, 2) := by decide +kernel
theorem dL_insert_17 : decode cL_insert 17 = .ok (.bipush (-78), 2) := by decide +kernel
theorem dL_insert_19 : decode cL_insert 19 = .ok (.ireturn, 1) := by decide +kernel
theorem dL_insert_20 : decode cL_insert 20 = .ok (.astore 5, 2) := by decide +kernel
theorem dL_insert_22 : decode cL_insert 22 = .ok (.bipush (-79), 2) := by decide +kernel
theorem dL_insert_24 : decode cL_insert 24 = .ok (.ireturn, 1) := by decide +kernel
theorem dL_remove_0 : decode cL_remove 0 = .ok (.aload_n 0, 1) := by decide +kernel
theorem dL_remove_1 : decode cL_remove 1 = .ok (.iload_n 1, 1) := by decide +kernel
theorem dL_remove_2 : decode cL_remove 2 = .ok (.iload_n 2, 1) := by decide +kernel
theorem dL_remove_3 : decode cL_remove 3 = .ok (.invokevirtual 30, 3) := by decide +kernel
theorem dL_remove_6 : decode cL_remove 6 = .ok (.ireturn, 1) := by decide +kernel
theorem dL_remove_7 : decode cL_remove 7 = .ok (.astore_n 3, 1) := by decide +kernel
theorem dL_remove_8 : decode cL_remove 8 = .ok (.bipush (-77), 2) := by decide +kernel
theorem dL_remove_10 : decode cL_remove 10 = .ok (.ireturn, 1) := by decide +kernel
theorem dL_retie_0 : decode cL_retie 0 = .ok (.aload_n 0, 1) := by decide +kernel
theorem dL_retie_1 : decode cL_retie 1 = .ok (.iload_n 1, 1) := by decide +kernel
theorem dL_retie_2 : decode cL_retie 2 = .ok (.iload_n 2, 1) := by decide +kernel
theorem dL_retie_3 : decode cL_retie 3 = .ok (.iload_n 3, 1) := by decide +kernel
theorem dL_retie_4 : decode cL_retie 4 = .ok (.invokevirtual 34, 3) := by decide +kernel
theorem dL_retie_7 : decode cL_retie 7 = .ok (.ireturn, 1) := by decide +kernel
theorem dL_retie_8 : decode cL_retie 8 = .ok (.astore 4, 2) := by decide +kernel
theorem dL_retie_10 : decode cL_retie 10 = .ok (.bipush (-77), 2) := by decide +kernel
theorem dL_retie_12 : decode cL_retie 12 = .ok (.ireturn, 1) := by decide +kernel
theorem dL_retie_13 : decode cL_retie 13 = .ok (.astore 4, 2) := by decide +kernel
theorem dL_retie_15 : decode cL_retie 15 = .ok (.bipush (-78), 2) := by decide +kernel
theorem dL_retie_17 : decode cL_retie 17 = .ok (.ireturn, 1) := by decide +kernel
theorem dL_segmentCount_0 : decode cL_segmentCount 0 = .ok (.aload_n 0, 1) := by decide +kernel
theorem dL_segmentCount_1 : decode cL_segmentCount 1 = .ok (.iload_n 1, 1) := by decide +kernel
theorem dL_segmentCount_2 : decode cL_segmentCount 2 = .ok (.invokevirtual 37, 3) := by decide +kernel
theorem dL_segmentCount_5 : decode cL_segmentCount 5 = .ok (.ireturn, 1) := by decide +kernel
theorem dL_segmentCount_6 : decode cL_segmentCount 6 = .ok (.astore_n 2, 1) := by decide +kernel
theorem dL_segmentCount_7 : decode cL_segmentCount 7 = .ok (.bipush (-77), 2) := by decide +kernel
theorem dL_segmentCount_9 : decode cL_segmentCount 9 = .ok (.ireturn, 1) := by decide +kernel
theorem dL_length_0 : decode cL_length 0 = .ok (.aload_n 0, 1) := by decide +kernel
theorem dL_length_1 : decode cL_length 1 = .ok (.iload_n 1, 1) := by decide +kernel
theorem dL_length_2 : decode cL_length 2 = .ok (.iload_n 2, 1) := by decide +kernel
theorem dL_length_3 : decode cL_length 3 = .ok (.invokevirtual 41, 3) := by decide +kernel
theorem dL_length_6 : decode cL_length 6 = .ok (.ireturn, 1) := by decide +kernel
theorem dL_length_7 : decode cL_length 7 = .ok (.astore_n 3, 1) := by decide +kernel
theorem dL_length_8 : decode cL_length 8 = .ok (.bipush (-77), 2) := by decide +kernel
theorem dL_length_10 : decode cL_length 10 = .ok (.ireturn, 1) := by decide +kernel
theorem dL_colour_0 : decode cL_colour 0 = .ok (.aload_n 0, 1) := by decide +kernel
theorem dL_colour_1 : decode cL_colour 1 = .ok (.iload_n 1, 1) := by decide +kernel
theorem dL_colour_2 : decode cL_colour 2 = .ok (.iload_n 2, 1) := by decide +kernel
theorem dL_colour_3 : decode cL_colour 3 = .ok (.invokevirtual 44, 3) := by decide +kernel
theorem dL_colour_6 : decode cL_colour 6 = .ok (.ireturn, 1) := by decide +kernel
theorem dL_colour_7 : decode cL_colour 7 = .ok (.astore_n 3, 1) := by decide +kernel
theorem dL_colour_8 : decode cL_colour 8 = .ok (.bipush (-77), 2) := by decide +kernel
theorem dL_colour_10 : decode cL_colour 10 = .ok (.ireturn, 1) := by decide +kernel
theorem dL_cut_0 : decode cL_cut 0 = .ok (.aload_n 0, 1) := by decide +kernel
theorem dL_cut_1 : decode cL_cut 1 = .ok (.iload_n 1, 1) := by decide +kernel
theorem dL_cut_2 : decode cL_cut 2 = .ok (.iload_n 2, 1) := by decide +kernel
theorem dL_cut_3 : decode cL_cut 3 = .ok (.iload_n 3, 1) := by decide +kernel
theorem dL_cut_4 : decode cL_cut 4 = .ok (.invokevirtual 47, 3) := by decide +kernel
theorem dL_cut_7 : decode cL_cut 7 = .ok (.ireturn, 1) := by decide +kernel
theorem dL_cut_8 : decode cL_cut 8 = .ok (.astore 4, 2) := by decide +kernel
theorem dL_cut_10 : decode cL_cut 10 = .ok (.bipush (-77), 2) := by decide +kernel
theorem dL_cut_12 : decode cL_cut 12 = .ok (.ireturn, 1) := by decide +kernel
theorem dL_cut_13 : decode cL_cut 13 = .ok (.astore 4, 2) := by decide +kernel
theorem dL_cut_15 : decode cL_cut 15 = .ok (.bipush (-78), 2) := by decide +kernel
theorem dL_cut_17 : decode cL_cut 17 = .ok (.ireturn, 1) := by decide +kernel
theorem dL_cut_18 : decode cL_cut 18 = .ok (.astore 4, 2) := by decide +kernel
theorem dL_cut_20 : decode cL_cut 20 = .ok (.bipush (-79), 2) := by decide +kernel
theorem dL_cut_22 : decode cL_cut 22 = .ok (.ireturn, 1) := by decide +kernel
theorem dL_splice_0 : decode cL_splice 0 = .ok (.aload_n 0, 1) := by decide +kernel
theorem dL_splice_1 : decode cL_splice 1 = .ok (.iload_n 1, 1) := by decide +kernel
theorem dL_splice_2 : decode cL_splice 2 = .ok (.iload_n 2, 1) := by decide +kernel
theorem dL_splice_3 : decode cL_splice 3 = .ok (.invokevirtual 50, 3) := by decide +kernel
theorem dL_splice_6 : decode cL_splice 6 = .ok (.ireturn, 1) := by decide +kernel
theorem dL_splice_7 : decode cL_splice 7 = .ok (.astore_n 3, 1) := by decide +kernel
theorem dL_splice_8 : decode cL_splice 8 = .ok (.bipush (-77), 2) := by decide +kernel
theorem dL_splice_10 : decode cL_splice 10 = .ok (.ireturn, 1) := by decide +kernel
theorem dL_splice_11 : decode cL_splice 11 = .ok (.astore_n 3, 1) := by decide +kernel
theorem dL_splice_12 : decode cL_splice 12 = .ok (.bipush (-78), 2) := by decide +kernel
theorem dL_splice_14 : decode cL_splice 14 = .ok (.ireturn, 1) := by decide +kernel
theorem dL_splice_15 : decode cL_splice 15 = .ok (.astore_n 3, 1) := by decide +kernel
theorem dL_splice_16 : decode cL_splice 16 = .ok (.bipush (-79), 2) := by decide +kernel
theorem dL_splice_18 : decode cL_splice 18 = .ok (.ireturn, 1) := by decide +kernel
theorem dL_exchange_0 : decode cL_exchange 0 = .ok (.aload_n 0, 1) := by decide +kernel
theorem dL_exchange_1 : decode cL_exchange 1 = .ok (.iload_n 1, 1) := by decide +kernel
theorem dL_exchange_2 : decode cL_exchange 2 = .ok (.iload_n 2, 1) := by decide +kernel
theorem dL_exchange_3 : decode cL_exchange 3 = .ok (.invokevirtual 53, 3) := by decide +kernel
theorem dL_exchange_6 : decode cL_exchange 6 = .ok (.ireturn, 1) := by decide +kernel
theorem dL_exchange_7 : decode cL_exchange 7 = .ok (.astore_n 3, 1) := by decide +kernel
theorem dL_exchange_8 : decode cL_exchange 8 = .ok (.bipush (-77), 2) := by decide +kernel
theorem dL_exchange_10 : decode cL_exchange 10 = .ok (.ireturn, 1) := by decide +kernel
theorem dL_flip_0 : decode cL_flip 0 = .ok (.aload_n 0, 1) := by decide +kernel
theorem dL_flip_1 : decode cL_flip 1 = .ok (.iload_n 1, 1) := by decide +kernel
theorem dL_flip_2 : decode cL_flip 2 = .ok (.iload_n 2, 1) := by decide +kernel
theorem dL_flip_3 : decode cL_flip 3 = .ok (.iload_n 3, 1) := by decide +kernel
theorem dL_flip_4 : decode cL_flip 4 = .ok (.invokevirtual 56, 3) := by decide +kernel
theorem dL_flip_7 : decode cL_flip 7 = .ok (.ireturn, 1) := by decide +kernel
theorem dL_flip_8 : decode cL_flip 8 = .ok (.astore 4, 2) := by decide +kernel
theorem dL_flip_10 : decode cL_flip 10 = .ok (.bipush (-77), 2) := by decide +kernel
theorem dL_flip_12 : decode cL_flip 12 = .ok (.ireturn, 1) := by decide +kernel
theorem dL_flip_13 : decode cL_flip 13 = .ok (.astore 4, 2) := by decide +kernel
theorem dL_flip_15 : decode cL_flip 15 = .ok (.bipush (-78), 2) := by decide +kernel
theorem dL_flip_17 : decode cL_flip 17 = .ok (.ireturn, 1) := by decide +kernel
theorem dL_dye_0 : decode cL_dye 0 = .ok (.aload_n 0, 1) := by decide +kernel
theorem dL_dye_1 : decode cL_dye 1 = .ok (.iload_n 1, 1) := by decide +kernel
theorem dL_dye_2 : decode cL_dye 2 = .ok (.iload_n 2, 1) := by decide +kernel
theorem dL_dye_3 : decode cL_dye 3 = .ok (.iload_n 3, 1) := by decide +kernel
theorem dL_dye_4 : decode cL_dye 4 = .ok (.iload 4, 2) := by decide +kernel
theorem dL_dye_6 : decode cL_dye 6 = .ok (.invokevirtual 59, 3) := by decide +kernel
theorem dL_dye_9 : decode cL_dye 9 = .ok (.ireturn, 1) := by decide +kernel
theorem dL_dye_10 : decode cL_dye 10 = .ok (.astore 5, 2) := by decide +kernel
theorem dL_dye_12 : decode cL_dye 12 = .ok (.bipush (-77), 2) := by decide +kernel
theorem dL_dye_14 : decode cL_dye 14 = .ok (.ireturn, 1) := by decide +kernel
theorem dL_dye_15 : decode cL_dye 15 = .ok (.astore 5, 2) := by decide +kernel
theorem dL_dye_17 : decode cL_dye 17 = .ok (.bipush (-78), 2) := by decide +kernel
theorem dL_dye_19 : decode cL_dye 19 = .ok (.ireturn, 1) := by decide +kernel
theorem dL_reelLength_0 : decode cL_reelLength 0 = .ok (.aload_n 0, 1) := by decide +kernel
theorem dL_reelLength_1 : decode cL_reelLength 1 = .ok (.iload_n 1, 1) := by decide +kernel
theorem dL_reelLength_2 : decode cL_reelLength 2 = .ok (.invokevirtual 62, 3) := by decide +kernel
theorem dL_reelLength_5 : decode cL_reelLength 5 = .ok (.ireturn, 1) := by decide +kernel
theorem dL_reelLength_6 : decode cL_reelLength 6 = .ok (.astore_n 2, 1) := by decide +kernel
theorem dL_reelLength_7 : decode cL_reelLength 7 = .ok (.bipush (-77), 2) := by decide +kernel
theorem dL_reelLength_9 : decode cL_reelLength 9 = .ok (.ireturn, 1) := by decide +kernel
theorem dL_lengthBefore_0 : decode cL_lengthBefore 0 = .ok (.aload_n 0, 1) := by decide +kernel
theorem dL_lengthBefore_1 : decode cL_lengthBefore 1 = .ok (.iload_n 1, 1) := by decide +kernel
theorem dL_lengthBefore_2 : decode cL_lengthBefore 2 = .ok (.iload_n 2, 1) := by decide +kernel
theorem dL_lengthBefore_3 : decode cL_lengthBefore 3 = .ok (.invokevirtual 65, 3) := by decide +kernel
theorem dL_lengthBefore_6 : decode cL_lengthBefore 6 = .ok (.ireturn, 1) := by decide +kernel
theorem dL_lengthBefore_7 : decode cL_lengthBefore 7 = .ok (.astore_n 3, 1) := by decide +kernel
theorem dL_lengthBefore_8 : decode cL_lengthBefore 8 = .ok (.bipush (-77), 2) := by decide +kernel
theorem dL_lengthBefore_10 : decode cL_lengthBefore 10 = .ok (.ireturn, 1) := by decide +kernel
theorem dL_lengthBeforeByScan_0 : decode cL_lengthBeforeByScan 0 = .ok (.aload_n 0, 1) := by decide +kernel
theorem dL_lengthBeforeByScan_1 : decode cL_lengthBeforeByScan 1 = .ok (.iload_n 1, 1) := by decide +kernel
theorem dL_lengthBeforeByScan_2 : decode cL_lengthBeforeByScan 2 = .ok (.iload_n 2, 1) := by decide +kernel
theorem dL_lengthBeforeByScan_3 : decode cL_lengthBeforeByScan 3 = .ok (.invokevirtual 68, 3) := by decide +kernel
theorem dL_lengthBeforeByScan_6 : decode cL_lengthBeforeByScan 6 = .ok (.ireturn, 1) := by decide +kernel
theorem dL_lengthBeforeByScan_7 : decode cL_lengthBeforeByScan 7 = .ok (.astore_n 3, 1) := by decide +kernel
theorem dL_lengthBeforeByScan_8 : decode cL_lengthBeforeByScan 8 = .ok (.bipush (-77), 2) := by decide +kernel
theorem dL_lengthBeforeByScan_10 : decode cL_lengthBeforeByScan 10 = .ok (.ireturn, 1) := by decide +kernel
theorem dL_positionAt_0 : decode cL_positionAt 0 = .ok (.aload_n 0, 1) := by decide +kernel
theorem dL_positionAt_1 : decode cL_positionAt 1 = .ok (.iload_n 1, 1) := by decide +kernel
theorem dL_positionAt_2 : decode cL_positionAt 2 = .ok (.iload_n 2, 1) := by decide +kernel
theorem dL_positionAt_3 : decode cL_positionAt 3 = .ok (.invokevirtual 71, 3) := by decide +kernel
theorem dL_positionAt_6 : decode cL_positionAt 6 = .ok (.ireturn, 1) := by decide +kernel
theorem dL_positionAt_7 : decode cL_positionAt 7 = .ok (.astore_n 3, 1) := by decide +kernel
theorem dL_positionAt_8 : decode cL_positionAt 8 = .ok (.bipush (-77), 2) := by decide +kernel
theorem dL_positionAt_10 : decode cL_positionAt 10 = .ok (.ireturn, 1) := by decide +kernel
theorem dL_positionAt_11 : decode cL_positionAt 11 = .ok (.astore_n 3, 1) := by decide +kernel
theorem dL_positionAt_12 : decode cL_positionAt 12 = .ok (.bipush (-75), 2) := by decide +kernel
theorem dL_positionAt_14 : decode cL_positionAt 14 = .ok (.ireturn, 1) := by decide +kernel
theorem dL_rangeLength_0 : decode cL_rangeLength 0 = .ok (.aload_n 0, 1) := by decide +kernel
theorem dL_rangeLength_1 : decode cL_rangeLength 1 = .ok (.iload_n 1, 1) := by decide +kernel
theorem dL_rangeLength_2 : decode cL_rangeLength 2 = .ok (.iload_n 2, 1) := by decide +kernel
theorem dL_rangeLength_3 : decode cL_rangeLength 3 = .ok (.iload_n 3, 1) := by decide +kernel
theorem dL_rangeLength_4 : decode cL_rangeLength 4 = .ok (.invokevirtual 76, 3) := by decide +kernel
theorem dL_rangeLength_7 : decode cL_rangeLength 7 = .ok (.ireturn, 1) := by decide +kernel
theorem dL_rangeLength_8 : decode cL_rangeLength 8 = .ok (.astore 4, 2) := by decide +kernel
theorem dL_rangeLength_10 : decode cL_rangeLength 10 = .ok (.bipush (-77), 2) := by decide +kernel
theorem dL_rangeLength_12 : decode cL_rangeLength 12 = .ok (.ireturn, 1) := by decide +kernel
theorem dL_rangeLength_13 : decode cL_rangeLength 13 = .ok (.astore 4, 2) := by decide +kernel
theorem dL_rangeLength_15 : decode cL_rangeLength 15 = .ok (.bipush (-78), 2) := by decide +kernel
theorem dL_rangeLength_17 : decode cL_rangeLength 17 = .ok (.ireturn, 1) := by decide +kernel
theorem dL_longestInRange_0 : decode cL_longestInRange 0 = .ok (.aload_n 0, 1) := by decide +kernel
theorem dL_longestInRange_1 : decode cL_longestInRange 1 = .ok (.iload_n 1, 1) := by decide +kernel
theorem dL_longestInRange_2 : decode cL_longestInRange 2 = .ok (.iload_n 2, 1) := by decide +kernel
theorem dL_longestInRange_3 : decode cL_longestInRange 3 = .ok (.iload_n 3, 1) := by decide +kernel
theorem dL_longestInRange_4 : decode cL_longestInRange 4 = .ok (.invokevirtual 79, 3) := by decide +kernel
theorem dL_longestInRange_7 : decode cL_longestInRange 7 = .ok (.ireturn, 1) := by decide +kernel
theorem dL_longestInRange_8 : decode cL_longestInRange 8 = .ok (.astore 4, 2) := by decide +kernel
theorem dL_longestInRange_10 : decode cL_longestInRange 10 = .ok (.bipush (-77), 2) := by decide +kernel
theorem dL_longestInRange_12 : decode cL_longestInRange 12 = .ok (.ireturn, 1) := by decide +kernel
theorem dL_longestInRange_13 : decode cL_longestInRange 13 = .ok (.astore 4, 2) := by decide +kernel
theorem dL_longestInRange_15 : decode cL_longestInRange 15 = .ok (.bipush (-78), 2) := by decide +kernel
theorem dL_longestInRange_17 : decode cL_longestInRange 17 = .ok (.ireturn, 1) := by decide +kernel
theorem dL_segmentAtRank_0 : decode cL_segmentAtRank 0 = .ok (.aload_n 0, 1) := by decide +kernel
theorem dL_segmentAtRank_1 : decode cL_segmentAtRank 1 = .ok (.iload_n 1, 1) := by decide +kernel
theorem dL_segmentAtRank_2 : decode cL_segmentAtRank 2 = .ok (.iload_n 2, 1) := by decide +kernel
theorem dL_segmentAtRank_3 : decode cL_segmentAtRank 3 = .ok (.invokevirtual 82, 3) := by decide +kernel
theorem dL_segmentAtRank_6 : decode cL_segmentAtRank 6 = .ok (.ireturn, 1) := by decide +kernel
theorem dL_segmentAtRank_7 : decode cL_segmentAtRank 7 = .ok (.astore_n 3, 1) := by decide +kernel
theorem dL_segmentAtRank_8 : decode cL_segmentAtRank 8 = .ok (.bipush (-77), 2) := by decide +kernel
theorem dL_segmentAtRank_10 : decode cL_segmentAtRank 10 = .ok (.ireturn, 1) := by decide +kernel
theorem dL_segmentAtRank_11 : decode cL_segmentAtRank 11 = .ok (.astore_n 3, 1) := by decide +kernel
theorem dL_segmentAtRank_12 : decode cL_segmentAtRank 12 = .ok (.bipush (-75), 2) := by decide +kernel
theorem dL_segmentAtRank_14 : decode cL_segmentAtRank 14 = .ok (.ireturn, 1) := by decide +kernel
theorem dL_tangleCount_0 : decode cL_tangleCount 0 = .ok (.aload_n 0, 1) := by decide +kernel
theorem dL_tangleCount_1 : decode cL_tangleCount 1 = .ok (.iload_n 1, 1) := by decide +kernel
theorem dL_tangleCount_2 : decode cL_tangleCount 2 = .ok (.invokevirtual 85, 3) := by decide +kernel
theorem dL_tangleCount_5 : decode cL_tangleCount 5 = .ok (.ireturn, 1) := by decide +kernel
theorem dL_tangleCount_6 : decode cL_tangleCount 6 = .ok (.astore_n 2, 1) := by decide +kernel
theorem dL_tangleCount_7 : decode cL_tangleCount 7 = .ok (.bipush (-77), 2) := by decide +kernel
theorem dL_tangleCount_9 : decode cL_tangleCount 9 = .ok (.ireturn, 1) := by decide +kernel
theorem dL_tangleCountByScan_0 : decode cL_tangleCountByScan 0 = .ok (.aload_n 0, 1) := by decide +kernel
theorem dL_tangleCountByScan_1 : decode cL_tangleCountByScan 1 = .ok (.iload_n 1, 1) := by decide +kernel
theorem dL_tangleCountByScan_2 : decode cL_tangleCountByScan 2 = .ok (.invokevirtual 88, 3) := by decide +kernel
theorem dL_tangleCountByScan_5 : decode cL_tangleCountByScan 5 = .ok (.ireturn, 1) := by decide +kernel
theorem dL_tangleCountByScan_6 : decode cL_tangleCountByScan 6 = .ok (.astore_n 2, 1) := by decide +kernel
theorem dL_tangleCountByScan_7 : decode cL_tangleCountByScan 7 = .ok (.bipush (-77), 2) := by decide +kernel
theorem dL_tangleCountByScan_9 : decode cL_tangleCountByScan 9 = .ok (.ireturn, 1) := by decide +kernel
theorem dL_isTangled_0 : decode cL_isTangled 0 = .ok (.aload_n 0, 1) := by decide +kernel
theorem dL_isTangled_1 : decode cL_isTangled 1 = .ok (.iload_n 1, 1) := by decide +kernel
theorem dL_isTangled_2 : decode cL_isTangled 2 = .ok (.iload_n 2, 1) := by decide +kernel
theorem dL_isTangled_3 : decode cL_isTangled 3 = .ok (.invokevirtual 91, 3) := by decide +kernel
theorem dL_isTangled_6 : decode cL_isTangled 6 = .ok (.ifCond .eq 7, 3) := by decide +kernel
theorem dL_isTangled_9 : decode cL_isTangled 9 = .ok (.iconst 1, 1) := by decide +kernel
theorem dL_isTangled_10 : decode cL_isTangled 10 = .ok (.goto 4, 3) := by decide +kernel
theorem dL_isTangled_13 : decode cL_isTangled 13 = .ok (.iconst 0, 1) := by decide +kernel
theorem dL_isTangled_14 : decode cL_isTangled 14 = .ok (.ireturn, 1) := by decide +kernel
theorem dL_isTangled_15 : decode cL_isTangled 15 = .ok (.astore_n 3, 1) := by decide +kernel
theorem dL_isTangled_16 : decode cL_isTangled 16 = .ok (.bipush (-77), 2) := by decide +kernel
theorem dL_isTangled_18 : decode cL_isTangled 18 = .ok (.ireturn, 1) := by decide +kernel
theorem dL_longestRun_0 : decode cL_longestRun 0 = .ok (.aload_n 0, 1) := by decide +kernel
theorem dL_longestRun_1 : decode cL_longestRun 1 = .ok (.iload_n 1, 1) := by decide +kernel
theorem dL_longestRun_2 : decode cL_longestRun 2 = .ok (.invokevirtual 95, 3) := by decide +kernel
theorem dL_longestRun_5 : decode cL_longestRun 5 = .ok (.ireturn, 1) := by decide +kernel
theorem dL_longestRun_6 : decode cL_longestRun 6 = .ok (.astore_n 2, 1) := by decide +kernel
theorem dL_longestRun_7 : decode cL_longestRun 7 = .ok (.bipush (-77), 2) := by decide +kernel
theorem dL_longestRun_9 : decode cL_longestRun 9 = .ok (.ireturn, 1) := by decide +kernel
theorem dL_nextOfColour_0 : decode cL_nextOfColour 0 = .ok (.aload_n 0, 1) := by decide +kernel
theorem dL_nextOfColour_1 : decode cL_nextOfColour 1 = .ok (.iload_n 1, 1) := by decide +kernel
theorem dL_nextOfColour_2 : decode cL_nextOfColour 2 = .ok (.iload_n 2, 1) := by decide +kernel
theorem dL_nextOfColour_3 : decode cL_nextOfColour 3 = .ok (.iload_n 3, 1) := by decide +kernel
theorem dL_nextOfColour_4 : decode cL_nextOfColour 4 = .ok (.invokevirtual 98, 3) := by decide +kernel
theorem dL_nextOfColour_7 : decode cL_nextOfColour 7 = .ok (.ireturn, 1) := by decide +kernel
theorem dL_nextOfColour_8 : decode cL_nextOfColour 8 = .ok (.astore 4, 2) := by decide +kernel
theorem dL_nextOfColour_10 : decode cL_nextOfColour 10 = .ok (.bipush (-77), 2) := by decide +kernel
theorem dL_nextOfColour_12 : decode cL_nextOfColour 12 = .ok (.ireturn, 1) := by decide +kernel
theorem dL_nextOfColour_13 : decode cL_nextOfColour 13 = .ok (.astore 4, 2) := by decide +kernel
theorem dL_nextOfColour_15 : decode cL_nextOfColour 15 = .ok (.bipush (-78), 2) := by decide +kernel
theorem dL_nextOfColour_17 : decode cL_nextOfColour 17 = .ok (.ireturn, 1) := by decide +kernel
theorem dL_nextOfColour_18 : decode cL_nextOfColour 18 = .ok (.astore 4, 2) := by decide +kernel
theorem dL_nextOfColour_20 : decode cL_nextOfColour 20 = .ok (.bipush (-75), 2) := by decide +kernel
theorem dL_nextOfColour_22 : decode cL_nextOfColour 22 = .ok (.ireturn, 1) := by decide +kernel
theorem dL_colourLength_0 : decode cL_colourLength 0 = .ok (.aload_n 0, 1) := by decide +kernel
theorem dL_colourLength_1 : decode cL_colourLength 1 = .ok (.iload_n 1, 1) := by decide +kernel
theorem dL_colourLength_2 : decode cL_colourLength 2 = .ok (.iload_n 2, 1) := by decide +kernel
theorem dL_colourLength_3 : decode cL_colourLength 3 = .ok (.invokevirtual 101, 3) := by decide +kernel
theorem dL_colourLength_6 : decode cL_colourLength 6 = .ok (.ireturn, 1) := by decide +kernel
theorem dL_colourLength_7 : decode cL_colourLength 7 = .ok (.astore_n 3, 1) := by decide +kernel
theorem dL_colourLength_8 : decode cL_colourLength 8 = .ok (.bipush (-77), 2) := by decide +kernel
theorem dL_colourLength_10 : decode cL_colourLength 10 = .ok (.ireturn, 1) := by decide +kernel
theorem dL_colourLength_11 : decode cL_colourLength 11 = .ok (.astore_n 3, 1) := by decide +kernel
theorem dL_colourLength_12 : decode cL_colourLength 12 = .ok (.bipush (-78), 2) := by decide +kernel
theorem dL_colourLength_14 : decode cL_colourLength 14 = .ok (.ireturn, 1) := by decide +kernel
theorem dL_colourAtRank_0 : decode cL_colourAtRank 0 = .ok (.aload_n 0, 1) := by decide +kernel
theorem dL_colourAtRank_1 : decode cL_colourAtRank 1 = .ok (.iload_n 1, 1) := by decide +kernel
theorem dL_colourAtRank_2 : decode cL_colourAtRank 2 = .ok (.iload_n 2, 1) := by decide +kernel
theorem dL_colourAtRank_3 : decode cL_colourAtRank 3 = .ok (.invokevirtual 104, 3) := by decide +kernel
theorem dL_colourAtRank_6 : decode cL_colourAtRank 6 = .ok (.ireturn, 1) := by decide +kernel
theorem dL_colourAtRank_7 : decode cL_colourAtRank 7 = .ok (.astore_n 3, 1) := by decide +kernel
theorem dL_colourAtRank_8 : decode cL_colourAtRank 8 = .ok (.bipush (-77), 2) := by decide +kernel
theorem dL_colourAtRank_10 : decode cL_colourAtRank 10 = .ok (.ireturn, 1) := by decide +kernel
theorem dL_colourAtRank_11 : decode cL_colourAtRank 11 = .ok (.astore_n 3, 1) := by decide +kernel
theorem dL_colourAtRank_12 : decode cL_colourAtRank 12 = .ok (.bipush (-75), 2) := by decide +kernel
theorem dL_colourAtRank_14 : decode cL_colourAtRank 14 = .ok (.ireturn, 1) := by decide +kernel
theorem dL_isSymmetric_0 : decode cL_isSymmetric 0 = .ok (.aload_n 0, 1) := by decide +kernel
theorem dL_isSymmetric_1 : decode cL_isSymmetric 1 = .ok (.iload_n 1, 1) := by decide +kernel
theorem dL_isSymmetric_2 : decode cL_isSymmetric 2 = .ok (.invokevirtual 107, 3) := by decide +kernel
theorem dL_isSymmetric_5 : decode cL_isSymmetric 5 = .ok (.ifCond .eq 7, 3) := by decide +kernel
theorem dL_isSymmetric_8 : decode cL_isSymmetric 8 = .ok (.iconst 1, 1) := by decide +kernel
theorem dL_isSymmetric_9 : decode cL_isSymmetric 9 = .ok (.goto 4, 3) := by decide +kernel
theorem dL_isSymmetric_12 : decode cL_isSymmetric 12 = .ok (.iconst 0, 1) := by decide +kernel
theorem dL_isSymmetric_13 : decode cL_isSymmetric 13 = .ok (.ireturn, 1) := by decide +kernel
theorem dL_isSymmetric_14 : decode cL_isSymmetric 14 = .ok (.astore_n 2, 1) := by decide +kernel
theorem dL_isSymmetric_15 : decode cL_isSymmetric 15 = .ok (.bipush (-77), 2) := by decide +kernel
theorem dL_isSymmetric_17 : decode cL_isSymmetric 17 = .ok (.ireturn, 1) := by decide +kernel
theorem dL_commonBeginning_0 : decode cL_commonBeginning 0 = .ok (.aload_n 0, 1) := by decide +kernel
theorem dL_commonBeginning_1 : decode cL_commonBeginning 1 = .ok (.iload_n 1, 1) := by decide +kernel
theorem dL_commonBeginning_2 : decode cL_commonBeginning 2 = .ok (.iload_n 2, 1) := by decide +kernel
theorem dL_commonBeginning_3 : decode cL_commonBeginning 3 = .ok (.invokevirtual 111, 3) := by decide +kernel
theorem dL_commonBeginning_6 : decode cL_commonBeginning 6 = .ok (.ireturn, 1) := by decide +kernel
theorem dL_commonBeginning_7 : decode cL_commonBeginning 7 = .ok (.astore_n 3, 1) := by decide +kernel
theorem dL_commonBeginning_8 : decode cL_commonBeginning 8 = .ok (.bipush (-77), 2) := by decide +kernel
theorem dL_commonBeginning_10 : decode cL_commonBeginning 10 = .ok (.ireturn, 1) := by decide +kernel
theorem dL_areEqual_0 : decode cL_areEqual 0 = .ok (.aload_n 0, 1) := by decide +kernel
theorem dL_areEqual_1 : decode cL_areEqual 1 = .ok (.iload_n 1, 1) := by decide +kernel
theorem dL_areEqual_2 : decode cL_areEqual 2 = .ok (.iload_n 2, 1) := by decide +kernel
theorem dL_areEqual_3 : decode cL_areEqual 3 = .ok (.invokevirtual 114, 3) := by decide +kernel
theorem dL_areEqual_6 : decode cL_areEqual 6 = .ok (.ifCond .eq 7, 3) := by decide +kernel
theorem dL_areEqual_9 : decode cL_areEqual 9 = .ok (.iconst 1, 1) := by decide +kernel
theorem dL_areEqual_10 : decode cL_areEqual 10 = .ok (.goto 4, 3) := by decide +kernel
theorem dL_areEqual_13 : decode cL_areEqual 13 = .ok (.iconst 0, 1) := by decide +kernel
theorem dL_areEqual_14 : decode cL_areEqual 14 = .ok (.ireturn, 1) := by decide +kernel
theorem dL_areEqual_15 : decode cL_areEqual 15 = .ok (.astore_n 3, 1) := by decide +kernel
theorem dL_areEqual_16 : decode cL_areEqual 16 = .ok (.bipush (-77), 2) := by decide +kernel
theorem dL_areEqual_18 : decode cL_areEqual 18 = .ok (.ireturn, 1) := by decide +kernel
theorem dL_type_0 : decode cL_type 0 = .ok (.aload_n 0, 1) := by decide +kernel
theorem dL_type_1 : decode cL_type 1 = .ok (.iload_n 1, 1) := by decide +kernel
theorem dL_type_2 : decode cL_type 2 = .ok (.invokevirtual 117, 3) := by decide +kernel
theorem dL_type_5 : decode cL_type 5 = .ok (.ireturn, 1) := by decide +kernel
theorem dL_type_6 : decode cL_type 6 = .ok (.astore_n 2, 1) := by decide +kernel
theorem dL_type_7 : decode cL_type 7 = .ok (.bipush (-78), 2) := by decide +kernel
theorem dL_type_9 : decode cL_type 9 = .ok (.ireturn, 1) := by decide +kernel
theorem dL_type_10 : decode cL_type 10 = .ok (.astore_n 2, 1) := by decide +kernel
theorem dL_type_11 : decode cL_type 11 = .ok (.bipush (-79), 2) := by decide +kernel
theorem dL_type_13 : decode cL_type 13 = .ok (.ireturn, 1) := by decide +kernel
theorem dL_run_0 : decode cL_run 0 = .ok (.aload_n 0, 1) := by decide +kernel
theorem dL_run_1 : decode cL_run 1 = .ok (.invokevirtual 121, 3) := by decide +kernel
theorem dL_run_4 : decode cL_run 4 = .ok (.ireturn, 1) := by decide +kernel
theorem dL_run_5 : decode cL_run 5 = .ok (.astore_n 1, 1) := by decide +kernel
theorem dL_run_6 : decode cL_run 6 = .ok (.bipush (-78), 2) := by decide +kernel
theorem dL_run_8 : decode cL_run 8 = .ok (.ireturn, 1) := by decide +kernel
theorem dL_run_9 : decode cL_run 9 = .ok (.astore_n 1, 1) := by decide +kernel
theorem dL_run_10 : decode cL_run 10 = .ok (.bipush (-79), 2) := by decide +kernel
theorem dL_run_12 : decode cL_run 12 = .ok (.ireturn, 1) := by decide +kernel
theorem dL_describeReel_0 : decode cL_describeReel 0 = .ok (.aload_n 0, 1) := by decide +kernel
theorem dL_describeReel_1 : decode cL_describeReel 1 = .ok (.iload_n 1, 1) := by decide +kernel
theorem dL_describeReel_2 : decode cL_describeReel 2 = .ok (.invokevirtual 131, 3) := by decide +kernel
theorem dL_describeReel_5 : decode cL_describeReel 5 = .ok (.ireturn, 1) := by decide +kernel
theorem dL_describeReel_6 : decode cL_describeReel 6 = .ok (.astore_n 2, 1) := by decide +kernel
theorem dL_describeReel_7 : decode cL_describeReel 7 = .ok (.bipush (-77), 2) := by decide +kernel
theorem dL_describeReel_9 : decode cL_describeReel 9 = .ok (.ireturn, 1) := by decide +kernel
theorem dL_lineAt_0 : decode cL_lineAt 0 = .ok (.aload_n 0, 1) := by decide +kernel
theorem dL_lineAt_1 : decode cL_lineAt 1 = .ok (.iload_n 1, 1) := by decide +kernel
theorem dL_lineAt_2 : decode cL_lineAt 2 = .ok (.invokevirtual 134, 3) := by decide +kernel
theorem dL_lineAt_5 : decode cL_lineAt 5 = .ok (.ireturn, 1) := by decide +kernel
theorem dL_lineAt_6 : decode cL_lineAt 6 = .ok (.astore_n 2, 1) := by decide +kernel
theorem dL_lineAt_7 : decode cL_lineAt 7 = .ok (.bipush (-77), 2) := by decide +kernel
theorem dL_lineAt_9 : decode cL_lineAt 9 = .ok (.ireturn, 1) := by decide +kernel
theorem dL_meanLength_0 : decode cL_meanLength 0 = .ok (.aload_n 0, 1) := by decide +kernel
theorem dL_meanLength_1 : decode cL_meanLength 1 = .ok (.iload_n 1, 1) := by decide +kernel
theorem dL_meanLength_2 : decode cL_meanLength 2 = .ok (.invokevirtual 138, 3) := by decide +kernel
theorem dL_meanLength_5 : decode cL_meanLength 5 = .ok (.dreturn, 1) := by decide +kernel
theorem dL_meanLength_6 : decode cL_meanLength 6 = .ok (.astore_n 2, 1) := by decide +kernel
theorem dL_meanLength_7 : decode cL_meanLength 7 = .ok (.ldc2_w 142, 3) := by decide +kernel
theorem dL_meanLength_10 : decode cL_meanLength 10 = .ok (.dreturn, 1) := by decide +kernel
theorem dL_meanLength_11 : decode cL_meanLength 11 = .ok (.astore_n 2, 1) := by decide +kernel
theorem dL_meanLength_12 : decode cL_meanLength 12 = .ok (.ldc2_w 146, 3) := by decide +kernel
theorem dL_meanLength_15 : decode cL_meanLength 15 = .ok (.dreturn, 1) := by decide +kernel
theorem dL_colourShare_0 : decode cL_colourShare 0 = .ok (.aload_n 0, 1) := by decide +kernel
theorem dL_colourShare_1 : decode cL_colourShare 1 = .ok (.iload_n 1, 1) := by decide +kernel
theorem dL_colourShare_2 : decode cL_colourShare 2 = .ok (.iload_n 2, 1) := by decide +kernel
theorem dL_colourShare_3 : decode cL_colourShare 3 = .ok (.invokevirtual 148, 3) := by decide +kernel
theorem dL_colourShare_6 : decode cL_colourShare 6 = .ok (.freturn, 1) := by decide +kernel
theorem dL_colourShare_7 : decode cL_colourShare 7 = .ok (.astore_n 3, 1) := by decide +kernel
theorem dL_colourShare_8 : decode cL_colourShare 8 = .ok (.ldc 152, 2) := by decide +kernel
theorem dL_colourShare_10 : decode cL_colourShare 10 = .ok (.freturn, 1) := by decide +kernel
theorem dL_colourShare_11 : decode cL_colourShare 11 = .ok (.astore_n 3, 1) := by decide +kernel
theorem dL_colourShare_12 : decode cL_colourShare 12 = .ok (.ldc 153, 2) := by decide +kernel
theorem dL_colourShare_14 : decode cL_colourShare 14 = .ok (.freturn, 1) := by decide +kernel
theorem dL_colourShare_15 : decode cL_colourShare 15 = .ok (.astore_n 3, 1) := by decide +kernel
theorem dL_colourShare_16 : decode cL_colourShare 16 = .ok (.ldc 154, 2) := by decide +kernel
theorem dL_colourShare_18 : decode cL_colourShare 18 = .ok (.freturn, 1) := by decide +kernel
theorem dL_undo_0 : decode cL_undo 0 = .ok (.aload_n 0, 1) := by decide +kernel
theorem dL_undo_1 : decode cL_undo 1 = .ok (.invokevirtual 155, 3) := by decide +kernel
theorem dL_undo_4 : decode cL_undo 4 = .ok (.ireturn, 1) := by decide +kernel
theorem dL_undo_5 : decode cL_undo 5 = .ok (.astore_n 1, 1) := by decide +kernel
theorem dL_undo_6 : decode cL_undo 6 = .ok (.bipush (-79), 2) := by decide +kernel
theorem dL_undo_8 : decode cL_undo 8 = .ok (.ireturn, 1) := by decide +kernel
theorem dL_restore_0 : decode cL_restore 0 = .ok (.aload_n 0, 1) := by decide +kernel
theorem dL_restore_1 : decode cL_restore 1 = .ok (.invokevirtual 158, 3) := by decide +kernel
theorem dL_restore_4 : decode cL_restore 4 = .ok (.ireturn, 1) := by decide +kernel
theorem dL_restore_5 : decode cL_restore 5 = .ok (.astore_n 1, 1) := by decide +kernel
theorem dL_restore_6 : decode cL_restore 6 = .ok (.bipush (-79), 2) := by decide +kernel
theorem dL_restore_8 : decode cL_restore 8 = .ok (.ireturn, 1) := by decide +kernel
theorem dL_runs_0 : decode cL_runs 0 = .ok (.iconst 0, 1) := by decide +kernel
theorem dL_runs_1 : decode cL_runs 1 = .ok (.istore_n 2, 1) := by decide +kernel
theorem dL_runs_2 : decode cL_runs 2 = .ok (.iload_n 2, 1) := by decide +kernel
theorem dL_runs_3 : decode cL_runs 3 = .ok (.aload_n 1, 1) := by decide +kernel
theorem dL_runs_4 : decode cL_runs 4 = .ok (.invokevirtual 161, 3) := by decide +kernel
theorem dL_runs_7 : decode cL_runs 7 = .ok (.if_icmp .ge 19, 3) := by decide +kernel
theorem dL_runs_10 : decode cL_runs 10 = .ok (.aload_n 0, 1) := by decide +kernel
theorem dL_runs_11 : decode cL_runs 11 = .ok (.aload_n 1, 1) := by decide +kernel
theorem dL_runs_12 : decode cL_runs 12 = .ok (.iload_n 2, 1) := by decide +kernel
theorem dL_runs_13 : decode cL_runs 13 = .ok (.invokevirtual 165, 3) := by decide +kernel
theorem dL_runs_16 : decode cL_runs 16 = .ok (.invokestatic 168, 3) := by decide +kernel
theorem dL_runs_19 : decode cL_runs 19 = .ok (.istore_n 3, 1) := by decide +kernel
theorem dL_runs_20 : decode cL_runs 20 = .ok (.iinc 2 1, 3) := by decide +kernel
theorem dL_runs_23 : decode cL_runs 23 = .ok (.goto (-21), 3) := by decide +kernel
theorem dL_runs_26 : decode cL_runs 26 = .ok (.aload_n 0, 1) := by decide +kernel
theorem dL_runs_27 : decode cL_runs 27 = .ok (.invokestatic 171, 3) := by decide +kernel
theorem dL_runs_30 : decode cL_runs 30 = .ok (.ireturn, 1) := by decide +kernel
theorem dL_does_0 : decode cL_does 0 = .ok (.aload_n 0, 1) := by decide +kernel
theorem dL_does_1 : decode cL_does 1 = .ok (.iload_n 1, 1) := by decide +kernel
theorem dL_does_2 : decode cL_does 2 = .ok (.iconst 3, 1) := by decide +kernel
theorem dL_does_3 : decode cL_does 3 = .ok (.iadd, 1) := by decide +kernel
theorem dL_does_4 : decode cL_does 4 = .ok (.sipush 1000, 3) := by decide +kernel
theorem dL_does_7 : decode cL_does 7 = .ok (.invokestatic 182, 3) := by decide +kernel
theorem dL_does_10 : decode cL_does 10 = .ok (.istore 7, 2) := by decide +kernel
theorem dL_does_12 : decode cL_does 12 = .ok (.aload_n 0, 1) := by decide +kernel
theorem dL_does_13 : decode cL_does 13 = .ok (.iload_n 1, 1) := by decide +kernel
theorem dL_does_14 : decode cL_does 14 = .ok (.iconst 4, 1) := by decide +kernel
theorem dL_does_15 : decode cL_does 15 = .ok (.iadd, 1) := by decide +kernel
theorem dL_does_16 : decode cL_does 16 = .ok (.sipush 1000, 3) := by decide +kernel
theorem dL_does_19 : decode cL_does 19 = .ok (.invokestatic 182, 3) := by decide +kernel
theorem dL_does_22 : decode cL_does 22 = .ok (.istore 8, 2) := by decide +kernel
theorem dL_does_24 : decode cL_does 24 = .ok (.aload_n 0, 1) := by decide +kernel
theorem dL_does_25 : decode cL_does 25 = .ok (.iload_n 1, 1) := by decide +kernel
theorem dL_does_26 : decode cL_does 26 = .ok (.iconst 5, 1) := by decide +kernel
theorem dL_does_27 : decode cL_does 27 = .ok (.iadd, 1) := by decide +kernel
theorem dL_does_28 : decode cL_does 28 = .ok (.iload 6, 2) := by decide +kernel
theorem dL_does_30 : decode cL_does 30 = .ok (.iload 7, 2) := by decide +kernel
theorem dL_does_32 : decode cL_does 32 = .ok (.bipush 17, 2) := by decide +kernel
theorem dL_does_34 : decode cL_does 34 = .ok (.irem, 1) := by decide +kernel
theorem dL_does_35 : decode cL_does 35 = .ok (.ifCond .ne 7, 3) := by decide +kernel
theorem dL_does_38 : decode cL_does 38 = .ok (.iconst 2, 1) := by decide +kernel
theorem dL_does_39 : decode cL_does 39 = .ok (.goto 4, 3) := by decide +kernel
theorem dL_does_42 : decode cL_does 42 = .ok (.iconst 1, 1) := by decide +kernel
theorem dL_does_43 : decode cL_does 43 = .ok (.iadd, 1) := by decide +kernel
theorem dL_does_44 : decode cL_does 44 = .ok (.invokestatic 182, 3) := by decide +kernel
theorem dL_does_47 : decode cL_does 47 = .ok (.istore 9, 2) := by decide +kernel
theorem dL_does_49 : decode cL_does 49 = .ok (.iload 6, 2) := by decide +kernel
theorem dL_does_51 : decode cL_does 51 = .ok (.ifCond .ne 7, 3) := by decide +kernel
theorem dL_does_54 : decode cL_does 54 = .ok (.iconst 0, 1) := by decide +kernel
theorem dL_does_55 : decode cL_does 55 = .ok (.goto 8, 3) := by decide +kernel
theorem dL_does_58 : decode cL_does 58 = .ok (.iload 8, 2) := by decide +kernel
theorem dL_does_60 : decode cL_does 60 = .ok (.iload 6, 2) := by decide +kernel
theorem dL_does_62 : decode cL_does 62 = .ok (.irem, 1) := by decide +kernel
theorem dL_does_63 : decode cL_does 63 = .ok (.istore 10, 2) := by decide +kernel
theorem dL_does_65 : decode cL_does 65 = .ok (.iload 7, 2) := by decide +kernel
theorem dL_does_67 : decode cL_does 67 = .ok (.bipush 19, 2) := by decide +kernel
theorem dL_does_69 : decode cL_does 69 = .ok (.irem, 1) := by decide +kernel
theorem dL_does_70 : decode cL_does 70 = .ok (.ifCond .ne 8, 3) := by decide +kernel
theorem dL_does_73 : decode cL_does 73 = .ok (.iload 6, 2) := by decide +kernel
theorem dL_does_75 : decode cL_does 75 = .ok (.goto 16, 3) := by decide +kernel
theorem dL_does_78 : decode cL_does 78 = .ok (.iload 6, 2) := by decide +kernel
theorem dL_does_80 : decode cL_does 80 = .ok (.iload 10, 2) := by decide +kernel
theorem dL_does_82 : decode cL_does 82 = .ok (.iload 7, 2) := by decide +kernel
theorem dL_does_84 : decode cL_does 84 = .ok (.bipush 9, 2) := by decide +kernel
theorem dL_does_86 : decode cL_does 86 = .ok (.irem, 1) := by decide +kernel
theorem dL_does_87 : decode cL_does 87 = .ok (.iadd, 1) := by decide +kernel
theorem dL_does_88 : decode cL_does 88 = .ok (.invokestatic 217, 3) := by decide +kernel
theorem dL_does_91 : decode cL_does 91 = .ok (.istore 11, 2) := by decide +kernel
theorem dL_does_93 : decode cL_does 93 = .ok (.iload 7, 2) := by decide +kernel
theorem dL_does_95 : decode cL_does 95 = .ok (.bipush 23, 2) := by decide +kernel
theorem dL_does_97 : decode cL_does 97 = .ok (.irem, 1) := by decide +kernel
theorem dL_does_98 : decode cL_does 98 = .ok (.ifCond .ne 11, 3) := by decide +kernel
theorem dL_does_101 : decode cL_does 101 = .ok (.iload 8, 2) := by decide +kernel
theorem dL_does_103 : decode cL_does 103 = .ok (.bipush 101, 2) := by decide +kernel
theorem dL_does_105 : decode cL_does 105 = .ok (.irem, 1) := by decide +kernel
theorem dL_does_106 : decode cL_does 106 = .ok (.goto 21, 3) := by decide +kernel
theorem dL_does_109 : decode cL_does 109 = .ok (.iconst 1, 1) := by decide +kernel
theorem dL_does_110 : decode cL_does 110 = .ok (.iload 8, 2) := by decide +kernel
theorem dL_does_112 : decode cL_does 112 = .ok (.iload 7, 2) := by decide +kernel
theorem dL_does_114 : decode cL_does 114 = .ok (.iconst 3, 1) := by decide +kernel
theorem dL_does_115 : decode cL_does 115 = .ok (.irem, 1) := by decide +kernel
theorem dL_does_116 : decode cL_does 116 = .ok (.ifCond .ne 8, 3) := by decide +kernel
theorem dL_does_119 : decode cL_does 119 = .ok (.bipush 99, 2) := by decide +kernel
theorem dL_does_121 : decode cL_does 121 = .ok (.goto 4, 3) := by decide +kernel
theorem dL_does_124 : decode cL_does 124 = .ok (.iconst 4, 1) := by decide +kernel
theorem dL_does_125 : decode cL_does 125 = .ok (.irem, 1) := by decide +kernel
theorem dL_does_126 : decode cL_does 126 = .ok (.iadd, 1) := by decide +kernel
theorem dL_does_127 : decode cL_does 127 = .ok (.istore 12, 2) := by decide +kernel
theorem dL_does_129 : decode cL_does 129 = .ok (.iload 7, 2) := by decide +kernel
theorem dL_does_131 : decode cL_does 131 = .ok (.bipush 29, 2) := by decide +kernel
theorem dL_does_133 : decode cL_does 133 = .ok (.irem, 1) := by decide +kernel
theorem dL_does_134 : decode cL_does 134 = .ok (.ifCond .ne 8, 3) := by decide +kernel
theorem dL_does_137 : decode cL_does 137 = .ok (.bipush 8, 2) := by decide +kernel
theorem dL_does_139 : decode cL_does 139 = .ok (.goto 22, 3) := by decide +kernel
theorem dL_does_142 : decode cL_does 142 = .ok (.iload 8, 2) := by decide +kernel
theorem dL_does_144 : decode cL_does 144 = .ok (.bipush 7, 2) := by decide +kernel
theorem dL_does_146 : decode cL_does 146 = .ok (.idiv, 1) := by decide +kernel
theorem dL_does_147 : decode cL_does 147 = .ok (.iload 7, 2) := by decide +kernel
theorem dL_does_149 : decode cL_does 149 = .ok (.iconst 3, 1) := by decide +kernel
theorem dL_does_150 : decode cL_does 150 = .ok (.irem, 1) := by decide +kernel
theorem dL_does_151 : decode cL_does 151 = .ok (.ifCond .ne 8, 3) := by decide +kernel
theorem dL_does_154 : decode cL_does 154 = .ok (.bipush 8, 2) := by decide +kernel
theorem dL_does_156 : decode cL_does 156 = .ok (.goto 4, 3) := by decide +kernel
theorem dL_does_159 : decode cL_does 159 = .ok (.iconst 3, 1) := by decide +kernel
theorem dL_does_160 : decode cL_does 160 = .ok (.irem, 1) := by decide +kernel
theorem dL_does_161 : decode cL_does 161 = .ok (.istore 13, 2) := by decide +kernel
theorem dL_does_163 : decode cL_does 163 = .ok (.iload_n 2, 1) := by decide +kernel
theorem dL_does_164 : decode cL_does 164 = .ok (.tableswitch 321 0 38 #[172, 172, 172, 172, 172, 172, 183, 183, 183, 183, 183, 183, 183, 183, 196, 196, 205, 205, 216, 216, 216, 216, 216, 227, 227, 227, 227, 227, 236, 236, 245, 245, 245, 245, 282, 282, 282, 282, 282], 172) := by decide +kernel
theorem dL_does_336 : decode cL_does 336 = .ok (.aload_n 3, 1) := by decide +kernel
theorem dL_does_337 : decode cL_does 337 = .ok (.iload 4, 2) := by decide +kernel
theorem dL_does_339 : decode cL_does 339 = .ok (.iload 12, 2) := by decide +kernel
theorem dL_does_341 : decode cL_does 341 = .ok (.iload 13, 2) := by decide +kernel
theorem dL_does_343 : decode cL_does 343 = .ok (.invokestatic 220, 3) := by decide +kernel
theorem dL_does_346 : decode cL_does 346 = .ok (.ireturn, 1) := by decide +kernel
theorem dL_does_347 : decode cL_does 347 = .ok (.aload_n 3, 1) := by decide +kernel
theorem dL_does_348 : decode cL_does 348 = .ok (.iload 4, 2) := by decide +kernel
theorem dL_does_350 : decode cL_does 350 = .ok (.iload 9, 2) := by decide +kernel
theorem dL_does_352 : decode cL_does 352 = .ok (.iload 12, 2) := by decide +kernel
theorem dL_does_354 : decode cL_does 354 = .ok (.iload 13, 2) := by decide +kernel
theorem dL_does_356 : decode cL_does 356 = .ok (.invokestatic 223, 3) := by decide +kernel
theorem dL_does_359 : decode cL_does 359 = .ok (.ireturn, 1) := by decide +kernel
theorem dL_does_360 : decode cL_does 360 = .ok (.aload_n 3, 1) := by decide +kernel
theorem dL_does_361 : decode cL_does 361 = .ok (.iload 4, 2) := by decide +kernel
theorem dL_does_363 : decode cL_does 363 = .ok (.iload 10, 2) := by decide +kernel
theorem dL_does_365 : decode cL_does 365 = .ok (.invokestatic 226, 3) := by decide +kernel
theorem dL_does_368 : decode cL_does 368 = .ok (.ireturn, 1) := by decide +kernel
theorem dL_does_369 : decode cL_does 369 = .ok (.aload_n 3, 1) := by decide +kernel
theorem dL_does_370 : decode cL_does 370 = .ok (.iload 4, 2) := by decide +kernel
theorem dL_does_372 : decode cL_does 372 = .ok (.iload 10, 2) := by decide +kernel
theorem dL_does_374 : decode cL_does 374 = .ok (.iload 12, 2) := by decide +kernel
theorem dL_does_376 : decode cL_does 376 = .ok (.invokestatic 229, 3) := by decide +kernel
theorem dL_does_379 : decode cL_does 379 = .ok (.ireturn, 1) := by decide +kernel
theorem dL_does_380 : decode cL_does 380 = .ok (.aload_n 3, 1) := by decide +kernel
theorem dL_does_381 : decode cL_does 381 = .ok (.iload 4, 2) := by decide +kernel
theorem dL_does_383 : decode cL_does 383 = .ok (.iload 9, 2) := by decide +kernel
theorem dL_does_385 : decode cL_does 385 = .ok (.iload 5, 2) := by decide +kernel
theorem dL_does_387 : decode cL_does 387 = .ok (.invokestatic 231, 3) := by decide +kernel
theorem dL_does_390 : decode cL_does 390 = .ok (.ireturn, 1) := by decide +kernel
theorem dL_does_391 : decode cL_does 391 = .ok (.aload_n 3, 1) := by decide +kernel
theorem dL_does_392 : decode cL_does 392 = .ok (.iload 4, 2) := by decide +kernel
theorem dL_does_394 : decode cL_does 394 = .ok (.iload 5, 2) := by decide +kernel
theorem dL_does_396 : decode cL_does 396 = .ok (.invokestatic 233, 3) := by decide +kernel
theorem dL_does_399 : decode cL_does 399 = .ok (.ireturn, 1) := by decide +kernel
theorem dL_does_400 : decode cL_does 400 = .ok (.aload_n 3, 1) := by decide +kernel
theorem dL_does_401 : decode cL_does 401 = .ok (.iload 4, 2) := by decide +kernel
theorem dL_does_403 : decode cL_does 403 = .ok (.iload 5, 2) := by decide +kernel
theorem dL_does_405 : decode cL_does 405 = .ok (.invokestatic 235, 3) := by decide +kernel
theorem dL_does_408 : decode cL_does 408 = .ok (.ireturn, 1) := by decide +kernel
theorem dL_does_409 : decode cL_does 409 = .ok (.aload_n 3, 1) := by decide +kernel
theorem dL_does_410 : decode cL_does 410 = .ok (.iload 4, 2) := by decide +kernel
theorem dL_does_412 : decode cL_does 412 = .ok (.iload 7, 2) := by decide +kernel
theorem dL_does_414 : decode cL_does 414 = .ok (.bipush 7, 2) := by decide +kernel
theorem dL_does_416 : decode cL_does 416 = .ok (.irem, 1) := by decide +kernel
theorem dL_does_417 : decode cL_does 417 = .ok (.ifCond .ne 8, 3) := by decide +kernel
theorem dL_does_420 : decode cL_does 420 = .ok (.iload 11, 2) := by decide +kernel
theorem dL_does_422 : decode cL_does 422 = .ok (.goto 5, 3) := by decide +kernel
theorem dL_does_425 : decode cL_does 425 = .ok (.iload 10, 2) := by decide +kernel
theorem dL_does_427 : decode cL_does 427 = .ok (.iload 7, 2) := by decide +kernel
theorem dL_does_429 : decode cL_does 429 = .ok (.bipush 7, 2) := by decide +kernel
theorem dL_does_431 : decode cL_does 431 = .ok (.irem, 1) := by decide +kernel
theorem dL_does_432 : decode cL_does 432 = .ok (.ifCond .ne 8, 3) := by decide +kernel
theorem dL_does_435 : decode cL_does 435 = .ok (.iload 10, 2) := by decide +kernel
theorem dL_does_437 : decode cL_does 437 = .ok (.goto 5, 3) := by decide +kernel
theorem dL_does_440 : decode cL_does 440 = .ok (.iload 11, 2) := by decide +kernel
theorem dL_does_442 : decode cL_does 442 = .ok (.invokestatic 237, 3) := by decide +kernel
theorem dL_does_445 : decode cL_does 445 = .ok (.ireturn, 1) := by decide +kernel
theorem dL_does_446 : decode cL_does 446 = .ok (.aload_n 3, 1) := by decide +kernel
theorem dL_does_447 : decode cL_does 447 = .ok (.iload 4, 2) := by decide +kernel
theorem dL_does_449 : decode cL_does 449 = .ok (.iload 7, 2) := by decide +kernel
theorem dL_does_451 : decode cL_does 451 = .ok (.bipush 7, 2) := by decide +kernel
theorem dL_does_453 : decode cL_does 453 = .ok (.irem, 1) := by decide +kernel
theorem dL_does_454 : decode cL_does 454 = .ok (.ifCond .ne 8, 3) := by decide +kernel
theorem dL_does_457 : decode cL_does 457 = .ok (.iload 11, 2) := by decide +kernel
theorem dL_does_459 : decode cL_does 459 = .ok (.goto 5, 3) := by decide +kernel
theorem dL_does_462 : decode cL_does 462 = .ok (.iload 10, 2) := by decide +kernel
theorem dL_does_464 : decode cL_does 464 = .ok (.iload 7, 2) := by decide +kernel
theorem dL_does_466 : decode cL_does 466 = .ok (.bipush 7, 2) := by decide +kernel
theorem dL_does_468 : decode cL_does 468 = .ok (.irem, 1) := by decide +kernel
theorem dL_does_469 : decode cL_does 469 = .ok (.ifCond .ne 8, 3) := by decide +kernel
theorem dL_does_472 : decode cL_does 472 = .ok (.iload 10, 2) := by decide +kernel
theorem dL_does_474 : decode cL_does 474 = .ok (.goto 5, 3) := by decide +kernel
theorem dL_does_477 : decode cL_does 477 = .ok (.iload 11, 2) := by decide +kernel
theorem dL_does_479 : decode cL_does 479 = .ok (.iload 13, 2) := by decide +kernel
theorem dL_does_481 : decode cL_does 481 = .ok (.invokestatic 239, 3) := by decide +kernel
theorem dL_does_484 : decode cL_does 484 = .ok (.ireturn, 1) := by decide +kernel
theorem dL_does_485 : decode cL_does 485 = .ok (.aload_n 3, 1) := by decide +kernel
theorem dL_does_486 : decode cL_does 486 = .ok (.new 241, 3) := by decide +kernel
theorem dL_does_489 : decode cL_does 489 = .ok (.dup, 1) := by decide +kernel
theorem dL_does_490 : decode cL_does 490 = .ok (.invokespecial 243, 3) := by decide +kernel
theorem dL_does_493 : decode cL_does 493 = .ok (.ldc 244, 2) := by decide +kernel
theorem dL_does_495 : decode cL_does 495 = .ok (.invokevirtual 246, 3) := by decide +kernel
theorem dL_does_498 : decode cL_does 498 = .ok (.iload 4, 2) := by decide +kernel
theorem dL_does_500 : decode cL_does 500 = .ok (.invokevirtual 249, 3) := by decide +kernel
theorem dL_does_503 : decode cL_does 503 = .ok (.ldc 252, 2) := by decide +kernel
theorem dL_does_505 : decode cL_does 505 = .ok (.invokevirtual 246, 3) := by decide +kernel
theorem dL_does_508 : decode cL_does 508 = .ok (.iload 12, 2) := by decide +kernel
theorem dL_does_510 : decode cL_does 510 = .ok (.bipush 100, 2) := by decide +kernel
theorem dL_does_512 : decode cL_does 512 = .ok (.irem, 1) := by decide +kernel
theorem dL_does_513 : decode cL_does 513 = .ok (.invokevirtual 249, 3) := by decide +kernel
theorem dL_does_516 : decode cL_does 516 = .ok (.ldc 254, 2) := by decide +kernel
theorem dL_does_518 : decode cL_does 518 = .ok (.invokevirtual 246, 3) := by decide +kernel
theorem dL_does_521 : decode cL_does 521 = .ok (.iload 7, 2) := by decide +kernel
theorem dL_does_523 : decode cL_does 523 = .ok (.iconst 4, 1) := by decide +kernel
theorem dL_does_524 : decode cL_does 524 = .ok (.irem, 1) := by decide +kernel
theorem dL_does_525 : decode cL_does 525 = .ok (.ifCond .ne 38, 3) := by decide +kernel
theorem dL_does_528 : decode cL_does 528 = .ok (.new 241, 3) := by decide +kernel
theorem dL_does_531 : decode cL_does 531 = .ok (.dup, 1) := by decide +kernel
theorem dL_does_532 : decode cL_does 532 = .ok (.invokespecial 243, 3) := by decide +kernel
theorem dL_does_535 : decode cL_does 535 = .ok (.ldc_w 256, 3) := by decide +kernel
theorem dL_does_538 : decode cL_does 538 = .ok (.invokevirtual 246, 3) := by decide +kernel
theorem dL_does_541 : decode cL_does 541 = .ok (.iload 4, 2) := by decide +kernel
theorem dL_does_543 : decode cL_does 543 = .ok (.invokevirtual 249, 3) := by decide +kernel
theorem dL_does_546 : decode cL_does 546 = .ok (.ldc_w 258, 3) := by decide +kernel
theorem dL_does_549 : decode cL_does 549 = .ok (.invokevirtual 246, 3) := by decide +kernel
theorem dL_does_552 : decode cL_does 552 = .ok (.iload 5, 2) := by decide +kernel
theorem dL_does_554 : decode cL_does 554 = .ok (.invokevirtual 249, 3) := by decide +kernel
theorem dL_does_557 : decode cL_does 557 = .ok (.invokevirtual 260, 3) := by decide +kernel
theorem dL_does_560 : decode cL_does 560 = .ok (.goto 86, 3) := by decide +kernel
theorem dL_does_563 : decode cL_does 563 = .ok (.iload 7, 2) := by decide +kernel
theorem dL_does_565 : decode cL_does 565 = .ok (.iconst 4, 1) := by decide +kernel
theorem dL_does_566 : decode cL_does 566 = .ok (.irem, 1) := by decide +kernel
theorem dL_does_567 : decode cL_does 567 = .ok (.iconst 1, 1) := by decide +kernel
theorem dL_does_568 : decode cL_does 568 = .ok (.if_icmp .ne 32, 3) := by decide +kernel
theorem dL_does_571 : decode cL_does 571 = .ok (.new 241, 3) := by decide +kernel
theorem dL_does_574 : decode cL_does 574 = .ok (.dup, 1) := by decide +kernel
theorem dL_does_575 : decode cL_does 575 = .ok (.invokespecial 243, 3) := by decide +kernel
theorem dL_does_578 : decode cL_does 578 = .ok (.ldc_w 264, 3) := by decide +kernel
theorem dL_does_581 : decode cL_does 581 = .ok (.invokevirtual 246, 3) := by decide +kernel
theorem dL_does_584 : decode cL_does 584 = .ok (.iload 4, 2) := by decide +kernel
theorem dL_does_586 : decode cL_does 586 = .ok (.invokevirtual 249, 3) := by decide +kernel
theorem dL_does_589 : decode cL_does 589 = .ok (.iload 5, 2) := by decide +kernel
theorem dL_does_591 : decode cL_does 591 = .ok (.invokevirtual 249, 3) := by decide +kernel
theorem dL_does_594 : decode cL_does 594 = .ok (.invokevirtual 260, 3) := by decide +kernel
theorem dL_does_597 : decode cL_does 597 = .ok (.goto 49, 3) := by decide +kernel
theorem dL_does_600 : decode cL_does 600 = .ok (.iload 7, 2) := by decide +kernel
theorem dL_does_602 : decode cL_does 602 = .ok (.iconst 4, 1) := by decide +kernel
theorem dL_does_603 : decode cL_does 603 = .ok (.irem, 1) := by decide +kernel
theorem dL_does_604 : decode cL_does 604 = .ok (.iconst 2, 1) := by decide +kernel
theorem dL_does_605 : decode cL_does 605 = .ok (.if_icmp .ne 38, 3) := by decide +kernel
theorem dL_does_608 : decode cL_does 608 = .ok (.new 241, 3) := by decide +kernel
theorem dL_does_611 : decode cL_does 611 = .ok (.dup, 1) := by decide +kernel
theorem dL_does_612 : decode cL_does 612 = .ok (.invokespecial 243, 3) := by decide +kernel
theorem dL_does_615 : decode cL_does 615 = .ok (.ldc_w 266, 3) := by decide +kernel
theorem dL_does_618 : decode cL_does 618 = .ok (.invokevirtual 246, 3) := by decide +kernel
theorem dL_does_621 : decode cL_does 621 = .ok (.iload 4, 2) := by decide +kernel
theorem dL_does_623 : decode cL_does 623 = .ok (.invokevirtual 249, 3) := by decide +kernel
theorem dL_does_626 : decode cL_does 626 = .ok (.ldc_w 268, 3) := by decide +kernel
theorem dL_does_629 : decode cL_does 629 = .ok (.invokevirtual 246, 3) := by decide +kernel
theorem dL_does_632 : decode cL_does 632 = .ok (.iload 10, 2) := by decide +kernel
theorem dL_does_634 : decode cL_does 634 = .ok (.invokevirtual 249, 3) := by decide +kernel
theorem dL_does_637 : decode cL_does 637 = .ok (.invokevirtual 260, 3) := by decide +kernel
theorem dL_does_640 : decode cL_does 640 = .ok (.goto 6, 3) := by decide +kernel
theorem dL_does_643 : decode cL_does 643 = .ok (.ldc_w 270, 3) := by decide +kernel
theorem dL_does_646 : decode cL_does 646 = .ok (.invokevirtual 246, 3) := by decide +kernel
theorem dL_does_649 : decode cL_does 649 = .ok (.invokevirtual 260, 3) := by decide +kernel
theorem dL_does_652 : decode cL_does 652 = .ok (.invokestatic 272, 3) := by decide +kernel
theorem dL_does_655 : decode cL_does 655 = .ok (.ireturn, 1) := by decide +kernel
theorem dL_sum_0 : decode cL_sum 0 = .ok (.ldc2_w 276, 3) := by decide +kernel
theorem dL_sum_3 : decode cL_sum 3 = .ok (.aload_n 0, 1) := by decide +kernel
theorem dL_sum_4 : decode cL_sum 4 = .ok (.invokevirtual 194, 3) := by decide +kernel
theorem dL_sum_7 : decode cL_sum 7 = .ok (.i2l, 1) := by decide +kernel
theorem dL_sum_8 : decode cL_sum 8 = .ok (.lmul, 1) := by decide +kernel
theorem dL_sum_9 : decode cL_sum 9 = .ok (.aload_n 0, 1) := by decide +kernel
theorem dL_sum_10 : decode cL_sum 10 = .ok (.invokevirtual 197, 3) := by decide +kernel
theorem dL_sum_13 : decode cL_sum 13 = .ok (.i2l, 1) := by decide +kernel
theorem dL_sum_14 : decode cL_sum 14 = .ok (.ladd, 1) := by decide +kernel
theorem dL_sum_15 : decode cL_sum 15 = .ok (.lstore_n 1, 1) := by decide +kernel
theorem dL_sum_16 : decode cL_sum 16 = .ok (.iconst 0, 1) := by decide +kernel
theorem dL_sum_17 : decode cL_sum 17 = .ok (.istore_n 3, 1) := by decide +kernel
theorem dL_sum_18 : decode cL_sum 18 = .ok (.iload_n 3, 1) := by decide +kernel
theorem dL_sum_19 : decode cL_sum 19 = .ok (.iconst 4, 1) := by decide +kernel
theorem dL_sum_20 : decode cL_sum 20 = .ok (.if_icmp .ge 69, 3) := by decide +kernel
theorem dL_sum_23 : decode cL_sum 23 = .ok (.ldc2_w 276, 3) := by decide +kernel
theorem dL_sum_26 : decode cL_sum 26 = .ok (.lload_n 1, 1) := by decide +kernel
theorem dL_sum_27 : decode cL_sum 27 = .ok (.lmul, 1) := by decide +kernel
theorem dL_sum_28 : decode cL_sum 28 = .ok (.aload_n 0, 1) := by decide +kernel
theorem dL_sum_29 : decode cL_sum 29 = .ok (.iload_n 3, 1) := by decide +kernel
theorem dL_sum_30 : decode cL_sum 30 = .ok (.invokestatic 186, 3) := by decide +kernel
theorem dL_sum_33 : decode cL_sum 33 = .ok (.i2l, 1) := by decide +kernel
theorem dL_sum_34 : decode cL_sum 34 = .ok (.ladd, 1) := by decide +kernel
theorem dL_sum_35 : decode cL_sum 35 = .ok (.lstore_n 1, 1) := by decide +kernel
theorem dL_sum_36 : decode cL_sum 36 = .ok (.iconst 0, 1) := by decide +kernel
theorem dL_sum_37 : decode cL_sum 37 = .ok (.istore 4, 2) := by decide +kernel
theorem dL_sum_39 : decode cL_sum 39 = .ok (.iload 4, 2) := by decide +kernel
theorem dL_sum_41 : decode cL_sum 41 = .ok (.aload_n 0, 1) := by decide +kernel
theorem dL_sum_42 : decode cL_sum 42 = .ok (.iload_n 3, 1) := by decide +kernel
theorem dL_sum_43 : decode cL_sum 43 = .ok (.invokestatic 186, 3) := by decide +kernel
theorem dL_sum_46 : decode cL_sum 46 = .ok (.if_icmp .ge 37, 3) := by decide +kernel
theorem dL_sum_49 : decode cL_sum 49 = .ok (.ldc2_w 276, 3) := by decide +kernel
theorem dL_sum_52 : decode cL_sum 52 = .ok (.lload_n 1, 1) := by decide +kernel
theorem dL_sum_53 : decode cL_sum 53 = .ok (.lmul, 1) := by decide +kernel
theorem dL_sum_54 : decode cL_sum 54 = .ok (.ldc2_w 278, 3) := by decide +kernel
theorem dL_sum_57 : decode cL_sum 57 = .ok (.aload_n 0, 1) := by decide +kernel
theorem dL_sum_58 : decode cL_sum 58 = .ok (.iload_n 3, 1) := by decide +kernel
theorem dL_sum_59 : decode cL_sum 59 = .ok (.iload 4, 2) := by decide +kernel
theorem dL_sum_61 : decode cL_sum 61 = .ok (.invokestatic 280, 3) := by decide +kernel
theorem dL_sum_64 : decode cL_sum 64 = .ok (.i2l, 1) := by decide +kernel
theorem dL_sum_65 : decode cL_sum 65 = .ok (.lmul, 1) := by decide +kernel
theorem dL_sum_66 : decode cL_sum 66 = .ok (.ladd, 1) := by decide +kernel
theorem dL_sum_67 : decode cL_sum 67 = .ok (.aload_n 0, 1) := by decide +kernel
theorem dL_sum_68 : decode cL_sum 68 = .ok (.iload_n 3, 1) := by decide +kernel
theorem dL_sum_69 : decode cL_sum 69 = .ok (.iload 4, 2) := by decide +kernel
theorem dL_sum_71 : decode cL_sum 71 = .ok (.invokestatic 282, 3) := by decide +kernel
theorem dL_sum_74 : decode cL_sum 74 = .ok (.i2l, 1) := by decide +kernel
theorem dL_sum_75 : decode cL_sum 75 = .ok (.ladd, 1) := by decide +kernel
theorem dL_sum_76 : decode cL_sum 76 = .ok (.lstore_n 1, 1) := by decide +kernel
theorem dL_sum_77 : decode cL_sum 77 = .ok (.iinc 4 1, 3) := by decide +kernel
theorem dL_sum_80 : decode cL_sum 80 = .ok (.goto (-41), 3) := by decide +kernel
theorem dL_sum_83 : decode cL_sum 83 = .ok (.iinc 3 1, 3) := by decide +kernel
theorem dL_sum_86 : decode cL_sum 86 = .ok (.goto (-68), 3) := by decide +kernel
theorem dL_sum_89 : decode cL_sum 89 = .ok (.lload_n 1, 1) := by decide +kernel
theorem dL_sum_90 : decode cL_sum 90 = .ok (.lreturn, 1) := by decide +kernel
theorem dL_isWhole_0 : decode cL_isWhole 0 = .ok (.lconst 0, 1) := by decide +kernel
theorem dL_isWhole_1 : decode cL_isWhole 1 = .ok (.lstore 4, 2) := by decide +kernel
theorem dL_isWhole_3 : decode cL_isWhole 3 = .ok (.iconst 0, 1) := by decide +kernel
theorem dL_isWhole_4 : decode cL_isWhole 4 = .ok (.istore 6, 2) := by decide +kernel
theorem dL_isWhole_6 : decode cL_isWhole 6 = .ok (.iload 6, 2) := by decide +kernel
theorem dL_isWhole_8 : decode cL_isWhole 8 = .ok (.iconst 4, 1) := by decide +kernel
theorem dL_isWhole_9 : decode cL_isWhole 9 = .ok (.if_icmp .ge 382, 3) := by decide +kernel
theorem dL_isWhole_12 : decode cL_isWhole 12 = .ok (.lload 4, 2) := by decide +kernel
theorem dL_isWhole_14 : decode cL_isWhole 14 = .ok (.aload_n 0, 1) := by decide +kernel
theorem dL_isWhole_15 : decode cL_isWhole 15 = .ok (.iload 6, 2) := by decide +kernel
theorem dL_isWhole_17 : decode cL_isWhole 17 = .ok (.invokestatic 188, 3) := by decide +kernel
theorem dL_isWhole_20 : decode cL_isWhole 20 = .ok (.i2l, 1) := by decide +kernel
theorem dL_isWhole_21 : decode cL_isWhole 21 = .ok (.ladd, 1) := by decide +kernel
theorem dL_isWhole_22 : decode cL_isWhole 22 = .ok (.lstore 4, 2) := by decide +kernel
theorem dL_isWhole_24 : decode cL_isWhole 24 = .ok (.iload_n 3, 1) := by decide +kernel
theorem dL_isWhole_25 : decode cL_isWhole 25 = .ok (.ifCond .ne 16, 3) := by decide +kernel
theorem dL_isWhole_28 : decode cL_isWhole 28 = .ok (.iload 6, 2) := by decide +kernel
theorem dL_isWhole_30 : decode cL_isWhole 30 = .ok (.aload_n 1, 1) := by decide +kernel
theorem dL_isWhole_31 : decode cL_isWhole 31 = .ok (.iload_n 2, 1) := by decide +kernel
theorem dL_isWhole_32 : decode cL_isWhole 32 = .ok (.iconst 3, 1) := by decide +kernel
theorem dL_isWhole_33 : decode cL_isWhole 33 = .ok (.iadd, 1) := by decide +kernel
theorem dL_isWhole_34 : decode cL_isWhole 34 = .ok (.iconst 4, 1) := by decide +kernel
theorem dL_isWhole_35 : decode cL_isWhole 35 = .ok (.invokestatic 182, 3) := by decide +kernel
theorem dL_isWhole_38 : decode cL_isWhole 38 = .ok (.if_icmp .ne 16, 3) := by decide +kernel
theorem dL_isWhole_41 : decode cL_isWhole 41 = .ok (.aload_n 0, 1) := by decide +kernel
theorem dL_isWhole_42 : decode cL_isWhole 42 = .ok (.iload 6, 2) := by decide +kernel
theorem dL_isWhole_44 : decode cL_isWhole 44 = .ok (.aload_n 1, 1) := by decide +kernel
theorem dL_isWhole_45 : decode cL_isWhole 45 = .ok (.iload_n 2, 1) := by decide +kernel
theorem dL_isWhole_46 : decode cL_isWhole 46 = .ok (.invokestatic 318, 3) := by decide +kernel
theorem dL_isWhole_49 : decode cL_isWhole 49 = .ok (.ifCond .ne 5, 3) := by decide +kernel
theorem dL_isWhole_52 : decode cL_isWhole 52 = .ok (.iconst 0, 1) := by decide +kernel
theorem dL_isWhole_53 : decode cL_isWhole 53 = .ok (.ireturn, 1) := by decide +kernel
theorem dL_isWhole_54 : decode cL_isWhole 54 = .ok (.iconst 0, 1) := by decide +kernel
theorem dL_isWhole_55 : decode cL_isWhole 55 = .ok (.istore 7, 2) := by decide +kernel
theorem dL_isWhole_57 : decode cL_isWhole 57 = .ok (.iload 7, 2) := by decide +kernel
theorem dL_isWhole_59 : decode cL_isWhole 59 = .ok (.iconst 4, 1) := by decide +kernel
theorem dL_isWhole_60 : decode cL_isWhole 60 = .ok (.if_icmp .ge 219, 3) := by decide +kernel
theorem dL_isWhole_63 : decode cL_isWhole 63 = .ok (.aload_n 0, 1) := by decide +kernel
theorem dL_isWhole_64 : decode cL_isWhole 64 = .ok (.iload 6, 2) := by decide +kernel
theorem dL_isWhole_66 : decode cL_isWhole 66 = .ok (.iload 7, 2) := by decide +kernel
theorem dL_isWhole_68 : decode cL_isWhole 68 = .ok (.invokestatic 322, 3) := by decide +kernel
theorem dL_isWhole_71 : decode cL_isWhole 71 = .ok (.istore 8, 2) := by decide +kernel
theorem dL_isWhole_73 : decode cL_isWhole 73 = .ok (.iload 8, 2) := by decide +kernel
theorem dL_isWhole_75 : decode cL_isWhole 75 = .ok (.aload_n 0, 1) := by decide +kernel
theorem dL_isWhole_76 : decode cL_isWhole 76 = .ok (.iload 6, 2) := by decide +kernel
theorem dL_isWhole_78 : decode cL_isWhole 78 = .ok (.invokestatic 186, 3) := by decide +kernel
theorem dL_isWhole_81 : decode cL_isWhole 81 = .ok (.if_icmp .eq 52, 3) := by decide +kernel
theorem dL_isWhole_84 : decode cL_isWhole 84 = .ok (.iload 8, 2) := by decide +kernel
theorem dL_isWhole_86 : decode cL_isWhole 86 = .ok (.aload_n 0, 1) := by decide +kernel
theorem dL_isWhole_87 : decode cL_isWhole 87 = .ok (.iload 7, 2) := by decide +kernel
theorem dL_isWhole_89 : decode cL_isWhole 89 = .ok (.invokestatic 186, 3) := by decide +kernel
theorem dL_isWhole_92 : decode cL_isWhole 92 = .ok (.if_icmp .eq 41, 3) := by decide +kernel
theorem dL_isWhole_95 : decode cL_isWhole 95 = .ok (.aload_n 0, 1) := by decide +kernel
theorem dL_isWhole_96 : decode cL_isWhole 96 = .ok (.iload 6, 2) := by decide +kernel
theorem dL_isWhole_98 : decode cL_isWhole 98 = .ok (.iload 8, 2) := by decide +kernel
theorem dL_isWhole_100 : decode cL_isWhole 100 = .ok (.invokestatic 280, 3) := by decide +kernel
theorem dL_isWhole_103 : decode cL_isWhole 103 = .ok (.aload_n 0, 1) := by decide +kernel
theorem dL_isWhole_104 : decode cL_isWhole 104 = .ok (.iload 7, 2) := by decide +kernel
theorem dL_isWhole_106 : decode cL_isWhole 106 = .ok (.iload 8, 2) := by decide +kernel
theorem dL_isWhole_108 : decode cL_isWhole 108 = .ok (.invokestatic 280, 3) := by decide +kernel
theorem dL_isWhole_111 : decode cL_isWhole 111 = .ok (.if_icmp .ne 22, 3) := by decide +kernel
theorem dL_isWhole_114 : decode cL_isWhole 114 = .ok (.aload_n 0, 1) := by decide +kernel
theorem dL_isWhole_115 : decode cL_isWhole 115 = .ok (.iload 6, 2) := by decide +kernel
theorem dL_isWhole_117 : decode cL_isWhole 117 = .ok (.iload 8, 2) := by decide +kernel
theorem dL_isWhole_119 : decode cL_isWhole 119 = .ok (.invokestatic 282, 3) := by decide +kernel
theorem dL_isWhole_122 : decode cL_isWhole 122 = .ok (.aload_n 0, 1) := by decide +kernel
theorem dL_isWhole_123 : decode cL_isWhole 123 = .ok (.iload 7, 2) := by decide +kernel
theorem dL_isWhole_125 : decode cL_isWhole 125 = .ok (.iload 8, 2) := by decide +kernel
theorem dL_isWhole_127 : decode cL_isWhole 127 = .ok (.invokestatic 282, 3) := by decide +kernel
theorem dL_isWhole_130 : decode cL_isWhole 130 = .ok (.if_icmp .eq 7, 3) := by decide +kernel
theorem dL_isWhole_133 : decode cL_isWhole 133 = .ok (.iconst 1, 1) := by decide +kernel
theorem dL_isWhole_134 : decode cL_isWhole 134 = .ok (.goto 4, 3) := by decide +kernel
theorem dL_isWhole_137 : decode cL_isWhole 137 = .ok (.iconst 0, 1) := by decide +kernel
theorem dL_isWhole_138 : decode cL_isWhole 138 = .ok (.istore 9, 2) := by decide +kernel
theorem dL_isWhole_140 : decode cL_isWhole 140 = .ok (.iload 8, 2) := by decide +kernel
theorem dL_isWhole_142 : decode cL_isWhole 142 = .ok (.aload_n 0, 1) := by decide +kernel
theorem dL_isWhole_143 : decode cL_isWhole 143 = .ok (.iload 6, 2) := by decide +kernel
theorem dL_isWhole_145 : decode cL_isWhole 145 = .ok (.invokestatic 186, 3) := by decide +kernel
theorem dL_isWhole_148 : decode cL_isWhole 148 = .ok (.if_icmp .ne 18, 3) := by decide +kernel
theorem dL_isWhole_151 : decode cL_isWhole 151 = .ok (.iload 8, 2) := by decide +kernel
theorem dL_isWhole_153 : decode cL_isWhole 153 = .ok (.aload_n 0, 1) := by decide +kernel
theorem dL_isWhole_154 : decode cL_isWhole 154 = .ok (.iload 7, 2) := by decide +kernel
theorem dL_isWhole_156 : decode cL_isWhole 156 = .ok (.invokestatic 186, 3) := by decide +kernel
theorem dL_isWhole_159 : decode cL_isWhole 159 = .ok (.if_icmp .ne 7, 3) := by decide +kernel
theorem dL_isWhole_162 : decode cL_isWhole 162 = .ok (.iconst 1, 1) := by decide +kernel
theorem dL_isWhole_163 : decode cL_isWhole 163 = .ok (.goto 4, 3) := by decide +kernel
theorem dL_isWhole_166 : decode cL_isWhole 166 = .ok (.iconst 0, 1) := by decide +kernel
theorem dL_isWhole_167 : decode cL_isWhole 167 = .ok (.istore 10, 2) := by decide +kernel
theorem dL_isWhole_169 : decode cL_isWhole 169 = .ok (.iload 8, 2) := by decide +kernel
theorem dL_isWhole_171 : decode cL_isWhole 171 = .ok (.ifCond .eq 49, 3) := by decide +kernel
theorem dL_isWhole_174 : decode cL_isWhole 174 = .ok (.aload_n 0, 1) := by decide +kernel
theorem dL_isWhole_175 : decode cL_isWhole 175 = .ok (.iload 6, 2) := by decide +kernel
theorem dL_isWhole_177 : decode cL_isWhole 177 = .ok (.iload 8, 2) := by decide +kernel
theorem dL_isWhole_179 : decode cL_isWhole 179 = .ok (.iconst 1, 1) := by decide +kernel
theorem dL_isWhole_180 : decode cL_isWhole 180 = .ok (.isub, 1) := by decide +kernel
theorem dL_isWhole_181 : decode cL_isWhole 181 = .ok (.invokestatic 280, 3) := by decide +kernel
theorem dL_isWhole_184 : decode cL_isWhole 184 = .ok (.aload_n 0, 1) := by decide +kernel
theorem dL_isWhole_185 : decode cL_isWhole 185 = .ok (.iload 7, 2) := by decide +kernel
theorem dL_isWhole_187 : decode cL_isWhole 187 = .ok (.iload 8, 2) := by decide +kernel
theorem dL_isWhole_189 : decode cL_isWhole 189 = .ok (.iconst 1, 1) := by decide +kernel
theorem dL_isWhole_190 : decode cL_isWhole 190 = .ok (.isub, 1) := by decide +kernel
theorem dL_isWhole_191 : decode cL_isWhole 191 = .ok (.invokestatic 280, 3) := by decide +kernel
theorem dL_isWhole_194 : decode cL_isWhole 194 = .ok (.if_icmp .ne 30, 3) := by decide +kernel
theorem dL_isWhole_197 : decode cL_isWhole 197 = .ok (.aload_n 0, 1) := by decide +kernel
theorem dL_isWhole_198 : decode cL_isWhole 198 = .ok (.iload 6, 2) := by decide +kernel
theorem dL_isWhole_200 : decode cL_isWhole 200 = .ok (.iload 8, 2) := by decide +kernel
theorem dL_isWhole_202 : decode cL_isWhole 202 = .ok (.iconst 1, 1) := by decide +kernel
theorem dL_isWhole_203 : decode cL_isWhole 203 = .ok (.isub, 1) := by decide +kernel
theorem dL_isWhole_204 : decode cL_isWhole 204 = .ok (.invokestatic 282, 3) := by decide +kernel
theorem dL_isWhole_207 : decode cL_isWhole 207 = .ok (.aload_n 0, 1) := by decide +kernel
theorem dL_isWhole_208 : decode cL_isWhole 208 = .ok (.iload 7, 2) := by decide +kernel
theorem dL_isWhole_210 : decode cL_isWhole 210 = .ok (.iload 8, 2) := by decide +kernel
theorem dL_isWhole_212 : decode cL_isWhole 212 = .ok (.iconst 1, 1) := by decide +kernel
theorem dL_isWhole_213 : decode cL_isWhole 213 = .ok (.isub, 1) := by decide +kernel
theorem dL_isWhole_214 : decode cL_isWhole 214 = .ok (.invokestatic 282, 3) := by decide +kernel
theorem dL_isWhole_217 : decode cL_isWhole 217 = .ok (.if_icmp .ne 7, 3) := by decide +kernel
theorem dL_isWhole_220 : decode cL_isWhole 220 = .ok (.iconst 1, 1) := by decide +kernel
theorem dL_isWhole_221 : decode cL_isWhole 221 = .ok (.goto 4, 3) := by decide +kernel
theorem dL_isWhole_224 : decode cL_isWhole 224 = .ok (.iconst 0, 1) := by decide +kernel
theorem dL_isWhole_225 : decode cL_isWhole 225 = .ok (.istore 11, 2) := by decide +kernel
theorem dL_isWhole_227 : decode cL_isWhole 227 = .ok (.iload 9, 2) := by decide +kernel
theorem dL_isWhole_229 : decode cL_isWhole 229 = .ok (.ifCond .eq 42, 3) := by decide +kernel
theorem dL_isWhole_232 : decode cL_isWhole 232 = .ok (.iload 11, 2) := by decide +kernel
theorem dL_isWhole_234 : decode cL_isWhole 234 = .ok (.ifCond .eq 37, 3) := by decide +kernel
theorem dL_isWhole_237 : decode cL_isWhole 237 = .ok (.iload 8, 2) := by decide +kernel
theorem dL_isWhole_239 : decode cL_isWhole 239 = .ok (.aload_n 0, 1) := by decide +kernel
theorem dL_isWhole_240 : decode cL_isWhole 240 = .ok (.iload 7, 2) := by decide +kernel
theorem dL_isWhole_242 : decode cL_isWhole 242 = .ok (.iload 6, 2) := by decide +kernel
theorem dL_isWhole_244 : decode cL_isWhole 244 = .ok (.invokestatic 322, 3) := by decide +kernel
theorem dL_isWhole_247 : decode cL_isWhole 247 = .ok (.if_icmp .ne 24, 3) := by decide +kernel
theorem dL_isWhole_250 : decode cL_isWhole 250 = .ok (.aload_n 0, 1) := by decide +kernel
theorem dL_isWhole_251 : decode cL_isWhole 251 = .ok (.iload 6, 2) := by decide +kernel
theorem dL_isWhole_253 : decode cL_isWhole 253 = .ok (.iload 7, 2) := by decide +kernel
theorem dL_isWhole_255 : decode cL_isWhole 255 = .ok (.invokestatic 324, 3) := by decide +kernel
theorem dL_isWhole_258 : decode cL_isWhole 258 = .ok (.iload 10, 2) := by decide +kernel
theorem dL_isWhole_260 : decode cL_isWhole 260 = .ok (.ifCond .eq 7, 3) := by decide +kernel
theorem dL_isWhole_263 : decode cL_isWhole 263 = .ok (.iconst 1, 1) := by decide +kernel
theorem dL_isWhole_264 : decode cL_isWhole 264 = .ok (.goto 4, 3) := by decide +kernel
theorem dL_isWhole_267 : decode cL_isWhole 267 = .ok (.iconst 0, 1) := by decide +kernel
theorem dL_isWhole_268 : decode cL_isWhole 268 = .ok (.if_icmp .eq 5, 3) := by decide +kernel
theorem dL_isWhole_271 : decode cL_isWhole 271 = .ok (.iconst 0, 1) := by decide +kernel
theorem dL_isWhole_272 : decode cL_isWhole 272 = .ok (.ireturn, 1) := by decide +kernel
theorem dL_isWhole_273 : decode cL_isWhole 273 = .ok (.iinc 7 1, 3) := by decide +kernel
theorem dL_isWhole_276 : decode cL_isWhole 276 = .ok (.goto (-219), 3) := by decide +kernel
theorem dL_isWhole_279 : decode cL_isWhole 279 = .ok (.aload_n 0, 1) := by decide +kernel
theorem dL_isWhole_280 : decode cL_isWhole 280 = .ok (.iload 6, 2) := by decide +kernel
theorem dL_isWhole_282 : decode cL_isWhole 282 = .ok (.invokestatic 186, 3) := by decide +kernel
theorem dL_isWhole_285 : decode cL_isWhole 285 = .ok (.istore 7, 2) := by decide +kernel
theorem dL_isWhole_287 : decode cL_isWhole 287 = .ok (.iconst 1, 1) := by decide +kernel
theorem dL_isWhole_288 : decode cL_isWhole 288 = .ok (.istore 8, 2) := by decide +kernel
theorem dL_isWhole_290 : decode cL_isWhole 290 = .ok (.iconst 0, 1) := by decide +kernel
theorem dL_isWhole_291 : decode cL_isWhole 291 = .ok (.istore 9, 2) := by decide +kernel
theorem dL_isWhole_293 : decode cL_isWhole 293 = .ok (.iload 9, 2) := by decide +kernel
theorem dL_isWhole_295 : decode cL_isWhole 295 = .ok (.iload 7, 2) := by decide +kernel
theorem dL_isWhole_297 : decode cL_isWhole 297 = .ok (.if_icmp .ge 67, 3) := by decide +kernel
theorem dL_isWhole_300 : decode cL_isWhole 300 = .ok (.iload 8, 2) := by decide +kernel
theorem dL_isWhole_302 : decode cL_isWhole 302 = .ok (.aload_n 0, 1) := by decide +kernel
theorem dL_isWhole_303 : decode cL_isWhole 303 = .ok (.iload 6, 2) := by decide +kernel
theorem dL_isWhole_305 : decode cL_isWhole 305 = .ok (.iload 9, 2) := by decide +kernel
theorem dL_isWhole_307 : decode cL_isWhole 307 = .ok (.invokestatic 280, 3) := by decide +kernel
theorem dL_isWhole_310 : decode cL_isWhole 310 = .ok (.aload_n 0, 1) := by decide +kernel
theorem dL_isWhole_311 : decode cL_isWhole 311 = .ok (.iload 6, 2) := by decide +kernel
theorem dL_isWhole_313 : decode cL_isWhole 313 = .ok (.iload 7, 2) := by decide +kernel
theorem dL_isWhole_315 : decode cL_isWhole 315 = .ok (.iconst 1, 1) := by decide +kernel
theorem dL_isWhole_316 : decode cL_isWhole 316 = .ok (.isub, 1) := by decide +kernel
theorem dL_isWhole_317 : decode cL_isWhole 317 = .ok (.iload 9, 2) := by decide +kernel
theorem dL_isWhole_319 : decode cL_isWhole 319 = .ok (.isub, 1) := by decide +kernel
theorem dL_isWhole_320 : decode cL_isWhole 320 = .ok (.invokestatic 280, 3) := by decide +kernel
theorem dL_isWhole_323 : decode cL_isWhole 323 = .ok (.if_icmp .ne 31, 3) := by decide +kernel
theorem dL_isWhole_326 : decode cL_isWhole 326 = .ok (.aload_n 0, 1) := by decide +kernel
theorem dL_isWhole_327 : decode cL_isWhole 327 = .ok (.iload 6, 2) := by decide +kernel
theorem dL_isWhole_329 : decode cL_isWhole 329 = .ok (.iload 9, 2) := by decide +kernel
theorem dL_isWhole_331 : decode cL_isWhole 331 = .ok (.invokestatic 282, 3) := by decide +kernel
theorem dL_isWhole_334 : decode cL_isWhole 334 = .ok (.aload_n 0, 1) := by decide +kernel
theorem dL_isWhole_335 : decode cL_isWhole 335 = .ok (.iload 6, 2) := by decide +kernel
theorem dL_isWhole_337 : decode cL_isWhole 337 = .ok (.iload 7, 2) := by decide +kernel
theorem dL_isWhole_339 : decode cL_isWhole 339 = .ok (.iconst 1, 1) := by decide +kernel
theorem dL_isWhole_340 : decode cL_isWhole 340 = .ok (.isub, 1) := by decide +kernel
theorem dL_isWhole_341 : decode cL_isWhole 341 = .ok (.iload 9, 2) := by decide +kernel
theorem dL_isWhole_343 : decode cL_isWhole 343 = .ok (.isub, 1) := by decide +kernel
theorem dL_isWhole_344 : decode cL_isWhole 344 = .ok (.invokestatic 282, 3) := by decide +kernel
theorem dL_isWhole_347 : decode cL_isWhole 347 = .ok (.if_icmp .ne 7, 3) := by decide +kernel
theorem dL_isWhole_350 : decode cL_isWhole 350 = .ok (.iconst 1, 1) := by decide +kernel
theorem dL_isWhole_351 : decode cL_isWhole 351 = .ok (.goto 4, 3) := by decide +kernel
theorem dL_isWhole_354 : decode cL_isWhole 354 = .ok (.iconst 0, 1) := by decide +kernel
theorem dL_isWhole_355 : decode cL_isWhole 355 = .ok (.iand, 1) := by decide +kernel
theorem dL_isWhole_356 : decode cL_isWhole 356 = .ok (.istore 8, 2) := by decide +kernel
theorem dL_isWhole_358 : decode cL_isWhole 358 = .ok (.iinc 9 1, 3) := by decide +kernel
theorem dL_isWhole_361 : decode cL_isWhole 361 = .ok (.goto (-68), 3) := by decide +kernel
theorem dL_isWhole_364 : decode cL_isWhole 364 = .ok (.aload_n 0, 1) := by decide +kernel
theorem dL_isWhole_365 : decode cL_isWhole 365 = .ok (.iload 6, 2) := by decide +kernel
theorem dL_isWhole_367 : decode cL_isWhole 367 = .ok (.invokestatic 326, 3) := by decide +kernel
theorem dL_isWhole_370 : decode cL_isWhole 370 = .ok (.iload 8, 2) := by decide +kernel
theorem dL_isWhole_372 : decode cL_isWhole 372 = .ok (.ifCond .eq 7, 3) := by decide +kernel
theorem dL_isWhole_375 : decode cL_isWhole 375 = .ok (.iconst 1, 1) := by decide +kernel
theorem dL_isWhole_376 : decode cL_isWhole 376 = .ok (.goto 4, 3) := by decide +kernel
theorem dL_isWhole_379 : decode cL_isWhole 379 = .ok (.iconst 0, 1) := by decide +kernel
theorem dL_isWhole_380 : decode cL_isWhole 380 = .ok (.if_icmp .eq 5, 3) := by decide +kernel
theorem dL_isWhole_383 : decode cL_isWhole 383 = .ok (.iconst 0, 1) := by decide +kernel
theorem dL_isWhole_384 : decode cL_isWhole 384 = .ok (.ireturn, 1) := by decide +kernel
theorem dL_isWhole_385 : decode cL_isWhole 385 = .ok (.iinc 6 1, 3) := by decide +kernel
theorem dL_isWhole_388 : decode cL_isWhole 388 = .ok (.goto (-382), 3) := by decide +kernel
theorem dL_isWhole_391 : decode cL_isWhole 391 = .ok (.aload_n 0, 1) := by decide +kernel
theorem dL_isWhole_392 : decode cL_isWhole 392 = .ok (.invokevirtual 190, 3) := by decide +kernel
theorem dL_isWhole_395 : decode cL_isWhole 395 = .ok (.lload 4, 2) := by decide +kernel
theorem dL_isWhole_397 : decode cL_isWhole 397 = .ok (.lcmp, 1) := by decide +kernel
theorem dL_isWhole_398 : decode cL_isWhole 398 = .ok (.ifCond .ne 18, 3) := by decide +kernel
theorem dL_isWhole_401 : decode cL_isWhole 401 = .ok (.iload_n 3, 1) := by decide +kernel
theorem dL_isWhole_402 : decode cL_isWhole 402 = .ok (.ifCond .eq 10, 3) := by decide +kernel
theorem dL_isWhole_405 : decode cL_isWhole 405 = .ok (.aload_n 0, 1) := by decide +kernel
theorem dL_isWhole_406 : decode cL_isWhole 406 = .ok (.invokevirtual 328, 3) := by decide +kernel
theorem dL_isWhole_409 : decode cL_isWhole 409 = .ok (.ifCond .eq 7, 3) := by decide +kernel
theorem dL_isWhole_412 : decode cL_isWhole 412 = .ok (.iconst 1, 1) := by decide +kernel
theorem dL_isWhole_413 : decode cL_isWhole 413 = .ok (.goto 4, 3) := by decide +kernel
theorem dL_isWhole_416 : decode cL_isWhole 416 = .ok (.iconst 0, 1) := by decide +kernel
theorem dL_isWhole_417 : decode cL_isWhole 417 = .ok (.ireturn, 1) := by decide +kernel
theorem dL_isKept_0 : decode cL_isKept 0 = .ok (.aload_n 0, 1) := by decide +kernel
theorem dL_isKept_1 : decode cL_isKept 1 = .ok (.invokevirtual 332, 3) := by decide +kernel
theorem dL_isKept_4 : decode cL_isKept 4 = .ok (.istore_n 3, 1) := by decide +kernel
theorem dL_isKept_5 : decode cL_isKept 5 = .ok (.bipush 8, 2) := by decide +kernel
theorem dL_isKept_7 : decode cL_isKept 7 = .ok (.iload_n 2, 1) := by decide +kernel
theorem dL_isKept_8 : decode cL_isKept 8 = .ok (.invokestatic 217, 3) := by decide +kernel
theorem dL_isKept_11 : decode cL_isKept 11 = .ok (.istore 4, 2) := by decide +kernel
theorem dL_isKept_13 : decode cL_isKept 13 = .ok (.iload_n 2, 1) := by decide +kernel
theorem dL_isKept_14 : decode cL_isKept 14 = .ok (.iconst 1, 1) := by decide +kernel
theorem dL_isKept_15 : decode cL_isKept 15 = .ok (.isub, 1) := by decide +kernel
theorem dL_isKept_16 : decode cL_isKept 16 = .ok (.istore 5, 2) := by decide +kernel
theorem dL_isKept_18 : decode cL_isKept 18 = .ok (.iload 4, 2) := by decide +kernel
theorem dL_isKept_20 : decode cL_isKept 20 = .ok (.ifCond .le 35, 3) := by decide +kernel
theorem dL_isKept_23 : decode cL_isKept 23 = .ok (.iinc 4 (-1), 3) := by decide +kernel
theorem dL_isKept_26 : decode cL_isKept 26 = .ok (.aload_n 0, 1) := by decide +kernel
theorem dL_isKept_27 : decode cL_isKept 27 = .ok (.invokestatic 335, 3) := by decide +kernel
theorem dL_isKept_30 : decode cL_isKept 30 = .ok (.iload 4, 2) := by decide +kernel
theorem dL_isKept_32 : decode cL_isKept 32 = .ok (.if_icmp .ne 15, 3) := by decide +kernel
theorem dL_isKept_35 : decode cL_isKept 35 = .ok (.aload_n 0, 1) := by decide +kernel
theorem dL_isKept_36 : decode cL_isKept 36 = .ok (.invokestatic 178, 3) := by decide +kernel
theorem dL_isKept_39 : decode cL_isKept 39 = .ok (.aload_n 1, 1) := by decide +kernel
theorem dL_isKept_40 : decode cL_isKept 40 = .ok (.iload 5, 2) := by decide +kernel
theorem dL_isKept_42 : decode cL_isKept 42 = .ok (.laload, 1) := by decide +kernel
theorem dL_isKept_43 : decode cL_isKept 43 = .ok (.lcmp, 1) := by decide +kernel
theorem dL_isKept_44 : decode cL_isKept 44 = .ok (.ifCond .eq 5, 3) := by decide +kernel
theorem dL_isKept_47 : decode cL_isKept 47 = .ok (.iconst 0, 1) := by decide +kernel
theorem dL_isKept_48 : decode cL_isKept 48 = .ok (.ireturn, 1) := by decide +kernel
theorem dL_isKept_49 : decode cL_isKept 49 = .ok (.iinc 5 (-1), 3) := by decide +kernel
theorem dL_isKept_52 : decode cL_isKept 52 = .ok (.goto (-34), 3) := by decide +kernel
theorem dL_isKept_55 : decode cL_isKept 55 = .ok (.aload_n 0, 1) := by decide +kernel
theorem dL_isKept_56 : decode cL_isKept 56 = .ok (.invokestatic 335, 3) := by decide +kernel
theorem dL_isKept_59 : decode cL_isKept 59 = .ok (.bipush (-79), 2) := by decide +kernel
theorem dL_isKept_61 : decode cL_isKept 61 = .ok (.if_icmp .ne 35, 3) := by decide +kernel
theorem dL_isKept_64 : decode cL_isKept 64 = .ok (.aload_n 0, 1) := by decide +kernel
theorem dL_isKept_65 : decode cL_isKept 65 = .ok (.invokestatic 337, 3) := by decide +kernel
theorem dL_isKept_68 : decode cL_isKept 68 = .ok (.iload_n 3, 1) := by decide +kernel
theorem dL_isKept_69 : decode cL_isKept 69 = .ok (.if_icmp .ne 27, 3) := by decide +kernel
theorem dL_isKept_72 : decode cL_isKept 72 = .ok (.aload_n 0, 1) := by decide +kernel
theorem dL_isKept_73 : decode cL_isKept 73 = .ok (.invokestatic 178, 3) := by decide +kernel
theorem dL_isKept_76 : decode cL_isKept 76 = .ok (.aload_n 1, 1) := by decide +kernel
theorem dL_isKept_77 : decode cL_isKept 77 = .ok (.iload_n 2, 1) := by decide +kernel
theorem dL_isKept_78 : decode cL_isKept 78 = .ok (.laload, 1) := by decide +kernel
theorem dL_isKept_79 : decode cL_isKept 79 = .ok (.lcmp, 1) := by decide +kernel
theorem dL_isKept_80 : decode cL_isKept 80 = .ok (.ifCond .ne 16, 3) := by decide +kernel
theorem dL_isKept_83 : decode cL_isKept 83 = .ok (.aload_n 0, 1) := by decide +kernel
theorem dL_isKept_84 : decode cL_isKept 84 = .ok (.invokestatic 335, 3) := by decide +kernel
theorem dL_isKept_87 : decode cL_isKept 87 = .ok (.bipush (-79), 2) := by decide +kernel
theorem dL_isKept_89 : decode cL_isKept 89 = .ok (.if_icmp .ne 7, 3) := by decide +kernel
theorem dL_isKept_92 : decode cL_isKept 92 = .ok (.iconst 1, 1) := by decide +kernel
theorem dL_isKept_93 : decode cL_isKept 93 = .ok (.goto 4, 3) := by decide +kernel
theorem dL_isKept_96 : decode cL_isKept 96 = .ok (.iconst 0, 1) := by decide +kernel
theorem dL_isKept_97 : decode cL_isKept 97 = .ok (.ireturn, 1) := by decide +kernel

/-! decode rows of the class -/
theorem dX0_init_0 : decode cX0_init 0 = .ok (.aload_n 0, 1) := by decide +kernel
theorem dX0_init_1 : decode cX0_init 1 = .ok (.invokespecial 3, 3) := by decide +kernel
theorem dX0_init_4 : decode cX0_init 4 = .ok (.aload_n 0, 1) := by decide +kernel
theorem dX0_init_5 : decode cX0_init 5 = .ok (.new 9, 3) := by decide +kernel
theorem dX0_init_8 : decode cX0_init 8 = .ok (.dup, 1) := by decide +kernel
theorem dX0_init_9 : decode cX0_init 9 = .ok (.bipush 60, 2) := by decide +kernel
theorem dX0_init_11 : decode cX0_init 11 = .ok (.iload_n 1, 1) := by decide +kernel
theorem dX0_init_12 : decode cX0_init 12 = .ok (.invokespecial 11, 3) := by decide +kernel
theorem dX0_init_15 : decode cX0_init 15 = .ok (.putfield 14, 3) := by decide +kernel
theorem dX0_init_18 : decode cX0_init 18 = .ok (.aload_n 0, 1) := by decide +kernel
theorem dX0_init_19 : decode cX0_init 19 = .ok (.bipush 10, 2) := by decide +kernel
theorem dX0_init_21 : decode cX0_init 21 = .ok (.newarray .int, 2) := by decide +kernel
theorem dX0_init_23 : decode cX0_init 23 = .ok (.putfield 20, 3) := by decide +kernel
theorem dX0_init_26 : decode cX0_init 26 = .ok (.iconst 0, 1) := by decide +kernel
theorem dX0_init_27 : decode cX0_init 27 = .ok (.istore_n 2, 1) := by decide +kernel
theorem dX0_init_28 : decode cX0_init 28 = .ok (.iload_n 2, 1) := by decide +kernel
theorem dX0_init_29 : decode cX0_init 29 = .ok (.bipush 10, 2) := by decide +kernel
theorem dX0_init_31 : decode cX0_init 31 = .ok (.if_icmp .ge 16, 3) := by decide +kernel
theorem dX0_init_34 : decode cX0_init 34 = .ok (.aload_n 0, 1) := by decide +kernel
theorem dX0_init_35 : decode cX0_init 35 = .ok (.getfield 20, 3) := by decide +kernel
theorem dX0_init_38 : decode cX0_init 38 = .ok (.iload_n 2, 1) := by decide +kernel
theorem dX0_init_39 : decode cX0_init 39 = .ok (.iconst (-1), 1) := by decide +kernel
theorem dX0_init_40 : decode cX0_init 40 = .ok (.iastore, 1) := by decide +kernel
theorem dX0_init_41 : decode cX0_init 41 = .ok (.iinc 2 1, 3) := by decide +kernel
theorem dX0_init_44 : decode cX0_init 44 = .ok (.goto (-16), 3) := by decide +kernel
theorem dX0_init_47 : decode cX0_init 47 = .ok (.aload_n 0, 1) := by decide +kernel
theorem dX0_init_48 : decode cX0_init 48 = .ok (.iconst (-1), 1) := by decide +kernel
theorem dX0_init_49 : decode cX0_init 49 = .ok (.putfield 24, 3) := by decide +kernel
theorem dX0_init_52 : decode cX0_init 52 = .ok (.aload_n 0, 1) := by decide +kernel
theorem dX0_init_53 : decode cX0_init 53 = .ok (.iconst 0, 1) := by decide +kernel
theorem dX0_init_54 : decode cX0_init 54 = .ok (.putfield 28, 3) := by decide +kernel
theorem dX0_init_57 : decode cX0_init 57 = .ok (.return_, 1) := by decide +kernel
theorem dX0_isDown_0 : decode cX0_isDown 0 = .ok (.aload_n 0, 1) := by decide +kernel
theorem dX0_isDown_1 : decode cX0_isDown 1 = .ok (.getfield 24, 3) := by decide +kernel
theorem dX0_isDown_4 : decode cX0_isDown 4 = .ok (.iconst (-1), 1) := by decide +kernel
theorem dX0_isDown_5 : decode cX0_isDown 5 = .ok (.if_icmp .eq 7, 3) := by decide +kernel
theorem dX0_isDown_8 : decode cX0_isDown 8 = .ok (.iconst 1, 1) := by decide +kernel
theorem dX0_isDown_9 : decode cX0_isDown 9 = .ok (.goto 4, 3) := by decide +kernel
theorem dX0_isDown_12 : decode cX0_isDown 12 = .ok (.iconst 0, 1) := by decide +kernel
theorem dX0_isDown_13 : decode cX0_isDown 13 = .ok (.ireturn, 1) := by decide +kernel
theorem dX0_recordAt_0 : decode cX0_recordAt 0 = .ok (.iload_n 1, 1) := by decide +kernel
theorem dX0_recordAt_1 : decode cX0_recordAt 1 = .ok (.iconst 0, 1) := by decide +kernel
theorem dX0_recordAt_2 : decode cX0_recordAt 2 = .ok (.bipush 9, 2) := by decide +kernel
theorem dX0_recordAt_4 : decode cX0_recordAt 4 = .ok (.invokestatic 31, 3) := by decide +kernel
theorem dX0_recordAt_7 : decode cX0_recordAt 7 = .ok (.ifCond .eq 12, 3) := by decide +kernel
theorem dX0_recordAt_10 : decode cX0_recordAt 10 = .ok (.aload_n 0, 1) := by decide +kernel
theorem dX0_recordAt_11 : decode cX0_recordAt 11 = .ok (.getfield 20, 3) := by decide +kernel
theorem dX0_recordAt_14 : decode cX0_recordAt 14 = .ok (.iload_n 1, 1) := by decide +kernel
theorem dX0_recordAt_15 : decode cX0_recordAt 15 = .ok (.iaload, 1) := by decide +kernel
theorem dX0_recordAt_16 : decode cX0_recordAt 16 = .ok (.goto 4, 3) := by decide +kernel
theorem dX0_recordAt_19 : decode cX0_recordAt 19 = .ok (.iconst (-1), 1) := by decide +kernel
theorem dX0_recordAt_20 : decode cX0_recordAt 20 = .ok (.ireturn, 1) := by decide +kernel
theorem dX0_setRecord_0 : decode cX0_setRecord 0 = .ok (.iload_n 1, 1) := by decide +kernel
theorem dX0_setRecord_1 : decode cX0_setRecord 1 = .ok (.iconst 0, 1) := by decide +kernel
theorem dX0_setRecord_2 : decode cX0_setRecord 2 = .ok (.bipush 9, 2) := by decide +kernel
theorem dX0_setRecord_4 : decode cX0_setRecord 4 = .ok (.invokestatic 31, 3) := by decide +kernel
theorem dX0_setRecord_7 : decode cX0_setRecord 7 = .ok (.ifCond .eq 10, 3) := by decide +kernel
theorem dX0_setRecord_10 : decode cX0_setRecord 10 = .ok (.aload_n 0, 1) := by decide +kernel
theorem dX0_setRecord_11 : decode cX0_setRecord 11 = .ok (.getfield 20, 3) := by decide +kernel
theorem dX0_setRecord_14 : decode cX0_setRecord 14 = .ok (.iload_n 1, 1) := by decide +kernel
theorem dX0_setRecord_15 : decode cX0_setRecord 15 = .ok (.iload_n 2, 1) := by decide +kernel
theorem dX0_setRecord_16 : decode cX0_setRecord 16 = .ok (.iastore, 1) := by decide +kernel
theorem dX0_setRecord_17 : decode cX0_setRecord 17 = .ok (.return_, 1) := by decide +kernel
theorem dX0_timeAt_0 : decode cX0_timeAt 0 = .ok (.aload_n 0, 1) := by decide +kernel
theorem dX0_timeAt_1 : decode cX0_timeAt 1 = .ok (.iload_n 1, 1) := by decide +kernel
theorem dX0_timeAt_2 : decode cX0_timeAt 2 = .ok (.invokevirtual 35, 3) := by decide +kernel
theorem dX0_timeAt_5 : decode cX0_timeAt 5 = .ok (.istore_n 3, 1) := by decide +kernel
theorem dX0_timeAt_6 : decode cX0_timeAt 6 = .ok (.iload_n 3, 1) := by decide +kernel
theorem dX0_timeAt_7 : decode cX0_timeAt 7 = .ok (.iconst (-1), 1) := by decide +kernel
theorem dX0_timeAt_8 : decode cX0_timeAt 8 = .ok (.if_icmp .ne 7, 3) := by decide +kernel
theorem dX0_timeAt_11 : decode cX0_timeAt 11 = .ok (.iload_n 2, 1) := by decide +kernel
theorem dX0_timeAt_12 : decode cX0_timeAt 12 = .ok (.goto 4, 3) := by decide +kernel
theorem dX0_timeAt_15 : decode cX0_timeAt 15 = .ok (.iload_n 3, 1) := by decide +kernel
theorem dX0_timeAt_16 : decode cX0_timeAt 16 = .ok (.ireturn, 1) := by decide +kernel
theorem dX1_init_0 : decode cX1_init 0 = .ok (.aload_n 0, 1) := by decide +kernel
theorem dX1_init_1 : decode cX1_init 1 = .ok (.invokespecial 3, 3) := by decide +kernel
theorem dX1_init_4 : decode cX1_init 4 = .ok (.aload_n 0, 1) := by decide +kernel
theorem dX1_init_5 : decode cX1_init 5 = .ok (.iload_n 1, 1) := by decide +kernel
theorem dX1_init_6 : decode cX1_init 6 = .ok (.putfield 9, 3) := by decide +kernel
theorem dX1_init_9 : decode cX1_init 9 = .ok (.aload_n 0, 1) := by decide +kernel
theorem dX1_init_10 : decode cX1_init 10 = .ok (.iload_n 2, 1) := by decide +kernel
theorem dX1_init_11 : decode cX1_init 11 = .ok (.putfield 15, 3) := by decide +kernel
theorem dX1_init_14 : decode cX1_init 14 = .ok (.aload_n 0, 1) := by decide +kernel
theorem dX1_init_15 : decode cX1_init 15 = .ok (.iload_n 3, 1) := by decide +kernel
theorem dX1_init_16 : decode cX1_init 16 = .ok (.putfield 18, 3) := by decide +kernel
theorem dX1_init_19 : decode cX1_init 19 = .ok (.return_, 1) := by decide +kernel
theorem dX1_pointsFor_0 : decode cX1_pointsFor 0 = .ok (.iload_n 1, 1) := by decide +kernel
theorem dX1_pointsFor_1 : decode cX1_pointsFor 1 = .ok (.iconst (-1), 1) := by decide +kernel
theorem dX1_pointsFor_2 : decode cX1_pointsFor 2 = .ok (.if_icmp .ne 6, 3) := by decide +kernel
theorem dX1_pointsFor_5 : decode cX1_pointsFor 5 = .ok (.bipush 60, 2) := by decide +kernel
theorem dX1_pointsFor_7 : decode cX1_pointsFor 7 = .ok (.ireturn, 1) := by decide +kernel
theorem dX1_pointsFor_8 : decode cX1_pointsFor 8 = .ok (.iload_n 1, 1) := by decide +kernel
theorem dX1_pointsFor_9 : decode cX1_pointsFor 9 = .ok (.aload_n 0, 1) := by decide +kernel
theorem dX1_pointsFor_10 : decode cX1_pointsFor 10 = .ok (.getfield 18, 3) := by decide +kernel
theorem dX1_pointsFor_13 : decode cX1_pointsFor 13 = .ok (.isub, 1) := by decide +kernel
theorem dX1_pointsFor_14 : decode cX1_pointsFor 14 = .ok (.istore_n 2, 1) := by decide +kernel
theorem dX1_pointsFor_15 : decode cX1_pointsFor 15 = .ok (.bipush 60, 2) := by decide +kernel
theorem dX1_pointsFor_17 : decode cX1_pointsFor 17 = .ok (.iload_n 2, 1) := by decide +kernel
theorem dX1_pointsFor_18 : decode cX1_pointsFor 18 = .ok (.ifCond .ge 10, 3) := by decide +kernel
theorem dX1_pointsFor_21 : decode cX1_pointsFor 21 = .ok (.iload_n 2, 1) := by decide +kernel
theorem dX1_pointsFor_22 : decode cX1_pointsFor 22 = .ok (.ineg, 1) := by decide +kernel
theorem dX1_pointsFor_23 : decode cX1_pointsFor 23 = .ok (.iconst 2, 1) := by decide +kernel
theorem dX1_pointsFor_24 : decode cX1_pointsFor 24 = .ok (.imul, 1) := by decide +kernel
theorem dX1_pointsFor_25 : decode cX1_pointsFor 25 = .ok (.goto 4, 3) := by decide +kernel
theorem dX1_pointsFor_28 : decode cX1_pointsFor 28 = .ok (.iload_n 2, 1) := by decide +kernel
theorem dX1_pointsFor_29 : decode cX1_pointsFor 29 = .ok (.invokestatic 21, 3) := by decide +kernel
theorem dX1_pointsFor_32 : decode cX1_pointsFor 32 = .ok (.ireturn, 1) := by decide +kernel
theorem dX2_init_0 : decode cX2_init 0 = .ok (.aload_n 0, 1) := by decide +kernel
theorem dX2_init_1 : decode cX2_init 1 = .ok (.invokespecial 3, 3) := by decide +kernel
theorem dX2_init_4 : decode cX2_init 4 = .ok (.aload_n 0, 1) := by decide +kernel
theorem dX2_init_5 : decode cX2_init 5 = .ok (.iload_n 1, 1) := by decide +kernel
theorem dX2_init_6 : decode cX2_init 6 = .ok (.putfield 9, 3) := by decide +kernel
theorem dX2_init_9 : decode cX2_init 9 = .ok (.aload_n 0, 1) := by decide +kernel
theorem dX2_init_10 : decode cX2_init 10 = .ok (.iload_n 2, 1) := by decide +kernel
theorem dX2_init_11 : decode cX2_init 11 = .ok (.putfield 15, 3) := by decide +kernel
theorem dX2_init_14 : decode cX2_init 14 = .ok (.aload_n 0, 1) := by decide +kernel
theorem dX2_init_15 : decode cX2_init 15 = .ok (.iload_n 2, 1) := by decide +kernel
theorem dX2_init_16 : decode cX2_init 16 = .ok (.putfield 18, 3) := by decide +kernel
theorem dX2_init_19 : decode cX2_init 19 = .ok (.aload_n 0, 1) := by decide +kernel
theorem dX2_init_20 : decode cX2_init 20 = .ok (.iconst (-1), 1) := by decide +kernel
theorem dX2_init_21 : decode cX2_init 21 = .ok (.putfield 21, 3) := by decide +kernel
theorem dX2_init_24 : decode cX2_init 24 = .ok (.return_, 1) := by decide +kernel
theorem dX2_useUp_0 : decode cX2_useUp 0 = .ok (.aload_n 0, 1) := by decide +kernel
theorem dX2_useUp_1 : decode cX2_useUp 1 = .ok (.bipush (-2), 2) := by decide +kernel
theorem dX2_useUp_3 : decode cX2_useUp 3 = .ok (.putfield 18, 3) := by decide +kernel
theorem dX2_useUp_6 : decode cX2_useUp 6 = .ok (.aload_n 0, 1) := by decide +kernel
theorem dX2_useUp_7 : decode cX2_useUp 7 = .ok (.iload_n 1, 1) := by decide +kernel
theorem dX2_useUp_8 : decode cX2_useUp 8 = .ok (.putfield 21, 3) := by decide +kernel
theorem dX2_useUp_11 : decode cX2_useUp 11 = .ok (.return_, 1) := by decide +kernel
theorem dX2_isLentBy_0 : decode cX2_isLentBy 0 = .ok (.aload_n 0, 1) := by decide +kernel
theorem dX2_isLentBy_1 : decode cX2_isLentBy 1 = .ok (.getfield 15, 3) := by decide +kernel
theorem dX2_isLentBy_4 : decode cX2_isLentBy 4 = .ok (.iload_n 1, 1) := by decide +kernel
theorem dX2_isLentBy_5 : decode cX2_isLentBy 5 = .ok (.if_icmp .ne 31, 3) := by decide +kernel
theorem dX2_isLentBy_8 : decode cX2_isLentBy 8 = .ok (.aload_n 0, 1) := by decide +kernel
theorem dX2_isLentBy_9 : decode cX2_isLentBy 9 = .ok (.getfield 18, 3) := by decide +kernel
theorem dX2_isLentBy_12 : decode cX2_isLentBy 12 = .ok (.bipush (-2), 2) := by decide +kernel
theorem dX2_isLentBy_14 : decode cX2_isLentBy 14 = .ok (.if_icmp .ne 10, 3) := by decide +kernel
theorem dX2_isLentBy_17 : decode cX2_isLentBy 17 = .ok (.aload_n 0, 1) := by decide +kernel
theorem dX2_isLentBy_18 : decode cX2_isLentBy 18 = .ok (.getfield 21, 3) := by decide +kernel
theorem dX2_isLentBy_21 : decode cX2_isLentBy 21 = .ok (.goto 7, 3) := by decide +kernel
theorem dX2_isLentBy_24 : decode cX2_isLentBy 24 = .ok (.aload_n 0, 1) := by decide +kernel
theorem dX2_isLentBy_25 : decode cX2_isLentBy 25 = .ok (.getfield 18, 3) := by decide +kernel
theorem dX2_isLentBy_28 : decode cX2_isLentBy 28 = .ok (.iload_n 1, 1) := by decide +kernel
theorem dX2_isLentBy_29 : decode cX2_isLentBy 29 = .ok (.if_icmp .eq 7, 3) := by decide +kernel
theorem dX2_isLentBy_32 : decode cX2_isLentBy 32 = .ok (.iconst 1, 1) := by decide +kernel
theorem dX2_isLentBy_33 : decode cX2_isLentBy 33 = .ok (.goto 4, 3) := by decide +kernel
theorem dX2_isLentBy_36 : decode cX2_isLentBy 36 = .ok (.iconst 0, 1) := by decide +kernel
theorem dX2_isLentBy_37 : decode cX2_isLentBy 37 = .ok (.ireturn, 1) := by decide +kernel
theorem dX3_init_0 : decode cX3_init 0 = .ok (.aload_n 0, 1) := by decide +kernel
theorem dX3_init_1 : decode cX3_init 1 = .ok (.invokespecial 3, 3) := by decide +kernel
theorem dX3_init_4 : decode cX3_init 4 = .ok (.aload_n 0, 1) := by decide +kernel
theorem dX3_init_5 : decode cX3_init 5 = .ok (.iload_n 1, 1) := by decide +kernel
theorem dX3_init_6 : decode cX3_init 6 = .ok (.putfield 9, 3) := by decide +kernel
theorem dX3_init_9 : decode cX3_init 9 = .ok (.aload_n 0, 1) := by decide +kernel
theorem dX3_init_10 : decode cX3_init 10 = .ok (.iload_n 2, 1) := by decide +kernel
theorem dX3_init_11 : decode cX3_init 11 = .ok (.putfield 15, 3) := by decide +kernel
theorem dX3_init_14 : decode cX3_init 14 = .ok (.aload_n 0, 1) := by decide +kernel
theorem dX3_init_15 : decode cX3_init 15 = .ok (.iload_n 3, 1) := by decide +kernel
theorem dX3_init_16 : decode cX3_init 16 = .ok (.putfield 18, 3) := by decide +kernel
theorem dX3_init_19 : decode cX3_init 19 = .ok (.aload_n 0, 1) := by decide +kernel
theorem dX3_init_20 : decode cX3_init 20 = .ok (.iload 4, 2) := by decide +kernel
theorem dX3_init_22 : decode cX3_init 22 = .ok (.putfield 21, 3) := by decide +kernel
theorem dX3_init_25 : decode cX3_init 25 = .ok (.aload_n 0, 1) := by decide +kernel
theorem dX3_init_26 : decode cX3_init 26 = .ok (.iload 5, 2) := by decide +kernel
theorem dX3_init_28 : decode cX3_init 28 = .ok (.putfield 24, 3) := by decide +kernel
theorem dX3_init_31 : decode cX3_init 31 = .ok (.aload_n 0, 1) := by decide +kernel
theorem dX3_init_32 : decode cX3_init 32 = .ok (.iload 6, 2) := by decide +kernel
theorem dX3_init_34 : decode cX3_init 34 = .ok (.putfield 27, 3) := by decide +kernel
theorem dX3_init_37 : decode cX3_init 37 = .ok (.return_, 1) := by decide +kernel
theorem dX3_end_0 : decode cX3_end 0 = .ok (.aload_n 0, 1) := by decide +kernel
theorem dX3_end_1 : decode cX3_end 1 = .ok (.getfield 9, 3) := by decide +kernel
theorem dX3_end_4 : decode cX3_end 4 = .ok (.aload_n 0, 1) := by decide +kernel
theorem dX3_end_5 : decode cX3_end 5 = .ok (.getfield 15, 3) := by decide +kernel
theorem dX3_end_8 : decode cX3_end 8 = .ok (.iadd, 1) := by decide +kernel
theorem dX3_end_9 : decode cX3_end 9 = .ok (.ireturn, 1) := by decide +kernel
theorem dX3_lastCell_0 : decode cX3_lastCell 0 = .ok (.aload_n 0, 1) := by decide +kernel
theorem dX3_lastCell_1 : decode cX3_lastCell 1 = .ok (.aload_n 0, 1) := by decide +kernel
theorem dX3_lastCell_2 : decode cX3_lastCell 2 = .ok (.getfield 15, 3) := by decide +kernel
theorem dX3_lastCell_5 : decode cX3_lastCell 5 = .ok (.invokevirtual 31, 3) := by decide +kernel
theorem dX3_lastCell_8 : decode cX3_lastCell 8 = .ok (.ireturn, 1) := by decide +kernel
theorem dX3_cellAfter_0 : decode cX3_cellAfter 0 = .ok (.aload_n 0, 1) := by decide +kernel
theorem dX3_cellAfter_1 : decode cX3_cellAfter 1 = .ok (.getfield 27, 3) := by decide +kernel
theorem dX3_cellAfter_4 : decode cX3_cellAfter 4 = .ok (.ifCond .ne 8, 3) := by decide +kernel
theorem dX3_cellAfter_7 : decode cX3_cellAfter 7 = .ok (.aload_n 0, 1) := by decide +kernel
theorem dX3_cellAfter_8 : decode cX3_cellAfter 8 = .ok (.getfield 18, 3) := by decide +kernel
theorem dX3_cellAfter_11 : decode cX3_cellAfter 11 = .ok (.ireturn, 1) := by decide +kernel
theorem dX3_cellAfter_12 : decode cX3_cellAfter 12 = .ok (.aload_n 0, 1) := by decide +kernel
theorem dX3_cellAfter_13 : decode cX3_cellAfter 13 = .ok (.getfield 21, 3) := by decide +kernel
theorem dX3_cellAfter_16 : decode cX3_cellAfter 16 = .ok (.iconst 3, 1) := by decide +kernel
theorem dX3_cellAfter_17 : decode cX3_cellAfter 17 = .ok (.iand, 1) := by decide +kernel
theorem dX3_cellAfter_18 : decode cX3_cellAfter 18 = .ok (.istore_n 2, 1) := by decide +kernel
theorem dX3_cellAfter_19 : decode cX3_cellAfter 19 = .ok (.aload_n 0, 1) := by decide +kernel
theorem dX3_cellAfter_20 : decode cX3_cellAfter 20 = .ok (.getfield 18, 3) := by decide +kernel
theorem dX3_cellAfter_23 : decode cX3_cellAfter 23 = .ok (.iload_n 1, 1) := by decide +kernel
theorem dX3_cellAfter_24 : decode cX3_cellAfter 24 = .ok (.getstatic 35, 3) := by decide +kernel
theorem dX3_cellAfter_27 : decode cX3_cellAfter 27 = .ok (.iload_n 2, 1) := by decide +kernel
theorem dX3_cellAfter_28 : decode cX3_cellAfter 28 = .ok (.iaload, 1) := by decide +kernel
theorem dX3_cellAfter_29 : decode cX3_cellAfter 29 = .ok (.iconst 4, 1) := by decide +kernel
theorem dX3_cellAfter_30 : decode cX3_cellAfter 30 = .ok (.ishl, 1) := by decide +kernel
theorem dX3_cellAfter_31 : decode cX3_cellAfter 31 = .ok (.getstatic 39, 3) := by decide +kernel
theorem dX3_cellAfter_34 : decode cX3_cellAfter 34 = .ok (.iload_n 2, 1) := by decide +kernel
theorem dX3_cellAfter_35 : decode cX3_cellAfter 35 = .ok (.iaload, 1) := by decide +kernel
theorem dX3_cellAfter_36 : decode cX3_cellAfter 36 = .ok (.iadd, 1) := by decide +kernel
theorem dX3_cellAfter_37 : decode cX3_cellAfter 37 = .ok (.imul, 1) := by decide +kernel
theorem dX3_cellAfter_38 : decode cX3_cellAfter 38 = .ok (.iadd, 1) := by decide +kernel
theorem dX3_cellAfter_39 : decode cX3_cellAfter 39 = .ok (.ireturn, 1) := by decide +kernel
theorem dX3_firstMinuteIn_0 : decode cX3_firstMinuteIn 0 = .ok (.aload_n 0, 1) := by decide +kernel
theorem dX3_firstMinuteIn_1 : decode cX3_firstMinuteIn 1 = .ok (.getfield 27, 3) := by decide +kernel
theorem dX3_firstMinuteIn_4 : decode cX3_firstMinuteIn 4 = .ok (.ifCond .ne 32, 3) := by decide +kernel
theorem dX3_firstMinuteIn_7 : decode cX3_firstMinuteIn 7 = .ok (.aload_n 0, 1) := by decide +kernel
theorem dX3_firstMinuteIn_8 : decode cX3_firstMinuteIn 8 = .ok (.getfield 18, 3) := by decide +kernel
theorem dX3_firstMinuteIn_11 : decode cX3_firstMinuteIn 11 = .ok (.iload_n 1, 1) := by decide +kernel
theorem dX3_firstMinuteIn_12 : decode cX3_firstMinuteIn 12 = .ok (.if_icmp .ne 22, 3) := by decide +kernel
theorem dX3_firstMinuteIn_15 : decode cX3_firstMinuteIn 15 = .ok (.aload_n 0, 1) := by decide +kernel
theorem dX3_firstMinuteIn_16 : decode cX3_firstMinuteIn 16 = .ok (.invokevirtual 42, 3) := by decide +kernel
theorem dX3_firstMinuteIn_19 : decode cX3_firstMinuteIn 19 = .ok (.iload_n 2, 1) := by decide +kernel
theorem dX3_firstMinuteIn_20 : decode cX3_firstMinuteIn 20 = .ok (.if_icmp .lt 14, 3) := by decide +kernel
theorem dX3_firstMinuteIn_23 : decode cX3_firstMinuteIn 23 = .ok (.aload_n 0, 1) := by decide +kernel
theorem dX3_firstMinuteIn_24 : decode cX3_firstMinuteIn 24 = .ok (.getfield 9, 3) := by decide +kernel
theorem dX3_firstMinuteIn_27 : decode cX3_firstMinuteIn 27 = .ok (.iload_n 2, 1) := by decide +kernel
theorem dX3_firstMinuteIn_28 : decode cX3_firstMinuteIn 28 = .ok (.invokestatic 46, 3) := by decide +kernel
theorem dX3_firstMinuteIn_31 : decode cX3_firstMinuteIn 31 = .ok (.goto 4, 3) := by decide +kernel
theorem dX3_firstMinuteIn_34 : decode cX3_firstMinuteIn 34 = .ok (.iconst (-1), 1) := by decide +kernel
theorem dX3_firstMinuteIn_35 : decode cX3_firstMinuteIn 35 = .ok (.ireturn, 1) := by decide +kernel
theorem dX3_firstMinuteIn_36 : decode cX3_firstMinuteIn 36 = .ok (.aload_n 0, 1) := by decide +kernel
theorem dX3_firstMinuteIn_37 : decode cX3_firstMinuteIn 37 = .ok (.iload_n 1, 1) := by decide +kernel
theorem dX3_firstMinuteIn_38 : decode cX3_firstMinuteIn 38 = .ok (.invokevirtual 52, 3) := by decide +kernel
theorem dX3_firstMinuteIn_41 : decode cX3_firstMinuteIn 41 = .ok (.istore_n 3, 1) := by decide +kernel
theorem dX3_firstMinuteIn_42 : decode cX3_firstMinuteIn 42 = .ok (.aload_n 0, 1) := by decide +kernel
theorem dX3_firstMinuteIn_43 : decode cX3_firstMinuteIn 43 = .ok (.iload_n 3, 1) := by decide +kernel
theorem dX3_firstMinuteIn_44 : decode cX3_firstMinuteIn 44 = .ok (.invokevirtual 31, 3) := by decide +kernel
theorem dX3_firstMinuteIn_47 : decode cX3_firstMinuteIn 47 = .ok (.iload_n 1, 1) := by decide +kernel
theorem dX3_firstMinuteIn_48 : decode cX3_firstMinuteIn 48 = .ok (.if_icmp .ne 34, 3) := by decide +kernel
theorem dX3_firstMinuteIn_51 : decode cX3_firstMinuteIn 51 = .ok (.iload_n 3, 1) := by decide +kernel
theorem dX3_firstMinuteIn_52 : decode cX3_firstMinuteIn 52 = .ok (.iconst 0, 1) := by decide +kernel
theorem dX3_firstMinuteIn_53 : decode cX3_firstMinuteIn 53 = .ok (.aload_n 0, 1) := by decide +kernel
theorem dX3_firstMinuteIn_54 : decode cX3_firstMinuteIn 54 = .ok (.getfield 15, 3) := by decide +kernel
theorem dX3_firstMinuteIn_57 : decode cX3_firstMinuteIn 57 = .ok (.invokestatic 55, 3) := by decide +kernel
theorem dX3_firstMinuteIn_60 : decode cX3_firstMinuteIn 60 = .ok (.ifCond .eq 22, 3) := by decide +kernel
theorem dX3_firstMinuteIn_63 : decode cX3_firstMinuteIn 63 = .ok (.aload_n 0, 1) := by decide +kernel
theorem dX3_firstMinuteIn_64 : decode cX3_firstMinuteIn 64 = .ok (.getfield 9, 3) := by decide +kernel
theorem dX3_firstMinuteIn_67 : decode cX3_firstMinuteIn 67 = .ok (.iload_n 3, 1) := by decide +kernel
theorem dX3_firstMinuteIn_68 : decode cX3_firstMinuteIn 68 = .ok (.iadd, 1) := by decide +kernel
theorem dX3_firstMinuteIn_69 : decode cX3_firstMinuteIn 69 = .ok (.iload_n 2, 1) := by decide +kernel
theorem dX3_firstMinuteIn_70 : decode cX3_firstMinuteIn 70 = .ok (.if_icmp .lt 12, 3) := by decide +kernel
theorem dX3_firstMinuteIn_73 : decode cX3_firstMinuteIn 73 = .ok (.aload_n 0, 1) := by decide +kernel
theorem dX3_firstMinuteIn_74 : decode cX3_firstMinuteIn 74 = .ok (.getfield 9, 3) := by decide +kernel
theorem dX3_firstMinuteIn_77 : decode cX3_firstMinuteIn 77 = .ok (.iload_n 3, 1) := by decide +kernel
theorem dX3_firstMinuteIn_78 : decode cX3_firstMinuteIn 78 = .ok (.iadd, 1) := by decide +kernel
theorem dX3_firstMinuteIn_79 : decode cX3_firstMinuteIn 79 = .ok (.goto 4, 3) := by decide +kernel
theorem dX3_firstMinuteIn_82 : decode cX3_firstMinuteIn 82 = .ok (.iconst (-1), 1) := by decide +kernel
theorem dX3_firstMinuteIn_83 : decode cX3_firstMinuteIn 83 = .ok (.ireturn, 1) := by decide +kernel
theorem dX3_cellsOnTo_0 : decode cX3_cellsOnTo 0 = .ok (.aload_n 0, 1) := by decide +kernel
theorem dX3_cellsOnTo_1 : decode cX3_cellsOnTo 1 = .ok (.getfield 21, 3) := by decide +kernel
theorem dX3_cellsOnTo_4 : decode cX3_cellsOnTo 4 = .ok (.iconst 3, 1) := by decide +kernel
theorem dX3_cellsOnTo_5 : decode cX3_cellsOnTo 5 = .ok (.iand, 1) := by decide +kernel
theorem dX3_cellsOnTo_6 : decode cX3_cellsOnTo 6 = .ok (.istore_n 2, 1) := by decide +kernel
theorem dX3_cellsOnTo_7 : decode cX3_cellsOnTo 7 = .ok (.iload_n 1, 1) := by decide +kernel
theorem dX3_cellsOnTo_8 : decode cX3_cellsOnTo 8 = .ok (.iconst 4, 1) := by decide +kernel
theorem dX3_cellsOnTo_9 : decode cX3_cellsOnTo 9 = .ok (.ishr, 1) := by decide +kernel
theorem dX3_cellsOnTo_10 : decode cX3_cellsOnTo 10 = .ok (.aload_n 0, 1) := by decide +kernel
theorem dX3_cellsOnTo_11 : decode cX3_cellsOnTo 11 = .ok (.getfield 18, 3) := by decide +kernel
theorem dX3_cellsOnTo_14 : decode cX3_cellsOnTo 14 = .ok (.iconst 4, 1) := by decide +kernel
theorem dX3_cellsOnTo_15 : decode cX3_cellsOnTo 15 = .ok (.ishr, 1) := by decide +kernel
theorem dX3_cellsOnTo_16 : decode cX3_cellsOnTo 16 = .ok (.isub, 1) := by decide +kernel
theorem dX3_cellsOnTo_17 : decode cX3_cellsOnTo 17 = .ok (.istore_n 3, 1) := by decide +kernel
theorem dX3_cellsOnTo_18 : decode cX3_cellsOnTo 18 = .ok (.iload_n 1, 1) := by decide +kernel
theorem dX3_cellsOnTo_19 : decode cX3_cellsOnTo 19 = .ok (.bipush 15, 2) := by decide +kernel
theorem dX3_cellsOnTo_21 : decode cX3_cellsOnTo 21 = .ok (.iand, 1) := by decide +kernel
theorem dX3_cellsOnTo_22 : decode cX3_cellsOnTo 22 = .ok (.aload_n 0, 1) := by decide +kernel
theorem dX3_cellsOnTo_23 : decode cX3_cellsOnTo 23 = .ok (.getfield 18, 3) := by decide +kernel
theorem dX3_cellsOnTo_26 : decode cX3_cellsOnTo 26 = .ok (.bipush 15, 2) := by decide +kernel
theorem dX3_cellsOnTo_28 : decode cX3_cellsOnTo 28 = .ok (.iand, 1) := by decide +kernel
theorem dX3_cellsOnTo_29 : decode cX3_cellsOnTo 29 = .ok (.isub, 1) := by decide +kernel
theorem dX3_cellsOnTo_30 : decode cX3_cellsOnTo 30 = .ok (.istore 4, 2) := by decide +kernel
theorem dX3_cellsOnTo_32 : decode cX3_cellsOnTo 32 = .ok (.iload_n 3, 1) := by decide +kernel
theorem dX3_cellsOnTo_33 : decode cX3_cellsOnTo 33 = .ok (.getstatic 35, 3) := by decide +kernel
theorem dX3_cellsOnTo_36 : decode cX3_cellsOnTo 36 = .ok (.iload_n 2, 1) := by decide +kernel
theorem dX3_cellsOnTo_37 : decode cX3_cellsOnTo 37 = .ok (.iaload, 1) := by decide +kernel
theorem dX3_cellsOnTo_38 : decode cX3_cellsOnTo 38 = .ok (.imul, 1) := by decide +kernel
theorem dX3_cellsOnTo_39 : decode cX3_cellsOnTo 39 = .ok (.iload 4, 2) := by decide +kernel
theorem dX3_cellsOnTo_41 : decode cX3_cellsOnTo 41 = .ok (.getstatic 39, 3) := by decide +kernel
theorem dX3_cellsOnTo_44 : decode cX3_cellsOnTo 44 = .ok (.iload_n 2, 1) := by decide +kernel
theorem dX3_cellsOnTo_45 : decode cX3_cellsOnTo 45 = .ok (.iaload, 1) := by decide +kernel
theorem dX3_cellsOnTo_46 : decode cX3_cellsOnTo 46 = .ok (.imul, 1) := by decide +kernel
theorem dX3_cellsOnTo_47 : decode cX3_cellsOnTo 47 = .ok (.iadd, 1) := by decide +kernel
theorem dX3_cellsOnTo_48 : decode cX3_cellsOnTo 48 = .ok (.ireturn, 1) := by decide +kernel
theorem dX3_isDrivenLike_0 : decode cX3_isDrivenLike 0 = .ok (.aload_n 0, 1) := by decide +kernel
theorem dX3_isDrivenLike_1 : decode cX3_isDrivenLike 1 = .ok (.getfield 27, 3) := by decide +kernel
theorem dX3_isDrivenLike_4 : decode cX3_isDrivenLike 4 = .ok (.ifCond .eq 29, 3) := by decide +kernel
theorem dX3_isDrivenLike_7 : decode cX3_isDrivenLike 7 = .ok (.aload_n 0, 1) := by decide +kernel
theorem dX3_isDrivenLike_8 : decode cX3_isDrivenLike 8 = .ok (.getfield 15, 3) := by decide +kernel
theorem dX3_isDrivenLike_11 : decode cX3_isDrivenLike 11 = .ok (.aload_n 1, 1) := by decide +kernel
theorem dX3_isDrivenLike_12 : decode cX3_isDrivenLike 12 = .ok (.getfield 15, 3) := by decide +kernel
theorem dX3_isDrivenLike_15 : decode cX3_isDrivenLike 15 = .ok (.if_icmp .ne 18, 3) := by decide +kernel
theorem dX3_isDrivenLike_18 : decode cX3_isDrivenLike 18 = .ok (.aload_n 0, 1) := by decide +kernel
theorem dX3_isDrivenLike_19 : decode cX3_isDrivenLike 19 = .ok (.getfield 24, 3) := by decide +kernel
theorem dX3_isDrivenLike_22 : decode cX3_isDrivenLike 22 = .ok (.aload_n 1, 1) := by decide +kernel
theorem dX3_isDrivenLike_23 : decode cX3_isDrivenLike 23 = .ok (.getfield 24, 3) := by decide +kernel
theorem dX3_isDrivenLike_26 : decode cX3_isDrivenLike 26 = .ok (.if_icmp .ne 7, 3) := by decide +kernel
theorem dX3_isDrivenLike_29 : decode cX3_isDrivenLike 29 = .ok (.iconst 1, 1) := by decide +kernel
theorem dX3_isDrivenLike_30 : decode cX3_isDrivenLike 30 = .ok (.goto 4, 3) := by decide +kernel
theorem dX3_isDrivenLike_33 : decode cX3_isDrivenLike 33 = .ok (.iconst 0, 1) := by decide +kernel
theorem dX3_isDrivenLike_34 : decode cX3_isDrivenLike 34 = .ok (.ireturn, 1) := by decide +kernel
theorem dX4_init_0 : decode cX4_init 0 = .ok (.aload_n 0, 1) := by decide +kernel
theorem dX4_init_1 : decode cX4_init 1 = .ok (.invokespecial 3, 3) := by decide +kernel
theorem dX4_init_4 : decode cX4_init 4 = .ok (.aload_n 0, 1) := by decide +kernel
theorem dX4_init_5 : decode cX4_init 5 = .ok (.iload_n 1, 1) := by decide +kernel
theorem dX4_init_6 : decode cX4_init 6 = .ok (.anewarray 9, 3) := by decide +kernel
theorem dX4_init_9 : decode cX4_init 9 = .ok (.putfield 11, 3) := by decide +kernel
theorem dX4_init_12 : decode cX4_init 12 = .ok (.aload_n 0, 1) := by decide +kernel
theorem dX4_init_13 : decode cX4_init 13 = .ok (.iconst 0, 1) := by decide +kernel
theorem dX4_init_14 : decode cX4_init 14 = .ok (.putfield 17, 3) := by decide +kernel
theorem dX4_init_17 : decode cX4_init 17 = .ok (.aload_n 0, 1) := by decide +kernel
theorem dX4_init_18 : decode cX4_init 18 = .ok (.iload_n 2, 1) := by decide +kernel
theorem dX4_init_19 : decode cX4_init 19 = .ok (.putfield 21, 3) := by decide +kernel
theorem dX4_init_22 : decode cX4_init 22 = .ok (.aload_n 0, 1) := by decide +kernel
theorem dX4_init_23 : decode cX4_init 23 = .ok (.iconst 0, 1) := by decide +kernel
theorem dX4_init_24 : decode cX4_init 24 = .ok (.putfield 24, 3) := by decide +kernel
theorem dX4_init_27 : decode cX4_init 27 = .ok (.aload_n 0, 1) := by decide +kernel
theorem dX4_init_28 : decode cX4_init 28 = .ok (.iconst 0, 1) := by decide +kernel
theorem dX4_init_29 : decode cX4_init 29 = .ok (.putfield 27, 3) := by decide +kernel
theorem dX4_init_32 : decode cX4_init 32 = .ok (.return_, 1) := by decide +kernel
theorem dX4_beginIn_0 : decode cX4_beginIn 0 = .ok (.aload_n 0, 1) := by decide +kernel
theorem dX4_beginIn_1 : decode cX4_beginIn 1 = .ok (.iload_n 1, 1) := by decide +kernel
theorem dX4_beginIn_2 : decode cX4_beginIn 2 = .ok (.putfield 21, 3) := by decide +kernel
theorem dX4_beginIn_5 : decode cX4_beginIn 5 = .ok (.return_, 1) := by decide +kernel
theorem dX4_isFull_0 : decode cX4_isFull 0 = .ok (.aload_n 0, 1) := by decide +kernel
theorem dX4_isFull_1 : decode cX4_isFull 1 = .ok (.getfield 17, 3) := by decide +kernel
theorem dX4_isFull_4 : decode cX4_isFull 4 = .ok (.aload_n 0, 1) := by decide +kernel
theorem dX4_isFull_5 : decode cX4_isFull 5 = .ok (.getfield 11, 3) := by decide +kernel
theorem dX4_isFull_8 : decode cX4_isFull 8 = .ok (.arraylength, 1) := by decide +kernel
theorem dX4_isFull_9 : decode cX4_isFull 9 = .ok (.if_icmp .lt 7, 3) := by decide +kernel
theorem dX4_isFull_12 : decode cX4_isFull 12 = .ok (.iconst 1, 1) := by decide +kernel
theorem dX4_isFull_13 : decode cX4_isFull 13 = .ok (.goto 4, 3) := by decide +kernel
theorem dX4_isFull_16 : decode cX4_isFull 16 = .ok (.iconst 0, 1) := by decide +kernel
theorem dX4_isFull_17 : decode cX4_isFull 17 = .ok (.ireturn, 1) := by decide +kernel
theorem dX4_staysOnGround_0 : decode cX4_staysOnGround 0 = .ok (.aload_n 0, 1) := by decide +kernel
theorem dX4_staysOnGround_1 : decode cX4_staysOnGround 1 = .ok (.getfield 24, 3) := by decide +kernel
theorem dX4_staysOnGround_4 : decode cX4_staysOnGround 4 = .ok (.iconst 3, 1) := by decide +kernel
theorem dX4_staysOnGround_5 : decode cX4_staysOnGround 5 = .ok (.iand, 1) := by decide +kernel
theorem dX4_staysOnGround_6 : decode cX4_staysOnGround 6 = .ok (.istore_n 2, 1) := by decide +kernel
theorem dX4_staysOnGround_7 : decode cX4_staysOnGround 7 = .ok (.aload_n 0, 1) := by decide +kernel
theorem dX4_staysOnGround_8 : decode cX4_staysOnGround 8 = .ok (.getfield 21, 3) := by decide +kernel
theorem dX4_staysOnGround_11 : decode cX4_staysOnGround 11 = .ok (.iconst 4, 1) := by decide +kernel
theorem dX4_staysOnGround_12 : decode cX4_staysOnGround 12 = .ok (.ishr, 1) := by decide +kernel
theorem dX4_staysOnGround_13 : decode cX4_staysOnGround 13 = .ok (.iload_n 1, 1) := by decide +kernel
theorem dX4_staysOnGround_14 : decode cX4_staysOnGround 14 = .ok (.getstatic 30, 3) := by decide +kernel
theorem dX4_staysOnGround_17 : decode cX4_staysOnGround 17 = .ok (.iload_n 2, 1) := by decide +kernel
theorem dX4_staysOnGround_18 : decode cX4_staysOnGround 18 = .ok (.iaload, 1) := by decide +kernel
theorem dX4_staysOnGround_19 : decode cX4_staysOnGround 19 = .ok (.imul, 1) := by decide +kernel
theorem dX4_staysOnGround_20 : decode cX4_staysOnGround 20 = .ok (.iadd, 1) := by decide +kernel
theorem dX4_staysOnGround_21 : decode cX4_staysOnGround 21 = .ok (.istore_n 3, 1) := by decide +kernel
theorem dX4_staysOnGround_22 : decode cX4_staysOnGround 22 = .ok (.aload_n 0, 1) := by decide +kernel
theorem dX4_staysOnGround_23 : decode cX4_staysOnGround 23 = .ok (.getfield 21, 3) := by decide +kernel
theorem dX4_staysOnGround_26 : decode cX4_staysOnGround 26 = .ok (.bipush 15, 2) := by decide +kernel
theorem dX4_staysOnGround_28 : decode cX4_staysOnGround 28 = .ok (.iand, 1) := by decide +kernel
theorem dX4_staysOnGround_29 : decode cX4_staysOnGround 29 = .ok (.iload_n 1, 1) := by decide +kernel
theorem dX4_staysOnGround_30 : decode cX4_staysOnGround 30 = .ok (.getstatic 34, 3) := by decide +kernel
theorem dX4_staysOnGround_33 : decode cX4_staysOnGround 33 = .ok (.iload_n 2, 1) := by decide +kernel
theorem dX4_staysOnGround_34 : decode cX4_staysOnGround 34 = .ok (.iaload, 1) := by decide +kernel
theorem dX4_staysOnGround_35 : decode cX4_staysOnGround 35 = .ok (.imul, 1) := by decide +kernel
theorem dX4_staysOnGround_36 : decode cX4_staysOnGround 36 = .ok (.iadd, 1) := by decide +kernel
theorem dX4_staysOnGround_37 : decode cX4_staysOnGround 37 = .ok (.istore 4, 2) := by decide +kernel
theorem dX4_staysOnGround_39 : decode cX4_staysOnGround 39 = .ok (.iload_n 3, 1) := by decide +kernel
theorem dX4_staysOnGround_40 : decode cX4_staysOnGround 40 = .ok (.iconst 0, 1) := by decide +kernel
theorem dX4_staysOnGround_41 : decode cX4_staysOnGround 41 = .ok (.bipush 15, 2) := by decide +kernel
theorem dX4_staysOnGround_43 : decode cX4_staysOnGround 43 = .ok (.invokestatic 37, 3) := by decide +kernel
theorem dX4_staysOnGround_46 : decode cX4_staysOnGround 46 = .ok (.ifCond .eq 18, 3) := by decide +kernel
theorem dX4_staysOnGround_49 : decode cX4_staysOnGround 49 = .ok (.iload 4, 2) := by decide +kernel
theorem dX4_staysOnGround_51 : decode cX4_staysOnGround 51 = .ok (.iconst 0, 1) := by decide +kernel
theorem dX4_staysOnGround_52 : decode cX4_staysOnGround 52 = .ok (.bipush 15, 2) := by decide +kernel
theorem dX4_staysOnGround_54 : decode cX4_staysOnGround 54 = .ok (.invokestatic 37, 3) := by decide +kernel
theorem dX4_staysOnGround_57 : decode cX4_staysOnGround 57 = .ok (.ifCond .eq 7, 3) := by decide +kernel
theorem dX4_staysOnGround_60 : decode cX4_staysOnGround 60 = .ok (.iconst 1, 1) := by decide +kernel
theorem dX4_staysOnGround_61 : decode cX4_staysOnGround 61 = .ok (.goto 4, 3) := by decide +kernel
theorem dX4_staysOnGround_64 : decode cX4_staysOnGround 64 = .ok (.iconst 0, 1) := by decide +kernel
theorem dX4_staysOnGround_65 : decode cX4_staysOnGround 65 = .ok (.ireturn, 1) := by decide +kernel
theorem dX4_goOn_0 : decode cX4_goOn 0 = .ok (.aload_n 0, 1) := by decide +kernel
theorem dX4_goOn_1 : decode cX4_goOn 1 = .ok (.new 9, 3) := by decide +kernel
theorem dX4_goOn_4 : decode cX4_goOn 4 = .ok (.dup, 1) := by decide +kernel
theorem dX4_goOn_5 : decode cX4_goOn 5 = .ok (.aload_n 0, 1) := by decide +kernel
theorem dX4_goOn_6 : decode cX4_goOn 6 = .ok (.getfield 27, 3) := by decide +kernel
theorem dX4_goOn_9 : decode cX4_goOn 9 = .ok (.iload_n 1, 1) := by decide +kernel
theorem dX4_goOn_10 : decode cX4_goOn 10 = .ok (.aload_n 0, 1) := by decide +kernel
theorem dX4_goOn_11 : decode cX4_goOn 11 = .ok (.getfield 21, 3) := by decide +kernel
theorem dX4_goOn_14 : decode cX4_goOn 14 = .ok (.aload_n 0, 1) := by decide +kernel
theorem dX4_goOn_15 : decode cX4_goOn 15 = .ok (.getfield 24, 3) := by decide +kernel
theorem dX4_goOn_18 : decode cX4_goOn 18 = .ok (.iload_n 2, 1) := by decide +kernel
theorem dX4_goOn_19 : decode cX4_goOn 19 = .ok (.iconst 1, 1) := by decide +kernel
theorem dX4_goOn_20 : decode cX4_goOn 20 = .ok (.invokespecial 41, 3) := by decide +kernel
theorem dX4_goOn_23 : decode cX4_goOn 23 = .ok (.invokevirtual 44, 3) := by decide +kernel
theorem dX4_goOn_26 : decode cX4_goOn 26 = .ok (.return_, 1) := by decide +kernel
theorem dX4_stay_0 : decode cX4_stay 0 = .ok (.aload_n 0, 1) := by decide +kernel
theorem dX4_stay_1 : decode cX4_stay 1 = .ok (.new 9, 3) := by decide +kernel
theorem dX4_stay_4 : decode cX4_stay 4 = .ok (.dup, 1) := by decide +kernel
theorem dX4_stay_5 : decode cX4_stay 5 = .ok (.aload_n 0, 1) := by decide +kernel
theorem dX4_stay_6 : decode cX4_stay 6 = .ok (.getfield 27, 3) := by decide +kernel
theorem dX4_stay_9 : decode cX4_stay 9 = .ok (.iload_n 1, 1) := by decide +kernel
theorem dX4_stay_10 : decode cX4_stay 10 = .ok (.aload_n 0, 1) := by decide +kernel
theorem dX4_stay_11 : decode cX4_stay 11 = .ok (.getfield 21, 3) := by decide +kernel
theorem dX4_stay_14 : decode cX4_stay 14 = .ok (.aload_n 0, 1) := by decide +kernel
theorem dX4_stay_15 : decode cX4_stay 15 = .ok (.getfield 24, 3) := by decide +kernel
theorem dX4_stay_18 : decode cX4_stay 18 = .ok (.iconst 0, 1) := by decide +kernel
theorem dX4_stay_19 : decode cX4_stay 19 = .ok (.iconst 0, 1) := by decide +kernel
theorem dX4_stay_20 : decode cX4_stay 20 = .ok (.invokespecial 41, 3) := by decide +kernel
theorem dX4_stay_23 : decode cX4_stay 23 = .ok (.invokevirtual 44, 3) := by decide +kernel
theorem dX4_stay_26 : decode cX4_stay 26 = .ok (.return_, 1) := by decide +kernel
theorem dX4_append_0 : decode cX4_append 0 = .ok (.aload_n 0, 1) := by decide +kernel
theorem dX4_append_1 : decode cX4_append 1 = .ok (.invokevirtual 48, 3) := by decide +kernel
theorem dX4_append_4 : decode cX4_append 4 = .ok (.ifCond .eq 4, 3) := by decide +kernel
theorem dX4_append_7 : decode cX4_append 7 = .ok (.return_, 1) := by decide +kernel
theorem dX4_append_8 : decode cX4_append 8 = .ok (.aload_n 0, 1) := by decide +kernel
theorem dX4_append_9 : decode cX4_append 9 = .ok (.getfield 11, 3) := by decide +kernel
theorem dX4_append_12 : decode cX4_append 12 = .ok (.aload_n 0, 1) := by decide +kernel
theorem dX4_append_13 : decode cX4_append 13 = .ok (.getfield 17, 3) := by decide +kernel
theorem dX4_append_16 : decode cX4_append 16 = .ok (.aload_n 1, 1) := by decide +kernel
theorem dX4_append_17 : decode cX4_append 17 = .ok (.aastore, 1) := by decide +kernel
theorem dX4_append_18 : decode cX4_append 18 = .ok (.aload_n 0, 1) := by decide +kernel
theorem dX4_append_19 : decode cX4_append 19 = .ok (.dup, 1) := by decide +kernel
theorem dX4_append_20 : decode cX4_append 20 = .ok (.getfield 17, 3) := by decide +kernel
theorem dX4_append_23 : decode cX4_append 23 = .ok (.iconst 1, 1) := by decide +kernel
theorem dX4_append_24 : decode cX4_append 24 = .ok (.iadd, 1) := by decide +kernel
theorem dX4_append_25 : decode cX4_append 25 = .ok (.putfield 17, 3) := by decide +kernel
theorem dX4_append_28 : decode cX4_append 28 = .ok (.aload_n 0, 1) := by decide +kernel
theorem dX4_append_29 : decode cX4_append 29 = .ok (.aload_n 1, 1) := by decide +kernel
theorem dX4_append_30 : decode cX4_append 30 = .ok (.invokevirtual 52, 3) := by decide +kernel
theorem dX4_append_33 : decode cX4_append 33 = .ok (.putfield 27, 3) := by decide +kernel
theorem dX4_append_36 : decode cX4_append 36 = .ok (.aload_n 0, 1) := by decide +kernel
theorem dX4_append_37 : decode cX4_append 37 = .ok (.aload_n 1, 1) := by decide +kernel
theorem dX4_append_38 : decode cX4_append 38 = .ok (.invokevirtual 56, 3) := by decide +kernel
theorem dX4_append_41 : decode cX4_append 41 = .ok (.putfield 21, 3) := by decide +kernel
theorem dX4_append_44 : decode cX4_append 44 = .ok (.aload_n 0, 1) := by decide +kernel
theorem dX4_append_45 : decode cX4_append 45 = .ok (.aload_n 1, 1) := by decide +kernel
theorem dX4_append_46 : decode cX4_append 46 = .ok (.getfield 59, 3) := by decide +kernel
theorem dX4_append_49 : decode cX4_append 49 = .ok (.aload_n 1, 1) := by decide +kernel
theorem dX4_append_50 : decode cX4_append 50 = .ok (.getfield 60, 3) := by decide +kernel
theorem dX4_append_53 : decode cX4_append 53 = .ok (.iadd, 1) := by decide +kernel
theorem dX4_append_54 : decode cX4_append 54 = .ok (.iconst 3, 1) := by decide +kernel
theorem dX4_append_55 : decode cX4_append 55 = .ok (.iand, 1) := by decide +kernel
theorem dX4_append_56 : decode cX4_append 56 = .ok (.putfield 24, 3) := by decide +kernel
theorem dX4_append_59 : decode cX4_append 59 = .ok (.return_, 1) := by decide +kernel
theorem dX4_pieceAt_0 : decode cX4_pieceAt 0 = .ok (.iload_n 1, 1) := by decide +kernel
theorem dX4_pieceAt_1 : decode cX4_pieceAt 1 = .ok (.iconst 0, 1) := by decide +kernel
theorem dX4_pieceAt_2 : decode cX4_pieceAt 2 = .ok (.aload_n 0, 1) := by decide +kernel
theorem dX4_pieceAt_3 : decode cX4_pieceAt 3 = .ok (.getfield 17, 3) := by decide +kernel
theorem dX4_pieceAt_6 : decode cX4_pieceAt 6 = .ok (.iconst 1, 1) := by decide +kernel
theorem dX4_pieceAt_7 : decode cX4_pieceAt 7 = .ok (.isub, 1) := by decide +kernel
theorem dX4_pieceAt_8 : decode cX4_pieceAt 8 = .ok (.invokestatic 37, 3) := by decide +kernel
theorem dX4_pieceAt_11 : decode cX4_pieceAt 11 = .ok (.ifCond .eq 12, 3) := by decide +kernel
theorem dX4_pieceAt_14 : decode cX4_pieceAt 14 = .ok (.aload_n 0, 1) := by decide +kernel
theorem dX4_pieceAt_15 : decode cX4_pieceAt 15 = .ok (.getfield 11, 3) := by decide +kernel
theorem dX4_pieceAt_18 : decode cX4_pieceAt 18 = .ok (.iload_n 1, 1) := by decide +kernel
theorem dX4_pieceAt_19 : decode cX4_pieceAt 19 = .ok (.aaload, 1) := by decide +kernel
theorem dX4_pieceAt_20 : decode cX4_pieceAt 20 = .ok (.goto 4, 3) := by decide +kernel
theorem dX4_pieceAt_23 : decode cX4_pieceAt 23 = .ok (.aconst_null, 1) := by decide +kernel
theorem dX4_pieceAt_24 : decode cX4_pieceAt 24 = .ok (.areturn, 1) := by decide +kernel
theorem dX4_firstMinuteIn_0 : decode cX4_firstMinuteIn 0 = .ok (.iconst 0, 1) := by decide +kernel
theorem dX4_firstMinuteIn_1 : decode cX4_firstMinuteIn 1 = .ok (.istore_n 3, 1) := by decide +kernel
theorem dX4_firstMinuteIn_2 : decode cX4_firstMinuteIn 2 = .ok (.iload_n 3, 1) := by decide +kernel
theorem dX4_firstMinuteIn_3 : decode cX4_firstMinuteIn 3 = .ok (.aload_n 0, 1) := by decide +kernel
theorem dX4_firstMinuteIn_4 : decode cX4_firstMinuteIn 4 = .ok (.getfield 17, 3) := by decide +kernel
theorem dX4_firstMinuteIn_7 : decode cX4_firstMinuteIn 7 = .ok (.if_icmp .ge 43, 3) := by decide +kernel
theorem dX4_firstMinuteIn_10 : decode cX4_firstMinuteIn 10 = .ok (.aload_n 0, 1) := by decide +kernel
theorem dX4_firstMinuteIn_11 : decode cX4_firstMinuteIn 11 = .ok (.iload_n 3, 1) := by decide +kernel
theorem dX4_firstMinuteIn_12 : decode cX4_firstMinuteIn 12 = .ok (.invokevirtual 63, 3) := by decide +kernel
theorem dX4_firstMinuteIn_15 : decode cX4_firstMinuteIn 15 = .ok (.astore 4, 2) := by decide +kernel
theorem dX4_firstMinuteIn_17 : decode cX4_firstMinuteIn 17 = .ok (.aload 4, 2) := by decide +kernel
theorem dX4_firstMinuteIn_19 : decode cX4_firstMinuteIn 19 = .ok (.ifnonnull 7, 3) := by decide +kernel
theorem dX4_firstMinuteIn_22 : decode cX4_firstMinuteIn 22 = .ok (.iconst (-1), 1) := by decide +kernel
theorem dX4_firstMinuteIn_23 : decode cX4_firstMinuteIn 23 = .ok (.goto 10, 3) := by decide +kernel
theorem dX4_firstMinuteIn_26 : decode cX4_firstMinuteIn 26 = .ok (.aload 4, 2) := by decide +kernel
theorem dX4_firstMinuteIn_28 : decode cX4_firstMinuteIn 28 = .ok (.iload_n 1, 1) := by decide +kernel
theorem dX4_firstMinuteIn_29 : decode cX4_firstMinuteIn 29 = .ok (.iload_n 2, 1) := by decide +kernel
theorem dX4_firstMinuteIn_30 : decode cX4_firstMinuteIn 30 = .ok (.invokevirtual 67, 3) := by decide +kernel
theorem dX4_firstMinuteIn_33 : decode cX4_firstMinuteIn 33 = .ok (.istore 5, 2) := by decide +kernel
theorem dX4_firstMinuteIn_35 : decode cX4_firstMinuteIn 35 = .ok (.iload 5, 2) := by decide +kernel
theorem dX4_firstMinuteIn_37 : decode cX4_firstMinuteIn 37 = .ok (.iconst (-1), 1) := by decide +kernel
theorem dX4_firstMinuteIn_38 : decode cX4_firstMinuteIn 38 = .ok (.if_icmp .eq 6, 3) := by decide +kernel
theorem dX4_firstMinuteIn_41 : decode cX4_firstMinuteIn 41 = .ok (.iload 5, 2) := by decide +kernel
theorem dX4_firstMinuteIn_43 : decode cX4_firstMinuteIn 43 = .ok (.ireturn, 1) := by decide +kernel
theorem dX4_firstMinuteIn_44 : decode cX4_firstMinuteIn 44 = .ok (.iinc 3 1, 3) := by decide +kernel
theorem dX4_firstMinuteIn_47 : decode cX4_firstMinuteIn 47 = .ok (.goto (-45), 3) := by decide +kernel
theorem dX4_firstMinuteIn_50 : decode cX4_firstMinuteIn 50 = .ok (.aload_n 0, 1) := by decide +kernel
theorem dX4_firstMinuteIn_51 : decode cX4_firstMinuteIn 51 = .ok (.getfield 17, 3) := by decide +kernel
theorem dX4_firstMinuteIn_54 : decode cX4_firstMinuteIn 54 = .ok (.ifCond .ne 15, 3) := by decide +kernel
theorem dX4_firstMinuteIn_57 : decode cX4_firstMinuteIn 57 = .ok (.aload_n 0, 1) := by decide +kernel
theorem dX4_firstMinuteIn_58 : decode cX4_firstMinuteIn 58 = .ok (.getfield 21, 3) := by decide +kernel
theorem dX4_firstMinuteIn_61 : decode cX4_firstMinuteIn 61 = .ok (.iload_n 1, 1) := by decide +kernel
theorem dX4_firstMinuteIn_62 : decode cX4_firstMinuteIn 62 = .ok (.if_icmp .ne 7, 3) := by decide +kernel
theorem dX4_firstMinuteIn_65 : decode cX4_firstMinuteIn 65 = .ok (.iconst 0, 1) := by decide +kernel
theorem dX4_firstMinuteIn_66 : decode cX4_firstMinuteIn 66 = .ok (.goto 4, 3) := by decide +kernel
theorem dX4_firstMinuteIn_69 : decode cX4_firstMinuteIn 69 = .ok (.iconst (-1), 1) := by decide +kernel
theorem dX4_firstMinuteIn_70 : decode cX4_firstMinuteIn 70 = .ok (.ireturn, 1) := by decide +kernel
theorem dX4_firstOfAllMinutes_0 : decode cX4_firstOfAllMinutes 0 = .ok (.iconst 0, 1) := by decide +kernel
theorem dX4_firstOfAllMinutes_1 : decode cX4_firstOfAllMinutes 1 = .ok (.istore_n 3, 1) := by decide +kernel
theorem dX4_firstOfAllMinutes_2 : decode cX4_firstOfAllMinutes 2 = .ok (.iload_n 2, 1) := by decide +kernel
theorem dX4_firstOfAllMinutes_3 : decode cX4_firstOfAllMinutes 3 = .ok (.istore 4, 2) := by decide +kernel
theorem dX4_firstOfAllMinutes_5 : decode cX4_firstOfAllMinutes 5 = .ok (.iload 4, 2) := by decide +kernel
theorem dX4_firstOfAllMinutes_7 : decode cX4_firstOfAllMinutes 7 = .ok (.aload_n 0, 1) := by decide +kernel
theorem dX4_firstOfAllMinutes_8 : decode cX4_firstOfAllMinutes 8 = .ok (.getfield 27, 3) := by decide +kernel
theorem dX4_firstOfAllMinutes_11 : decode cX4_firstOfAllMinutes 11 = .ok (.if_icmp .gt 31, 3) := by decide +kernel
theorem dX4_firstOfAllMinutes_14 : decode cX4_firstOfAllMinutes 14 = .ok (.aload_n 0, 1) := by decide +kernel
theorem dX4_firstOfAllMinutes_15 : decode cX4_firstOfAllMinutes 15 = .ok (.iload 4, 2) := by decide +kernel
theorem dX4_firstOfAllMinutes_17 : decode cX4_firstOfAllMinutes 17 = .ok (.iload_n 3, 1) := by decide +kernel
theorem dX4_firstOfAllMinutes_18 : decode cX4_firstOfAllMinutes 18 = .ok (.invokevirtual 71, 3) := by decide +kernel
theorem dX4_firstOfAllMinutes_21 : decode cX4_firstOfAllMinutes 21 = .ok (.istore_n 3, 1) := by decide +kernel
theorem dX4_firstOfAllMinutes_22 : decode cX4_firstOfAllMinutes 22 = .ok (.aload_n 0, 1) := by decide +kernel
theorem dX4_firstOfAllMinutes_23 : decode cX4_firstOfAllMinutes 23 = .ok (.iload 4, 2) := by decide +kernel
theorem dX4_firstOfAllMinutes_25 : decode cX4_firstOfAllMinutes 25 = .ok (.iload_n 3, 1) := by decide +kernel
theorem dX4_firstOfAllMinutes_26 : decode cX4_firstOfAllMinutes 26 = .ok (.invokevirtual 74, 3) := by decide +kernel
theorem dX4_firstOfAllMinutes_29 : decode cX4_firstOfAllMinutes 29 = .ok (.iload_n 1, 1) := by decide +kernel
theorem dX4_firstOfAllMinutes_30 : decode cX4_firstOfAllMinutes 30 = .ok (.if_icmp .ne 6, 3) := by decide +kernel
theorem dX4_firstOfAllMinutes_33 : decode cX4_firstOfAllMinutes 33 = .ok (.iload 4, 2) := by decide +kernel
theorem dX4_firstOfAllMinutes_35 : decode cX4_firstOfAllMinutes 35 = .ok (.ireturn, 1) := by decide +kernel
theorem dX4_firstOfAllMinutes_36 : decode cX4_firstOfAllMinutes 36 = .ok (.iinc 4 1, 3) := by decide +kernel
theorem dX4_firstOfAllMinutes_39 : decode cX4_firstOfAllMinutes 39 = .ok (.goto (-34), 3) := by decide +kernel
theorem dX4_firstOfAllMinutes_42 : decode cX4_firstOfAllMinutes 42 = .ok (.iconst (-1), 1) := by decide +kernel
theorem dX4_firstOfAllMinutes_43 : decode cX4_firstOfAllMinutes 43 = .ok (.ireturn, 1) := by decide +kernel
theorem dX4_pieceAtMinute_0 : decode cX4_pieceAtMinute 0 = .ok (.iload_n 2, 1) := by decide +kernel
theorem dX4_pieceAtMinute_1 : decode cX4_pieceAtMinute 1 = .ok (.istore_n 3, 1) := by decide +kernel
theorem dX4_pieceAtMinute_2 : decode cX4_pieceAtMinute 2 = .ok (.iload_n 3, 1) := by decide +kernel
theorem dX4_pieceAtMinute_3 : decode cX4_pieceAtMinute 3 = .ok (.aload_n 0, 1) := by decide +kernel
theorem dX4_pieceAtMinute_4 : decode cX4_pieceAtMinute 4 = .ok (.getfield 17, 3) := by decide +kernel
theorem dX4_pieceAtMinute_7 : decode cX4_pieceAtMinute 7 = .ok (.iconst 1, 1) := by decide +kernel
theorem dX4_pieceAtMinute_8 : decode cX4_pieceAtMinute 8 = .ok (.isub, 1) := by decide +kernel
theorem dX4_pieceAtMinute_9 : decode cX4_pieceAtMinute 9 = .ok (.if_icmp .ge 18, 3) := by decide +kernel
theorem dX4_pieceAtMinute_12 : decode cX4_pieceAtMinute 12 = .ok (.aload_n 0, 1) := by decide +kernel
theorem dX4_pieceAtMinute_13 : decode cX4_pieceAtMinute 13 = .ok (.iload_n 3, 1) := by decide +kernel
theorem dX4_pieceAtMinute_14 : decode cX4_pieceAtMinute 14 = .ok (.iload_n 1, 1) := by decide +kernel
theorem dX4_pieceAtMinute_15 : decode cX4_pieceAtMinute 15 = .ok (.invokevirtual 77, 3) := by decide +kernel
theorem dX4_pieceAtMinute_18 : decode cX4_pieceAtMinute 18 = .ok (.ifCond .eq 9, 3) := by decide +kernel
theorem dX4_pieceAtMinute_21 : decode cX4_pieceAtMinute 21 = .ok (.iinc 3 1, 3) := by decide +kernel
theorem dX4_pieceAtMinute_24 : decode cX4_pieceAtMinute 24 = .ok (.goto (-22), 3) := by decide +kernel
theorem dX4_pieceAtMinute_27 : decode cX4_pieceAtMinute 27 = .ok (.iload_n 3, 1) := by decide +kernel
theorem dX4_pieceAtMinute_28 : decode cX4_pieceAtMinute 28 = .ok (.ireturn, 1) := by decide +kernel
theorem dX4_endsAhead_0 : decode cX4_endsAhead 0 = .ok (.aload_n 0, 1) := by decide +kernel
theorem dX4_endsAhead_1 : decode cX4_endsAhead 1 = .ok (.iload_n 1, 1) := by decide +kernel
theorem dX4_endsAhead_2 : decode cX4_endsAhead 2 = .ok (.invokevirtual 63, 3) := by decide +kernel
theorem dX4_endsAhead_5 : decode cX4_endsAhead 5 = .ok (.astore_n 3, 1) := by decide +kernel
theorem dX4_endsAhead_6 : decode cX4_endsAhead 6 = .ok (.aload_n 3, 1) := by decide +kernel
theorem dX4_endsAhead_7 : decode cX4_endsAhead 7 = .ok (.ifnull 15, 3) := by decide +kernel
theorem dX4_endsAhead_10 : decode cX4_endsAhead 10 = .ok (.aload_n 3, 1) := by decide +kernel
theorem dX4_endsAhead_11 : decode cX4_endsAhead 11 = .ok (.invokevirtual 52, 3) := by decide +kernel
theorem dX4_endsAhead_14 : decode cX4_endsAhead 14 = .ok (.iload_n 2, 1) := by decide +kernel
theorem dX4_endsAhead_15 : decode cX4_endsAhead 15 = .ok (.if_icmp .ge 7, 3) := by decide +kernel
theorem dX4_endsAhead_18 : decode cX4_endsAhead 18 = .ok (.iconst 1, 1) := by decide +kernel
theorem dX4_endsAhead_19 : decode cX4_endsAhead 19 = .ok (.goto 4, 3) := by decide +kernel
theorem dX4_endsAhead_22 : decode cX4_endsAhead 22 = .ok (.iconst 0, 1) := by decide +kernel
theorem dX4_endsAhead_23 : decode cX4_endsAhead 23 = .ok (.ireturn, 1) := by decide +kernel
theorem dX4_cellAtMinute_0 : decode cX4_cellAtMinute 0 = .ok (.aload_n 0, 1) := by decide +kernel
theorem dX4_cellAtMinute_1 : decode cX4_cellAtMinute 1 = .ok (.iload_n 2, 1) := by decide +kernel
theorem dX4_cellAtMinute_2 : decode cX4_cellAtMinute 2 = .ok (.invokevirtual 63, 3) := by decide +kernel
theorem dX4_cellAtMinute_5 : decode cX4_cellAtMinute 5 = .ok (.astore_n 3, 1) := by decide +kernel
theorem dX4_cellAtMinute_6 : decode cX4_cellAtMinute 6 = .ok (.aload_n 3, 1) := by decide +kernel
theorem dX4_cellAtMinute_7 : decode cX4_cellAtMinute 7 = .ok (.ifnonnull 10, 3) := by decide +kernel
theorem dX4_cellAtMinute_10 : decode cX4_cellAtMinute 10 = .ok (.aload_n 0, 1) := by decide +kernel
theorem dX4_cellAtMinute_11 : decode cX4_cellAtMinute 11 = .ok (.getfield 21, 3) := by decide +kernel
theorem dX4_cellAtMinute_14 : decode cX4_cellAtMinute 14 = .ok (.goto 13, 3) := by decide +kernel
theorem dX4_cellAtMinute_17 : decode cX4_cellAtMinute 17 = .ok (.aload_n 3, 1) := by decide +kernel
theorem dX4_cellAtMinute_18 : decode cX4_cellAtMinute 18 = .ok (.iload_n 1, 1) := by decide +kernel
theorem dX4_cellAtMinute_19 : decode cX4_cellAtMinute 19 = .ok (.aload_n 3, 1) := by decide +kernel
theorem dX4_cellAtMinute_20 : decode cX4_cellAtMinute 20 = .ok (.getfield 81, 3) := by decide +kernel
theorem dX4_cellAtMinute_23 : decode cX4_cellAtMinute 23 = .ok (.isub, 1) := by decide +kernel
theorem dX4_cellAtMinute_24 : decode cX4_cellAtMinute 24 = .ok (.invokevirtual 84, 3) := by decide +kernel
theorem dX4_cellAtMinute_27 : decode cX4_cellAtMinute 27 = .ok (.ireturn, 1) := by decide +kernel
theorem dX4_followedOf_0 : decode cX4_followedOf 0 = .ok (.iconst 0, 1) := by decide +kernel
theorem dX4_followedOf_1 : decode cX4_followedOf 1 = .ok (.istore_n 2, 1) := by decide +kernel
theorem dX4_followedOf_2 : decode cX4_followedOf 2 = .ok (.iconst 0, 1) := by decide +kernel
theorem dX4_followedOf_3 : decode cX4_followedOf 3 = .ok (.istore_n 3, 1) := by decide +kernel
theorem dX4_followedOf_4 : decode cX4_followedOf 4 = .ok (.iload_n 3, 1) := by decide +kernel
theorem dX4_followedOf_5 : decode cX4_followedOf 5 = .ok (.aload_n 0, 1) := by decide +kernel
theorem dX4_followedOf_6 : decode cX4_followedOf 6 = .ok (.getfield 17, 3) := by decide +kernel
theorem dX4_followedOf_9 : decode cX4_followedOf 9 = .ok (.if_icmp .ge 59, 3) := by decide +kernel
theorem dX4_followedOf_12 : decode cX4_followedOf 12 = .ok (.aload_n 0, 1) := by decide +kernel
theorem dX4_followedOf_13 : decode cX4_followedOf 13 = .ok (.iload_n 3, 1) := by decide +kernel
theorem dX4_followedOf_14 : decode cX4_followedOf 14 = .ok (.invokevirtual 63, 3) := by decide +kernel
theorem dX4_followedOf_17 : decode cX4_followedOf 17 = .ok (.astore 4, 2) := by decide +kernel
theorem dX4_followedOf_19 : decode cX4_followedOf 19 = .ok (.aload 4, 2) := by decide +kernel
theorem dX4_followedOf_21 : decode cX4_followedOf 21 = .ok (.ifnull 41, 3) := by decide +kernel
theorem dX4_followedOf_24 : decode cX4_followedOf 24 = .ok (.aload 4, 2) := by decide +kernel
theorem dX4_followedOf_26 : decode cX4_followedOf 26 = .ok (.getfield 88, 3) := by decide +kernel
theorem dX4_followedOf_29 : decode cX4_followedOf 29 = .ok (.ifCond .ne 6, 3) := by decide +kernel
theorem dX4_followedOf_32 : decode cX4_followedOf 32 = .ok (.goto 30, 3) := by decide +kernel
theorem dX4_followedOf_35 : decode cX4_followedOf 35 = .ok (.aload_n 1, 1) := by decide +kernel
theorem dX4_followedOf_36 : decode cX4_followedOf 36 = .ok (.iload_n 2, 1) := by decide +kernel
theorem dX4_followedOf_37 : decode cX4_followedOf 37 = .ok (.invokevirtual 63, 3) := by decide +kernel
theorem dX4_followedOf_40 : decode cX4_followedOf 40 = .ok (.astore 5, 2) := by decide +kernel
theorem dX4_followedOf_42 : decode cX4_followedOf 42 = .ok (.aload 5, 2) := by decide +kernel
theorem dX4_followedOf_44 : decode cX4_followedOf 44 = .ok (.ifnull 13, 3) := by decide +kernel
theorem dX4_followedOf_47 : decode cX4_followedOf 47 = .ok (.aload 4, 2) := by decide +kernel
theorem dX4_followedOf_49 : decode cX4_followedOf 49 = .ok (.aload 5, 2) := by decide +kernel
theorem dX4_followedOf_51 : decode cX4_followedOf 51 = .ok (.invokevirtual 92, 3) := by decide +kernel
theorem dX4_followedOf_54 : decode cX4_followedOf 54 = .ok (.ifCond .ne 5, 3) := by decide +kernel
theorem dX4_followedOf_57 : decode cX4_followedOf 57 = .ok (.iload_n 2, 1) := by decide +kernel
theorem dX4_followedOf_58 : decode cX4_followedOf 58 = .ok (.ireturn, 1) := by decide +kernel
theorem dX4_followedOf_59 : decode cX4_followedOf 59 = .ok (.iinc 2 1, 3) := by decide +kernel
theorem dX4_followedOf_62 : decode cX4_followedOf 62 = .ok (.iinc 3 1, 3) := by decide +kernel
theorem dX4_followedOf_65 : decode cX4_followedOf 65 = .ok (.goto (-61), 3) := by decide +kernel
theorem dX4_followedOf_68 : decode cX4_followedOf 68 = .ok (.iload_n 2, 1) := by decide +kernel
theorem dX4_followedOf_69 : decode cX4_followedOf 69 = .ok (.ireturn, 1) := by decide +kernel
theorem dX5_init_0 : decode cX5_init 0 = .ok (.aload_n 0, 1) := by decide +kernel
theorem dX5_init_1 : decode cX5_init 1 = .ok (.invokespecial 1, 3) := by decide +kernel
theorem dX5_init_4 : decode cX5_init 4 = .ok (.aload_n 0, 1) := by decide +kernel
theorem dX5_init_5 : decode cX5_init 5 = .ok (.iconst 0, 1) := by decide +kernel
theorem dX5_init_6 : decode cX5_init 6 = .ok (.putfield 7, 3) := by decide +kernel
theorem dX5_init_9 : decode cX5_init 9 = .ok (.aload_n 0, 1) := by decide +kernel
theorem dX5_init_10 : decode cX5_init 10 = .ok (.new 13, 3) := by decide +kernel
theorem dX5_init_13 : decode cX5_init 13 = .ok (.dup, 1) := by decide +kernel
theorem dX5_init_14 : decode cX5_init 14 = .ok (.bipush 30, 2) := by decide +kernel
theorem dX5_init_16 : decode cX5_init 16 = .ok (.iconst 0, 1) := by decide +kernel
theorem dX5_init_17 : decode cX5_init 17 = .ok (.invokespecial 15, 3) := by decide +kernel
theorem dX5_init_20 : decode cX5_init 20 = .ok (.putfield 18, 3) := by decide +kernel
theorem dX5_init_23 : decode cX5_init 23 = .ok (.aload_n 0, 1) := by decide +kernel
theorem dX5_init_24 : decode cX5_init 24 = .ok (.bipush 10, 2) := by decide +kernel
theorem dX5_init_26 : decode cX5_init 26 = .ok (.anewarray 22, 3) := by decide +kernel
theorem dX5_init_29 : decode cX5_init 29 = .ok (.putfield 24, 3) := by decide +kernel
theorem dX5_init_32 : decode cX5_init 32 = .ok (.aload_n 0, 1) := by decide +kernel
theorem dX5_init_33 : decode cX5_init 33 = .ok (.iconst 0, 1) := by decide +kernel
theorem dX5_init_34 : decode cX5_init 34 = .ok (.putfield 28, 3) := by decide +kernel
theorem dX5_init_37 : decode cX5_init 37 = .ok (.aload_n 0, 1) := by decide +kernel
theorem dX5_init_38 : decode cX5_init 38 = .ok (.bipush 10, 2) := by decide +kernel
theorem dX5_init_40 : decode cX5_init 40 = .ok (.putfield 31, 3) := by decide +kernel
theorem dX5_init_43 : decode cX5_init 43 = .ok (.aload_n 0, 1) := by decide +kernel
theorem dX5_init_44 : decode cX5_init 44 = .ok (.bipush 8, 2) := by decide +kernel
theorem dX5_init_46 : decode cX5_init 46 = .ok (.anewarray 34, 3) := by decide +kernel
theorem dX5_init_49 : decode cX5_init 49 = .ok (.putfield 36, 3) := by decide +kernel
theorem dX5_init_52 : decode cX5_init 52 = .ok (.aload_n 0, 1) := by decide +kernel
theorem dX5_init_53 : decode cX5_init 53 = .ok (.iconst 0, 1) := by decide +kernel
theorem dX5_init_54 : decode cX5_init 54 = .ok (.putfield 40, 3) := by decide +kernel
theorem dX5_init_57 : decode cX5_init 57 = .ok (.aload_n 0, 1) := by decide +kernel
theorem dX5_init_58 : decode cX5_init 58 = .ok (.bipush 40, 2) := by decide +kernel
theorem dX5_init_60 : decode cX5_init 60 = .ok (.anewarray 43, 3) := by decide +kernel
theorem dX5_init_63 : decode cX5_init 63 = .ok (.putfield 45, 3) := by decide +kernel
theorem dX5_init_66 : decode cX5_init 66 = .ok (.aload_n 0, 1) := by decide +kernel
theorem dX5_init_67 : decode cX5_init 67 = .ok (.iconst 0, 1) := by decide +kernel
theorem dX5_init_68 : decode cX5_init 68 = .ok (.putfield 49, 3) := by decide +kernel
theorem dX5_init_71 : decode cX5_init 71 = .ok (.aload_n 0, 1) := by decide +kernel
theorem dX5_init_72 : decode cX5_init 72 = .ok (.bipush 8, 2) := by decide +kernel
theorem dX5_init_74 : decode cX5_init 74 = .ok (.newarray .int, 2) := by decide +kernel
theorem dX5_init_76 : decode cX5_init 76 = .ok (.putfield 52, 3) := by decide +kernel
theorem dX5_init_79 : decode cX5_init 79 = .ok (.return_, 1) := by decide +kernel
theorem dX5_setStart_0 : decode cX5_setStart 0 = .ok (.iload_n 1, 1) := by decide +kernel
theorem dX5_setStart_1 : decode cX5_setStart 1 = .ok (.iconst 0, 1) := by decide +kernel
theorem dX5_setStart_2 : decode cX5_setStart 2 = .ok (.sipush 255, 3) := by decide +kernel
theorem dX5_setStart_5 : decode cX5_setStart 5 = .ok (.invokestatic 56, 3) := by decide +kernel
theorem dX5_setStart_8 : decode cX5_setStart 8 = .ok (.invokestatic 60, 3) := by decide +kernel
theorem dX5_setStart_11 : decode cX5_setStart 11 = .ok (.aload_n 0, 1) := by decide +kernel
theorem dX5_setStart_12 : decode cX5_setStart 12 = .ok (.getfield 18, 3) := by decide +kernel
theorem dX5_setStart_15 : decode cX5_setStart 15 = .ok (.getfield 64, 3) := by decide +kernel
theorem dX5_setStart_18 : decode cX5_setStart 18 = .ok (.ifCond .ne 14, 3) := by decide +kernel
theorem dX5_setStart_21 : decode cX5_setStart 21 = .ok (.aload_n 0, 1) := by decide +kernel
theorem dX5_setStart_22 : decode cX5_setStart 22 = .ok (.getfield 40, 3) := by decide +kernel
theorem dX5_setStart_25 : decode cX5_setStart 25 = .ok (.ifCond .ne 7, 3) := by decide +kernel
theorem dX5_setStart_28 : decode cX5_setStart 28 = .ok (.iconst 1, 1) := by decide +kernel
theorem dX5_setStart_29 : decode cX5_setStart 29 = .ok (.goto 4, 3) := by decide +kernel
theorem dX5_setStart_32 : decode cX5_setStart 32 = .ok (.iconst 0, 1) := by decide +kernel
theorem dX5_setStart_33 : decode cX5_setStart 33 = .ok (.invokestatic 67, 3) := by decide +kernel
theorem dX5_setStart_36 : decode cX5_setStart 36 = .ok (.aload_n 0, 1) := by decide +kernel
theorem dX5_setStart_37 : decode cX5_setStart 37 = .ok (.getfield 7, 3) := by decide +kernel
theorem dX5_setStart_40 : decode cX5_setStart 40 = .ok (.istore_n 2, 1) := by decide +kernel
theorem dX5_setStart_41 : decode cX5_setStart 41 = .ok (.aload_n 0, 1) := by decide +kernel
theorem dX5_setStart_42 : decode cX5_setStart 42 = .ok (.iload_n 1, 1) := by decide +kernel
theorem dX5_setStart_43 : decode cX5_setStart 43 = .ok (.putfield 7, 3) := by decide +kernel
theorem dX5_setStart_46 : decode cX5_setStart 46 = .ok (.aload_n 0, 1) := by decide +kernel
theorem dX5_setStart_47 : decode cX5_setStart 47 = .ok (.getfield 18, 3) := by decide +kernel
theorem dX5_setStart_50 : decode cX5_setStart 50 = .ok (.iload_n 1, 1) := by decide +kernel
theorem dX5_setStart_51 : decode cX5_setStart 51 = .ok (.invokevirtual 70, 3) := by decide +kernel
theorem dX5_setStart_54 : decode cX5_setStart 54 = .ok (.iload_n 2, 1) := by decide +kernel
theorem dX5_setStart_55 : decode cX5_setStart 55 = .ok (.ireturn, 1) := by decide +kernel
theorem dX5_addEntry_0 : decode cX5_addEntry 0 = .ok (.iload_n 1, 1) := by decide +kernel
theorem dX5_addEntry_1 : decode cX5_addEntry 1 = .ok (.iconst 1, 1) := by decide +kernel
theorem dX5_addEntry_2 : decode cX5_addEntry 2 = .ok (.bipush 15, 2) := by decide +kernel
theorem dX5_addEntry_4 : decode cX5_addEntry 4 = .ok (.invokestatic 56, 3) := by decide +kernel
theorem dX5_addEntry_7 : decode cX5_addEntry 7 = .ok (.ifCond .eq 16, 3) := by decide +kernel
theorem dX5_addEntry_10 : decode cX5_addEntry 10 = .ok (.iload_n 2, 1) := by decide +kernel
theorem dX5_addEntry_11 : decode cX5_addEntry 11 = .ok (.iconst 0, 1) := by decide +kernel
theorem dX5_addEntry_12 : decode cX5_addEntry 12 = .ok (.iconst 3, 1) := by decide +kernel
theorem dX5_addEntry_13 : decode cX5_addEntry 13 = .ok (.invokestatic 56, 3) := by decide +kernel
theorem dX5_addEntry_16 : decode cX5_addEntry 16 = .ok (.ifCond .eq 7, 3) := by decide +kernel
theorem dX5_addEntry_19 : decode cX5_addEntry 19 = .ok (.iconst 1, 1) := by decide +kernel
theorem dX5_addEntry_20 : decode cX5_addEntry 20 = .ok (.goto 4, 3) := by decide +kernel
theorem dX5_addEntry_23 : decode cX5_addEntry 23 = .ok (.iconst 0, 1) := by decide +kernel
theorem dX5_addEntry_24 : decode cX5_addEntry 24 = .ok (.invokestatic 60, 3) := by decide +kernel
theorem dX5_addEntry_27 : decode cX5_addEntry 27 = .ok (.aload_n 0, 1) := by decide +kernel
theorem dX5_addEntry_28 : decode cX5_addEntry 28 = .ok (.getfield 18, 3) := by decide +kernel
theorem dX5_addEntry_31 : decode cX5_addEntry 31 = .ok (.invokevirtual 74, 3) := by decide +kernel
theorem dX5_addEntry_34 : decode cX5_addEntry 34 = .ok (.ifCond .ne 18, 3) := by decide +kernel
theorem dX5_addEntry_37 : decode cX5_addEntry 37 = .ok (.aload_n 0, 1) := by decide +kernel
theorem dX5_addEntry_38 : decode cX5_addEntry 38 = .ok (.getfield 18, 3) := by decide +kernel
theorem dX5_addEntry_41 : decode cX5_addEntry 41 = .ok (.iload_n 1, 1) := by decide +kernel
theorem dX5_addEntry_42 : decode cX5_addEntry 42 = .ok (.invokevirtual 78, 3) := by decide +kernel
theorem dX5_addEntry_45 : decode cX5_addEntry 45 = .ok (.ifCond .eq 7, 3) := by decide +kernel
theorem dX5_addEntry_48 : decode cX5_addEntry 48 = .ok (.iconst 1, 1) := by decide +kernel
theorem dX5_addEntry_49 : decode cX5_addEntry 49 = .ok (.goto 4, 3) := by decide +kernel
theorem dX5_addEntry_52 : decode cX5_addEntry 52 = .ok (.iconst 0, 1) := by decide +kernel
theorem dX5_addEntry_53 : decode cX5_addEntry 53 = .ok (.invokestatic 67, 3) := by decide +kernel
theorem dX5_addEntry_56 : decode cX5_addEntry 56 = .ok (.aload_n 0, 1) := by decide +kernel
theorem dX5_addEntry_57 : decode cX5_addEntry 57 = .ok (.getfield 18, 3) := by decide +kernel
theorem dX5_addEntry_60 : decode cX5_addEntry 60 = .ok (.iload_n 1, 1) := by decide +kernel
theorem dX5_addEntry_61 : decode cX5_addEntry 61 = .ok (.iload_n 2, 1) := by decide +kernel
theorem dX5_addEntry_62 : decode cX5_addEntry 62 = .ok (.invokevirtual 82, 3) := by decide +kernel
theorem dX5_addEntry_65 : decode cX5_addEntry 65 = .ok (.aload_n 0, 1) := by decide +kernel
theorem dX5_addEntry_66 : decode cX5_addEntry 66 = .ok (.getfield 18, 3) := by decide +kernel
theorem dX5_addEntry_69 : decode cX5_addEntry 69 = .ok (.getfield 85, 3) := by decide +kernel
theorem dX5_addEntry_72 : decode cX5_addEntry 72 = .ok (.ireturn, 1) := by decide +kernel
theorem dX5_addGate_0 : decode cX5_addGate 0 = .ok (.aload_n 0, 1) := by decide +kernel
theorem dX5_addGate_1 : decode cX5_addGate 1 = .ok (.iload_n 1, 1) := by decide +kernel
theorem dX5_addGate_2 : decode cX5_addGate 2 = .ok (.invokevirtual 88, 3) := by decide +kernel
theorem dX5_addGate_5 : decode cX5_addGate 5 = .ok (.astore_n 3, 1) := by decide +kernel
theorem dX5_addGate_6 : decode cX5_addGate 6 = .ok (.iload_n 2, 1) := by decide +kernel
theorem dX5_addGate_7 : decode cX5_addGate 7 = .ok (.iconst 0, 1) := by decide +kernel
theorem dX5_addGate_8 : decode cX5_addGate 8 = .ok (.bipush 100, 2) := by decide +kernel
theorem dX5_addGate_10 : decode cX5_addGate 10 = .ok (.invokestatic 56, 3) := by decide +kernel
theorem dX5_addGate_13 : decode cX5_addGate 13 = .ok (.ifCond .eq 15, 3) := by decide +kernel
theorem dX5_addGate_16 : decode cX5_addGate 16 = .ok (.iload_n 1, 1) := by decide +kernel
theorem dX5_addGate_17 : decode cX5_addGate 17 = .ok (.aload_n 0, 1) := by decide +kernel
theorem dX5_addGate_18 : decode cX5_addGate 18 = .ok (.invokevirtual 92, 3) := by decide +kernel
theorem dX5_addGate_21 : decode cX5_addGate 21 = .ok (.if_icmp .le 7, 3) := by decide +kernel
theorem dX5_addGate_24 : decode cX5_addGate 24 = .ok (.iconst 1, 1) := by decide +kernel
theorem dX5_addGate_25 : decode cX5_addGate 25 = .ok (.goto 4, 3) := by decide +kernel
theorem dX5_addGate_28 : decode cX5_addGate 28 = .ok (.iconst 0, 1) := by decide +kernel
theorem dX5_addGate_29 : decode cX5_addGate 29 = .ok (.invokestatic 60, 3) := by decide +kernel
theorem dX5_addGate_32 : decode cX5_addGate 32 = .ok (.aload_n 0, 1) := by decide +kernel
theorem dX5_addGate_33 : decode cX5_addGate 33 = .ok (.getfield 28, 3) := by decide +kernel
theorem dX5_addGate_36 : decode cX5_addGate 36 = .ok (.bipush 10, 2) := by decide +kernel
theorem dX5_addGate_38 : decode cX5_addGate 38 = .ok (.if_icmp .ge 7, 3) := by decide +kernel
theorem dX5_addGate_41 : decode cX5_addGate 41 = .ok (.iconst 1, 1) := by decide +kernel
theorem dX5_addGate_42 : decode cX5_addGate 42 = .ok (.goto 4, 3) := by decide +kernel
theorem dX5_addGate_45 : decode cX5_addGate 45 = .ok (.iconst 0, 1) := by decide +kernel
theorem dX5_addGate_46 : decode cX5_addGate 46 = .ok (.invokestatic 67, 3) := by decide +kernel
theorem dX5_addGate_49 : decode cX5_addGate 49 = .ok (.aload_n 0, 1) := by decide +kernel
theorem dX5_addGate_50 : decode cX5_addGate 50 = .ok (.getfield 28, 3) := by decide +kernel
theorem dX5_addGate_53 : decode cX5_addGate 53 = .ok (.istore 4, 2) := by decide +kernel
theorem dX5_addGate_55 : decode cX5_addGate 55 = .ok (.aload_n 0, 1) := by decide +kernel
theorem dX5_addGate_56 : decode cX5_addGate 56 = .ok (.getfield 24, 3) := by decide +kernel
theorem dX5_addGate_59 : decode cX5_addGate 59 = .ok (.iload 4, 2) := by decide +kernel
theorem dX5_addGate_61 : decode cX5_addGate 61 = .ok (.new 22, 3) := by decide +kernel
theorem dX5_addGate_64 : decode cX5_addGate 64 = .ok (.dup, 1) := by decide +kernel
theorem dX5_addGate_65 : decode cX5_addGate 65 = .ok (.iload_n 1, 1) := by decide +kernel
theorem dX5_addGate_66 : decode cX5_addGate 66 = .ok (.aload_n 3, 1) := by decide +kernel
theorem dX5_addGate_67 : decode cX5_addGate 67 = .ok (.invokevirtual 96, 3) := by decide +kernel
theorem dX5_addGate_70 : decode cX5_addGate 70 = .ok (.aload_n 3, 1) := by decide +kernel
theorem dX5_addGate_71 : decode cX5_addGate 71 = .ok (.invokevirtual 101, 3) := by decide +kernel
theorem dX5_addGate_74 : decode cX5_addGate 74 = .ok (.iload_n 2, 1) := by decide +kernel
theorem dX5_addGate_75 : decode cX5_addGate 75 = .ok (.iadd, 1) := by decide +kernel
theorem dX5_addGate_76 : decode cX5_addGate 76 = .ok (.invokespecial 104, 3) := by decide +kernel
theorem dX5_addGate_79 : decode cX5_addGate 79 = .ok (.aastore, 1) := by decide +kernel
theorem dX5_addGate_80 : decode cX5_addGate 80 = .ok (.aload_n 0, 1) := by decide +kernel
theorem dX5_addGate_81 : decode cX5_addGate 81 = .ok (.dup, 1) := by decide +kernel
theorem dX5_addGate_82 : decode cX5_addGate 82 = .ok (.getfield 28, 3) := by decide +kernel
theorem dX5_addGate_85 : decode cX5_addGate 85 = .ok (.iconst 1, 1) := by decide +kernel
theorem dX5_addGate_86 : decode cX5_addGate 86 = .ok (.iadd, 1) := by decide +kernel
theorem dX5_addGate_87 : decode cX5_addGate 87 = .ok (.putfield 28, 3) := by decide +kernel
theorem dX5_addGate_90 : decode cX5_addGate 90 = .ok (.iload 4, 2) := by decide +kernel
theorem dX5_addGate_92 : decode cX5_addGate 92 = .ok (.ireturn, 1) := by decide +kernel
theorem dX5_cut_0 : decode cX5_cut 0 = .ok (.iload_n 1, 1) := by decide +kernel
theorem dX5_cut_1 : decode cX5_cut 1 = .ok (.iconst 0, 1) := by decide +kernel
theorem dX5_cut_2 : decode cX5_cut 2 = .ok (.bipush 10, 2) := by decide +kernel
theorem dX5_cut_4 : decode cX5_cut 4 = .ok (.invokestatic 56, 3) := by decide +kernel
theorem dX5_cut_7 : decode cX5_cut 7 = .ok (.invokestatic 60, 3) := by decide +kernel
theorem dX5_cut_10 : decode cX5_cut 10 = .ok (.aload_n 0, 1) := by decide +kernel
theorem dX5_cut_11 : decode cX5_cut 11 = .ok (.getfield 31, 3) := by decide +kernel
theorem dX5_cut_14 : decode cX5_cut 14 = .ok (.istore_n 2, 1) := by decide +kernel
theorem dX5_cut_15 : decode cX5_cut 15 = .ok (.aload_n 0, 1) := by decide +kernel
theorem dX5_cut_16 : decode cX5_cut 16 = .ok (.iload_n 1, 1) := by decide +kernel
theorem dX5_cut_17 : decode cX5_cut 17 = .ok (.putfield 31, 3) := by decide +kernel
theorem dX5_cut_20 : decode cX5_cut 20 = .ok (.iload_n 2, 1) := by decide +kernel
theorem dX5_cut_21 : decode cX5_cut 21 = .ok (.ireturn, 1) := by decide +kernel
theorem dX5_enter_0 : decode cX5_enter 0 = .ok (.aload_n 0, 1) := by decide +kernel
theorem dX5_enter_1 : decode cX5_enter 1 = .ok (.getfield 40, 3) := by decide +kernel
theorem dX5_enter_4 : decode cX5_enter 4 = .ok (.bipush 8, 2) := by decide +kernel
theorem dX5_enter_6 : decode cX5_enter 6 = .ok (.if_icmp .ge 7, 3) := by decide +kernel
theorem dX5_enter_9 : decode cX5_enter 9 = .ok (.iconst 1, 1) := by decide +kernel
theorem dX5_enter_10 : decode cX5_enter 10 = .ok (.goto 4, 3) := by decide +kernel
theorem dX5_enter_13 : decode cX5_enter 13 = .ok (.iconst 0, 1) := by decide +kernel
theorem dX5_enter_14 : decode cX5_enter 14 = .ok (.invokestatic 67, 3) := by decide +kernel
theorem dX5_enter_17 : decode cX5_enter 17 = .ok (.aload_n 0, 1) := by decide +kernel
theorem dX5_enter_18 : decode cX5_enter 18 = .ok (.getfield 40, 3) := by decide +kernel
theorem dX5_enter_21 : decode cX5_enter 21 = .ok (.istore_n 1, 1) := by decide +kernel
theorem dX5_enter_22 : decode cX5_enter 22 = .ok (.aload_n 0, 1) := by decide +kernel
theorem dX5_enter_23 : decode cX5_enter 23 = .ok (.getfield 36, 3) := by decide +kernel
theorem dX5_enter_26 : decode cX5_enter 26 = .ok (.iload_n 1, 1) := by decide +kernel
theorem dX5_enter_27 : decode cX5_enter 27 = .ok (.new 34, 3) := by decide +kernel
theorem dX5_enter_30 : decode cX5_enter 30 = .ok (.dup, 1) := by decide +kernel
theorem dX5_enter_31 : decode cX5_enter 31 = .ok (.aload_n 0, 1) := by decide +kernel
theorem dX5_enter_32 : decode cX5_enter 32 = .ok (.getfield 7, 3) := by decide +kernel
theorem dX5_enter_35 : decode cX5_enter 35 = .ok (.invokespecial 107, 3) := by decide +kernel
theorem dX5_enter_38 : decode cX5_enter 38 = .ok (.aastore, 1) := by decide +kernel
theorem dX5_enter_39 : decode cX5_enter 39 = .ok (.aload_n 0, 1) := by decide +kernel
theorem dX5_enter_40 : decode cX5_enter 40 = .ok (.dup, 1) := by decide +kernel
theorem dX5_enter_41 : decode cX5_enter 41 = .ok (.getfield 40, 3) := by decide +kernel
theorem dX5_enter_44 : decode cX5_enter 44 = .ok (.iconst 1, 1) := by decide +kernel
theorem dX5_enter_45 : decode cX5_enter 45 = .ok (.iadd, 1) := by decide +kernel
theorem dX5_enter_46 : decode cX5_enter 46 = .ok (.putfield 40, 3) := by decide +kernel
theorem dX5_enter_49 : decode cX5_enter 49 = .ok (.iload_n 1, 1) := by decide +kernel
theorem dX5_enter_50 : decode cX5_enter 50 = .ok (.ireturn, 1) := by decide +kernel
theorem dX5_drive_0 : decode cX5_drive 0 = .ok (.aload_n 0, 1) := by decide +kernel
theorem dX5_drive_1 : decode cX5_drive 1 = .ok (.iload_n 1, 1) := by decide +kernel
theorem dX5_drive_2 : decode cX5_drive 2 = .ok (.invokevirtual 109, 3) := by decide +kernel
theorem dX5_drive_5 : decode cX5_drive 5 = .ok (.astore 4, 2) := by decide +kernel
theorem dX5_drive_7 : decode cX5_drive 7 = .ok (.iload_n 2, 1) := by decide +kernel
theorem dX5_drive_8 : decode cX5_drive 8 = .ok (.iconst 0, 1) := by decide +kernel
theorem dX5_drive_9 : decode cX5_drive 9 = .ok (.bipush 15, 2) := by decide +kernel
theorem dX5_drive_11 : decode cX5_drive 11 = .ok (.invokestatic 56, 3) := by decide +kernel
theorem dX5_drive_14 : decode cX5_drive 14 = .ok (.ifCond .eq 16, 3) := by decide +kernel
theorem dX5_drive_17 : decode cX5_drive 17 = .ok (.iload_n 3, 1) := by decide +kernel
theorem dX5_drive_18 : decode cX5_drive 18 = .ok (.iconst 0, 1) := by decide +kernel
theorem dX5_drive_19 : decode cX5_drive 19 = .ok (.iconst 3, 1) := by decide +kernel
theorem dX5_drive_20 : decode cX5_drive 20 = .ok (.invokestatic 56, 3) := by decide +kernel
theorem dX5_drive_23 : decode cX5_drive 23 = .ok (.ifCond .eq 7, 3) := by decide +kernel
theorem dX5_drive_26 : decode cX5_drive 26 = .ok (.iconst 1, 1) := by decide +kernel
theorem dX5_drive_27 : decode cX5_drive 27 = .ok (.goto 4, 3) := by decide +kernel
theorem dX5_drive_30 : decode cX5_drive 30 = .ok (.iconst 0, 1) := by decide +kernel
theorem dX5_drive_31 : decode cX5_drive 31 = .ok (.invokestatic 60, 3) := by decide +kernel
theorem dX5_drive_34 : decode cX5_drive 34 = .ok (.aload 4, 2) := by decide +kernel
theorem dX5_drive_36 : decode cX5_drive 36 = .ok (.invokevirtual 113, 3) := by decide +kernel
theorem dX5_drive_39 : decode cX5_drive 39 = .ok (.ifCond .ne 30, 3) := by decide +kernel
theorem dX5_drive_42 : decode cX5_drive 42 = .ok (.aload 4, 2) := by decide +kernel
theorem dX5_drive_44 : decode cX5_drive 44 = .ok (.getfield 116, 3) := by decide +kernel
theorem dX5_drive_47 : decode cX5_drive 47 = .ok (.invokevirtual 74, 3) := by decide +kernel
theorem dX5_drive_50 : decode cX5_drive 50 = .ok (.ifCond .ne 19, 3) := by decide +kernel
theorem dX5_drive_53 : decode cX5_drive 53 = .ok (.aload 4, 2) := by decide +kernel
theorem dX5_drive_55 : decode cX5_drive 55 = .ok (.getfield 116, 3) := by decide +kernel
theorem dX5_drive_58 : decode cX5_drive 58 = .ok (.iload_n 2, 1) := by decide +kernel
theorem dX5_drive_59 : decode cX5_drive 59 = .ok (.invokevirtual 78, 3) := by decide +kernel
theorem dX5_drive_62 : decode cX5_drive 62 = .ok (.ifCond .eq 7, 3) := by decide +kernel
theorem dX5_drive_65 : decode cX5_drive 65 = .ok (.iconst 1, 1) := by decide +kernel
theorem dX5_drive_66 : decode cX5_drive 66 = .ok (.goto 4, 3) := by decide +kernel
theorem dX5_drive_69 : decode cX5_drive 69 = .ok (.iconst 0, 1) := by decide +kernel
theorem dX5_drive_70 : decode cX5_drive 70 = .ok (.invokestatic 67, 3) := by decide +kernel
theorem dX5_drive_73 : decode cX5_drive 73 = .ok (.aload 4, 2) := by decide +kernel
theorem dX5_drive_75 : decode cX5_drive 75 = .ok (.getfield 116, 3) := by decide +kernel
theorem dX5_drive_78 : decode cX5_drive 78 = .ok (.iload_n 2, 1) := by decide +kernel
theorem dX5_drive_79 : decode cX5_drive 79 = .ok (.iload_n 3, 1) := by decide +kernel
theorem dX5_drive_80 : decode cX5_drive 80 = .ok (.invokevirtual 82, 3) := by decide +kernel
theorem dX5_drive_83 : decode cX5_drive 83 = .ok (.aload 4, 2) := by decide +kernel
theorem dX5_drive_85 : decode cX5_drive 85 = .ok (.getfield 116, 3) := by decide +kernel
theorem dX5_drive_88 : decode cX5_drive 88 = .ok (.getfield 119, 3) := by decide +kernel
theorem dX5_drive_91 : decode cX5_drive 91 = .ok (.ireturn, 1) := by decide +kernel
theorem dX5_stand_0 : decode cX5_stand 0 = .ok (.aload_n 0, 1) := by decide +kernel
theorem dX5_stand_1 : decode cX5_stand 1 = .ok (.iload_n 1, 1) := by decide +kernel
theorem dX5_stand_2 : decode cX5_stand 2 = .ok (.invokevirtual 109, 3) := by decide +kernel
theorem dX5_stand_5 : decode cX5_stand 5 = .ok (.astore_n 3, 1) := by decide +kernel
theorem dX5_stand_6 : decode cX5_stand 6 = .ok (.iload_n 2, 1) := by decide +kernel
theorem dX5_stand_7 : decode cX5_stand 7 = .ok (.iconst 1, 1) := by decide +kernel
theorem dX5_stand_8 : decode cX5_stand 8 = .ok (.bipush 100, 2) := by decide +kernel
theorem dX5_stand_10 : decode cX5_stand 10 = .ok (.invokestatic 56, 3) := by decide +kernel
theorem dX5_stand_13 : decode cX5_stand 13 = .ok (.invokestatic 60, 3) := by decide +kernel
theorem dX5_stand_16 : decode cX5_stand 16 = .ok (.aload_n 3, 1) := by decide +kernel
theorem dX5_stand_17 : decode cX5_stand 17 = .ok (.getfield 116, 3) := by decide +kernel
theorem dX5_stand_20 : decode cX5_stand 20 = .ok (.invokevirtual 74, 3) := by decide +kernel
theorem dX5_stand_23 : decode cX5_stand 23 = .ok (.ifCond .ne 7, 3) := by decide +kernel
theorem dX5_stand_26 : decode cX5_stand 26 = .ok (.iconst 1, 1) := by decide +kernel
theorem dX5_stand_27 : decode cX5_stand 27 = .ok (.goto 4, 3) := by decide +kernel
theorem dX5_stand_30 : decode cX5_stand 30 = .ok (.iconst 0, 1) := by decide +kernel
theorem dX5_stand_31 : decode cX5_stand 31 = .ok (.invokestatic 67, 3) := by decide +kernel
theorem dX5_stand_34 : decode cX5_stand 34 = .ok (.aload_n 3, 1) := by decide +kernel
theorem dX5_stand_35 : decode cX5_stand 35 = .ok (.getfield 116, 3) := by decide +kernel
theorem dX5_stand_38 : decode cX5_stand 38 = .ok (.iload_n 2, 1) := by decide +kernel
theorem dX5_stand_39 : decode cX5_stand 39 = .ok (.invokevirtual 122, 3) := by decide +kernel
theorem dX5_stand_42 : decode cX5_stand 42 = .ok (.aload_n 3, 1) := by decide +kernel
theorem dX5_stand_43 : decode cX5_stand 43 = .ok (.getfield 116, 3) := by decide +kernel
theorem dX5_stand_46 : decode cX5_stand 46 = .ok (.getfield 119, 3) := by decide +kernel
theorem dX5_stand_49 : decode cX5_stand 49 = .ok (.ireturn, 1) := by decide +kernel
theorem dX5_breakDown_0 : decode cX5_breakDown 0 = .ok (.aload_n 0, 1) := by decide +kernel
theorem dX5_breakDown_1 : decode cX5_breakDown 1 = .ok (.iload_n 1, 1) := by decide +kernel
theorem dX5_breakDown_2 : decode cX5_breakDown 2 = .ok (.invokevirtual 109, 3) := by decide +kernel
theorem dX5_breakDown_5 : decode cX5_breakDown 5 = .ok (.astore_n 3, 1) := by decide +kernel
theorem dX5_breakDown_6 : decode cX5_breakDown 6 = .ok (.iload_n 2, 1) := by decide +kernel
theorem dX5_breakDown_7 : decode cX5_breakDown 7 = .ok (.iconst 0, 1) := by decide +kernel
theorem dX5_breakDown_8 : decode cX5_breakDown 8 = .ok (.iconst 3, 1) := by decide +kernel
theorem dX5_breakDown_9 : decode cX5_breakDown 9 = .ok (.invokestatic 56, 3) := by decide +kernel
theorem dX5_breakDown_12 : decode cX5_breakDown 12 = .ok (.invokestatic 125, 3) := by decide +kernel
theorem dX5_breakDown_15 : decode cX5_breakDown 15 = .ok (.aload_n 3, 1) := by decide +kernel
theorem dX5_breakDown_16 : decode cX5_breakDown 16 = .ok (.invokevirtual 113, 3) := by decide +kernel
theorem dX5_breakDown_19 : decode cX5_breakDown 19 = .ok (.ifCond .ne 7, 3) := by decide +kernel
theorem dX5_breakDown_22 : decode cX5_breakDown 22 = .ok (.iconst 1, 1) := by decide +kernel
theorem dX5_breakDown_23 : decode cX5_breakDown 23 = .ok (.goto 4, 3) := by decide +kernel
theorem dX5_breakDown_26 : decode cX5_breakDown 26 = .ok (.iconst 0, 1) := by decide +kernel
theorem dX5_breakDown_27 : decode cX5_breakDown 27 = .ok (.invokestatic 67, 3) := by decide +kernel
theorem dX5_breakDown_30 : decode cX5_breakDown 30 = .ok (.aload_n 3, 1) := by decide +kernel
theorem dX5_breakDown_31 : decode cX5_breakDown 31 = .ok (.iload_n 2, 1) := by decide +kernel
theorem dX5_breakDown_32 : decode cX5_breakDown 32 = .ok (.putfield 128, 3) := by decide +kernel
theorem dX5_breakDown_35 : decode cX5_breakDown 35 = .ok (.return_, 1) := by decide +kernel
theorem dX5_mend_0 : decode cX5_mend 0 = .ok (.aload_n 0, 1) := by decide +kernel
theorem dX5_mend_1 : decode cX5_mend 1 = .ok (.iload_n 1, 1) := by decide +kernel
theorem dX5_mend_2 : decode cX5_mend 2 = .ok (.invokevirtual 109, 3) := by decide +kernel
theorem dX5_mend_5 : decode cX5_mend 5 = .ok (.astore_n 2, 1) := by decide +kernel
theorem dX5_mend_6 : decode cX5_mend 6 = .ok (.aload_n 2, 1) := by decide +kernel
theorem dX5_mend_7 : decode cX5_mend 7 = .ok (.invokevirtual 113, 3) := by decide +kernel
theorem dX5_mend_10 : decode cX5_mend 10 = .ok (.ifCond .eq 17, 3) := by decide +kernel
theorem dX5_mend_13 : decode cX5_mend 13 = .ok (.aload_n 2, 1) := by decide +kernel
theorem dX5_mend_14 : decode cX5_mend 14 = .ok (.getfield 116, 3) := by decide +kernel
theorem dX5_mend_17 : decode cX5_mend 17 = .ok (.invokevirtual 74, 3) := by decide +kernel
theorem dX5_mend_20 : decode cX5_mend 20 = .ok (.ifCond .ne 7, 3) := by decide +kernel
theorem dX5_mend_23 : decode cX5_mend 23 = .ok (.iconst 1, 1) := by decide +kernel
theorem dX5_mend_24 : decode cX5_mend 24 = .ok (.goto 4, 3) := by decide +kernel
theorem dX5_mend_27 : decode cX5_mend 27 = .ok (.iconst 0, 1) := by decide +kernel
theorem dX5_mend_28 : decode cX5_mend 28 = .ok (.invokestatic 67, 3) := by decide +kernel
theorem dX5_mend_31 : decode cX5_mend 31 = .ok (.aload_n 0, 1) := by decide +kernel
theorem dX5_mend_32 : decode cX5_mend 32 = .ok (.iload_n 1, 1) := by decide +kernel
theorem dX5_mend_33 : decode cX5_mend 33 = .ok (.aload_n 2, 1) := by decide +kernel
theorem dX5_mend_34 : decode cX5_mend 34 = .ok (.getfield 128, 3) := by decide +kernel
theorem dX5_mend_37 : decode cX5_mend 37 = .ok (.invokevirtual 131, 3) := by decide +kernel
theorem dX5_mend_40 : decode cX5_mend 40 = .ok (.istore_n 3, 1) := by decide +kernel
theorem dX5_mend_41 : decode cX5_mend 41 = .ok (.iload_n 3, 1) := by decide +kernel
theorem dX5_mend_42 : decode cX5_mend 42 = .ok (.iconst (-1), 1) := by decide +kernel
theorem dX5_mend_43 : decode cX5_mend 43 = .ok (.if_icmp .ne 13, 3) := by decide +kernel
theorem dX5_mend_46 : decode cX5_mend 46 = .ok (.new 135, 3) := by decide +kernel
theorem dX5_mend_49 : decode cX5_mend 49 = .ok (.dup, 1) := by decide +kernel
theorem dX5_mend_50 : decode cX5_mend 50 = .ok (.ldc 137, 2) := by decide +kernel
theorem dX5_mend_52 : decode cX5_mend 52 = .ok (.invokespecial 139, 3) := by decide +kernel
theorem dX5_mend_55 : decode cX5_mend 55 = .ok (.athrow, 1) := by decide +kernel
theorem dX5_mend_56 : decode cX5_mend 56 = .ok (.aload_n 0, 1) := by decide +kernel
theorem dX5_mend_57 : decode cX5_mend 57 = .ok (.iload_n 3, 1) := by decide +kernel
theorem dX5_mend_58 : decode cX5_mend 58 = .ok (.invokevirtual 142, 3) := by decide +kernel
theorem dX5_mend_61 : decode cX5_mend 61 = .ok (.iload_n 1, 1) := by decide +kernel
theorem dX5_mend_62 : decode cX5_mend 62 = .ok (.invokevirtual 146, 3) := by decide +kernel
theorem dX5_mend_65 : decode cX5_mend 65 = .ok (.aload_n 2, 1) := by decide +kernel
theorem dX5_mend_66 : decode cX5_mend 66 = .ok (.getfield 116, 3) := by decide +kernel
theorem dX5_mend_69 : decode cX5_mend 69 = .ok (.iconst 3, 1) := by decide +kernel
theorem dX5_mend_70 : decode cX5_mend 70 = .ok (.aload_n 2, 1) := by decide +kernel
theorem dX5_mend_71 : decode cX5_mend 71 = .ok (.getfield 128, 3) := by decide +kernel
theorem dX5_mend_74 : decode cX5_mend 74 = .ok (.iconst 1, 1) := by decide +kernel
theorem dX5_mend_75 : decode cX5_mend 75 = .ok (.iadd, 1) := by decide +kernel
theorem dX5_mend_76 : decode cX5_mend 76 = .ok (.imul, 1) := by decide +kernel
theorem dX5_mend_77 : decode cX5_mend 77 = .ok (.invokevirtual 122, 3) := by decide +kernel
theorem dX5_mend_80 : decode cX5_mend 80 = .ok (.aload_n 2, 1) := by decide +kernel
theorem dX5_mend_81 : decode cX5_mend 81 = .ok (.iconst (-1), 1) := by decide +kernel
theorem dX5_mend_82 : decode cX5_mend 82 = .ok (.putfield 128, 3) := by decide +kernel
theorem dX5_mend_85 : decode cX5_mend 85 = .ok (.iload_n 3, 1) := by decide +kernel
theorem dX5_mend_86 : decode cX5_mend 86 = .ok (.ireturn, 1) := by decide +kernel
theorem dX5_bring_0 : decode cX5_bring 0 = .ok (.iload_n 1, 1) := by decide +kernel
theorem dX5_bring_1 : decode cX5_bring 1 = .ok (.iconst 0, 1) := by decide +kernel
theorem dX5_bring_2 : decode cX5_bring 2 = .ok (.iconst 3, 1) := by decide +kernel
theorem dX5_bring_3 : decode cX5_bring 3 = .ok (.invokestatic 56, 3) := by decide +kernel
theorem dX5_bring_6 : decode cX5_bring 6 = .ok (.ifCond .eq 15, 3) := by decide +kernel
theorem dX5_bring_9 : decode cX5_bring 9 = .ok (.aload_n 0, 1) := by decide +kernel
theorem dX5_bring_10 : decode cX5_bring 10 = .ok (.iload_n 2, 1) := by decide +kernel
theorem dX5_bring_11 : decode cX5_bring 11 = .ok (.invokevirtual 149, 3) := by decide +kernel
theorem dX5_bring_14 : decode cX5_bring 14 = .ok (.ifCond .eq 7, 3) := by decide +kernel
theorem dX5_bring_17 : decode cX5_bring 17 = .ok (.iconst 1, 1) := by decide +kernel
theorem dX5_bring_18 : decode cX5_bring 18 = .ok (.goto 4, 3) := by decide +kernel
theorem dX5_bring_21 : decode cX5_bring 21 = .ok (.iconst 0, 1) := by decide +kernel
theorem dX5_bring_22 : decode cX5_bring 22 = .ok (.invokestatic 125, 3) := by decide +kernel
theorem dX5_bring_25 : decode cX5_bring 25 = .ok (.aload_n 0, 1) := by decide +kernel
theorem dX5_bring_26 : decode cX5_bring 26 = .ok (.getfield 49, 3) := by decide +kernel
theorem dX5_bring_29 : decode cX5_bring 29 = .ok (.bipush 40, 2) := by decide +kernel
theorem dX5_bring_31 : decode cX5_bring 31 = .ok (.if_icmp .ge 7, 3) := by decide +kernel
theorem dX5_bring_34 : decode cX5_bring 34 = .ok (.iconst 1, 1) := by decide +kernel
theorem dX5_bring_35 : decode cX5_bring 35 = .ok (.goto 4, 3) := by decide +kernel
theorem dX5_bring_38 : decode cX5_bring 38 = .ok (.iconst 0, 1) := by decide +kernel
theorem dX5_bring_39 : decode cX5_bring 39 = .ok (.invokestatic 67, 3) := by decide +kernel
theorem dX5_bring_42 : decode cX5_bring 42 = .ok (.aload_n 0, 1) := by decide +kernel
theorem dX5_bring_43 : decode cX5_bring 43 = .ok (.getfield 49, 3) := by decide +kernel
theorem dX5_bring_46 : decode cX5_bring 46 = .ok (.istore_n 3, 1) := by decide +kernel
theorem dX5_bring_47 : decode cX5_bring 47 = .ok (.aload_n 0, 1) := by decide +kernel
theorem dX5_bring_48 : decode cX5_bring 48 = .ok (.getfield 45, 3) := by decide +kernel
theorem dX5_bring_51 : decode cX5_bring 51 = .ok (.iload_n 3, 1) := by decide +kernel
theorem dX5_bring_52 : decode cX5_bring 52 = .ok (.new 43, 3) := by decide +kernel
theorem dX5_bring_55 : decode cX5_bring 55 = .ok (.dup, 1) := by decide +kernel
theorem dX5_bring_56 : decode cX5_bring 56 = .ok (.iload_n 1, 1) := by decide +kernel
theorem dX5_bring_57 : decode cX5_bring 57 = .ok (.iload_n 2, 1) := by decide +kernel
theorem dX5_bring_58 : decode cX5_bring 58 = .ok (.invokespecial 152, 3) := by decide +kernel
theorem dX5_bring_61 : decode cX5_bring 61 = .ok (.aastore, 1) := by decide +kernel
theorem dX5_bring_62 : decode cX5_bring 62 = .ok (.aload_n 0, 1) := by decide +kernel
theorem dX5_bring_63 : decode cX5_bring 63 = .ok (.dup, 1) := by decide +kernel
theorem dX5_bring_64 : decode cX5_bring 64 = .ok (.getfield 49, 3) := by decide +kernel
theorem dX5_bring_67 : decode cX5_bring 67 = .ok (.iconst 1, 1) := by decide +kernel
theorem dX5_bring_68 : decode cX5_bring 68 = .ok (.iadd, 1) := by decide +kernel
theorem dX5_bring_69 : decode cX5_bring 69 = .ok (.putfield 49, 3) := by decide +kernel
theorem dX5_bring_72 : decode cX5_bring 72 = .ok (.iload_n 3, 1) := by decide +kernel
theorem dX5_bring_73 : decode cX5_bring 73 = .ok (.ireturn, 1) := by decide +kernel
theorem dX5_hand_0 : decode cX5_hand 0 = .ok (.aload_n 0, 1) := by decide +kernel
theorem dX5_hand_1 : decode cX5_hand 1 = .ok (.iload_n 1, 1) := by decide +kernel
theorem dX5_hand_2 : decode cX5_hand 2 = .ok (.invokevirtual 142, 3) := by decide +kernel
theorem dX5_hand_5 : decode cX5_hand 5 = .ok (.astore_n 3, 1) := by decide +kernel
theorem dX5_hand_6 : decode cX5_hand 6 = .ok (.aload_n 0, 1) := by decide +kernel
theorem dX5_hand_7 : decode cX5_hand 7 = .ok (.iload_n 2, 1) := by decide +kernel
theorem dX5_hand_8 : decode cX5_hand 8 = .ok (.invokevirtual 149, 3) := by decide +kernel
theorem dX5_hand_11 : decode cX5_hand 11 = .ok (.invokestatic 125, 3) := by decide +kernel
theorem dX5_hand_14 : decode cX5_hand 14 = .ok (.aload_n 3, 1) := by decide +kernel
theorem dX5_hand_15 : decode cX5_hand 15 = .ok (.getfield 153, 3) := by decide +kernel
theorem dX5_hand_18 : decode cX5_hand 18 = .ok (.istore 4, 2) := by decide +kernel
theorem dX5_hand_20 : decode cX5_hand 20 = .ok (.iload 4, 2) := by decide +kernel
theorem dX5_hand_22 : decode cX5_hand 22 = .ok (.bipush (-2), 2) := by decide +kernel
theorem dX5_hand_24 : decode cX5_hand 24 = .ok (.if_icmp .eq 27, 3) := by decide +kernel
theorem dX5_hand_27 : decode cX5_hand 27 = .ok (.iload 4, 2) := by decide +kernel
theorem dX5_hand_29 : decode cX5_hand 29 = .ok (.iload_n 2, 1) := by decide +kernel
theorem dX5_hand_30 : decode cX5_hand 30 = .ok (.if_icmp .eq 21, 3) := by decide +kernel
theorem dX5_hand_33 : decode cX5_hand 33 = .ok (.aload_n 0, 1) := by decide +kernel
theorem dX5_hand_34 : decode cX5_hand 34 = .ok (.iload 4, 2) := by decide +kernel
theorem dX5_hand_36 : decode cX5_hand 36 = .ok (.invokevirtual 156, 3) := by decide +kernel
theorem dX5_hand_39 : decode cX5_hand 39 = .ok (.aload_n 0, 1) := by decide +kernel
theorem dX5_hand_40 : decode cX5_hand 40 = .ok (.iload_n 2, 1) := by decide +kernel
theorem dX5_hand_41 : decode cX5_hand 41 = .ok (.invokevirtual 156, 3) := by decide +kernel
theorem dX5_hand_44 : decode cX5_hand 44 = .ok (.if_icmp .ne 7, 3) := by decide +kernel
theorem dX5_hand_47 : decode cX5_hand 47 = .ok (.iconst 1, 1) := by decide +kernel
theorem dX5_hand_48 : decode cX5_hand 48 = .ok (.goto 4, 3) := by decide +kernel
theorem dX5_hand_51 : decode cX5_hand 51 = .ok (.iconst 0, 1) := by decide +kernel
theorem dX5_hand_52 : decode cX5_hand 52 = .ok (.invokestatic 67, 3) := by decide +kernel
theorem dX5_hand_55 : decode cX5_hand 55 = .ok (.aload_n 3, 1) := by decide +kernel
theorem dX5_hand_56 : decode cX5_hand 56 = .ok (.iload_n 2, 1) := by decide +kernel
theorem dX5_hand_57 : decode cX5_hand 57 = .ok (.putfield 153, 3) := by decide +kernel
theorem dX5_hand_60 : decode cX5_hand 60 = .ok (.iload 4, 2) := by decide +kernel
theorem dX5_hand_62 : decode cX5_hand 62 = .ok (.ireturn, 1) := by decide +kernel
theorem dX5_record_0 : decode cX5_record 0 = .ok (.aload_n 0, 1) := by decide +kernel
theorem dX5_record_1 : decode cX5_record 1 = .ok (.iload_n 1, 1) := by decide +kernel
theorem dX5_record_2 : decode cX5_record 2 = .ok (.invokevirtual 109, 3) := by decide +kernel
theorem dX5_record_5 : decode cX5_record 5 = .ok (.astore 4, 2) := by decide +kernel
theorem dX5_record_7 : decode cX5_record 7 = .ok (.aload_n 0, 1) := by decide +kernel
theorem dX5_record_8 : decode cX5_record 8 = .ok (.iload_n 2, 1) := by decide +kernel
theorem dX5_record_9 : decode cX5_record 9 = .ok (.invokevirtual 160, 3) := by decide +kernel
theorem dX5_record_12 : decode cX5_record 12 = .ok (.iload_n 3, 1) := by decide +kernel
theorem dX5_record_13 : decode cX5_record 13 = .ok (.iconst 0, 1) := by decide +kernel
theorem dX5_record_14 : decode cX5_record 14 = .ok (.sipush 10000, 3) := by decide +kernel
theorem dX5_record_17 : decode cX5_record 17 = .ok (.invokestatic 56, 3) := by decide +kernel
theorem dX5_record_20 : decode cX5_record 20 = .ok (.invokestatic 60, 3) := by decide +kernel
theorem dX5_record_23 : decode cX5_record 23 = .ok (.aload 4, 2) := by decide +kernel
theorem dX5_record_25 : decode cX5_record 25 = .ok (.iload_n 2, 1) := by decide +kernel
theorem dX5_record_26 : decode cX5_record 26 = .ok (.aload_n 0, 1) := by decide +kernel
theorem dX5_record_27 : decode cX5_record 27 = .ok (.aload 4, 2) := by decide +kernel
theorem dX5_record_29 : decode cX5_record 29 = .ok (.iload_n 2, 1) := by decide +kernel
theorem dX5_record_30 : decode cX5_record 30 = .ok (.invokevirtual 163, 3) := by decide +kernel
theorem dX5_record_33 : decode cX5_record 33 = .ok (.invokevirtual 167, 3) := by decide +kernel
theorem dX5_record_36 : decode cX5_record 36 = .ok (.istore 5, 2) := by decide +kernel
theorem dX5_record_38 : decode cX5_record 38 = .ok (.aload 4, 2) := by decide +kernel
theorem dX5_record_40 : decode cX5_record 40 = .ok (.iload_n 2, 1) := by decide +kernel
theorem dX5_record_41 : decode cX5_record 41 = .ok (.iload_n 3, 1) := by decide +kernel
theorem dX5_record_42 : decode cX5_record 42 = .ok (.invokevirtual 170, 3) := by decide +kernel
theorem dX5_record_45 : decode cX5_record 45 = .ok (.iload 5, 2) := by decide +kernel
theorem dX5_record_47 : decode cX5_record 47 = .ok (.ireturn, 1) := by decide +kernel
theorem dX5_appeal_0 : decode cX5_appeal 0 = .ok (.aload_n 0, 1) := by decide +kernel
theorem dX5_appeal_1 : decode cX5_appeal 1 = .ok (.iload_n 1, 1) := by decide +kernel
theorem dX5_appeal_2 : decode cX5_appeal 2 = .ok (.invokevirtual 109, 3) := by decide +kernel
theorem dX5_appeal_5 : decode cX5_appeal 5 = .ok (.astore_n 3, 1) := by decide +kernel
theorem dX5_appeal_6 : decode cX5_appeal 6 = .ok (.aload_n 0, 1) := by decide +kernel
theorem dX5_appeal_7 : decode cX5_appeal 7 = .ok (.iload_n 2, 1) := by decide +kernel
theorem dX5_appeal_8 : decode cX5_appeal 8 = .ok (.invokevirtual 160, 3) := by decide +kernel
theorem dX5_appeal_11 : decode cX5_appeal 11 = .ok (.aload_n 3, 1) := by decide +kernel
theorem dX5_appeal_12 : decode cX5_appeal 12 = .ok (.iload_n 2, 1) := by decide +kernel
theorem dX5_appeal_13 : decode cX5_appeal 13 = .ok (.invokevirtual 173, 3) := by decide +kernel
theorem dX5_appeal_16 : decode cX5_appeal 16 = .ok (.istore 4, 2) := by decide +kernel
theorem dX5_appeal_18 : decode cX5_appeal 18 = .ok (.iload 4, 2) := by decide +kernel
theorem dX5_appeal_20 : decode cX5_appeal 20 = .ok (.iconst (-1), 1) := by decide +kernel
theorem dX5_appeal_21 : decode cX5_appeal 21 = .ok (.if_icmp .eq 7, 3) := by decide +kernel
theorem dX5_appeal_24 : decode cX5_appeal 24 = .ok (.iconst 1, 1) := by decide +kernel
theorem dX5_appeal_25 : decode cX5_appeal 25 = .ok (.goto 4, 3) := by decide +kernel
theorem dX5_appeal_28 : decode cX5_appeal 28 = .ok (.iconst 0, 1) := by decide +kernel
theorem dX5_appeal_29 : decode cX5_appeal 29 = .ok (.invokestatic 67, 3) := by decide +kernel
theorem dX5_appeal_32 : decode cX5_appeal 32 = .ok (.iload 4, 2) := by decide +kernel
theorem dX5_appeal_34 : decode cX5_appeal 34 = .ok (.aload_n 0, 1) := by decide +kernel
theorem dX5_appeal_35 : decode cX5_appeal 35 = .ok (.aload_n 3, 1) := by decide +kernel
theorem dX5_appeal_36 : decode cX5_appeal 36 = .ok (.iload_n 2, 1) := by decide +kernel
theorem dX5_appeal_37 : decode cX5_appeal 37 = .ok (.invokevirtual 163, 3) := by decide +kernel
theorem dX5_appeal_40 : decode cX5_appeal 40 = .ok (.if_icmp .ne 15, 3) := by decide +kernel
theorem dX5_appeal_43 : decode cX5_appeal 43 = .ok (.aload_n 3, 1) := by decide +kernel
theorem dX5_appeal_44 : decode cX5_appeal 44 = .ok (.dup, 1) := by decide +kernel
theorem dX5_appeal_45 : decode cX5_appeal 45 = .ok (.getfield 176, 3) := by decide +kernel
theorem dX5_appeal_48 : decode cX5_appeal 48 = .ok (.iconst 1, 1) := by decide +kernel
theorem dX5_appeal_49 : decode cX5_appeal 49 = .ok (.iadd, 1) := by decide +kernel
theorem dX5_appeal_50 : decode cX5_appeal 50 = .ok (.putfield 176, 3) := by decide +kernel
theorem dX5_appeal_53 : decode cX5_appeal 53 = .ok (.iconst 0, 1) := by decide +kernel
theorem dX5_appeal_54 : decode cX5_appeal 54 = .ok (.ireturn, 1) := by decide +kernel
theorem dX5_appeal_55 : decode cX5_appeal 55 = .ok (.aload_n 3, 1) := by decide +kernel
theorem dX5_appeal_56 : decode cX5_appeal 56 = .ok (.iload_n 2, 1) := by decide +kernel
theorem dX5_appeal_57 : decode cX5_appeal 57 = .ok (.iconst (-1), 1) := by decide +kernel
theorem dX5_appeal_58 : decode cX5_appeal 58 = .ok (.invokevirtual 170, 3) := by decide +kernel
theorem dX5_appeal_61 : decode cX5_appeal 61 = .ok (.iconst 1, 1) := by decide +kernel
theorem dX5_appeal_62 : decode cX5_appeal 62 = .ok (.ireturn, 1) := by decide +kernel
theorem dX5_gates_0 : decode cX5_gates 0 = .ok (.aload_n 0, 1) := by decide +kernel
theorem dX5_gates_1 : decode cX5_gates 1 = .ok (.getfield 28, 3) := by decide +kernel
theorem dX5_gates_4 : decode cX5_gates 4 = .ok (.ireturn, 1) := by decide +kernel
theorem dX5_cellOf_0 : decode cX5_cellOf 0 = .ok (.aload_n 0, 1) := by decide +kernel
theorem dX5_cellOf_1 : decode cX5_cellOf 1 = .ok (.iload_n 1, 1) := by decide +kernel
theorem dX5_cellOf_2 : decode cX5_cellOf 2 = .ok (.invokevirtual 179, 3) := by decide +kernel
theorem dX5_cellOf_5 : decode cX5_cellOf 5 = .ok (.getfield 183, 3) := by decide +kernel
theorem dX5_cellOf_8 : decode cX5_cellOf 8 = .ok (.ireturn, 1) := by decide +kernel
theorem dX5_due_0 : decode cX5_due 0 = .ok (.aload_n 0, 1) := by decide +kernel
theorem dX5_due_1 : decode cX5_due 1 = .ok (.iload_n 1, 1) := by decide +kernel
theorem dX5_due_2 : decode cX5_due 2 = .ok (.invokevirtual 179, 3) := by decide +kernel
theorem dX5_due_5 : decode cX5_due 5 = .ok (.getfield 184, 3) := by decide +kernel
theorem dX5_due_8 : decode cX5_due 8 = .ok (.ireturn, 1) := by decide +kernel
theorem dX5_followed_0 : decode cX5_followed 0 = .ok (.aload_n 0, 1) := by decide +kernel
theorem dX5_followed_1 : decode cX5_followed 1 = .ok (.iload_n 1, 1) := by decide +kernel
theorem dX5_followed_2 : decode cX5_followed 2 = .ok (.invokevirtual 109, 3) := by decide +kernel
theorem dX5_followed_5 : decode cX5_followed 5 = .ok (.getfield 116, 3) := by decide +kernel
theorem dX5_followed_8 : decode cX5_followed 8 = .ok (.aload_n 0, 1) := by decide +kernel
theorem dX5_followed_9 : decode cX5_followed 9 = .ok (.getfield 18, 3) := by decide +kernel
theorem dX5_followed_12 : decode cX5_followed 12 = .ok (.invokevirtual 187, 3) := by decide +kernel
theorem dX5_followed_15 : decode cX5_followed 15 = .ok (.ireturn, 1) := by decide +kernel
theorem dX5_cellAt_0 : decode cX5_cellAt 0 = .ok (.aload_n 0, 1) := by decide +kernel
theorem dX5_cellAt_1 : decode cX5_cellAt 1 = .ok (.iload_n 1, 1) := by decide +kernel
theorem dX5_cellAt_2 : decode cX5_cellAt 2 = .ok (.invokevirtual 109, 3) := by decide +kernel
theorem dX5_cellAt_5 : decode cX5_cellAt 5 = .ok (.getfield 116, 3) := by decide +kernel
theorem dX5_cellAt_8 : decode cX5_cellAt 8 = .ok (.astore_n 3, 1) := by decide +kernel
theorem dX5_cellAt_9 : decode cX5_cellAt 9 = .ok (.iload_n 2, 1) := by decide +kernel
theorem dX5_cellAt_10 : decode cX5_cellAt 10 = .ok (.iconst 0, 1) := by decide +kernel
theorem dX5_cellAt_11 : decode cX5_cellAt 11 = .ok (.aload_n 3, 1) := by decide +kernel
theorem dX5_cellAt_12 : decode cX5_cellAt 12 = .ok (.getfield 119, 3) := by decide +kernel
theorem dX5_cellAt_15 : decode cX5_cellAt 15 = .ok (.invokestatic 56, 3) := by decide +kernel
theorem dX5_cellAt_18 : decode cX5_cellAt 18 = .ok (.invokestatic 60, 3) := by decide +kernel
theorem dX5_cellAt_21 : decode cX5_cellAt 21 = .ok (.aload_n 3, 1) := by decide +kernel
theorem dX5_cellAt_22 : decode cX5_cellAt 22 = .ok (.iload_n 2, 1) := by decide +kernel
theorem dX5_cellAt_23 : decode cX5_cellAt 23 = .ok (.aload_n 3, 1) := by decide +kernel
theorem dX5_cellAt_24 : decode cX5_cellAt 24 = .ok (.iload_n 2, 1) := by decide +kernel
theorem dX5_cellAt_25 : decode cX5_cellAt 25 = .ok (.iconst 0, 1) := by decide +kernel
theorem dX5_cellAt_26 : decode cX5_cellAt 26 = .ok (.invokevirtual 191, 3) := by decide +kernel
theorem dX5_cellAt_29 : decode cX5_cellAt 29 = .ok (.invokevirtual 194, 3) := by decide +kernel
theorem dX5_cellAt_32 : decode cX5_cellAt 32 = .ok (.ireturn, 1) := by decide +kernel
theorem dX5_clock_0 : decode cX5_clock 0 = .ok (.aload_n 0, 1) := by decide +kernel
theorem dX5_clock_1 : decode cX5_clock 1 = .ok (.iload_n 1, 1) := by decide +kernel
theorem dX5_clock_2 : decode cX5_clock 2 = .ok (.invokevirtual 109, 3) := by decide +kernel
theorem dX5_clock_5 : decode cX5_clock 5 = .ok (.getfield 116, 3) := by decide +kernel
theorem dX5_clock_8 : decode cX5_clock 8 = .ok (.getfield 119, 3) := by decide +kernel
theorem dX5_clock_11 : decode cX5_clock 11 = .ok (.ireturn, 1) := by decide +kernel
theorem dX5_byTrack_0 : decode cX5_byTrack 0 = .ok (.aload_n 0, 1) := by decide +kernel
theorem dX5_byTrack_1 : decode cX5_byTrack 1 = .ok (.iload_n 1, 1) := by decide +kernel
theorem dX5_byTrack_2 : decode cX5_byTrack 2 = .ok (.invokevirtual 109, 3) := by decide +kernel
theorem dX5_byTrack_5 : decode cX5_byTrack 5 = .ok (.astore_n 3, 1) := by decide +kernel
theorem dX5_byTrack_6 : decode cX5_byTrack 6 = .ok (.aload_n 0, 1) := by decide +kernel
theorem dX5_byTrack_7 : decode cX5_byTrack 7 = .ok (.iload_n 2, 1) := by decide +kernel
theorem dX5_byTrack_8 : decode cX5_byTrack 8 = .ok (.invokevirtual 160, 3) := by decide +kernel
theorem dX5_byTrack_11 : decode cX5_byTrack 11 = .ok (.aload_n 0, 1) := by decide +kernel
theorem dX5_byTrack_12 : decode cX5_byTrack 12 = .ok (.aload_n 3, 1) := by decide +kernel
theorem dX5_byTrack_13 : decode cX5_byTrack 13 = .ok (.iload_n 2, 1) := by decide +kernel
theorem dX5_byTrack_14 : decode cX5_byTrack 14 = .ok (.invokevirtual 163, 3) := by decide +kernel
theorem dX5_byTrack_17 : decode cX5_byTrack 17 = .ok (.ireturn, 1) := by decide +kernel
theorem dX5_byMinutes_0 : decode cX5_byMinutes 0 = .ok (.aload_n 0, 1) := by decide +kernel
theorem dX5_byMinutes_1 : decode cX5_byMinutes 1 = .ok (.iload_n 1, 1) := by decide +kernel
theorem dX5_byMinutes_2 : decode cX5_byMinutes 2 = .ok (.invokevirtual 109, 3) := by decide +kernel
theorem dX5_byMinutes_5 : decode cX5_byMinutes 5 = .ok (.getfield 116, 3) := by decide +kernel
theorem dX5_byMinutes_8 : decode cX5_byMinutes 8 = .ok (.astore_n 3, 1) := by decide +kernel
theorem dX5_byMinutes_9 : decode cX5_byMinutes 9 = .ok (.aload_n 0, 1) := by decide +kernel
theorem dX5_byMinutes_10 : decode cX5_byMinutes 10 = .ok (.iload_n 2, 1) := by decide +kernel
theorem dX5_byMinutes_11 : decode cX5_byMinutes 11 = .ok (.invokevirtual 160, 3) := by decide +kernel
theorem dX5_byMinutes_14 : decode cX5_byMinutes 14 = .ok (.iconst 0, 1) := by decide +kernel
theorem dX5_byMinutes_15 : decode cX5_byMinutes 15 = .ok (.istore 4, 2) := by decide +kernel
theorem dX5_byMinutes_17 : decode cX5_byMinutes 17 = .ok (.iconst (-1), 1) := by decide +kernel
theorem dX5_byMinutes_18 : decode cX5_byMinutes 18 = .ok (.istore 5, 2) := by decide +kernel
theorem dX5_byMinutes_20 : decode cX5_byMinutes 20 = .ok (.iconst 0, 1) := by decide +kernel
theorem dX5_byMinutes_21 : decode cX5_byMinutes 21 = .ok (.istore 6, 2) := by decide +kernel
theorem dX5_byMinutes_23 : decode cX5_byMinutes 23 = .ok (.iload 6, 2) := by decide +kernel
theorem dX5_byMinutes_25 : decode cX5_byMinutes 25 = .ok (.iload_n 2, 1) := by decide +kernel
theorem dX5_byMinutes_26 : decode cX5_byMinutes 26 = .ok (.if_icmp .gt 35, 3) := by decide +kernel
theorem dX5_byMinutes_29 : decode cX5_byMinutes 29 = .ok (.aload_n 3, 1) := by decide +kernel
theorem dX5_byMinutes_30 : decode cX5_byMinutes 30 = .ok (.aload_n 0, 1) := by decide +kernel
theorem dX5_byMinutes_31 : decode cX5_byMinutes 31 = .ok (.iload 6, 2) := by decide +kernel
theorem dX5_byMinutes_33 : decode cX5_byMinutes 33 = .ok (.invokevirtual 179, 3) := by decide +kernel
theorem dX5_byMinutes_36 : decode cX5_byMinutes 36 = .ok (.getfield 183, 3) := by decide +kernel
theorem dX5_byMinutes_39 : decode cX5_byMinutes 39 = .ok (.iload 4, 2) := by decide +kernel
theorem dX5_byMinutes_41 : decode cX5_byMinutes 41 = .ok (.invokevirtual 197, 3) := by decide +kernel
theorem dX5_byMinutes_44 : decode cX5_byMinutes 44 = .ok (.istore 5, 2) := by decide +kernel
theorem dX5_byMinutes_46 : decode cX5_byMinutes 46 = .ok (.iload 4, 2) := by decide +kernel
theorem dX5_byMinutes_48 : decode cX5_byMinutes 48 = .ok (.iload 5, 2) := by decide +kernel
theorem dX5_byMinutes_50 : decode cX5_byMinutes 50 = .ok (.invokestatic 200, 3) := by decide +kernel
theorem dX5_byMinutes_53 : decode cX5_byMinutes 53 = .ok (.istore 4, 2) := by decide +kernel
theorem dX5_byMinutes_55 : decode cX5_byMinutes 55 = .ok (.iinc 6 1, 3) := by decide +kernel
theorem dX5_byMinutes_58 : decode cX5_byMinutes 58 = .ok (.goto (-35), 3) := by decide +kernel
theorem dX5_byMinutes_61 : decode cX5_byMinutes 61 = .ok (.iload 5, 2) := by decide +kernel
theorem dX5_byMinutes_63 : decode cX5_byMinutes 63 = .ok (.ireturn, 1) := by decide +kernel
theorem dX5_time_0 : decode cX5_time 0 = .ok (.aload_n 0, 1) := by decide +kernel
theorem dX5_time_1 : decode cX5_time 1 = .ok (.iload_n 1, 1) := by decide +kernel
theorem dX5_time_2 : decode cX5_time 2 = .ok (.invokevirtual 109, 3) := by decide +kernel
theorem dX5_time_5 : decode cX5_time 5 = .ok (.astore_n 3, 1) := by decide +kernel
theorem dX5_time_6 : decode cX5_time 6 = .ok (.aload_n 0, 1) := by decide +kernel
theorem dX5_time_7 : decode cX5_time 7 = .ok (.iload_n 2, 1) := by decide +kernel
theorem dX5_time_8 : decode cX5_time 8 = .ok (.invokevirtual 160, 3) := by decide +kernel
theorem dX5_time_11 : decode cX5_time 11 = .ok (.aload_n 3, 1) := by decide +kernel
theorem dX5_time_12 : decode cX5_time 12 = .ok (.iload_n 2, 1) := by decide +kernel
theorem dX5_time_13 : decode cX5_time 13 = .ok (.aload_n 0, 1) := by decide +kernel
theorem dX5_time_14 : decode cX5_time 14 = .ok (.aload_n 3, 1) := by decide +kernel
theorem dX5_time_15 : decode cX5_time 15 = .ok (.iload_n 2, 1) := by decide +kernel
theorem dX5_time_16 : decode cX5_time 16 = .ok (.invokevirtual 163, 3) := by decide +kernel
theorem dX5_time_19 : decode cX5_time 19 = .ok (.invokevirtual 167, 3) := by decide +kernel
theorem dX5_time_22 : decode cX5_time 22 = .ok (.ireturn, 1) := by decide +kernel
theorem dX5_points_0 : decode cX5_points 0 = .ok (.aload_n 0, 1) := by decide +kernel
theorem dX5_points_1 : decode cX5_points 1 = .ok (.aload_n 0, 1) := by decide +kernel
theorem dX5_points_2 : decode cX5_points 2 = .ok (.iload_n 1, 1) := by decide +kernel
theorem dX5_points_3 : decode cX5_points 3 = .ok (.invokevirtual 109, 3) := by decide +kernel
theorem dX5_points_6 : decode cX5_points 6 = .ok (.invokevirtual 205, 3) := by decide +kernel
theorem dX5_points_9 : decode cX5_points 9 = .ok (.ireturn, 1) := by decide +kernel
theorem dX5_table_0 : decode cX5_table 0 = .ok (.iload_n 1, 1) := by decide +kernel
theorem dX5_table_1 : decode cX5_table 1 = .ok (.iconst 0, 1) := by decide +kernel
theorem dX5_table_2 : decode cX5_table 2 = .ok (.aload_n 0, 1) := by decide +kernel
theorem dX5_table_3 : decode cX5_table 3 = .ok (.getfield 40, 3) := by decide +kernel
theorem dX5_table_6 : decode cX5_table 6 = .ok (.iconst 1, 1) := by decide +kernel
theorem dX5_table_7 : decode cX5_table 7 = .ok (.isub, 1) := by decide +kernel
theorem dX5_table_8 : decode cX5_table 8 = .ok (.invokestatic 56, 3) := by decide +kernel
theorem dX5_table_11 : decode cX5_table 11 = .ok (.invokestatic 125, 3) := by decide +kernel
theorem dX5_table_14 : decode cX5_table 14 = .ok (.iconst 0, 1) := by decide +kernel
theorem dX5_table_15 : decode cX5_table 15 = .ok (.istore_n 2, 1) := by decide +kernel
theorem dX5_table_16 : decode cX5_table 16 = .ok (.iload_n 2, 1) := by decide +kernel
theorem dX5_table_17 : decode cX5_table 17 = .ok (.aload_n 0, 1) := by decide +kernel
theorem dX5_table_18 : decode cX5_table 18 = .ok (.getfield 40, 3) := by decide +kernel
theorem dX5_table_21 : decode cX5_table 21 = .ok (.if_icmp .ge 24, 3) := by decide +kernel
theorem dX5_table_24 : decode cX5_table 24 = .ok (.aload_n 0, 1) := by decide +kernel
theorem dX5_table_25 : decode cX5_table 25 = .ok (.getfield 52, 3) := by decide +kernel
theorem dX5_table_28 : decode cX5_table 28 = .ok (.iload_n 2, 1) := by decide +kernel
theorem dX5_table_29 : decode cX5_table 29 = .ok (.aload_n 0, 1) := by decide +kernel
theorem dX5_table_30 : decode cX5_table 30 = .ok (.aload_n 0, 1) := by decide +kernel
theorem dX5_table_31 : decode cX5_table 31 = .ok (.iload_n 2, 1) := by decide +kernel
theorem dX5_table_32 : decode cX5_table 32 = .ok (.invokevirtual 109, 3) := by decide +kernel
theorem dX5_table_35 : decode cX5_table 35 = .ok (.invokevirtual 205, 3) := by decide +kernel
theorem dX5_table_38 : decode cX5_table 38 = .ok (.iastore, 1) := by decide +kernel
theorem dX5_table_39 : decode cX5_table 39 = .ok (.iinc 2 1, 3) := by decide +kernel
theorem dX5_table_42 : decode cX5_table 42 = .ok (.goto (-26), 3) := by decide +kernel
theorem dX5_table_45 : decode cX5_table 45 = .ok (.iconst 0, 1) := by decide +kernel
theorem dX5_table_46 : decode cX5_table 46 = .ok (.istore_n 2, 1) := by decide +kernel
theorem dX5_table_47 : decode cX5_table 47 = .ok (.iload_n 2, 1) := by decide +kernel
theorem dX5_table_48 : decode cX5_table 48 = .ok (.aload_n 0, 1) := by decide +kernel
theorem dX5_table_49 : decode cX5_table 49 = .ok (.getfield 40, 3) := by decide +kernel
theorem dX5_table_52 : decode cX5_table 52 = .ok (.iconst 1, 1) := by decide +kernel
theorem dX5_table_53 : decode cX5_table 53 = .ok (.isub, 1) := by decide +kernel
theorem dX5_table_54 : decode cX5_table 54 = .ok (.if_icmp .ge 18, 3) := by decide +kernel
theorem dX5_table_57 : decode cX5_table 57 = .ok (.aload_n 0, 1) := by decide +kernel
theorem dX5_table_58 : decode cX5_table 58 = .ok (.iload_n 2, 1) := by decide +kernel
theorem dX5_table_59 : decode cX5_table 59 = .ok (.invokevirtual 209, 3) := by decide +kernel
theorem dX5_table_62 : decode cX5_table 62 = .ok (.iload_n 1, 1) := by decide +kernel
theorem dX5_table_63 : decode cX5_table 63 = .ok (.if_icmp .eq 9, 3) := by decide +kernel
theorem dX5_table_66 : decode cX5_table 66 = .ok (.iinc 2 1, 3) := by decide +kernel
theorem dX5_table_69 : decode cX5_table 69 = .ok (.goto (-22), 3) := by decide +kernel
theorem dX5_table_72 : decode cX5_table 72 = .ok (.iload_n 2, 1) := by decide +kernel
theorem dX5_table_73 : decode cX5_table 73 = .ok (.ireturn, 1) := by decide +kernel
theorem dX5_where_0 : decode cX5_where 0 = .ok (.aload_n 0, 1) := by decide +kernel
theorem dX5_where_1 : decode cX5_where 1 = .ok (.iload_n 1, 1) := by decide +kernel
theorem dX5_where_2 : decode cX5_where 2 = .ok (.invokevirtual 142, 3) := by decide +kernel
theorem dX5_where_5 : decode cX5_where 5 = .ok (.getfield 153, 3) := by decide +kernel
theorem dX5_where_8 : decode cX5_where 8 = .ok (.ireturn, 1) := by decide +kernel
theorem dX5_lent_0 : decode cX5_lent 0 = .ok (.aload_n 0, 1) := by decide +kernel
theorem dX5_lent_1 : decode cX5_lent 1 = .ok (.iload_n 1, 1) := by decide +kernel
theorem dX5_lent_2 : decode cX5_lent 2 = .ok (.invokevirtual 212, 3) := by decide +kernel
theorem dX5_lent_5 : decode cX5_lent 5 = .ok (.invokestatic 125, 3) := by decide +kernel
theorem dX5_lent_8 : decode cX5_lent 8 = .ok (.iconst 0, 1) := by decide +kernel
theorem dX5_lent_9 : decode cX5_lent 9 = .ok (.istore_n 2, 1) := by decide +kernel
theorem dX5_lent_10 : decode cX5_lent 10 = .ok (.iconst 0, 1) := by decide +kernel
theorem dX5_lent_11 : decode cX5_lent 11 = .ok (.istore_n 3, 1) := by decide +kernel
theorem dX5_lent_12 : decode cX5_lent 12 = .ok (.iload_n 3, 1) := by decide +kernel
theorem dX5_lent_13 : decode cX5_lent 13 = .ok (.aload_n 0, 1) := by decide +kernel
theorem dX5_lent_14 : decode cX5_lent 14 = .ok (.getfield 49, 3) := by decide +kernel
theorem dX5_lent_17 : decode cX5_lent 17 = .ok (.if_icmp .ge 24, 3) := by decide +kernel
theorem dX5_lent_20 : decode cX5_lent 20 = .ok (.aload_n 0, 1) := by decide +kernel
theorem dX5_lent_21 : decode cX5_lent 21 = .ok (.iload_n 3, 1) := by decide +kernel
theorem dX5_lent_22 : decode cX5_lent 22 = .ok (.invokevirtual 142, 3) := by decide +kernel
theorem dX5_lent_25 : decode cX5_lent 25 = .ok (.iload_n 1, 1) := by decide +kernel
theorem dX5_lent_26 : decode cX5_lent 26 = .ok (.invokevirtual 215, 3) := by decide +kernel
theorem dX5_lent_29 : decode cX5_lent 29 = .ok (.ifCond .eq 6, 3) := by decide +kernel
theorem dX5_lent_32 : decode cX5_lent 32 = .ok (.iinc 2 1, 3) := by decide +kernel
theorem dX5_lent_35 : decode cX5_lent 35 = .ok (.iinc 3 1, 3) := by decide +kernel
theorem dX5_lent_38 : decode cX5_lent 38 = .ok (.goto (-26), 3) := by decide +kernel
theorem dX5_lent_41 : decode cX5_lent 41 = .ok (.iload_n 2, 1) := by decide +kernel
theorem dX5_lent_42 : decode cX5_lent 42 = .ok (.ireturn, 1) := by decide +kernel
theorem dX5_isBroken_0 : decode cX5_isBroken 0 = .ok (.aload_n 0, 1) := by decide +kernel
theorem dX5_isBroken_1 : decode cX5_isBroken 1 = .ok (.iload_n 1, 1) := by decide +kernel
theorem dX5_isBroken_2 : decode cX5_isBroken 2 = .ok (.invokevirtual 109, 3) := by decide +kernel
theorem dX5_isBroken_5 : decode cX5_isBroken 5 = .ok (.invokevirtual 113, 3) := by decide +kernel
theorem dX5_isBroken_8 : decode cX5_isBroken 8 = .ok (.ireturn, 1) := by decide +kernel
theorem dX5_isWithin_0 : decode cX5_isWithin 0 = .ok (.iload_n 0, 1) := by decide +kernel
theorem dX5_isWithin_1 : decode cX5_isWithin 1 = .ok (.iload_n 1, 1) := by decide +kernel
theorem dX5_isWithin_2 : decode cX5_isWithin 2 = .ok (.if_icmp .lt 12, 3) := by decide +kernel
theorem dX5_isWithin_5 : decode cX5_isWithin 5 = .ok (.iload_n 0, 1) := by decide +kernel
theorem dX5_isWithin_6 : decode cX5_isWithin 6 = .ok (.iload_n 2, 1) := by decide +kernel
theorem dX5_isWithin_7 : decode cX5_isWithin 7 = .ok (.if_icmp .gt 7, 3) := by decide +kernel
theorem dX5_isWithin_10 : decode cX5_isWithin 10 = .ok (.iconst 1, 1) := by decide +kernel
theorem dX5_isWithin_11 : decode cX5_isWithin 11 = .ok (.goto 4, 3) := by decide +kernel
theorem dX5_isWithin_14 : decode cX5_isWithin 14 = .ok (.iconst 0, 1) := by decide +kernel
theorem dX5_isWithin_15 : decode cX5_isWithin 15 = .ok (.ireturn, 1) := by decide +kernel
theorem dX5_checkIndex_0 : decode cX5_checkIndex 0 = .ok (.iload_n 0, 1) := by decide +kernel
theorem dX5_checkIndex_1 : decode cX5_checkIndex 1 = .ok (.ifCond .ne 13, 3) := by decide +kernel
theorem dX5_checkIndex_4 : decode cX5_checkIndex 4 = .ok (.new 218, 3) := by decide +kernel
theorem dX5_checkIndex_7 : decode cX5_checkIndex 7 = .ok (.dup, 1) := by decide +kernel
theorem dX5_checkIndex_8 : decode cX5_checkIndex 8 = .ok (.ldc 220, 2) := by decide +kernel
theorem dX5_checkIndex_10 : decode cX5_checkIndex 10 = .ok (.invokespecial 222, 3) := by decide +kernel
theorem dX5_checkIndex_13 : decode cX5_checkIndex 13 = .ok (.athrow, 1) := by decide +kernel
theorem dX5_checkIndex_14 : decode cX5_checkIndex 14 = .ok (.return_, 1) := by decide +kernel
theorem dX5_checkArgument_0 : decode cX5_checkArgument 0 = .ok (.iload_n 0, 1) := by decide +kernel
theorem dX5_checkArgument_1 : decode cX5_checkArgument 1 = .ok (.ifCond .ne 13, 3) := by decide +kernel
theorem dX5_checkArgument_4 : decode cX5_checkArgument 4 = .ok (.new 223, 3) := by decide +kernel
theorem dX5_checkArgument_7 : decode cX5_checkArgument 7 = .ok (.dup, 1) := by decide +kernel
theorem dX5_checkArgument_8 : decode cX5_checkArgument 8 = .ok (.ldc 225, 2) := by decide +kernel
theorem dX5_checkArgument_10 : decode cX5_checkArgument 10 = .ok (.invokespecial 227, 3) := by decide +kernel
theorem dX5_checkArgument_13 : decode cX5_checkArgument 13 = .ok (.athrow, 1) := by decide +kernel
theorem dX5_checkArgument_14 : decode cX5_checkArgument 14 = .ok (.return_, 1) := by decide +kernel
theorem dX5_checkState_0 : decode cX5_checkState 0 = .ok (.iload_n 0, 1) := by decide +kernel
theorem dX5_checkState_1 : decode cX5_checkState 1 = .ok (.ifCond .ne 13, 3) := by decide +kernel
theorem dX5_checkState_4 : decode cX5_checkState 4 = .ok (.new 228, 3) := by decide +kernel
theorem dX5_checkState_7 : decode cX5_checkState 7 = .ok (.dup, 1) := by decide +kernel
theorem dX5_checkState_8 : decode cX5_checkState 8 = .ok (.ldc 230, 2) := by decide +kernel
theorem dX5_checkState_10 : decode cX5_checkState 10 = .ok (.invokespecial 232, 3) := by decide +kernel
theorem dX5_checkState_13 : decode cX5_checkState 13 = .ok (.athrow, 1) := by decide +kernel
theorem dX5_checkState_14 : decode cX5_checkState 14 = .ok (.return_, 1) := by decide +kernel
theorem dX5_isCar_0 : decode cX5_isCar 0 = .ok (.iload_n 1, 1) := by decide +kernel
theorem dX5_isCar_1 : decode cX5_isCar 1 = .ok (.iconst 0, 1) := by decide +kernel
theorem dX5_isCar_2 : decode cX5_isCar 2 = .ok (.aload_n 0, 1) := by decide +kernel
theorem dX5_isCar_3 : decode cX5_isCar 3 = .ok (.getfield 40, 3) := by decide +kernel
theorem dX5_isCar_6 : decode cX5_isCar 6 = .ok (.iconst 1, 1) := by decide +kernel
theorem dX5_isCar_7 : decode cX5_isCar 7 = .ok (.isub, 1) := by decide +kernel
theorem dX5_isCar_8 : decode cX5_isCar 8 = .ok (.invokestatic 56, 3) := by decide +kernel
theorem dX5_isCar_11 : decode cX5_isCar 11 = .ok (.ireturn, 1) := by decide +kernel
theorem dX5_isPlace_0 : decode cX5_isPlace 0 = .ok (.iload_n 1, 1) := by decide +kernel
theorem dX5_isPlace_1 : decode cX5_isPlace 1 = .ok (.iconst (-1), 1) := by decide +kernel
theorem dX5_isPlace_2 : decode cX5_isPlace 2 = .ok (.if_icmp .eq 11, 3) := by decide +kernel
theorem dX5_isPlace_5 : decode cX5_isPlace 5 = .ok (.aload_n 0, 1) := by decide +kernel
theorem dX5_isPlace_6 : decode cX5_isPlace 6 = .ok (.iload_n 1, 1) := by decide +kernel
theorem dX5_isPlace_7 : decode cX5_isPlace 7 = .ok (.invokevirtual 212, 3) := by decide +kernel
theorem dX5_isPlace_10 : decode cX5_isPlace 10 = .ok (.ifCond .eq 7, 3) := by decide +kernel
theorem dX5_isPlace_13 : decode cX5_isPlace 13 = .ok (.iconst 1, 1) := by decide +kernel
theorem dX5_isPlace_14 : decode cX5_isPlace 14 = .ok (.goto 4, 3) := by decide +kernel
theorem dX5_isPlace_17 : decode cX5_isPlace 17 = .ok (.iconst 0, 1) := by decide +kernel
theorem dX5_isPlace_18 : decode cX5_isPlace 18 = .ok (.ireturn, 1) := by decide +kernel
theorem dX5_checkGate_0 : decode cX5_checkGate 0 = .ok (.iload_n 1, 1) := by decide +kernel
theorem dX5_checkGate_1 : decode cX5_checkGate 1 = .ok (.iconst 0, 1) := by decide +kernel
theorem dX5_checkGate_2 : decode cX5_checkGate 2 = .ok (.aload_n 0, 1) := by decide +kernel
theorem dX5_checkGate_3 : decode cX5_checkGate 3 = .ok (.getfield 28, 3) := by decide +kernel
theorem dX5_checkGate_6 : decode cX5_checkGate 6 = .ok (.iconst 1, 1) := by decide +kernel
theorem dX5_checkGate_7 : decode cX5_checkGate 7 = .ok (.isub, 1) := by decide +kernel
theorem dX5_checkGate_8 : decode cX5_checkGate 8 = .ok (.invokestatic 56, 3) := by decide +kernel
theorem dX5_checkGate_11 : decode cX5_checkGate 11 = .ok (.invokestatic 125, 3) := by decide +kernel
theorem dX5_checkGate_14 : decode cX5_checkGate 14 = .ok (.return_, 1) := by decide +kernel
theorem dX5_entryAt_0 : decode cX5_entryAt 0 = .ok (.aload_n 0, 1) := by decide +kernel
theorem dX5_entryAt_1 : decode cX5_entryAt 1 = .ok (.getfield 18, 3) := by decide +kernel
theorem dX5_entryAt_4 : decode cX5_entryAt 4 = .ok (.iload_n 1, 1) := by decide +kernel
theorem dX5_entryAt_5 : decode cX5_entryAt 5 = .ok (.invokevirtual 233, 3) := by decide +kernel
theorem dX5_entryAt_8 : decode cX5_entryAt 8 = .ok (.astore_n 2, 1) := by decide +kernel
theorem dX5_entryAt_9 : decode cX5_entryAt 9 = .ok (.aload_n 2, 1) := by decide +kernel
theorem dX5_entryAt_10 : decode cX5_entryAt 10 = .ok (.ifnonnull 13, 3) := by decide +kernel
theorem dX5_entryAt_13 : decode cX5_entryAt 13 = .ok (.new 218, 3) := by decide +kernel
theorem dX5_entryAt_16 : decode cX5_entryAt 16 = .ok (.dup, 1) := by decide +kernel
theorem dX5_entryAt_17 : decode cX5_entryAt 17 = .ok (.ldc 236, 2) := by decide +kernel
theorem dX5_entryAt_19 : decode cX5_entryAt 19 = .ok (.invokespecial 222, 3) := by decide +kernel
theorem dX5_entryAt_22 : decode cX5_entryAt 22 = .ok (.athrow, 1) := by decide +kernel
theorem dX5_entryAt_23 : decode cX5_entryAt 23 = .ok (.aload_n 2, 1) := by decide +kernel
theorem dX5_entryAt_24 : decode cX5_entryAt 24 = .ok (.areturn, 1) := by decide +kernel
theorem dX5_gateAt_0 : decode cX5_gateAt 0 = .ok (.iload_n 1, 1) := by decide +kernel
theorem dX5_gateAt_1 : decode cX5_gateAt 1 = .ok (.iconst 0, 1) := by decide +kernel
theorem dX5_gateAt_2 : decode cX5_gateAt 2 = .ok (.aload_n 0, 1) := by decide +kernel
theorem dX5_gateAt_3 : decode cX5_gateAt 3 = .ok (.getfield 28, 3) := by decide +kernel
theorem dX5_gateAt_6 : decode cX5_gateAt 6 = .ok (.iconst 1, 1) := by decide +kernel
theorem dX5_gateAt_7 : decode cX5_gateAt 7 = .ok (.isub, 1) := by decide +kernel
theorem dX5_gateAt_8 : decode cX5_gateAt 8 = .ok (.invokestatic 56, 3) := by decide +kernel
theorem dX5_gateAt_11 : decode cX5_gateAt 11 = .ok (.ifCond .eq 12, 3) := by decide +kernel
theorem dX5_gateAt_14 : decode cX5_gateAt 14 = .ok (.aload_n 0, 1) := by decide +kernel
theorem dX5_gateAt_15 : decode cX5_gateAt 15 = .ok (.getfield 24, 3) := by decide +kernel
theorem dX5_gateAt_18 : decode cX5_gateAt 18 = .ok (.iload_n 1, 1) := by decide +kernel
theorem dX5_gateAt_19 : decode cX5_gateAt 19 = .ok (.aaload, 1) := by decide +kernel
theorem dX5_gateAt_20 : decode cX5_gateAt 20 = .ok (.goto 4, 3) := by decide +kernel
theorem dX5_gateAt_23 : decode cX5_gateAt 23 = .ok (.aconst_null, 1) := by decide +kernel
theorem dX5_gateAt_24 : decode cX5_gateAt 24 = .ok (.astore_n 2, 1) := by decide +kernel
theorem dX5_gateAt_25 : decode cX5_gateAt 25 = .ok (.aload_n 2, 1) := by decide +kernel
theorem dX5_gateAt_26 : decode cX5_gateAt 26 = .ok (.ifnonnull 13, 3) := by decide +kernel
theorem dX5_gateAt_29 : decode cX5_gateAt 29 = .ok (.new 218, 3) := by decide +kernel
theorem dX5_gateAt_32 : decode cX5_gateAt 32 = .ok (.dup, 1) := by decide +kernel
theorem dX5_gateAt_33 : decode cX5_gateAt 33 = .ok (.ldc 238, 2) := by decide +kernel
theorem dX5_gateAt_35 : decode cX5_gateAt 35 = .ok (.invokespecial 222, 3) := by decide +kernel
theorem dX5_gateAt_38 : decode cX5_gateAt 38 = .ok (.athrow, 1) := by decide +kernel
theorem dX5_gateAt_39 : decode cX5_gateAt 39 = .ok (.aload_n 2, 1) := by decide +kernel
theorem dX5_gateAt_40 : decode cX5_gateAt 40 = .ok (.areturn, 1) := by decide +kernel
theorem dX5_carAt_0 : decode cX5_carAt 0 = .ok (.aload_n 0, 1) := by decide +kernel
theorem dX5_carAt_1 : decode cX5_carAt 1 = .ok (.iload_n 1, 1) := by decide +kernel
theorem dX5_carAt_2 : decode cX5_carAt 2 = .ok (.invokevirtual 212, 3) := by decide +kernel
theorem dX5_carAt_5 : decode cX5_carAt 5 = .ok (.ifCond .eq 12, 3) := by decide +kernel
theorem dX5_carAt_8 : decode cX5_carAt 8 = .ok (.aload_n 0, 1) := by decide +kernel
theorem dX5_carAt_9 : decode cX5_carAt 9 = .ok (.getfield 36, 3) := by decide +kernel
theorem dX5_carAt_12 : decode cX5_carAt 12 = .ok (.iload_n 1, 1) := by decide +kernel
theorem dX5_carAt_13 : decode cX5_carAt 13 = .ok (.aaload, 1) := by decide +kernel
theorem dX5_carAt_14 : decode cX5_carAt 14 = .ok (.goto 4, 3) := by decide +kernel
theorem dX5_carAt_17 : decode cX5_carAt 17 = .ok (.aconst_null, 1) := by decide +kernel
theorem dX5_carAt_18 : decode cX5_carAt 18 = .ok (.astore_n 2, 1) := by decide +kernel
theorem dX5_carAt_19 : decode cX5_carAt 19 = .ok (.aload_n 2, 1) := by decide +kernel
theorem dX5_carAt_20 : decode cX5_carAt 20 = .ok (.ifnonnull 13, 3) := by decide +kernel
theorem dX5_carAt_23 : decode cX5_carAt 23 = .ok (.new 218, 3) := by decide +kernel
theorem dX5_carAt_26 : decode cX5_carAt 26 = .ok (.dup, 1) := by decide +kernel
theorem dX5_carAt_27 : decode cX5_carAt 27 = .ok (.ldc 240, 2) := by decide +kernel
theorem dX5_carAt_29 : decode cX5_carAt 29 = .ok (.invokespecial 222, 3) := by decide +kernel
theorem dX5_carAt_32 : decode cX5_carAt 32 = .ok (.athrow, 1) := by decide +kernel
theorem dX5_carAt_33 : decode cX5_carAt 33 = .ok (.aload_n 2, 1) := by decide +kernel
theorem dX5_carAt_34 : decode cX5_carAt 34 = .ok (.areturn, 1) := by decide +kernel
theorem dX5_partAt_0 : decode cX5_partAt 0 = .ok (.iload_n 1, 1) := by decide +kernel
theorem dX5_partAt_1 : decode cX5_partAt 1 = .ok (.iconst 0, 1) := by decide +kernel
theorem dX5_partAt_2 : decode cX5_partAt 2 = .ok (.aload_n 0, 1) := by decide +kernel
theorem dX5_partAt_3 : decode cX5_partAt 3 = .ok (.getfield 49, 3) := by decide +kernel
theorem dX5_partAt_6 : decode cX5_partAt 6 = .ok (.iconst 1, 1) := by decide +kernel
theorem dX5_partAt_7 : decode cX5_partAt 7 = .ok (.isub, 1) := by decide +kernel
theorem dX5_partAt_8 : decode cX5_partAt 8 = .ok (.invokestatic 56, 3) := by decide +kernel
theorem dX5_partAt_11 : decode cX5_partAt 11 = .ok (.ifCond .eq 12, 3) := by decide +kernel
theorem dX5_partAt_14 : decode cX5_partAt 14 = .ok (.aload_n 0, 1) := by decide +kernel
theorem dX5_partAt_15 : decode cX5_partAt 15 = .ok (.getfield 45, 3) := by decide +kernel
theorem dX5_partAt_18 : decode cX5_partAt 18 = .ok (.iload_n 1, 1) := by decide +kernel
theorem dX5_partAt_19 : decode cX5_partAt 19 = .ok (.aaload, 1) := by decide +kernel
theorem dX5_partAt_20 : decode cX5_partAt 20 = .ok (.goto 4, 3) := by decide +kernel
theorem dX5_partAt_23 : decode cX5_partAt 23 = .ok (.aconst_null, 1) := by decide +kernel
theorem dX5_partAt_24 : decode cX5_partAt 24 = .ok (.astore_n 2, 1) := by decide +kernel
theorem dX5_partAt_25 : decode cX5_partAt 25 = .ok (.aload_n 2, 1) := by decide +kernel
theorem dX5_partAt_26 : decode cX5_partAt 26 = .ok (.ifnonnull 13, 3) := by decide +kernel
theorem dX5_partAt_29 : decode cX5_partAt 29 = .ok (.new 218, 3) := by decide +kernel
theorem dX5_partAt_32 : decode cX5_partAt 32 = .ok (.dup, 1) := by decide +kernel
theorem dX5_partAt_33 : decode cX5_partAt 33 = .ok (.ldc 242, 2) := by decide +kernel
theorem dX5_partAt_35 : decode cX5_partAt 35 = .ok (.invokespecial 222, 3) := by decide +kernel
theorem dX5_partAt_38 : decode cX5_partAt 38 = .ok (.athrow, 1) := by decide +kernel
theorem dX5_partAt_39 : decode cX5_partAt 39 = .ok (.aload_n 2, 1) := by decide +kernel
theorem dX5_partAt_40 : decode cX5_partAt 40 = .ok (.areturn, 1) := by decide +kernel
theorem dX5_lastGateEntry_0 : decode cX5_lastGateEntry 0 = .ok (.aload_n 0, 1) := by decide +kernel
theorem dX5_lastGateEntry_1 : decode cX5_lastGateEntry 1 = .ok (.getfield 28, 3) := by decide +kernel
theorem dX5_lastGateEntry_4 : decode cX5_lastGateEntry 4 = .ok (.ifCond .ne 7, 3) := by decide +kernel
theorem dX5_lastGateEntry_7 : decode cX5_lastGateEntry 7 = .ok (.iconst (-1), 1) := by decide +kernel
theorem dX5_lastGateEntry_8 : decode cX5_lastGateEntry 8 = .ok (.goto 16, 3) := by decide +kernel
theorem dX5_lastGateEntry_11 : decode cX5_lastGateEntry 11 = .ok (.aload_n 0, 1) := by decide +kernel
theorem dX5_lastGateEntry_12 : decode cX5_lastGateEntry 12 = .ok (.aload_n 0, 1) := by decide +kernel
theorem dX5_lastGateEntry_13 : decode cX5_lastGateEntry 13 = .ok (.getfield 28, 3) := by decide +kernel
theorem dX5_lastGateEntry_16 : decode cX5_lastGateEntry 16 = .ok (.iconst 1, 1) := by decide +kernel
theorem dX5_lastGateEntry_17 : decode cX5_lastGateEntry 17 = .ok (.isub, 1) := by decide +kernel
theorem dX5_lastGateEntry_18 : decode cX5_lastGateEntry 18 = .ok (.invokevirtual 179, 3) := by decide +kernel
theorem dX5_lastGateEntry_21 : decode cX5_lastGateEntry 21 = .ok (.getfield 244, 3) := by decide +kernel
theorem dX5_lastGateEntry_24 : decode cX5_lastGateEntry 24 = .ok (.ireturn, 1) := by decide +kernel
theorem dX5_cellOfPlace_0 : decode cX5_cellOfPlace 0 = .ok (.iload_n 1, 1) := by decide +kernel
theorem dX5_cellOfPlace_1 : decode cX5_cellOfPlace 1 = .ok (.iconst (-1), 1) := by decide +kernel
theorem dX5_cellOfPlace_2 : decode cX5_cellOfPlace 2 = .ok (.if_icmp .ne 10, 3) := by decide +kernel
theorem dX5_cellOfPlace_5 : decode cX5_cellOfPlace 5 = .ok (.aload_n 0, 1) := by decide +kernel
theorem dX5_cellOfPlace_6 : decode cX5_cellOfPlace 6 = .ok (.getfield 7, 3) := by decide +kernel
theorem dX5_cellOfPlace_9 : decode cX5_cellOfPlace 9 = .ok (.goto 14, 3) := by decide +kernel
theorem dX5_cellOfPlace_12 : decode cX5_cellOfPlace 12 = .ok (.aload_n 0, 1) := by decide +kernel
theorem dX5_cellOfPlace_13 : decode cX5_cellOfPlace 13 = .ok (.iload_n 1, 1) := by decide +kernel
theorem dX5_cellOfPlace_14 : decode cX5_cellOfPlace 14 = .ok (.invokevirtual 109, 3) := by decide +kernel
theorem dX5_cellOfPlace_17 : decode cX5_cellOfPlace 17 = .ok (.getfield 116, 3) := by decide +kernel
theorem dX5_cellOfPlace_20 : decode cX5_cellOfPlace 20 = .ok (.getfield 85, 3) := by decide +kernel
theorem dX5_cellOfPlace_23 : decode cX5_cellOfPlace 23 = .ok (.ireturn, 1) := by decide +kernel
theorem dX5_firstPartIn_0 : decode cX5_firstPartIn 0 = .ok (.iconst 0, 1) := by decide +kernel
theorem dX5_firstPartIn_1 : decode cX5_firstPartIn 1 = .ok (.istore_n 3, 1) := by decide +kernel
theorem dX5_firstPartIn_2 : decode cX5_firstPartIn 2 = .ok (.iload_n 3, 1) := by decide +kernel
theorem dX5_firstPartIn_3 : decode cX5_firstPartIn 3 = .ok (.aload_n 0, 1) := by decide +kernel
theorem dX5_firstPartIn_4 : decode cX5_firstPartIn 4 = .ok (.getfield 49, 3) := by decide +kernel
theorem dX5_firstPartIn_7 : decode cX5_firstPartIn 7 = .ok (.if_icmp .ge 36, 3) := by decide +kernel
theorem dX5_firstPartIn_10 : decode cX5_firstPartIn 10 = .ok (.aload_n 0, 1) := by decide +kernel
theorem dX5_firstPartIn_11 : decode cX5_firstPartIn 11 = .ok (.iload_n 3, 1) := by decide +kernel
theorem dX5_firstPartIn_12 : decode cX5_firstPartIn 12 = .ok (.invokevirtual 142, 3) := by decide +kernel
theorem dX5_firstPartIn_15 : decode cX5_firstPartIn 15 = .ok (.astore 4, 2) := by decide +kernel
theorem dX5_firstPartIn_17 : decode cX5_firstPartIn 17 = .ok (.aload 4, 2) := by decide +kernel
theorem dX5_firstPartIn_19 : decode cX5_firstPartIn 19 = .ok (.getfield 153, 3) := by decide +kernel
theorem dX5_firstPartIn_22 : decode cX5_firstPartIn 22 = .ok (.iload_n 1, 1) := by decide +kernel
theorem dX5_firstPartIn_23 : decode cX5_firstPartIn 23 = .ok (.if_icmp .ne 14, 3) := by decide +kernel
theorem dX5_firstPartIn_26 : decode cX5_firstPartIn 26 = .ok (.aload 4, 2) := by decide +kernel
theorem dX5_firstPartIn_28 : decode cX5_firstPartIn 28 = .ok (.getfield 247, 3) := by decide +kernel
theorem dX5_firstPartIn_31 : decode cX5_firstPartIn 31 = .ok (.iload_n 2, 1) := by decide +kernel
theorem dX5_firstPartIn_32 : decode cX5_firstPartIn 32 = .ok (.if_icmp .ne 5, 3) := by decide +kernel
theorem dX5_firstPartIn_35 : decode cX5_firstPartIn 35 = .ok (.iload_n 3, 1) := by decide +kernel
theorem dX5_firstPartIn_36 : decode cX5_firstPartIn 36 = .ok (.ireturn, 1) := by decide +kernel
theorem dX5_firstPartIn_37 : decode cX5_firstPartIn 37 = .ok (.iinc 3 1, 3) := by decide +kernel
theorem dX5_firstPartIn_40 : decode cX5_firstPartIn 40 = .ok (.goto (-38), 3) := by decide +kernel
theorem dX5_firstPartIn_43 : decode cX5_firstPartIn 43 = .ok (.iconst (-1), 1) := by decide +kernel
theorem dX5_firstPartIn_44 : decode cX5_firstPartIn 44 = .ok (.ireturn, 1) := by decide +kernel
theorem dX5_passMinute_0 : decode cX5_passMinute 0 = .ok (.iconst 0, 1) := by decide +kernel
theorem dX5_passMinute_1 : decode cX5_passMinute 1 = .ok (.istore_n 3, 1) := by decide +kernel
theorem dX5_passMinute_2 : decode cX5_passMinute 2 = .ok (.iconst (-1), 1) := by decide +kernel
theorem dX5_passMinute_3 : decode cX5_passMinute 3 = .ok (.istore 4, 2) := by decide +kernel
theorem dX5_passMinute_5 : decode cX5_passMinute 5 = .ok (.iconst 0, 1) := by decide +kernel
theorem dX5_passMinute_6 : decode cX5_passMinute 6 = .ok (.istore 5, 2) := by decide +kernel
theorem dX5_passMinute_8 : decode cX5_passMinute 8 = .ok (.iload 5, 2) := by decide +kernel
theorem dX5_passMinute_10 : decode cX5_passMinute 10 = .ok (.iload_n 2, 1) := by decide +kernel
theorem dX5_passMinute_11 : decode cX5_passMinute 11 = .ok (.if_icmp .gt 35, 3) := by decide +kernel
theorem dX5_passMinute_14 : decode cX5_passMinute 14 = .ok (.aload_n 1, 1) := by decide +kernel
theorem dX5_passMinute_15 : decode cX5_passMinute 15 = .ok (.getfield 116, 3) := by decide +kernel
theorem dX5_passMinute_18 : decode cX5_passMinute 18 = .ok (.aload_n 0, 1) := by decide +kernel
theorem dX5_passMinute_19 : decode cX5_passMinute 19 = .ok (.iload 5, 2) := by decide +kernel
theorem dX5_passMinute_21 : decode cX5_passMinute 21 = .ok (.invokevirtual 179, 3) := by decide +kernel
theorem dX5_passMinute_24 : decode cX5_passMinute 24 = .ok (.getfield 183, 3) := by decide +kernel
theorem dX5_passMinute_27 : decode cX5_passMinute 27 = .ok (.iload_n 3, 1) := by decide +kernel
theorem dX5_passMinute_28 : decode cX5_passMinute 28 = .ok (.invokevirtual 250, 3) := by decide +kernel
theorem dX5_passMinute_31 : decode cX5_passMinute 31 = .ok (.istore 4, 2) := by decide +kernel
theorem dX5_passMinute_33 : decode cX5_passMinute 33 = .ok (.iload_n 3, 1) := by decide +kernel
theorem dX5_passMinute_34 : decode cX5_passMinute 34 = .ok (.iload 4, 2) := by decide +kernel
theorem dX5_passMinute_36 : decode cX5_passMinute 36 = .ok (.invokestatic 200, 3) := by decide +kernel
theorem dX5_passMinute_39 : decode cX5_passMinute 39 = .ok (.istore_n 3, 1) := by decide +kernel
theorem dX5_passMinute_40 : decode cX5_passMinute 40 = .ok (.iinc 5 1, 3) := by decide +kernel
theorem dX5_passMinute_43 : decode cX5_passMinute 43 = .ok (.goto (-35), 3) := by decide +kernel
theorem dX5_passMinute_46 : decode cX5_passMinute 46 = .ok (.iload 4, 2) := by decide +kernel
theorem dX5_passMinute_48 : decode cX5_passMinute 48 = .ok (.ireturn, 1) := by decide +kernel
theorem dX5_pointsOf_0 : decode cX5_pointsOf 0 = .ok (.bipush 10, 2) := by decide +kernel
theorem dX5_pointsOf_2 : decode cX5_pointsOf 2 = .ok (.aload_n 1, 1) := by decide +kernel
theorem dX5_pointsOf_3 : decode cX5_pointsOf 3 = .ok (.getfield 176, 3) := by decide +kernel
theorem dX5_pointsOf_6 : decode cX5_pointsOf 6 = .ok (.imul, 1) := by decide +kernel
theorem dX5_pointsOf_7 : decode cX5_pointsOf 7 = .ok (.istore_n 2, 1) := by decide +kernel
theorem dX5_pointsOf_8 : decode cX5_pointsOf 8 = .ok (.iconst 0, 1) := by decide +kernel
theorem dX5_pointsOf_9 : decode cX5_pointsOf 9 = .ok (.istore_n 3, 1) := by decide +kernel
theorem dX5_pointsOf_10 : decode cX5_pointsOf 10 = .ok (.iconst 0, 1) := by decide +kernel
theorem dX5_pointsOf_11 : decode cX5_pointsOf 11 = .ok (.istore 4, 2) := by decide +kernel
theorem dX5_pointsOf_13 : decode cX5_pointsOf 13 = .ok (.iload 4, 2) := by decide +kernel
theorem dX5_pointsOf_15 : decode cX5_pointsOf 15 = .ok (.aload_n 0, 1) := by decide +kernel
theorem dX5_pointsOf_16 : decode cX5_pointsOf 16 = .ok (.getfield 28, 3) := by decide +kernel
theorem dX5_pointsOf_19 : decode cX5_pointsOf 19 = .ok (.if_icmp .ge 64, 3) := by decide +kernel
theorem dX5_pointsOf_22 : decode cX5_pointsOf 22 = .ok (.iload 4, 2) := by decide +kernel
theorem dX5_pointsOf_24 : decode cX5_pointsOf 24 = .ok (.aload_n 0, 1) := by decide +kernel
theorem dX5_pointsOf_25 : decode cX5_pointsOf 25 = .ok (.getfield 31, 3) := by decide +kernel
theorem dX5_pointsOf_28 : decode cX5_pointsOf 28 = .ok (.if_icmp .ge 55, 3) := by decide +kernel
theorem dX5_pointsOf_31 : decode cX5_pointsOf 31 = .ok (.aload_n 0, 1) := by decide +kernel
theorem dX5_pointsOf_32 : decode cX5_pointsOf 32 = .ok (.iload 4, 2) := by decide +kernel
theorem dX5_pointsOf_34 : decode cX5_pointsOf 34 = .ok (.invokevirtual 179, 3) := by decide +kernel
theorem dX5_pointsOf_37 : decode cX5_pointsOf 37 = .ok (.astore 5, 2) := by decide +kernel
theorem dX5_pointsOf_39 : decode cX5_pointsOf 39 = .ok (.aload_n 1, 1) := by decide +kernel
theorem dX5_pointsOf_40 : decode cX5_pointsOf 40 = .ok (.getfield 116, 3) := by decide +kernel
theorem dX5_pointsOf_43 : decode cX5_pointsOf 43 = .ok (.aload 5, 2) := by decide +kernel
theorem dX5_pointsOf_45 : decode cX5_pointsOf 45 = .ok (.getfield 183, 3) := by decide +kernel
theorem dX5_pointsOf_48 : decode cX5_pointsOf 48 = .ok (.iload_n 3, 1) := by decide +kernel
theorem dX5_pointsOf_49 : decode cX5_pointsOf 49 = .ok (.invokevirtual 250, 3) := by decide +kernel
theorem dX5_pointsOf_52 : decode cX5_pointsOf 52 = .ok (.istore 6, 2) := by decide +kernel
theorem dX5_pointsOf_54 : decode cX5_pointsOf 54 = .ok (.iload_n 3, 1) := by decide +kernel
theorem dX5_pointsOf_55 : decode cX5_pointsOf 55 = .ok (.iload 6, 2) := by decide +kernel
theorem dX5_pointsOf_57 : decode cX5_pointsOf 57 = .ok (.invokestatic 200, 3) := by decide +kernel
theorem dX5_pointsOf_60 : decode cX5_pointsOf 60 = .ok (.istore_n 3, 1) := by decide +kernel
theorem dX5_pointsOf_61 : decode cX5_pointsOf 61 = .ok (.iload_n 2, 1) := by decide +kernel
theorem dX5_pointsOf_62 : decode cX5_pointsOf 62 = .ok (.aload 5, 2) := by decide +kernel
theorem dX5_pointsOf_64 : decode cX5_pointsOf 64 = .ok (.aload_n 1, 1) := by decide +kernel
theorem dX5_pointsOf_65 : decode cX5_pointsOf 65 = .ok (.iload 4, 2) := by decide +kernel
theorem dX5_pointsOf_67 : decode cX5_pointsOf 67 = .ok (.iload 6, 2) := by decide +kernel
theorem dX5_pointsOf_69 : decode cX5_pointsOf 69 = .ok (.invokevirtual 167, 3) := by decide +kernel
theorem dX5_pointsOf_72 : decode cX5_pointsOf 72 = .ok (.invokevirtual 253, 3) := by decide +kernel
theorem dX5_pointsOf_75 : decode cX5_pointsOf 75 = .ok (.iadd, 1) := by decide +kernel
theorem dX5_pointsOf_76 : decode cX5_pointsOf 76 = .ok (.istore_n 2, 1) := by decide +kernel
theorem dX5_pointsOf_77 : decode cX5_pointsOf 77 = .ok (.iinc 4 1, 3) := by decide +kernel
theorem dX5_pointsOf_80 : decode cX5_pointsOf 80 = .ok (.goto (-67), 3) := by decide +kernel
theorem dX5_pointsOf_83 : decode cX5_pointsOf 83 = .ok (.iload_n 2, 1) := by decide +kernel
theorem dX5_pointsOf_84 : decode cX5_pointsOf 84 = .ok (.ireturn, 1) := by decide +kernel
theorem dX5_placeOf_0 : decode cX5_placeOf 0 = .ok (.iconst 0, 1) := by decide +kernel
theorem dX5_placeOf_1 : decode cX5_placeOf 1 = .ok (.istore_n 2, 1) := by decide +kernel
theorem dX5_placeOf_2 : decode cX5_placeOf 2 = .ok (.iconst 0, 1) := by decide +kernel
theorem dX5_placeOf_3 : decode cX5_placeOf 3 = .ok (.istore_n 3, 1) := by decide +kernel
theorem dX5_placeOf_4 : decode cX5_placeOf 4 = .ok (.iload_n 3, 1) := by decide +kernel
theorem dX5_placeOf_5 : decode cX5_placeOf 5 = .ok (.aload_n 0, 1) := by decide +kernel
theorem dX5_placeOf_6 : decode cX5_placeOf 6 = .ok (.getfield 40, 3) := by decide +kernel
theorem dX5_placeOf_9 : decode cX5_placeOf 9 = .ok (.if_icmp .ge 47, 3) := by decide +kernel
theorem dX5_placeOf_12 : decode cX5_placeOf 12 = .ok (.aload_n 0, 1) := by decide +kernel
theorem dX5_placeOf_13 : decode cX5_placeOf 13 = .ok (.getfield 52, 3) := by decide +kernel
theorem dX5_placeOf_16 : decode cX5_placeOf 16 = .ok (.iload_n 3, 1) := by decide +kernel
theorem dX5_placeOf_17 : decode cX5_placeOf 17 = .ok (.iaload, 1) := by decide +kernel
theorem dX5_placeOf_18 : decode cX5_placeOf 18 = .ok (.aload_n 0, 1) := by decide +kernel
theorem dX5_placeOf_19 : decode cX5_placeOf 19 = .ok (.getfield 52, 3) := by decide +kernel
theorem dX5_placeOf_22 : decode cX5_placeOf 22 = .ok (.iload_n 1, 1) := by decide +kernel
theorem dX5_placeOf_23 : decode cX5_placeOf 23 = .ok (.iaload, 1) := by decide +kernel
theorem dX5_placeOf_24 : decode cX5_placeOf 24 = .ok (.if_icmp .lt 23, 3) := by decide +kernel
theorem dX5_placeOf_27 : decode cX5_placeOf 27 = .ok (.aload_n 0, 1) := by decide +kernel
theorem dX5_placeOf_28 : decode cX5_placeOf 28 = .ok (.getfield 52, 3) := by decide +kernel
theorem dX5_placeOf_31 : decode cX5_placeOf 31 = .ok (.iload_n 3, 1) := by decide +kernel
theorem dX5_placeOf_32 : decode cX5_placeOf 32 = .ok (.iaload, 1) := by decide +kernel
theorem dX5_placeOf_33 : decode cX5_placeOf 33 = .ok (.aload_n 0, 1) := by decide +kernel
theorem dX5_placeOf_34 : decode cX5_placeOf 34 = .ok (.getfield 52, 3) := by decide +kernel
theorem dX5_placeOf_37 : decode cX5_placeOf 37 = .ok (.iload_n 1, 1) := by decide +kernel
theorem dX5_placeOf_38 : decode cX5_placeOf 38 = .ok (.iaload, 1) := by decide +kernel
theorem dX5_placeOf_39 : decode cX5_placeOf 39 = .ok (.if_icmp .ne 11, 3) := by decide +kernel
theorem dX5_placeOf_42 : decode cX5_placeOf 42 = .ok (.iload_n 3, 1) := by decide +kernel
theorem dX5_placeOf_43 : decode cX5_placeOf 43 = .ok (.iload_n 1, 1) := by decide +kernel
theorem dX5_placeOf_44 : decode cX5_placeOf 44 = .ok (.if_icmp .ge 6, 3) := by decide +kernel
theorem dX5_placeOf_47 : decode cX5_placeOf 47 = .ok (.iinc 2 1, 3) := by decide +kernel
theorem dX5_placeOf_50 : decode cX5_placeOf 50 = .ok (.iinc 3 1, 3) := by decide +kernel
theorem dX5_placeOf_53 : decode cX5_placeOf 53 = .ok (.goto (-49), 3) := by decide +kernel
theorem dX5_placeOf_56 : decode cX5_placeOf 56 = .ok (.iload_n 2, 1) := by decide +kernel
theorem dX5_placeOf_57 : decode cX5_placeOf 57 = .ok (.ireturn, 1) := by decide +kernel

/-! decode rows of the wrappers -/
theorem dL_setStart_0 : decode cL_setStart 0 = .ok (.aload_n 2, 1) := by decide +kernel
theorem dL_setStart_1 : decode cL_setStart 1 = .ok (.iconst 0, 1) := by decide +kernel
theorem dL_setStart_2 : decode cL_setStart 2 = .ok (.aload_n 0, 1) := by decide +kernel
theorem dL_setStart_3 : decode cL_setStart 3 = .ok (.iload_n 1, 1) := by decide +kernel
theorem dL_setStart_4 : decode cL_setStart 4 = .ok (.invokevirtual 7, 3) := by decide +kernel
theorem dL_setStart_7 : decode cL_setStart 7 = .ok (.i2l, 1) := by decide +kernel
theorem dL_setStart_8 : decode cL_setStart 8 = .ok (.lastore, 1) := by decide +kernel
theorem dL_setStart_9 : decode cL_setStart 9 = .ok (.goto 9, 3) := by decide +kernel
theorem dL_setStart_12 : decode cL_setStart 12 = .ok (.astore_n 3, 1) := by decide +kernel
theorem dL_setStart_13 : decode cL_setStart 13 = .ok (.iconst 1, 1) := by decide +kernel
theorem dL_setStart_14 : decode cL_setStart 14 = .ok (.ireturn, 1) := by decide +kernel
theorem dL_setStart_15 : decode cL_setStart 15 = .ok (.astore_n 3, 1) := by decide +kernel
theorem dL_setStart_16 : decode cL_setStart 16 = .ok (.iconst 2, 1) := by decide +kernel
theorem dL_setStart_17 : decode cL_setStart 17 = .ok (.ireturn, 1) := by decide +kernel
theorem dL_setStart_18 : decode cL_setStart 18 = .ok (.iconst 0, 1) := by decide +kernel
theorem dL_setStart_19 : decode cL_setStart 19 = .ok (.ireturn, 1) := by decide +kernel
theorem dL_addEntry_0 : decode cL_addEntry 0 = .ok (.aload_n 3, 1) := by decide +kernel
theorem dL_addEntry_1 : decode cL_addEntry 1 = .ok (.iconst 0, 1) := by decide +kernel
theorem dL_addEntry_2 : decode cL_addEntry 2 = .ok (.aload_n 0, 1) := by decide +kernel
theorem dL_addEntry_3 : decode cL_addEntry 3 = .ok (.iload_n 1, 1) := by decide +kernel
theorem dL_addEntry_4 : decode cL_addEntry 4 = .ok (.iload_n 2, 1) := by decide +kernel
theorem dL_addEntry_5 : decode cL_addEntry 5 = .ok (.invokevirtual 17, 3) := by decide +kernel
theorem dL_addEntry_8 : decode cL_addEntry 8 = .ok (.i2l, 1) := by decide +kernel
theorem dL_addEntry_9 : decode cL_addEntry 9 = .ok (.lastore, 1) := by decide +kernel
theorem dL_addEntry_10 : decode cL_addEntry 10 = .ok (.goto 11, 3) := by decide +kernel
theorem dL_addEntry_13 : decode cL_addEntry 13 = .ok (.astore 4, 2) := by decide +kernel
theorem dL_addEntry_15 : decode cL_addEntry 15 = .ok (.iconst 1, 1) := by decide +kernel
theorem dL_addEntry_16 : decode cL_addEntry 16 = .ok (.ireturn, 1) := by decide +kernel
theorem dL_addEntry_17 : decode cL_addEntry 17 = .ok (.astore 4, 2) := by decide +kernel
theorem dL_addEntry_19 : decode cL_addEntry 19 = .ok (.iconst 2, 1) := by decide +kernel
theorem dL_addEntry_20 : decode cL_addEntry 20 = .ok (.ireturn, 1) := by decide +kernel
theorem dL_addEntry_21 : decode cL_addEntry 21 = .ok (.iconst 0, 1) := by decide +kernel
theorem dL_addEntry_22 : decode cL_addEntry 22 = .ok (.ireturn, 1) := by decide +kernel
theorem dL_addGate_0 : decode cL_addGate 0 = .ok (.aload_n 3, 1) := by decide +kernel
theorem dL_addGate_1 : decode cL_addGate 1 = .ok (.iconst 0, 1) := by decide +kernel
theorem dL_addGate_2 : decode cL_addGate 2 = .ok (.aload_n 0, 1) := by decide +kernel
theorem dL_addGate_3 : decode cL_addGate 3 = .ok (.iload_n 1, 1) := by decide +kernel
theorem dL_addGate_4 : decode cL_addGate 4 = .ok (.iload_n 2, 1) := by decide +kernel
theorem dL_addGate_5 : decode cL_addGate 5 = .ok (.invokevirtual 21, 3) := by decide +kernel
theorem dL_addGate_8 : decode cL_addGate 8 = .ok (.i2l, 1) := by decide +kernel
theorem dL_addGate_9 : decode cL_addGate 9 = .ok (.lastore, 1) := by decide +kernel
theorem dL_addGate_10 : decode cL_addGate 10 = .ok (.goto 15, 3) := by decide +kernel
theorem dL_addGate_13 : decode cL_addGate 13 = .ok (.astore 4, 2) := by decide +kernel
theorem dL_addGate_15 : decode cL_addGate 15 = .ok (.iconst 1, 1) := by decide +kernel
theorem dL_addGate_16 : decode cL_addGate 16 = .ok (.ireturn, 1) := by decide +kernel
theorem dL_addGate_17 : decode cL_addGate 17 = .ok (.astore 4, 2) := by decide +kernel
theorem dL_addGate_19 : decode cL_addGate 19 = .ok (.iconst 2, 1) := by decide +kernel
theorem dL_addGate_20 : decode cL_addGate 20 = .ok (.ireturn, 1) := by decide +kernel
theorem dL_addGate_21 : decode cL_addGate 21 = .ok (.astore 4, 2) := by decide +kernel
theorem dL_addGate_23 : decode cL_addGate 23 = .ok (.iconst 3, 1) := by decide +kernel
theorem dL_addGate_24 : decode cL_addGate 24 = .ok (.ireturn, 1) := by decide +kernel
theorem dL_addGate_25 : decode cL_addGate 25 = .ok (.iconst 0, 1) := by decide +kernel
theorem dL_addGate_26 : decode cL_addGate 26 = .ok (.ireturn, 1) := by decide +kernel
theorem dL_cut_0 : decode cL_cut 0 = .ok (.aload_n 2, 1) := by decide +kernel
theorem dL_cut_1 : decode cL_cut 1 = .ok (.iconst 0, 1) := by decide +kernel
theorem dL_cut_2 : decode cL_cut 2 = .ok (.aload_n 0, 1) := by decide +kernel
theorem dL_cut_3 : decode cL_cut 3 = .ok (.iload_n 1, 1) := by decide +kernel
theorem dL_cut_4 : decode cL_cut 4 = .ok (.invokevirtual 26, 3) := by decide +kernel
theorem dL_cut_7 : decode cL_cut 7 = .ok (.i2l, 1) := by decide +kernel
theorem dL_cut_8 : decode cL_cut 8 = .ok (.lastore, 1) := by decide +kernel
theorem dL_cut_9 : decode cL_cut 9 = .ok (.goto 6, 3) := by decide +kernel
theorem dL_cut_12 : decode cL_cut 12 = .ok (.astore_n 3, 1) := by decide +kernel
theorem dL_cut_13 : decode cL_cut 13 = .ok (.iconst 1, 1) := by decide +kernel
theorem dL_cut_14 : decode cL_cut 14 = .ok (.ireturn, 1) := by decide +kernel
theorem dL_cut_15 : decode cL_cut 15 = .ok (.iconst 0, 1) := by decide +kernel
theorem dL_cut_16 : decode cL_cut 16 = .ok (.ireturn, 1) := by decide +kernel
theorem dL_enter_0 : decode cL_enter 0 = .ok (.aload_n 1, 1) := by decide +kernel
theorem dL_enter_1 : decode cL_enter 1 = .ok (.iconst 0, 1) := by decide +kernel
theorem dL_enter_2 : decode cL_enter 2 = .ok (.aload_n 0, 1) := by decide +kernel
theorem dL_enter_3 : decode cL_enter 3 = .ok (.invokevirtual 29, 3) := by decide +kernel
theorem dL_enter_6 : decode cL_enter 6 = .ok (.i2l, 1) := by decide +kernel
theorem dL_enter_7 : decode cL_enter 7 = .ok (.lastore, 1) := by decide +kernel
theorem dL_enter_8 : decode cL_enter 8 = .ok (.goto 6, 3) := by decide +kernel
theorem dL_enter_11 : decode cL_enter 11 = .ok (.astore_n 2, 1) := by decide +kernel
theorem dL_enter_12 : decode cL_enter 12 = .ok (.iconst 1, 1) := by decide +kernel
theorem dL_enter_13 : decode cL_enter 13 = .ok (.ireturn, 1) := by decide +kernel
theorem dL_enter_14 : decode cL_enter 14 = .ok (.iconst 0, 1) := by decide +kernel
theorem dL_enter_15 : decode cL_enter 15 = .ok (.ireturn, 1) := by decide +kernel
theorem dL_drive_0 : decode cL_drive 0 = .ok (.aload 4, 2) := by decide +kernel
theorem dL_drive_2 : decode cL_drive 2 = .ok (.iconst 0, 1) := by decide +kernel
theorem dL_drive_3 : decode cL_drive 3 = .ok (.aload_n 0, 1) := by decide +kernel
theorem dL_drive_4 : decode cL_drive 4 = .ok (.iload_n 1, 1) := by decide +kernel
theorem dL_drive_5 : decode cL_drive 5 = .ok (.iload_n 2, 1) := by decide +kernel
theorem dL_drive_6 : decode cL_drive 6 = .ok (.iload_n 3, 1) := by decide +kernel
theorem dL_drive_7 : decode cL_drive 7 = .ok (.invokevirtual 33, 3) := by decide +kernel
theorem dL_drive_10 : decode cL_drive 10 = .ok (.i2l, 1) := by decide +kernel
theorem dL_drive_11 : decode cL_drive 11 = .ok (.lastore, 1) := by decide +kernel
theorem dL_drive_12 : decode cL_drive 12 = .ok (.goto 15, 3) := by decide +kernel
theorem dL_drive_15 : decode cL_drive 15 = .ok (.astore 5, 2) := by decide +kernel
theorem dL_drive_17 : decode cL_drive 17 = .ok (.iconst 1, 1) := by decide +kernel
theorem dL_drive_18 : decode cL_drive 18 = .ok (.ireturn, 1) := by decide +kernel
theorem dL_drive_19 : decode cL_drive 19 = .ok (.astore 5, 2) := by decide +kernel
theorem dL_drive_21 : decode cL_drive 21 = .ok (.iconst 2, 1) := by decide +kernel
theorem dL_drive_22 : decode cL_drive 22 = .ok (.ireturn, 1) := by decide +kernel
theorem dL_drive_23 : decode cL_drive 23 = .ok (.astore 5, 2) := by decide +kernel
theorem dL_drive_25 : decode cL_drive 25 = .ok (.iconst 3, 1) := by decide +kernel
theorem dL_drive_26 : decode cL_drive 26 = .ok (.ireturn, 1) := by decide +kernel
theorem dL_drive_27 : decode cL_drive 27 = .ok (.iconst 0, 1) := by decide +kernel
theorem dL_drive_28 : decode cL_drive 28 = .ok (.ireturn, 1) := by decide +kernel
theorem dL_stand_0 : decode cL_stand 0 = .ok (.aload_n 3, 1) := by decide +kernel
theorem dL_stand_1 : decode cL_stand 1 = .ok (.iconst 0, 1) := by decide +kernel
theorem dL_stand_2 : decode cL_stand 2 = .ok (.aload_n 0, 1) := by decide +kernel
theorem dL_stand_3 : decode cL_stand 3 = .ok (.iload_n 1, 1) := by decide +kernel
theorem dL_stand_4 : decode cL_stand 4 = .ok (.iload_n 2, 1) := by decide +kernel
theorem dL_stand_5 : decode cL_stand 5 = .ok (.invokevirtual 37, 3) := by decide +kernel
theorem dL_stand_8 : decode cL_stand 8 = .ok (.i2l, 1) := by decide +kernel
theorem dL_stand_9 : decode cL_stand 9 = .ok (.lastore, 1) := by decide +kernel
theorem dL_stand_10 : decode cL_stand 10 = .ok (.goto 15, 3) := by decide +kernel
theorem dL_stand_13 : decode cL_stand 13 = .ok (.astore 4, 2) := by decide +kernel
theorem dL_stand_15 : decode cL_stand 15 = .ok (.iconst 1, 1) := by decide +kernel
theorem dL_stand_16 : decode cL_stand 16 = .ok (.ireturn, 1) := by decide +kernel
theorem dL_stand_17 : decode cL_stand 17 = .ok (.astore 4, 2) := by decide +kernel
theorem dL_stand_19 : decode cL_stand 19 = .ok (.iconst 2, 1) := by decide +kernel
theorem dL_stand_20 : decode cL_stand 20 = .ok (.ireturn, 1) := by decide +kernel
theorem dL_stand_21 : decode cL_stand 21 = .ok (.astore 4, 2) := by decide +kernel
theorem dL_stand_23 : decode cL_stand 23 = .ok (.iconst 3, 1) := by decide +kernel
theorem dL_stand_24 : decode cL_stand 24 = .ok (.ireturn, 1) := by decide +kernel
theorem dL_stand_25 : decode cL_stand 25 = .ok (.iconst 0, 1) := by decide +kernel
theorem dL_stand_26 : decode cL_stand 26 = .ok (.ireturn, 1) := by decide +kernel
theorem dL_breakDown_0 : decode cL_breakDown 0 = .ok (.aload_n 0, 1) := by decide +kernel
theorem dL_breakDown_1 : decode cL_breakDown 1 = .ok (.iload_n 1, 1) := by decide +kernel
theorem dL_breakDown_2 : decode cL_breakDown 2 = .ok (.iload_n 2, 1) := by decide +kernel
theorem dL_breakDown_3 : decode cL_breakDown 3 = .ok (.invokevirtual 40, 3) := by decide +kernel
theorem dL_breakDown_6 : decode cL_breakDown 6 = .ok (.goto 9, 3) := by decide +kernel
theorem dL_breakDown_9 : decode cL_breakDown 9 = .ok (.astore_n 3, 1) := by decide +kernel
theorem dL_breakDown_10 : decode cL_breakDown 10 = .ok (.iconst 1, 1) := by decide +kernel
theorem dL_breakDown_11 : decode cL_breakDown 11 = .ok (.ireturn, 1) := by decide +kernel
theorem dL_breakDown_12 : decode cL_breakDown 12 = .ok (.astore_n 3, 1) := by decide +kernel
theorem dL_breakDown_13 : decode cL_breakDown 13 = .ok (.iconst 2, 1) := by decide +kernel
theorem dL_breakDown_14 : decode cL_breakDown 14 = .ok (.ireturn, 1) := by decide +kernel
theorem dL_breakDown_15 : decode cL_breakDown 15 = .ok (.iconst 0, 1) := by decide +kernel
theorem dL_breakDown_16 : decode cL_breakDown 16 = .ok (.ireturn, 1) := by decide +kernel
theorem dL_mend_0 : decode cL_mend 0 = .ok (.aload_n 2, 1) := by decide +kernel
theorem dL_mend_1 : decode cL_mend 1 = .ok (.iconst 0, 1) := by decide +kernel
theorem dL_mend_2 : decode cL_mend 2 = .ok (.aload_n 0, 1) := by decide +kernel
theorem dL_mend_3 : decode cL_mend 3 = .ok (.iload_n 1, 1) := by decide +kernel
theorem dL_mend_4 : decode cL_mend 4 = .ok (.invokevirtual 44, 3) := by decide +kernel
theorem dL_mend_7 : decode cL_mend 7 = .ok (.i2l, 1) := by decide +kernel
theorem dL_mend_8 : decode cL_mend 8 = .ok (.lastore, 1) := by decide +kernel
theorem dL_mend_9 : decode cL_mend 9 = .ok (.goto 12, 3) := by decide +kernel
theorem dL_mend_12 : decode cL_mend 12 = .ok (.astore_n 3, 1) := by decide +kernel
theorem dL_mend_13 : decode cL_mend 13 = .ok (.iconst 1, 1) := by decide +kernel
theorem dL_mend_14 : decode cL_mend 14 = .ok (.ireturn, 1) := by decide +kernel
theorem dL_mend_15 : decode cL_mend 15 = .ok (.astore_n 3, 1) := by decide +kernel
theorem dL_mend_16 : decode cL_mend 16 = .ok (.iconst 2, 1) := by decide +kernel
theorem dL_mend_17 : decode cL_mend 17 = .ok (.ireturn, 1) := by decide +kernel
theorem dL_mend_18 : decode cL_mend 18 = .ok (.astore_n 3, 1) := by decide +kernel
theorem dL_mend_19 : decode cL_mend 19 = .ok (.iconst 3, 1) := by decide +kernel
theorem dL_mend_20 : decode cL_mend 20 = .ok (.ireturn, 1) := by decide +kernel
theorem dL_mend_21 : decode cL_mend 21 = .ok (.iconst 0, 1) := by decide +kernel
theorem dL_mend_22 : decode cL_mend 22 = .ok (.ireturn, 1) := by decide +kernel
theorem dL_bring_0 : decode cL_bring 0 = .ok (.aload_n 3, 1) := by decide +kernel
theorem dL_bring_1 : decode cL_bring 1 = .ok (.iconst 0, 1) := by decide +kernel
theorem dL_bring_2 : decode cL_bring 2 = .ok (.aload_n 0, 1) := by decide +kernel
theorem dL_bring_3 : decode cL_bring 3 = .ok (.iload_n 1, 1) := by decide +kernel
theorem dL_bring_4 : decode cL_bring 4 = .ok (.iload_n 2, 1) := by decide +kernel
theorem dL_bring_5 : decode cL_bring 5 = .ok (.invokevirtual 49, 3) := by decide +kernel
theorem dL_bring_8 : decode cL_bring 8 = .ok (.i2l, 1) := by decide +kernel
theorem dL_bring_9 : decode cL_bring 9 = .ok (.lastore, 1) := by decide +kernel
theorem dL_bring_10 : decode cL_bring 10 = .ok (.goto 11, 3) := by decide +kernel
theorem dL_bring_13 : decode cL_bring 13 = .ok (.astore 4, 2) := by decide +kernel
theorem dL_bring_15 : decode cL_bring 15 = .ok (.iconst 1, 1) := by decide +kernel
theorem dL_bring_16 : decode cL_bring 16 = .ok (.ireturn, 1) := by decide +kernel
theorem dL_bring_17 : decode cL_bring 17 = .ok (.astore 4, 2) := by decide +kernel
theorem dL_bring_19 : decode cL_bring 19 = .ok (.iconst 2, 1) := by decide +kernel
theorem dL_bring_20 : decode cL_bring 20 = .ok (.ireturn, 1) := by decide +kernel
theorem dL_bring_21 : decode cL_bring 21 = .ok (.iconst 0, 1) := by decide +kernel
theorem dL_bring_22 : decode cL_bring 22 = .ok (.ireturn, 1) := by decide +kernel
theorem dL_hand_0 : decode cL_hand 0 = .ok (.aload_n 3, 1) := by decide +kernel
theorem dL_hand_1 : decode cL_hand 1 = .ok (.iconst 0, 1) := by decide +kernel
theorem dL_hand_2 : decode cL_hand 2 = .ok (.aload_n 0, 1) := by decide +kernel
theorem dL_hand_3 : decode cL_hand 3 = .ok (.iload_n 1, 1) := by decide +kernel
theorem dL_hand_4 : decode cL_hand 4 = .ok (.iload_n 2, 1) := by decide +kernel
theorem dL_hand_5 : decode cL_hand 5 = .ok (.invokevirtual 52, 3) := by decide +kernel
theorem dL_hand_8 : decode cL_hand 8 = .ok (.i2l, 1) := by decide +kernel
theorem dL_hand_9 : decode cL_hand 9 = .ok (.lastore, 1) := by decide +kernel
theorem dL_hand_10 : decode cL_hand 10 = .ok (.goto 11, 3) := by decide +kernel
theorem dL_hand_13 : decode cL_hand 13 = .ok (.astore 4, 2) := by decide +kernel
theorem dL_hand_15 : decode cL_hand 15 = .ok (.iconst 1, 1) := by decide +kernel
theorem dL_hand_16 : decode cL_hand 16 = .ok (.ireturn, 1) := by decide +kernel
theorem dL_hand_17 : decode cL_hand 17 = .ok (.astore 4, 2) := by decide +kernel
theorem dL_hand_19 : decode cL_hand 19 = .ok (.iconst 2, 1) := by decide +kernel
theorem dL_hand_20 : decode cL_hand 20 = .ok (.ireturn, 1) := by decide +kernel
theorem dL_hand_21 : decode cL_hand 21 = .ok (.iconst 0, 1) := by decide +kernel
theorem dL_hand_22 : decode cL_hand 22 = .ok (.ireturn, 1) := by decide +kernel
theorem dL_record_0 : decode cL_record 0 = .ok (.aload 4, 2) := by decide +kernel
theorem dL_record_2 : decode cL_record 2 = .ok (.iconst 0, 1) := by decide +kernel
theorem dL_record_3 : decode cL_record 3 = .ok (.aload_n 0, 1) := by decide +kernel
theorem dL_record_4 : decode cL_record 4 = .ok (.iload_n 1, 1) := by decide +kernel
theorem dL_record_5 : decode cL_record 5 = .ok (.iload_n 2, 1) := by decide +kernel
theorem dL_record_6 : decode cL_record 6 = .ok (.iload_n 3, 1) := by decide +kernel
theorem dL_record_7 : decode cL_record 7 = .ok (.invokevirtual 55, 3) := by decide +kernel
theorem dL_record_10 : decode cL_record 10 = .ok (.i2l, 1) := by decide +kernel
theorem dL_record_11 : decode cL_record 11 = .ok (.lastore, 1) := by decide +kernel
theorem dL_record_12 : decode cL_record 12 = .ok (.goto 11, 3) := by decide +kernel
theorem dL_record_15 : decode cL_record 15 = .ok (.astore 5, 2) := by decide +kernel
theorem dL_record_17 : decode cL_record 17 = .ok (.iconst 1, 1) := by decide +kernel
theorem dL_record_18 : decode cL_record 18 = .ok (.ireturn, 1) := by decide +kernel
theorem dL_record_19 : decode cL_record 19 = .ok (.astore 5, 2) := by decide +kernel
theorem dL_record_21 : decode cL_record 21 = .ok (.iconst 2, 1) := by decide +kernel
theorem dL_record_22 : decode cL_record 22 = .ok (.ireturn, 1) := by decide +kernel
theorem dL_record_23 : decode cL_record 23 = .ok (.iconst 0, 1) := by decide +kernel
theorem dL_record_24 : decode cL_record 24 = .ok (.ireturn, 1) := by decide +kernel
theorem dL_appeal_0 : decode cL_appeal 0 = .ok (.aload_n 3, 1) := by decide +kernel
theorem dL_appeal_1 : decode cL_appeal 1 = .ok (.iconst 0, 1) := by decide +kernel
theorem dL_appeal_2 : decode cL_appeal 2 = .ok (.aload_n 0, 1) := by decide +kernel
theorem dL_appeal_3 : decode cL_appeal 3 = .ok (.iload_n 1, 1) := by decide +kernel
theorem dL_appeal_4 : decode cL_appeal 4 = .ok (.iload_n 2, 1) := by decide +kernel
theorem dL_appeal_5 : decode cL_appeal 5 = .ok (.invokevirtual 58, 3) := by decide +kernel
theorem dL_appeal_8 : decode cL_appeal 8 = .ok (.ifCond .eq 7, 3) := by decide +kernel
theorem dL_appeal_11 : decode cL_appeal 11 = .ok (.lconst 1, 1) := by decide +kernel
theorem dL_appeal_12 : decode cL_appeal 12 = .ok (.goto 4, 3) := by decide +kernel
theorem dL_appeal_15 : decode cL_appeal 15 = .ok (.lconst 0, 1) := by decide +kernel
theorem dL_appeal_16 : decode cL_appeal 16 = .ok (.lastore, 1) := by decide +kernel
theorem dL_appeal_17 : decode cL_appeal 17 = .ok (.goto 11, 3) := by decide +kernel
theorem dL_appeal_20 : decode cL_appeal 20 = .ok (.astore 4, 2) := by decide +kernel
theorem dL_appeal_22 : decode cL_appeal 22 = .ok (.iconst 1, 1) := by decide +kernel
theorem dL_appeal_23 : decode cL_appeal 23 = .ok (.ireturn, 1) := by decide +kernel
theorem dL_appeal_24 : decode cL_appeal 24 = .ok (.astore 4, 2) := by decide +kernel
theorem dL_appeal_26 : decode cL_appeal 26 = .ok (.iconst 2, 1) := by decide +kernel
theorem dL_appeal_27 : decode cL_appeal 27 = .ok (.ireturn, 1) := by decide +kernel
theorem dL_appeal_28 : decode cL_appeal 28 = .ok (.iconst 0, 1) := by decide +kernel
theorem dL_appeal_29 : decode cL_appeal 29 = .ok (.ireturn, 1) := by decide +kernel
theorem dL_cellOf_0 : decode cL_cellOf 0 = .ok (.aload_n 2, 1) := by decide +kernel
theorem dL_cellOf_1 : decode cL_cellOf 1 = .ok (.iconst 0, 1) := by decide +kernel
theorem dL_cellOf_2 : decode cL_cellOf 2 = .ok (.aload_n 0, 1) := by decide +kernel
theorem dL_cellOf_3 : decode cL_cellOf 3 = .ok (.iload_n 1, 1) := by decide +kernel
theorem dL_cellOf_4 : decode cL_cellOf 4 = .ok (.invokevirtual 62, 3) := by decide +kernel
theorem dL_cellOf_7 : decode cL_cellOf 7 = .ok (.i2l, 1) := by decide +kernel
theorem dL_cellOf_8 : decode cL_cellOf 8 = .ok (.lastore, 1) := by decide +kernel
theorem dL_cellOf_9 : decode cL_cellOf 9 = .ok (.goto 6, 3) := by decide +kernel
theorem dL_cellOf_12 : decode cL_cellOf 12 = .ok (.astore_n 3, 1) := by decide +kernel
theorem dL_cellOf_13 : decode cL_cellOf 13 = .ok (.iconst 1, 1) := by decide +kernel
theorem dL_cellOf_14 : decode cL_cellOf 14 = .ok (.ireturn, 1) := by decide +kernel
theorem dL_cellOf_15 : decode cL_cellOf 15 = .ok (.iconst 0, 1) := by decide +kernel
theorem dL_cellOf_16 : decode cL_cellOf 16 = .ok (.ireturn, 1) := by decide +kernel
theorem dL_due_0 : decode cL_due 0 = .ok (.aload_n 2, 1) := by decide +kernel
theorem dL_due_1 : decode cL_due 1 = .ok (.iconst 0, 1) := by decide +kernel
theorem dL_due_2 : decode cL_due 2 = .ok (.aload_n 0, 1) := by decide +kernel
theorem dL_due_3 : decode cL_due 3 = .ok (.iload_n 1, 1) := by decide +kernel
theorem dL_due_4 : decode cL_due 4 = .ok (.invokevirtual 65, 3) := by decide +kernel
theorem dL_due_7 : decode cL_due 7 = .ok (.i2l, 1) := by decide +kernel
theorem dL_due_8 : decode cL_due 8 = .ok (.lastore, 1) := by decide +kernel
theorem dL_due_9 : decode cL_due 9 = .ok (.goto 6, 3) := by decide +kernel
theorem dL_due_12 : decode cL_due 12 = .ok (.astore_n 3, 1) := by decide +kernel
theorem dL_due_13 : decode cL_due 13 = .ok (.iconst 1, 1) := by decide +kernel
theorem dL_due_14 : decode cL_due 14 = .ok (.ireturn, 1) := by decide +kernel
theorem dL_due_15 : decode cL_due 15 = .ok (.iconst 0, 1) := by decide +kernel
theorem dL_due_16 : decode cL_due 16 = .ok (.ireturn, 1) := by decide +kernel
theorem dL_followed_0 : decode cL_followed 0 = .ok (.aload_n 2, 1) := by decide +kernel
theorem dL_followed_1 : decode cL_followed 1 = .ok (.iconst 0, 1) := by decide +kernel
theorem dL_followed_2 : decode cL_followed 2 = .ok (.aload_n 0, 1) := by decide +kernel
theorem dL_followed_3 : decode cL_followed 3 = .ok (.iload_n 1, 1) := by decide +kernel
theorem dL_followed_4 : decode cL_followed 4 = .ok (.invokevirtual 68, 3) := by decide +kernel
theorem dL_followed_7 : decode cL_followed 7 = .ok (.i2l, 1) := by decide +kernel
theorem dL_followed_8 : decode cL_followed 8 = .ok (.lastore, 1) := by decide +kernel
theorem dL_followed_9 : decode cL_followed 9 = .ok (.goto 6, 3) := by decide +kernel
theorem dL_followed_12 : decode cL_followed 12 = .ok (.astore_n 3, 1) := by decide +kernel
theorem dL_followed_13 : decode cL_followed 13 = .ok (.iconst 1, 1) := by decide +kernel
theorem dL_followed_14 : decode cL_followed 14 = .ok (.ireturn, 1) := by decide +kernel
theorem dL_followed_15 : decode cL_followed 15 = .ok (.iconst 0, 1) := by decide +kernel
theorem dL_followed_16 : decode cL_followed 16 = .ok (.ireturn, 1) := by decide +kernel
theorem dL_cellAt_0 : decode cL_cellAt 0 = .ok (.aload_n 3, 1) := by decide +kernel
theorem dL_cellAt_1 : decode cL_cellAt 1 = .ok (.iconst 0, 1) := by decide +kernel
theorem dL_cellAt_2 : decode cL_cellAt 2 = .ok (.aload_n 0, 1) := by decide +kernel
theorem dL_cellAt_3 : decode cL_cellAt 3 = .ok (.iload_n 1, 1) := by decide +kernel
theorem dL_cellAt_4 : decode cL_cellAt 4 = .ok (.iload_n 2, 1) := by decide +kernel
theorem dL_cellAt_5 : decode cL_cellAt 5 = .ok (.invokevirtual 71, 3) := by decide +kernel
theorem dL_cellAt_8 : decode cL_cellAt 8 = .ok (.i2l, 1) := by decide +kernel
theorem dL_cellAt_9 : decode cL_cellAt 9 = .ok (.lastore, 1) := by decide +kernel
theorem dL_cellAt_10 : decode cL_cellAt 10 = .ok (.goto 11, 3) := by decide +kernel
theorem dL_cellAt_13 : decode cL_cellAt 13 = .ok (.astore 4, 2) := by decide +kernel
theorem dL_cellAt_15 : decode cL_cellAt 15 = .ok (.iconst 1, 1) := by decide +kernel
theorem dL_cellAt_16 : decode cL_cellAt 16 = .ok (.ireturn, 1) := by decide +kernel
theorem dL_cellAt_17 : decode cL_cellAt 17 = .ok (.astore 4, 2) := by decide +kernel
theorem dL_cellAt_19 : decode cL_cellAt 19 = .ok (.iconst 2, 1) := by decide +kernel
theorem dL_cellAt_20 : decode cL_cellAt 20 = .ok (.ireturn, 1) := by decide +kernel
theorem dL_cellAt_21 : decode cL_cellAt 21 = .ok (.iconst 0, 1) := by decide +kernel
theorem dL_cellAt_22 : decode cL_cellAt 22 = .ok (.ireturn, 1) := by decide +kernel
theorem dL_clock_0 : decode cL_clock 0 = .ok (.aload_n 2, 1) := by decide +kernel
theorem dL_clock_1 : decode cL_clock 1 = .ok (.iconst 0, 1) := by decide +kernel
theorem dL_clock_2 : decode cL_clock 2 = .ok (.aload_n 0, 1) := by decide +kernel
theorem dL_clock_3 : decode cL_clock 3 = .ok (.iload_n 1, 1) := by decide +kernel
theorem dL_clock_4 : decode cL_clock 4 = .ok (.invokevirtual 74, 3) := by decide +kernel
theorem dL_clock_7 : decode cL_clock 7 = .ok (.i2l, 1) := by decide +kernel
theorem dL_clock_8 : decode cL_clock 8 = .ok (.lastore, 1) := by decide +kernel
theorem dL_clock_9 : decode cL_clock 9 = .ok (.goto 6, 3) := by decide +kernel
theorem dL_clock_12 : decode cL_clock 12 = .ok (.astore_n 3, 1) := by decide +kernel
theorem dL_clock_13 : decode cL_clock 13 = .ok (.iconst 1, 1) := by decide +kernel
theorem dL_clock_14 : decode cL_clock 14 = .ok (.ireturn, 1) := by decide +kernel
theorem dL_clock_15 : decode cL_clock 15 = .ok (.iconst 0, 1) := by decide +kernel
theorem dL_clock_16 : decode cL_clock 16 = .ok (.ireturn, 1) := by decide +kernel
theorem dL_byTrack_0 : decode cL_byTrack 0 = .ok (.aload_n 3, 1) := by decide +kernel
theorem dL_byTrack_1 : decode cL_byTrack 1 = .ok (.iconst 0, 1) := by decide +kernel
theorem dL_byTrack_2 : decode cL_byTrack 2 = .ok (.aload_n 0, 1) := by decide +kernel
theorem dL_byTrack_3 : decode cL_byTrack 3 = .ok (.iload_n 1, 1) := by decide +kernel
theorem dL_byTrack_4 : decode cL_byTrack 4 = .ok (.iload_n 2, 1) := by decide +kernel
theorem dL_byTrack_5 : decode cL_byTrack 5 = .ok (.invokevirtual 77, 3) := by decide +kernel
theorem dL_byTrack_8 : decode cL_byTrack 8 = .ok (.i2l, 1) := by decide +kernel
theorem dL_byTrack_9 : decode cL_byTrack 9 = .ok (.lastore, 1) := by decide +kernel
theorem dL_byTrack_10 : decode cL_byTrack 10 = .ok (.goto 7, 3) := by decide +kernel
theorem dL_byTrack_13 : decode cL_byTrack 13 = .ok (.astore 4, 2) := by decide +kernel
theorem dL_byTrack_15 : decode cL_byTrack 15 = .ok (.iconst 1, 1) := by decide +kernel
theorem dL_byTrack_16 : decode cL_byTrack 16 = .ok (.ireturn, 1) := by decide +kernel
theorem dL_byTrack_17 : decode cL_byTrack 17 = .ok (.iconst 0, 1) := by decide +kernel
theorem dL_byTrack_18 : decode cL_byTrack 18 = .ok (.ireturn, 1) := by decide +kernel
theorem dL_byMinutes_0 : decode cL_byMinutes 0 = .ok (.aload_n 3, 1) := by decide +kernel
theorem dL_byMinutes_1 : decode cL_byMinutes 1 = .ok (.iconst 0, 1) := by decide +kernel
theorem dL_byMinutes_2 : decode cL_byMinutes 2 = .ok (.aload_n 0, 1) := by decide +kernel
theorem dL_byMinutes_3 : decode cL_byMinutes 3 = .ok (.iload_n 1, 1) := by decide +kernel
theorem dL_byMinutes_4 : decode cL_byMinutes 4 = .ok (.iload_n 2, 1) := by decide +kernel
theorem dL_byMinutes_5 : decode cL_byMinutes 5 = .ok (.invokevirtual 80, 3) := by decide +kernel
theorem dL_byMinutes_8 : decode cL_byMinutes 8 = .ok (.i2l, 1) := by decide +kernel
theorem dL_byMinutes_9 : decode cL_byMinutes 9 = .ok (.lastore, 1) := by decide +kernel
theorem dL_byMinutes_10 : decode cL_byMinutes 10 = .ok (.goto 7, 3) := by decide +kernel
theorem dL_byMinutes_13 : decode cL_byMinutes 13 = .ok (.astore 4, 2) := by decide +kernel
theorem dL_byMinutes_15 : decode cL_byMinutes 15 = .ok (.iconst 1, 1) := by decide +kernel
theorem dL_byMinutes_16 : decode cL_byMinutes 16 = .ok (.ireturn, 1) := by decide +kernel
theorem dL_byMinutes_17 : decode cL_byMinutes 17 = .ok (.iconst 0, 1) := by decide +kernel
theorem dL_byMinutes_18 : decode cL_byMinutes 18 = .ok (.ireturn, 1) := by decide +kernel
theorem dL_time_0 : decode cL_time 0 = .ok (.aload_n 3, 1) := by decide +kernel
theorem dL_time_1 : decode cL_time 1 = .ok (.iconst 0, 1) := by decide +kernel
theorem dL_time_2 : decode cL_time 2 = .ok (.aload_n 0, 1) := by decide +kernel
theorem dL_time_3 : decode cL_time 3 = .ok (.iload_n 1, 1) := by decide +kernel
theorem dL_time_4 : decode cL_time 4 = .ok (.iload_n 2, 1) := by decide +kernel
theorem dL_time_5 : decode cL_time 5 = .ok (.invokevirtual 83, 3) := by decide +kernel
theorem dL_time_8 : decode cL_time 8 = .ok (.i2l, 1) := by decide +kernel
theorem dL_time_9 : decode cL_time 9 = .ok (.lastore, 1) := by decide +kernel
theorem dL_time_10 : decode cL_time 10 = .ok (.goto 7, 3) := by decide +kernel
theorem dL_time_13 : decode cL_time 13 = .ok (.astore 4, 2) := by decide +kernel
theorem dL_time_15 : decode cL_time 15 = .ok (.iconst 1, 1) := by decide +kernel
theorem dL_time_16 : decode cL_time 16 = .ok (.ireturn, 1) := by decide +kernel
theorem dL_time_17 : decode cL_time 17 = .ok (.iconst 0, 1) := by decide +kernel
theorem dL_time_18 : decode cL_time 18 = .ok (.ireturn, 1) := by decide +kernel
theorem dL_points_0 : decode cL_points 0 = .ok (.aload_n 2, 1) := by decide +kernel
theorem dL_points_1 : decode cL_points 1 = .ok (.iconst 0, 1) := by decide +kernel
theorem dL_points_2 : decode cL_points 2 = .ok (.aload_n 0, 1) := by decide +kernel
theorem dL_points_3 : decode cL_points 3 = .ok (.iload_n 1, 1) := by decide +kernel
theorem dL_points_4 : decode cL_points 4 = .ok (.invokevirtual 86, 3) := by decide +kernel
theorem dL_points_7 : decode cL_points 7 = .ok (.i2l, 1) := by decide +kernel
theorem dL_points_8 : decode cL_points 8 = .ok (.lastore, 1) := by decide +kernel
theorem dL_points_9 : decode cL_points 9 = .ok (.goto 6, 3) := by decide +kernel
theorem dL_points_12 : decode cL_points 12 = .ok (.astore_n 3, 1) := by decide +kernel
theorem dL_points_13 : decode cL_points 13 = .ok (.iconst 1, 1) := by decide +kernel
theorem dL_points_14 : decode cL_points 14 = .ok (.ireturn, 1) := by decide +kernel
theorem dL_points_15 : decode cL_points 15 = .ok (.iconst 0, 1) := by decide +kernel
theorem dL_points_16 : decode cL_points 16 = .ok (.ireturn, 1) := by decide +kernel
theorem dL_table_0 : decode cL_table 0 = .ok (.aload_n 2, 1) := by decide +kernel
theorem dL_table_1 : decode cL_table 1 = .ok (.iconst 0, 1) := by decide +kernel
theorem dL_table_2 : decode cL_table 2 = .ok (.aload_n 0, 1) := by decide +kernel
theorem dL_table_3 : decode cL_table 3 = .ok (.iload_n 1, 1) := by decide +kernel
theorem dL_table_4 : decode cL_table 4 = .ok (.invokevirtual 89, 3) := by decide +kernel
theorem dL_table_7 : decode cL_table 7 = .ok (.i2l, 1) := by decide +kernel
theorem dL_table_8 : decode cL_table 8 = .ok (.lastore, 1) := by decide +kernel
theorem dL_table_9 : decode cL_table 9 = .ok (.goto 6, 3) := by decide +kernel
theorem dL_table_12 : decode cL_table 12 = .ok (.astore_n 3, 1) := by decide +kernel
theorem dL_table_13 : decode cL_table 13 = .ok (.iconst 1, 1) := by decide +kernel
theorem dL_table_14 : decode cL_table 14 = .ok (.ireturn, 1) := by decide +kernel
theorem dL_table_15 : decode cL_table 15 = .ok (.iconst 0, 1) := by decide +kernel
theorem dL_table_16 : decode cL_table 16 = .ok (.ireturn, 1) := by decide +kernel
theorem dL_where_0 : decode cL_where 0 = .ok (.aload_n 2, 1) := by decide +kernel
theorem dL_where_1 : decode cL_where 1 = .ok (.iconst 0, 1) := by decide +kernel
theorem dL_where_2 : decode cL_where 2 = .ok (.aload_n 0, 1) := by decide +kernel
theorem dL_where_3 : decode cL_where 3 = .ok (.iload_n 1, 1) := by decide +kernel
theorem dL_where_4 : decode cL_where 4 = .ok (.invokevirtual 92, 3) := by decide +kernel
theorem dL_where_7 : decode cL_where 7 = .ok (.i2l, 1) := by decide +kernel
theorem dL_where_8 : decode cL_where 8 = .ok (.lastore, 1) := by decide +kernel
theorem dL_where_9 : decode cL_where 9 = .ok (.goto 6, 3) := by decide +kernel
theorem dL_where_12 : decode cL_where 12 = .ok (.astore_n 3, 1) := by decide +kernel
theorem dL_where_13 : decode cL_where 13 = .ok (.iconst 1, 1) := by decide +kernel
theorem dL_where_14 : decode cL_where 14 = .ok (.ireturn, 1) := by decide +kernel
theorem dL_where_15 : decode cL_where 15 = .ok (.iconst 0, 1) := by decide +kernel
theorem dL_where_16 : decode cL_where 16 = .ok (.ireturn, 1) := by decide +kernel
theorem dL_lent_0 : decode cL_lent 0 = .ok (.aload_n 2, 1) := by decide +kernel
theorem dL_lent_1 : decode cL_lent 1 = .ok (.iconst 0, 1) := by decide +kernel
theorem dL_lent_2 : decode cL_lent 2 = .ok (.aload_n 0, 1) := by decide +kernel
theorem dL_lent_3 : decode cL_lent 3 = .ok (.iload_n 1, 1) := by decide +kernel
theorem dL_lent_4 : decode cL_lent 4 = .ok (.invokevirtual 95, 3) := by decide +kernel
theorem dL_lent_7 : decode cL_lent 7 = .ok (.i2l, 1) := by decide +kernel
theorem dL_lent_8 : decode cL_lent 8 = .ok (.lastore, 1) := by decide +kernel
theorem dL_lent_9 : decode cL_lent 9 = .ok (.goto 6, 3) := by decide +kernel
theorem dL_lent_12 : decode cL_lent 12 = .ok (.astore_n 3, 1) := by decide +kernel
theorem dL_lent_13 : decode cL_lent 13 = .ok (.iconst 1, 1) := by decide +kernel
theorem dL_lent_14 : decode cL_lent 14 = .ok (.ireturn, 1) := by decide +kernel
theorem dL_lent_15 : decode cL_lent 15 = .ok (.iconst 0, 1) := by decide +kernel
theorem dL_lent_16 : decode cL_lent 16 = .ok (.ireturn, 1) := by decide +kernel
theorem dL_isBroken_0 : decode cL_isBroken 0 = .ok (.aload_n 2, 1) := by decide +kernel
theorem dL_isBroken_1 : decode cL_isBroken 1 = .ok (.iconst 0, 1) := by decide +kernel
theorem dL_isBroken_2 : decode cL_isBroken 2 = .ok (.aload_n 0, 1) := by decide +kernel
theorem dL_isBroken_3 : decode cL_isBroken 3 = .ok (.iload_n 1, 1) := by decide +kernel
theorem dL_isBroken_4 : decode cL_isBroken 4 = .ok (.invokevirtual 98, 3) := by decide +kernel
theorem dL_isBroken_7 : decode cL_isBroken 7 = .ok (.ifCond .eq 7, 3) := by decide +kernel
theorem dL_isBroken_10 : decode cL_isBroken 10 = .ok (.lconst 1, 1) := by decide +kernel
theorem dL_isBroken_11 : decode cL_isBroken 11 = .ok (.goto 4, 3) := by decide +kernel
theorem dL_isBroken_14 : decode cL_isBroken 14 = .ok (.lconst 0, 1) := by decide +kernel
theorem dL_isBroken_15 : decode cL_isBroken 15 = .ok (.lastore, 1) := by decide +kernel
theorem dL_isBroken_16 : decode cL_isBroken 16 = .ok (.goto 6, 3) := by decide +kernel
theorem dL_isBroken_19 : decode cL_isBroken 19 = .ok (.astore_n 3, 1) := by decide +kernel
theorem dL_isBroken_20 : decode cL_isBroken 20 = .ok (.iconst 1, 1) := by decide +kernel
theorem dL_isBroken_21 : decode cL_isBroken 21 = .ok (.ireturn, 1) := by decide +kernel
theorem dL_isBroken_22 : decode cL_isBroken 22 = .ok (.iconst 0, 1) := by decide +kernel
theorem dL_isBroken_23 : decode cL_isBroken 23 = .ok (.ireturn, 1) := by decide +kernel

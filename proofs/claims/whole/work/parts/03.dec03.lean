theorem dX7_copy_130 : decode cX7_copy 130 = .ok (.iload 5, 2) := by decide +kernel
theorem dX7_copy_132 : decode cX7_copy 132 = .ok (.ireturn, 1) := by decide +kernel
theorem dX7_tell_0 : decode cX7_tell 0 = .ok (.aload_n 0, 1) := by decide +kernel
theorem dX7_tell_1 : decode cX7_tell 1 = .ok (.iload_n 1, 1) := by decide +kernel
theorem dX7_tell_2 : decode cX7_tell 2 = .ok (.invokevirtual 66, 3) := by decide +kernel
theorem dX7_tell_5 : decode cX7_tell 5 = .ok (.ifCond .eq 5, 3) := by decide +kernel
theorem dX7_tell_8 : decode cX7_tell 8 = .ok (.iconst (-1), 1) := by decide +kernel
theorem dX7_tell_9 : decode cX7_tell 9 = .ok (.ireturn, 1) := by decide +kernel
theorem dX7_tell_10 : decode cX7_tell 10 = .ok (.aload_n 0, 1) := by decide +kernel
theorem dX7_tell_11 : decode cX7_tell 11 = .ok (.getfield 12, 3) := by decide +kernel
theorem dX7_tell_14 : decode cX7_tell 14 = .ok (.getfield 69, 3) := by decide +kernel
theorem dX7_tell_17 : decode cX7_tell 17 = .ok (.iload_n 1, 1) := by decide +kernel
theorem dX7_tell_18 : decode cX7_tell 18 = .ok (.aaload, 1) := by decide +kernel
theorem dX7_tell_19 : decode cX7_tell 19 = .ok (.astore_n 2, 1) := by decide +kernel
theorem dX7_tell_20 : decode cX7_tell 20 = .ok (.aload_n 2, 1) := by decide +kernel
theorem dX7_tell_21 : decode cX7_tell 21 = .ok (.getfield 73, 3) := by decide +kernel
theorem dX7_tell_24 : decode cX7_tell 24 = .ok (.lookupswitch 40 #[(1, 28), (2, 34)], 28) := by decide +kernel
theorem dX7_tell_52 : decode cX7_tell 52 = .ok (.aload_n 0, 1) := by decide +kernel
theorem dX7_tell_53 : decode cX7_tell 53 = .ok (.aload_n 2, 1) := by decide +kernel
theorem dX7_tell_54 : decode cX7_tell 54 = .ok (.invokevirtual 211, 3) := by decide +kernel
theorem dX7_tell_57 : decode cX7_tell 57 = .ok (.ireturn, 1) := by decide +kernel
theorem dX7_tell_58 : decode cX7_tell 58 = .ok (.aload_n 0, 1) := by decide +kernel
theorem dX7_tell_59 : decode cX7_tell 59 = .ok (.aload_n 2, 1) := by decide +kernel
theorem dX7_tell_60 : decode cX7_tell 60 = .ok (.invokevirtual 215, 3) := by decide +kernel
theorem dX7_tell_63 : decode cX7_tell 63 = .ok (.ireturn, 1) := by decide +kernel
theorem dX7_tell_64 : decode cX7_tell 64 = .ok (.aload_n 0, 1) := by decide +kernel
theorem dX7_tell_65 : decode cX7_tell 65 = .ok (.aload_n 2, 1) := by decide +kernel
theorem dX7_tell_66 : decode cX7_tell 66 = .ok (.invokevirtual 218, 3) := by decide +kernel
theorem dX7_tell_69 : decode cX7_tell 69 = .ok (.ireturn, 1) := by decide +kernel
theorem dX7_seal_0 : decode cX7_seal 0 = .ok (.aload_n 0, 1) := by decide +kernel
theorem dX7_seal_1 : decode cX7_seal 1 = .ok (.iload_n 1, 1) := by decide +kernel
theorem dX7_seal_2 : decode cX7_seal 2 = .ok (.invokevirtual 66, 3) := by decide +kernel
theorem dX7_seal_5 : decode cX7_seal 5 = .ok (.ifCond .eq 5, 3) := by decide +kernel
theorem dX7_seal_8 : decode cX7_seal 8 = .ok (.iconst (-1), 1) := by decide +kernel
theorem dX7_seal_9 : decode cX7_seal 9 = .ok (.ireturn, 1) := by decide +kernel
theorem dX7_seal_10 : decode cX7_seal 10 = .ok (.aload_n 0, 1) := by decide +kernel
theorem dX7_seal_11 : decode cX7_seal 11 = .ok (.getfield 12, 3) := by decide +kernel
theorem dX7_seal_14 : decode cX7_seal 14 = .ok (.getfield 69, 3) := by decide +kernel
theorem dX7_seal_17 : decode cX7_seal 17 = .ok (.iload_n 1, 1) := by decide +kernel
theorem dX7_seal_18 : decode cX7_seal 18 = .ok (.aaload, 1) := by decide +kernel
theorem dX7_seal_19 : decode cX7_seal 19 = .ok (.getfield 73, 3) := by decide +kernel
theorem dX7_seal_22 : decode cX7_seal 22 = .ok (.iconst 2, 1) := by decide +kernel
theorem dX7_seal_23 : decode cX7_seal 23 = .ok (.if_icmp .ne 10, 3) := by decide +kernel
theorem dX7_seal_26 : decode cX7_seal 26 = .ok (.aload_n 0, 1) := by decide +kernel
theorem dX7_seal_27 : decode cX7_seal 27 = .ok (.invokevirtual 221, 3) := by decide +kernel
theorem dX7_seal_30 : decode cX7_seal 30 = .ok (.goto 8, 3) := by decide +kernel
theorem dX7_seal_33 : decode cX7_seal 33 = .ok (.aload_n 0, 1) := by decide +kernel
theorem dX7_seal_34 : decode cX7_seal 34 = .ok (.iload_n 1, 1) := by decide +kernel
theorem dX7_seal_35 : decode cX7_seal 35 = .ok (.invokevirtual 224, 3) := by decide +kernel
theorem dX7_seal_38 : decode cX7_seal 38 = .ok (.ireturn, 1) := by decide +kernel
theorem dX7_as_0 : decode cX7_as 0 = .ok (.aload_n 0, 1) := by decide +kernel
theorem dX7_as_1 : decode cX7_as 1 = .ok (.iconst 0, 1) := by decide +kernel
theorem dX7_as_2 : decode cX7_as 2 = .ok (.putfield 32, 3) := by decide +kernel
theorem dX7_as_5 : decode cX7_as 5 = .ok (.aload_n 0, 1) := by decide +kernel
theorem dX7_as_6 : decode cX7_as 6 = .ok (.iload_n 1, 1) := by decide +kernel
theorem dX7_as_7 : decode cX7_as 7 = .ok (.invokevirtual 66, 3) := by decide +kernel
theorem dX7_as_10 : decode cX7_as 10 = .ok (.ifCond .eq 5, 3) := by decide +kernel
theorem dX7_as_13 : decode cX7_as 13 = .ok (.iconst (-1), 1) := by decide +kernel
theorem dX7_as_14 : decode cX7_as 14 = .ok (.ireturn, 1) := by decide +kernel
theorem dX7_as_15 : decode cX7_as 15 = .ok (.iload_n 2, 1) := by decide +kernel
theorem dX7_as_16 : decode cX7_as 16 = .ok (.iconst 2, 1) := by decide +kernel
theorem dX7_as_17 : decode cX7_as 17 = .ok (.invokestatic 40, 3) := by decide +kernel
theorem dX7_as_20 : decode cX7_as 20 = .ok (.ifCond .ne 6, 3) := by decide +kernel
theorem dX7_as_23 : decode cX7_as 23 = .ok (.bipush (-2), 2) := by decide +kernel
theorem dX7_as_25 : decode cX7_as 25 = .ok (.ireturn, 1) := by decide +kernel
theorem dX7_as_26 : decode cX7_as 26 = .ok (.aload_n 0, 1) := by decide +kernel
theorem dX7_as_27 : decode cX7_as 27 = .ok (.getfield 12, 3) := by decide +kernel
theorem dX7_as_30 : decode cX7_as 30 = .ok (.getfield 69, 3) := by decide +kernel
theorem dX7_as_33 : decode cX7_as 33 = .ok (.iload_n 1, 1) := by decide +kernel
theorem dX7_as_34 : decode cX7_as 34 = .ok (.aaload, 1) := by decide +kernel
theorem dX7_as_35 : decode cX7_as 35 = .ok (.getfield 73, 3) := by decide +kernel
theorem dX7_as_38 : decode cX7_as 38 = .ok (.iload_n 2, 1) := by decide +kernel
theorem dX7_as_39 : decode cX7_as 39 = .ok (.if_icmp .ge 11, 3) := by decide +kernel
theorem dX7_as_42 : decode cX7_as 42 = .ok (.aload_n 0, 1) := by decide +kernel
theorem dX7_as_43 : decode cX7_as 43 = .ok (.iconst 2, 1) := by decide +kernel
theorem dX7_as_44 : decode cX7_as 44 = .ok (.invokevirtual 48, 3) := by decide +kernel
theorem dX7_as_47 : decode cX7_as 47 = .ok (.goto 4, 3) := by decide +kernel
theorem dX7_as_50 : decode cX7_as 50 = .ok (.iconst 1, 1) := by decide +kernel
theorem dX7_as_51 : decode cX7_as 51 = .ok (.ireturn, 1) := by decide +kernel
theorem dX7_trace_0 : decode cX7_trace 0 = .ok (.aload_n 0, 1) := by decide +kernel
theorem dX7_trace_1 : decode cX7_trace 1 = .ok (.getfield 227, 3) := by decide +kernel
theorem dX7_trace_4 : decode cX7_trace 4 = .ok (.ireturn, 1) := by decide +kernel
theorem dX7_fault_0 : decode cX7_fault 0 = .ok (.aload_n 0, 1) := by decide +kernel
theorem dX7_fault_1 : decode cX7_fault 1 = .ok (.getfield 32, 3) := by decide +kernel
theorem dX7_fault_4 : decode cX7_fault 4 = .ok (.ireturn, 1) := by decide +kernel
theorem dX7_many_0 : decode cX7_many 0 = .ok (.iload_n 1, 1) := by decide +kernel
theorem dX7_many_1 : decode cX7_many 1 = .ok (.tableswitch 81 0 4 #[35, 43, 54, 62, 70], 35) := by decide +kernel
theorem dX7_many_36 : decode cX7_many 36 = .ok (.aload_n 0, 1) := by decide +kernel
theorem dX7_many_37 : decode cX7_many 37 = .ok (.getfield 12, 3) := by decide +kernel
theorem dX7_many_40 : decode cX7_many 40 = .ok (.getfield 65, 3) := by decide +kernel
theorem dX7_many_43 : decode cX7_many 43 = .ok (.ireturn, 1) := by decide +kernel
theorem dX7_many_44 : decode cX7_many 44 = .ok (.aload_n 0, 1) := by decide +kernel
theorem dX7_many_45 : decode cX7_many 45 = .ok (.getfield 12, 3) := by decide +kernel
theorem dX7_many_48 : decode cX7_many 48 = .ok (.getfield 94, 3) := by decide +kernel
theorem dX7_many_51 : decode cX7_many 51 = .ok (.getfield 230, 3) := by decide +kernel
theorem dX7_many_54 : decode cX7_many 54 = .ok (.ireturn, 1) := by decide +kernel
theorem dX7_many_55 : decode cX7_many 55 = .ok (.aload_n 0, 1) := by decide +kernel
theorem dX7_many_56 : decode cX7_many 56 = .ok (.getfield 12, 3) := by decide +kernel
theorem dX7_many_59 : decode cX7_many 59 = .ok (.getfield 103, 3) := by decide +kernel
theorem dX7_many_62 : decode cX7_many 62 = .ok (.ireturn, 1) := by decide +kernel
theorem dX7_many_63 : decode cX7_many 63 = .ok (.aload_n 0, 1) := by decide +kernel
theorem dX7_many_64 : decode cX7_many 64 = .ok (.getfield 21, 3) := by decide +kernel
theorem dX7_many_67 : decode cX7_many 67 = .ok (.getfield 62, 3) := by decide +kernel
theorem dX7_many_70 : decode cX7_many 70 = .ok (.ireturn, 1) := by decide +kernel
theorem dX7_many_71 : decode cX7_many 71 = .ok (.aload_n 0, 1) := by decide +kernel
theorem dX7_many_72 : decode cX7_many 72 = .ok (.getfield 12, 3) := by decide +kernel
theorem dX7_many_75 : decode cX7_many 75 = .ok (.getfield 94, 3) := by decide +kernel
theorem dX7_many_78 : decode cX7_many 78 = .ok (.getfield 233, 3) := by decide +kernel
theorem dX7_many_81 : decode cX7_many 81 = .ok (.ireturn, 1) := by decide +kernel
theorem dX7_many_82 : decode cX7_many 82 = .ok (.bipush (-2), 2) := by decide +kernel
theorem dX7_many_84 : decode cX7_many 84 = .ok (.ireturn, 1) := by decide +kernel
theorem dX7_within_0 : decode cX7_within 0 = .ok (.iload_n 0, 1) := by decide +kernel
theorem dX7_within_1 : decode cX7_within 1 = .ok (.ifCond .lt 12, 3) := by decide +kernel
theorem dX7_within_4 : decode cX7_within 4 = .ok (.iload_n 0, 1) := by decide +kernel
theorem dX7_within_5 : decode cX7_within 5 = .ok (.iload_n 1, 1) := by decide +kernel
theorem dX7_within_6 : decode cX7_within 6 = .ok (.if_icmp .gt 7, 3) := by decide +kernel
theorem dX7_within_9 : decode cX7_within 9 = .ok (.iconst 1, 1) := by decide +kernel
theorem dX7_within_10 : decode cX7_within 10 = .ok (.goto 4, 3) := by decide +kernel
theorem dX7_within_13 : decode cX7_within 13 = .ok (.iconst 0, 1) := by decide +kernel
theorem dX7_within_14 : decode cX7_within 14 = .ok (.ireturn, 1) := by decide +kernel
theorem dX7_noSheet_0 : decode cX7_noSheet 0 = .ok (.iload_n 0, 1) := by decide +kernel
theorem dX7_noSheet_1 : decode cX7_noSheet 1 = .ok (.iconst 3, 1) := by decide +kernel
theorem dX7_noSheet_2 : decode cX7_noSheet 2 = .ok (.invokestatic 40, 3) := by decide +kernel
theorem dX7_noSheet_5 : decode cX7_noSheet 5 = .ok (.ifCond .ne 7, 3) := by decide +kernel
theorem dX7_noSheet_8 : decode cX7_noSheet 8 = .ok (.iconst 1, 1) := by decide +kernel
theorem dX7_noSheet_9 : decode cX7_noSheet 9 = .ok (.goto 4, 3) := by decide +kernel
theorem dX7_noSheet_12 : decode cX7_noSheet 12 = .ok (.iconst 0, 1) := by decide +kernel
theorem dX7_noSheet_13 : decode cX7_noSheet 13 = .ok (.ireturn, 1) := by decide +kernel
theorem dX7_noBill_0 : decode cX7_noBill 0 = .ok (.iload_n 1, 1) := by decide +kernel
theorem dX7_noBill_1 : decode cX7_noBill 1 = .ok (.aload_n 0, 1) := by decide +kernel
theorem dX7_noBill_2 : decode cX7_noBill 2 = .ok (.getfield 12, 3) := by decide +kernel
theorem dX7_noBill_5 : decode cX7_noBill 5 = .ok (.getfield 65, 3) := by decide +kernel
theorem dX7_noBill_8 : decode cX7_noBill 8 = .ok (.iconst 1, 1) := by decide +kernel
theorem dX7_noBill_9 : decode cX7_noBill 9 = .ok (.isub, 1) := by decide +kernel
theorem dX7_noBill_10 : decode cX7_noBill 10 = .ok (.invokestatic 40, 3) := by decide +kernel
theorem dX7_noBill_13 : decode cX7_noBill 13 = .ok (.ifCond .ne 7, 3) := by decide +kernel
theorem dX7_noBill_16 : decode cX7_noBill 16 = .ok (.iconst 1, 1) := by decide +kernel
theorem dX7_noBill_17 : decode cX7_noBill 17 = .ok (.goto 4, 3) := by decide +kernel
theorem dX7_noBill_20 : decode cX7_noBill 20 = .ok (.iconst 0, 1) := by decide +kernel
theorem dX7_noBill_21 : decode cX7_noBill 21 = .ok (.ireturn, 1) := by decide +kernel
theorem dX7_noCouncil_0 : decode cX7_noCouncil 0 = .ok (.aload_n 0, 1) := by decide +kernel
theorem dX7_noCouncil_1 : decode cX7_noCouncil 1 = .ok (.getfield 12, 3) := by decide +kernel
theorem dX7_noCouncil_4 : decode cX7_noCouncil 4 = .ok (.getfield 65, 3) := by decide +kernel
theorem dX7_noCouncil_7 : decode cX7_noCouncil 7 = .ok (.ifCond .ne 7, 3) := by decide +kernel
theorem dX7_noCouncil_10 : decode cX7_noCouncil 10 = .ok (.iconst 1, 1) := by decide +kernel
theorem dX7_noCouncil_11 : decode cX7_noCouncil 11 = .ok (.goto 4, 3) := by decide +kernel
theorem dX7_noCouncil_14 : decode cX7_noCouncil 14 = .ok (.iconst 0, 1) := by decide +kernel
theorem dX7_noCouncil_15 : decode cX7_noCouncil 15 = .ok (.ireturn, 1) := by decide +kernel
theorem dX7_failed_0 : decode cX7_failed 0 = .ok (.aload_n 0, 1) := by decide +kernel
theorem dX7_failed_1 : decode cX7_failed 1 = .ok (.iload_n 1, 1) := by decide +kernel
theorem dX7_failed_2 : decode cX7_failed 2 = .ok (.putfield 32, 3) := by decide +kernel
theorem dX7_failed_5 : decode cX7_failed 5 = .ok (.bipush (-10), 2) := by decide +kernel
theorem dX7_failed_7 : decode cX7_failed 7 = .ok (.iload_n 1, 1) := by decide +kernel
theorem dX7_failed_8 : decode cX7_failed 8 = .ok (.isub, 1) := by decide +kernel
theorem dX7_failed_9 : decode cX7_failed 9 = .ok (.ireturn, 1) := by decide +kernel
theorem dX7_leave_0 : decode cX7_leave 0 = .ok (.aload_n 0, 1) := by decide +kernel
theorem dX7_leave_1 : decode cX7_leave 1 = .ok (.bipush 31, 2) := by decide +kernel
theorem dX7_leave_3 : decode cX7_leave 3 = .ok (.aload_n 0, 1) := by decide +kernel
theorem dX7_leave_4 : decode cX7_leave 4 = .ok (.getfield 227, 3) := by decide +kernel
theorem dX7_leave_7 : decode cX7_leave 7 = .ok (.imul, 1) := by decide +kernel
theorem dX7_leave_8 : decode cX7_leave 8 = .ok (.iload_n 1, 1) := by decide +kernel
theorem dX7_leave_9 : decode cX7_leave 9 = .ok (.iadd, 1) := by decide +kernel
theorem dX7_leave_10 : decode cX7_leave 10 = .ok (.putfield 227, 3) := by decide +kernel
theorem dX7_leave_13 : decode cX7_leave 13 = .ok (.return_, 1) := by decide +kernel
theorem dX7_billBody_0 : decode cX7_billBody 0 = .ok (.aload_n 0, 1) := by decide +kernel
theorem dX7_billBody_1 : decode cX7_billBody 1 = .ok (.iconst 1, 1) := by decide +kernel
theorem dX7_billBody_2 : decode cX7_billBody 2 = .ok (.invokevirtual 236, 3) := by decide +kernel
theorem dX7_billBody_5 : decode cX7_billBody 5 = .ok (.aload_n 1, 1) := by decide +kernel
theorem dX7_billBody_6 : decode cX7_billBody 6 = .ok (.getfield 87, 3) := by decide +kernel
theorem dX7_billBody_9 : decode cX7_billBody 9 = .ok (.ireturn, 1) := by decide +kernel
theorem dX7_sunsetBody_0 : decode cX7_sunsetBody 0 = .ok (.aload_n 0, 1) := by decide +kernel
theorem dX7_sunsetBody_1 : decode cX7_sunsetBody 1 = .ok (.iconst 2, 1) := by decide +kernel
theorem dX7_sunsetBody_2 : decode cX7_sunsetBody 2 = .ok (.invokevirtual 236, 3) := by decide +kernel
theorem dX7_sunsetBody_5 : decode cX7_sunsetBody 5 = .ok (.aload_n 0, 1) := by decide +kernel
theorem dX7_sunsetBody_6 : decode cX7_sunsetBody 6 = .ok (.aload_n 1, 1) := by decide +kernel
theorem dX7_sunsetBody_7 : decode cX7_sunsetBody 7 = .ok (.invokevirtual 218, 3) := by decide +kernel
theorem dX7_sunsetBody_10 : decode cX7_sunsetBody 10 = .ok (.bipush 100, 2) := by decide +kernel
theorem dX7_sunsetBody_12 : decode cX7_sunsetBody 12 = .ok (.iadd, 1) := by decide +kernel
theorem dX7_sunsetBody_13 : decode cX7_sunsetBody 13 = .ok (.ireturn, 1) := by decide +kernel
theorem dX7_repealBody_0 : decode cX7_repealBody 0 = .ok (.aload_n 0, 1) := by decide +kernel
theorem dX7_repealBody_1 : decode cX7_repealBody 1 = .ok (.iconst 3, 1) := by decide +kernel
theorem dX7_repealBody_2 : decode cX7_repealBody 2 = .ok (.invokevirtual 236, 3) := by decide +kernel
theorem dX7_repealBody_5 : decode cX7_repealBody 5 = .ok (.aload_n 0, 1) := by decide +kernel
theorem dX7_repealBody_6 : decode cX7_repealBody 6 = .ok (.aload_n 1, 1) := by decide +kernel
theorem dX7_repealBody_7 : decode cX7_repealBody 7 = .ok (.invokevirtual 211, 3) := by decide +kernel
theorem dX7_repealBody_10 : decode cX7_repealBody 10 = .ok (.istore_n 2, 1) := by decide +kernel
theorem dX7_repealBody_11 : decode cX7_repealBody 11 = .ok (.iload_n 2, 1) := by decide +kernel
theorem dX7_repealBody_12 : decode cX7_repealBody 12 = .ok (.aload_n 0, 1) := by decide +kernel
theorem dX7_repealBody_13 : decode cX7_repealBody 13 = .ok (.aload_n 1, 1) := by decide +kernel
theorem dX7_repealBody_14 : decode cX7_repealBody 14 = .ok (.invokevirtual 218, 3) := by decide +kernel
theorem dX7_repealBody_17 : decode cX7_repealBody 17 = .ok (.iadd, 1) := by decide +kernel
theorem dX7_repealBody_18 : decode cX7_repealBody 18 = .ok (.ireturn, 1) := by decide +kernel
theorem dX7_lentSeal_0 : decode cX7_lentSeal 0 = .ok (.aload_n 0, 1) := by decide +kernel
theorem dX7_lentSeal_1 : decode cX7_lentSeal 1 = .ok (.iconst 4, 1) := by decide +kernel
theorem dX7_lentSeal_2 : decode cX7_lentSeal 2 = .ok (.invokevirtual 236, 3) := by decide +kernel
theorem dX7_lentSeal_5 : decode cX7_lentSeal 5 = .ok (.iload_n 1, 1) := by decide +kernel
theorem dX7_lentSeal_6 : decode cX7_lentSeal 6 = .ok (.ireturn, 1) := by decide +kernel
theorem dX7_ownSeal_0 : decode cX7_ownSeal 0 = .ok (.aload_n 0, 1) := by decide +kernel
theorem dX7_ownSeal_1 : decode cX7_ownSeal 1 = .ok (.iconst 5, 1) := by decide +kernel
theorem dX7_ownSeal_2 : decode cX7_ownSeal 2 = .ok (.invokevirtual 236, 3) := by decide +kernel
theorem dX7_ownSeal_5 : decode cX7_ownSeal 5 = .ok (.bipush 40, 2) := by decide +kernel
theorem dX7_ownSeal_7 : decode cX7_ownSeal 7 = .ok (.ireturn, 1) := by decide +kernel
theorem dX8_init_0 : decode cX8_init 0 = .ok (.aload_n 0, 1) := by decide +kernel
theorem dX8_init_1 : decode cX8_init 1 = .ok (.invokespecial 1, 3) := by decide +kernel
theorem dX8_init_4 : decode cX8_init 4 = .ok (.aload_n 0, 1) := by decide +kernel
theorem dX8_init_5 : decode cX8_init 5 = .ok (.iconst 4, 1) := by decide +kernel
theorem dX8_init_6 : decode cX8_init 6 = .ok (.newarray .int, 2) := by decide +kernel
theorem dX8_init_8 : decode cX8_init 8 = .ok (.dup, 1) := by decide +kernel
theorem dX8_init_9 : decode cX8_init 9 = .ok (.iconst 0, 1) := by decide +kernel
theorem dX8_init_10 : decode cX8_init 10 = .ok (.bipush (-9), 2) := by decide +kernel
theorem dX8_init_12 : decode cX8_init 12 = .ok (.iastore, 1) := by decide +kernel
theorem dX8_init_13 : decode cX8_init 13 = .ok (.dup, 1) := by decide +kernel
theorem dX8_init_14 : decode cX8_init 14 = .ok (.iconst 1, 1) := by decide +kernel
theorem dX8_init_15 : decode cX8_init 15 = .ok (.bipush (-9), 2) := by decide +kernel
theorem dX8_init_17 : decode cX8_init 17 = .ok (.iastore, 1) := by decide +kernel
theorem dX8_init_18 : decode cX8_init 18 = .ok (.dup, 1) := by decide +kernel
theorem dX8_init_19 : decode cX8_init 19 = .ok (.iconst 2, 1) := by decide +kernel
theorem dX8_init_20 : decode cX8_init 20 = .ok (.bipush (-9), 2) := by decide +kernel
theorem dX8_init_22 : decode cX8_init 22 = .ok (.iastore, 1) := by decide +kernel
theorem dX8_init_23 : decode cX8_init 23 = .ok (.dup, 1) := by decide +kernel
theorem dX8_init_24 : decode cX8_init 24 = .ok (.iconst 3, 1) := by decide +kernel
theorem dX8_init_25 : decode cX8_init 25 = .ok (.bipush (-9), 2) := by decide +kernel
theorem dX8_init_27 : decode cX8_init 27 = .ok (.iastore, 1) := by decide +kernel
theorem dX8_init_28 : decode cX8_init 28 = .ok (.putfield 9, 3) := by decide +kernel
theorem dX8_init_31 : decode cX8_init 31 = .ok (.aload_n 0, 1) := by decide +kernel
theorem dX8_init_32 : decode cX8_init 32 = .ok (.iconst 4, 1) := by decide +kernel
theorem dX8_init_33 : decode cX8_init 33 = .ok (.newarray .int, 2) := by decide +kernel
theorem dX8_init_35 : decode cX8_init 35 = .ok (.putfield 13, 3) := by decide +kernel
theorem dX8_init_38 : decode cX8_init 38 = .ok (.aload_n 0, 1) := by decide +kernel
theorem dX8_init_39 : decode cX8_init 39 = .ok (.sipush 240, 3) := by decide +kernel
theorem dX8_init_42 : decode cX8_init 42 = .ok (.newarray .int, 2) := by decide +kernel
theorem dX8_init_44 : decode cX8_init 44 = .ok (.putfield 16, 3) := by decide +kernel
theorem dX8_init_47 : decode cX8_init 47 = .ok (.aload_n 0, 1) := by decide +kernel
theorem dX8_init_48 : decode cX8_init 48 = .ok (.bipush 6, 2) := by decide +kernel
theorem dX8_init_50 : decode cX8_init 50 = .ok (.newarray .int, 2) := by decide +kernel
theorem dX8_init_52 : decode cX8_init 52 = .ok (.putfield 19, 3) := by decide +kernel
theorem dX8_init_55 : decode cX8_init 55 = .ok (.aload_n 0, 1) := by decide +kernel
theorem dX8_init_56 : decode cX8_init 56 = .ok (.bipush 6, 2) := by decide +kernel
theorem dX8_init_58 : decode cX8_init 58 = .ok (.newarray .int, 2) := by decide +kernel
theorem dX8_init_60 : decode cX8_init 60 = .ok (.putfield 22, 3) := by decide +kernel
theorem dX8_init_63 : decode cX8_init 63 = .ok (.aload_n 0, 1) := by decide +kernel
theorem dX8_init_64 : decode cX8_init 64 = .ok (.bipush 6, 2) := by decide +kernel
theorem dX8_init_66 : decode cX8_init 66 = .ok (.newarray .int, 2) := by decide +kernel
theorem dX8_init_68 : decode cX8_init 68 = .ok (.putfield 25, 3) := by decide +kernel
theorem dX8_init_71 : decode cX8_init 71 = .ok (.aload_n 0, 1) := by decide +kernel
theorem dX8_init_72 : decode cX8_init 72 = .ok (.bipush 6, 2) := by decide +kernel
theorem dX8_init_74 : decode cX8_init 74 = .ok (.newarray .int, 2) := by decide +kernel
theorem dX8_init_76 : decode cX8_init 76 = .ok (.putfield 28, 3) := by decide +kernel
theorem dX8_init_79 : decode cX8_init 79 = .ok (.aload_n 0, 1) := by decide +kernel
theorem dX8_init_80 : decode cX8_init 80 = .ok (.bipush 6, 2) := by decide +kernel
theorem dX8_init_82 : decode cX8_init 82 = .ok (.newarray .int, 2) := by decide +kernel
theorem dX8_init_84 : decode cX8_init 84 = .ok (.putfield 31, 3) := by decide +kernel
theorem dX8_init_87 : decode cX8_init 87 = .ok (.aload_n 0, 1) := by decide +kernel
theorem dX8_init_88 : decode cX8_init 88 = .ok (.bipush 110, 2) := by decide +kernel
theorem dX8_init_90 : decode cX8_init 90 = .ok (.newarray .boolean, 2) := by decide +kernel
theorem dX8_init_92 : decode cX8_init 92 = .ok (.putfield 34, 3) := by decide +kernel
theorem dX8_init_95 : decode cX8_init 95 = .ok (.aload_n 0, 1) := by decide +kernel
theorem dX8_init_96 : decode cX8_init 96 = .ok (.bipush (-9), 2) := by decide +kernel
theorem dX8_init_98 : decode cX8_init 98 = .ok (.putfield 38, 3) := by decide +kernel
theorem dX8_init_101 : decode cX8_init 101 = .ok (.aload_n 0, 1) := by decide +kernel
theorem dX8_init_102 : decode cX8_init 102 = .ok (.bipush 30, 2) := by decide +kernel
theorem dX8_init_104 : decode cX8_init 104 = .ok (.newarray .int, 2) := by decide +kernel
theorem dX8_init_106 : decode cX8_init 106 = .ok (.putfield 42, 3) := by decide +kernel
theorem dX8_init_109 : decode cX8_init 109 = .ok (.aload_n 0, 1) := by decide +kernel
theorem dX8_init_110 : decode cX8_init 110 = .ok (.bipush 6, 2) := by decide +kernel
theorem dX8_init_112 : decode cX8_init 112 = .ok (.newarray .int, 2) := by decide +kernel
theorem dX8_init_114 : decode cX8_init 114 = .ok (.putfield 45, 3) := by decide +kernel
theorem dX8_init_117 : decode cX8_init 117 = .ok (.aload_n 0, 1) := by decide +kernel
theorem dX8_init_118 : decode cX8_init 118 = .ok (.bipush 6, 2) := by decide +kernel
theorem dX8_init_120 : decode cX8_init 120 = .ok (.newarray .boolean, 2) := by decide +kernel
theorem dX8_init_122 : decode cX8_init 122 = .ok (.putfield 48, 3) := by decide +kernel
theorem dX8_init_125 : decode cX8_init 125 = .ok (.aload_n 0, 1) := by decide +kernel
theorem dX8_init_126 : decode cX8_init 126 = .ok (.bipush 6, 2) := by decide +kernel
theorem dX8_init_128 : decode cX8_init 128 = .ok (.newarray .boolean, 2) := by decide +kernel
theorem dX8_init_130 : decode cX8_init 130 = .ok (.putfield 51, 3) := by decide +kernel
theorem dX8_init_133 : decode cX8_init 133 = .ok (.aload_n 0, 1) := by decide +kernel
theorem dX8_init_134 : decode cX8_init 134 = .ok (.bipush 8, 2) := by decide +kernel
theorem dX8_init_136 : decode cX8_init 136 = .ok (.newarray .int, 2) := by decide +kernel
theorem dX8_init_138 : decode cX8_init 138 = .ok (.putfield 54, 3) := by decide +kernel
theorem dX8_init_141 : decode cX8_init 141 = .ok (.aload_n 0, 1) := by decide +kernel
theorem dX8_init_142 : decode cX8_init 142 = .ok (.bipush 8, 2) := by decide +kernel
theorem dX8_init_144 : decode cX8_init 144 = .ok (.newarray .int, 2) := by decide +kernel
theorem dX8_init_146 : decode cX8_init 146 = .ok (.putfield 57, 3) := by decide +kernel
theorem dX8_init_149 : decode cX8_init 149 = .ok (.aload_n 0, 1) := by decide +kernel
theorem dX8_init_150 : decode cX8_init 150 = .ok (.bipush 8, 2) := by decide +kernel
theorem dX8_init_152 : decode cX8_init 152 = .ok (.newarray .boolean, 2) := by decide +kernel
theorem dX8_init_154 : decode cX8_init 154 = .ok (.putfield 60, 3) := by decide +kernel
theorem dX8_init_157 : decode cX8_init 157 = .ok (.return_, 1) := by decide +kernel
theorem dX8_fails_0 : decode cX8_fails 0 = .ok (.aload_n 0, 1) := by decide +kernel
theorem dX8_fails_1 : decode cX8_fails 1 = .ok (.iload_n 1, 1) := by decide +kernel
theorem dX8_fails_2 : decode cX8_fails 2 = .ok (.putfield 63, 3) := by decide +kernel
theorem dX8_fails_5 : decode cX8_fails 5 = .ok (.bipush (-10), 2) := by decide +kernel
theorem dX8_fails_7 : decode cX8_fails 7 = .ok (.iload_n 1, 1) := by decide +kernel
theorem dX8_fails_8 : decode cX8_fails 8 = .ok (.isub, 1) := by decide +kernel
theorem dX8_fails_9 : decode cX8_fails 9 = .ok (.ireturn, 1) := by decide +kernel
theorem dX8_lost_0 : decode cX8_lost 0 = .ok (.aload_n 0, 1) := by decide +kernel
theorem dX8_lost_1 : decode cX8_lost 1 = .ok (.iload_n 1, 1) := by decide +kernel
theorem dX8_lost_2 : decode cX8_lost 2 = .ok (.putfield 63, 3) := by decide +kernel
theorem dX8_lost_5 : decode cX8_lost 5 = .ok (.ldc2_w 66, 3) := by decide +kernel
theorem dX8_lost_8 : decode cX8_lost 8 = .ok (.lreturn, 1) := by decide +kernel
theorem dX8_within_0 : decode cX8_within 0 = .ok (.iload_n 0, 1) := by decide +kernel
theorem dX8_within_1 : decode cX8_within 1 = .ok (.iload_n 1, 1) := by decide +kernel
theorem dX8_within_2 : decode cX8_within 2 = .ok (.if_icmp .lt 12, 3) := by decide +kernel
theorem dX8_within_5 : decode cX8_within 5 = .ok (.iload_n 0, 1) := by decide +kernel
theorem dX8_within_6 : decode cX8_within 6 = .ok (.iload_n 2, 1) := by decide +kernel
theorem dX8_within_7 : decode cX8_within 7 = .ok (.if_icmp .gt 7, 3) := by decide +kernel
theorem dX8_within_10 : decode cX8_within 10 = .ok (.iconst 1, 1) := by decide +kernel
theorem dX8_within_11 : decode cX8_within 11 = .ok (.goto 4, 3) := by decide +kernel
theorem dX8_within_14 : decode cX8_within 14 = .ok (.iconst 0, 1) := by decide +kernel
theorem dX8_within_15 : decode cX8_within 15 = .ok (.ireturn, 1) := by decide +kernel
theorem dX8_isSheet_0 : decode cX8_isSheet 0 = .ok (.iload_n 0, 1) := by decide +kernel
theorem dX8_isSheet_1 : decode cX8_isSheet 1 = .ok (.iconst 0, 1) := by decide +kernel
theorem dX8_isSheet_2 : decode cX8_isSheet 2 = .ok (.iconst 3, 1) := by decide +kernel
theorem dX8_isSheet_3 : decode cX8_isSheet 3 = .ok (.invokestatic 68, 3) := by decide +kernel
theorem dX8_isSheet_6 : decode cX8_isSheet 6 = .ok (.ireturn, 1) := by decide +kernel
theorem dX8_isSort_0 : decode cX8_isSort 0 = .ok (.iload_n 0, 1) := by decide +kernel
theorem dX8_isSort_1 : decode cX8_isSort 1 = .ok (.iconst 0, 1) := by decide +kernel
theorem dX8_isSort_2 : decode cX8_isSort 2 = .ok (.iconst 2, 1) := by decide +kernel
theorem dX8_isSort_3 : decode cX8_isSort 3 = .ok (.invokestatic 68, 3) := by decide +kernel
theorem dX8_isSort_6 : decode cX8_isSort 6 = .ok (.ireturn, 1) := by decide +kernel
theorem dX8_against_0 : decode cX8_against 0 = .ok (.aload_n 0, 1) := by decide +kernel
theorem dX8_against_1 : decode cX8_against 1 = .ok (.getfield 9, 3) := by decide +kernel
theorem dX8_against_4 : decode cX8_against 4 = .ok (.iload_n 1, 1) := by decide +kernel
theorem dX8_against_5 : decode cX8_against 5 = .ok (.iaload, 1) := by decide +kernel
theorem dX8_against_6 : decode cX8_against 6 = .ok (.bipush (-9), 2) := by decide +kernel
theorem dX8_against_8 : decode cX8_against 8 = .ok (.if_icmp .eq 15, 3) := by decide +kernel
theorem dX8_against_11 : decode cX8_against 11 = .ok (.aload_n 0, 1) := by decide +kernel
theorem dX8_against_12 : decode cX8_against 12 = .ok (.getfield 9, 3) := by decide +kernel
theorem dX8_against_15 : decode cX8_against 15 = .ok (.iload_n 1, 1) := by decide +kernel
theorem dX8_against_16 : decode cX8_against 16 = .ok (.iaload, 1) := by decide +kernel
theorem dX8_against_17 : decode cX8_against 17 = .ok (.iload_n 2, 1) := by decide +kernel
theorem dX8_against_18 : decode cX8_against 18 = .ok (.if_icmp .eq 5, 3) := by decide +kernel
theorem dX8_against_21 : decode cX8_against 21 = .ok (.iconst 2, 1) := by decide +kernel
theorem dX8_against_22 : decode cX8_against 22 = .ok (.ireturn, 1) := by decide +kernel
theorem dX8_against_23 : decode cX8_against 23 = .ok (.aload_n 0, 1) := by decide +kernel
theorem dX8_against_24 : decode cX8_against 24 = .ok (.getfield 9, 3) := by decide +kernel
theorem dX8_against_27 : decode cX8_against 27 = .ok (.iload_n 1, 1) := by decide +kernel
theorem dX8_against_28 : decode cX8_against 28 = .ok (.iaload, 1) := by decide +kernel
theorem dX8_against_29 : decode cX8_against 29 = .ok (.bipush (-9), 2) := by decide +kernel
theorem dX8_against_31 : decode cX8_against 31 = .ok (.if_icmp .ne 5, 3) := by decide +kernel
theorem dX8_against_34 : decode cX8_against 34 = .ok (.iconst 1, 1) := by decide +kernel
theorem dX8_against_35 : decode cX8_against 35 = .ok (.ireturn, 1) := by decide +kernel
theorem dX8_against_36 : decode cX8_against 36 = .ok (.iload 4, 2) := by decide +kernel
theorem dX8_against_38 : decode cX8_against 38 = .ok (.ifCond .ge 5, 3) := by decide +kernel
theorem dX8_against_41 : decode cX8_against 41 = .ok (.iconst 4, 1) := by decide +kernel
theorem dX8_against_42 : decode cX8_against 42 = .ok (.ireturn, 1) := by decide +kernel
theorem dX8_against_43 : decode cX8_against 43 = .ok (.iload_n 3, 1) := by decide +kernel
theorem dX8_against_44 : decode cX8_against 44 = .ok (.ifCond .lt 26, 3) := by decide +kernel
theorem dX8_against_47 : decode cX8_against 47 = .ok (.iload_n 3, 1) := by decide +kernel
theorem dX8_against_48 : decode cX8_against 48 = .ok (.aload_n 0, 1) := by decide +kernel
theorem dX8_against_49 : decode cX8_against 49 = .ok (.getfield 13, 3) := by decide +kernel
theorem dX8_against_52 : decode cX8_against 52 = .ok (.iload_n 1, 1) := by decide +kernel
theorem dX8_against_53 : decode cX8_against 53 = .ok (.iaload, 1) := by decide +kernel
theorem dX8_against_54 : decode cX8_against 54 = .ok (.if_icmp .gt 16, 3) := by decide +kernel
theorem dX8_against_57 : decode cX8_against 57 = .ok (.iload 4, 2) := by decide +kernel
theorem dX8_against_59 : decode cX8_against 59 = .ok (.aload_n 0, 1) := by decide +kernel
theorem dX8_against_60 : decode cX8_against 60 = .ok (.getfield 13, 3) := by decide +kernel
theorem dX8_against_63 : decode cX8_against 63 = .ok (.iload_n 1, 1) := by decide +kernel
theorem dX8_against_64 : decode cX8_against 64 = .ok (.iaload, 1) := by decide +kernel
theorem dX8_against_65 : decode cX8_against 65 = .ok (.iload_n 3, 1) := by decide +kernel
theorem dX8_against_66 : decode cX8_against 66 = .ok (.isub, 1) := by decide +kernel
theorem dX8_against_67 : decode cX8_against 67 = .ok (.if_icmp .le 7, 3) := by decide +kernel
theorem dX8_against_70 : decode cX8_against 70 = .ok (.iconst 3, 1) := by decide +kernel
theorem dX8_against_71 : decode cX8_against 71 = .ok (.goto 4, 3) := by decide +kernel
theorem dX8_against_74 : decode cX8_against 74 = .ok (.iconst 0, 1) := by decide +kernel
theorem dX8_against_75 : decode cX8_against 75 = .ok (.ireturn, 1) := by decide +kernel
theorem dX8_isBill_0 : decode cX8_isBill 0 = .ok (.iload_n 1, 1) := by decide +kernel
theorem dX8_isBill_1 : decode cX8_isBill 1 = .ok (.ifCond .lt 15, 3) := by decide +kernel
theorem dX8_isBill_4 : decode cX8_isBill 4 = .ok (.iload_n 1, 1) := by decide +kernel
theorem dX8_isBill_5 : decode cX8_isBill 5 = .ok (.aload_n 0, 1) := by decide +kernel
theorem dX8_isBill_6 : decode cX8_isBill 6 = .ok (.getfield 72, 3) := by decide +kernel
theorem dX8_isBill_9 : decode cX8_isBill 9 = .ok (.if_icmp .ge 7, 3) := by decide +kernel
theorem dX8_isBill_12 : decode cX8_isBill 12 = .ok (.iconst 1, 1) := by decide +kernel
theorem dX8_isBill_13 : decode cX8_isBill 13 = .ok (.goto 4, 3) := by decide +kernel
theorem dX8_isBill_16 : decode cX8_isBill 16 = .ok (.iconst 0, 1) := by decide +kernel
theorem dX8_isBill_17 : decode cX8_isBill 17 = .ok (.ireturn, 1) := by decide +kernel
theorem dX8_isDay_0 : decode cX8_isDay 0 = .ok (.iload_n 0, 1) := by decide +kernel
theorem dX8_isDay_1 : decode cX8_isDay 1 = .ok (.iconst 0, 1) := by decide +kernel
theorem dX8_isDay_2 : decode cX8_isDay 2 = .ok (.bipush 109, 2) := by decide +kernel
theorem dX8_isDay_4 : decode cX8_isDay 4 = .ok (.invokestatic 68, 3) := by decide +kernel
theorem dX8_isDay_7 : decode cX8_isDay 7 = .ok (.ireturn, 1) := by decide +kernel
theorem dX8_digit_0 : decode cX8_digit 0 = .ok (.aload_n 0, 1) := by decide +kernel
theorem dX8_digit_1 : decode cX8_digit 1 = .ok (.getfield 75, 3) := by decide +kernel
theorem dX8_digit_4 : decode cX8_digit 4 = .ok (.iload_n 1, 1) := by decide +kernel
theorem dX8_digit_5 : decode cX8_digit 5 = .ok (.if_icmp .ge 26, 3) := by decide +kernel
theorem dX8_digit_8 : decode cX8_digit 8 = .ok (.aload_n 0, 1) := by decide +kernel
theorem dX8_digit_9 : decode cX8_digit 9 = .ok (.getfield 16, 3) := by decide +kernel
theorem dX8_digit_12 : decode cX8_digit 12 = .ok (.aload_n 0, 1) := by decide +kernel
theorem dX8_digit_13 : decode cX8_digit 13 = .ok (.getfield 75, 3) := by decide +kernel
theorem dX8_digit_16 : decode cX8_digit 16 = .ok (.iaload, 1) := by decide +kernel
theorem dX8_digit_17 : decode cX8_digit 17 = .ok (.bipush 48, 2) := by decide +kernel
theorem dX8_digit_19 : decode cX8_digit 19 = .ok (.iload_n 2, 1) := by decide +kernel
theorem dX8_digit_20 : decode cX8_digit 20 = .ok (.iadd, 1) := by decide +kernel
theorem dX8_digit_21 : decode cX8_digit 21 = .ok (.bipush 48, 2) := by decide +kernel
theorem dX8_digit_23 : decode cX8_digit 23 = .ok (.iload_n 3, 1) := by decide +kernel
theorem dX8_digit_24 : decode cX8_digit 24 = .ok (.iadd, 1) := by decide +kernel
theorem dX8_digit_25 : decode cX8_digit 25 = .ok (.invokestatic 68, 3) := by decide +kernel
theorem dX8_digit_28 : decode cX8_digit 28 = .ok (.ifCond .ne 6, 3) := by decide +kernel
theorem dX8_digit_31 : decode cX8_digit 31 = .ok (.bipush (-9), 2) := by decide +kernel
theorem dX8_digit_33 : decode cX8_digit 33 = .ok (.ireturn, 1) := by decide +kernel
theorem dX8_digit_34 : decode cX8_digit 34 = .ok (.aload_n 0, 1) := by decide +kernel
theorem dX8_digit_35 : decode cX8_digit 35 = .ok (.dup, 1) := by decide +kernel
theorem dX8_digit_36 : decode cX8_digit 36 = .ok (.getfield 75, 3) := by decide +kernel
theorem dX8_digit_39 : decode cX8_digit 39 = .ok (.iconst 1, 1) := by decide +kernel
theorem dX8_digit_40 : decode cX8_digit 40 = .ok (.iadd, 1) := by decide +kernel
theorem dX8_digit_41 : decode cX8_digit 41 = .ok (.putfield 75, 3) := by decide +kernel
theorem dX8_digit_44 : decode cX8_digit 44 = .ok (.aload_n 0, 1) := by decide +kernel
theorem dX8_digit_45 : decode cX8_digit 45 = .ok (.getfield 16, 3) := by decide +kernel
theorem dX8_digit_48 : decode cX8_digit 48 = .ok (.aload_n 0, 1) := by decide +kernel
theorem dX8_digit_49 : decode cX8_digit 49 = .ok (.getfield 75, 3) := by decide +kernel
theorem dX8_digit_52 : decode cX8_digit 52 = .ok (.iconst 1, 1) := by decide +kernel
theorem dX8_digit_53 : decode cX8_digit 53 = .ok (.isub, 1) := by decide +kernel
theorem dX8_digit_54 : decode cX8_digit 54 = .ok (.iaload, 1) := by decide +kernel
theorem dX8_digit_55 : decode cX8_digit 55 = .ok (.bipush 48, 2) := by decide +kernel
theorem dX8_digit_57 : decode cX8_digit 57 = .ok (.isub, 1) := by decide +kernel
theorem dX8_digit_58 : decode cX8_digit 58 = .ok (.ireturn, 1) := by decide +kernel
theorem dX8_isSign_0 : decode cX8_isSign 0 = .ok (.aload_n 0, 1) := by decide +kernel
theorem dX8_isSign_1 : decode cX8_isSign 1 = .ok (.getfield 75, 3) := by decide +kernel
theorem dX8_isSign_4 : decode cX8_isSign 4 = .ok (.iload_n 1, 1) := by decide +kernel
theorem dX8_isSign_5 : decode cX8_isSign 5 = .ok (.if_icmp .ge 16, 3) := by decide +kernel
theorem dX8_isSign_8 : decode cX8_isSign 8 = .ok (.aload_n 0, 1) := by decide +kernel
theorem dX8_isSign_9 : decode cX8_isSign 9 = .ok (.getfield 16, 3) := by decide +kernel
theorem dX8_isSign_12 : decode cX8_isSign 12 = .ok (.aload_n 0, 1) := by decide +kernel
theorem dX8_isSign_13 : decode cX8_isSign 13 = .ok (.getfield 75, 3) := by decide +kernel
theorem dX8_isSign_16 : decode cX8_isSign 16 = .ok (.iaload, 1) := by decide +kernel
theorem dX8_isSign_17 : decode cX8_isSign 17 = .ok (.iload_n 2, 1) := by decide +kernel
theorem dX8_isSign_18 : decode cX8_isSign 18 = .ok (.if_icmp .eq 5, 3) := by decide +kernel
theorem dX8_isSign_21 : decode cX8_isSign 21 = .ok (.iconst 0, 1) := by decide +kernel
theorem dX8_isSign_22 : decode cX8_isSign 22 = .ok (.ireturn, 1) := by decide +kernel
theorem dX8_isSign_23 : decode cX8_isSign 23 = .ok (.aload_n 0, 1) := by decide +kernel
theorem dX8_isSign_24 : decode cX8_isSign 24 = .ok (.dup, 1) := by decide +kernel
theorem dX8_isSign_25 : decode cX8_isSign 25 = .ok (.getfield 75, 3) := by decide +kernel
theorem dX8_isSign_28 : decode cX8_isSign 28 = .ok (.iconst 1, 1) := by decide +kernel
theorem dX8_isSign_29 : decode cX8_isSign 29 = .ok (.iadd, 1) := by decide +kernel
theorem dX8_isSign_30 : decode cX8_isSign 30 = .ok (.putfield 75, 3) := by decide +kernel
theorem dX8_isSign_33 : decode cX8_isSign 33 = .ok (.iconst 1, 1) := by decide +kernel
theorem dX8_isSign_34 : decode cX8_isSign 34 = .ok (.ireturn, 1) := by decide +kernel
theorem dX8_number_0 : decode cX8_number 0 = .ok (.aload_n 0, 1) := by decide +kernel
theorem dX8_number_1 : decode cX8_number 1 = .ok (.iload_n 1, 1) := by decide +kernel
theorem dX8_number_2 : decode cX8_number 2 = .ok (.iload_n 2, 1) := by decide +kernel
theorem dX8_number_3 : decode cX8_number 3 = .ok (.bipush 10, 2) := by decide +kernel
theorem dX8_number_5 : decode cX8_number 5 = .ok (.idiv, 1) := by decide +kernel
theorem dX8_number_6 : decode cX8_number 6 = .ok (.iload_n 3, 1) := by decide +kernel
theorem dX8_number_7 : decode cX8_number 7 = .ok (.bipush 10, 2) := by decide +kernel
theorem dX8_number_9 : decode cX8_number 9 = .ok (.idiv, 1) := by decide +kernel
theorem dX8_number_10 : decode cX8_number 10 = .ok (.invokevirtual 78, 3) := by decide +kernel
theorem dX8_number_13 : decode cX8_number 13 = .ok (.istore 4, 2) := by decide +kernel
theorem dX8_number_15 : decode cX8_number 15 = .ok (.iload 4, 2) := by decide +kernel
theorem dX8_number_17 : decode cX8_number 17 = .ok (.bipush (-9), 2) := by decide +kernel
theorem dX8_number_19 : decode cX8_number 19 = .ok (.if_icmp .ne 6, 3) := by decide +kernel
theorem dX8_number_22 : decode cX8_number 22 = .ok (.bipush (-9), 2) := by decide +kernel
theorem dX8_number_24 : decode cX8_number 24 = .ok (.ireturn, 1) := by decide +kernel
theorem dX8_number_25 : decode cX8_number 25 = .ok (.aload_n 0, 1) := by decide +kernel
theorem dX8_number_26 : decode cX8_number 26 = .ok (.iload_n 1, 1) := by decide +kernel
theorem dX8_number_27 : decode cX8_number 27 = .ok (.iconst 0, 1) := by decide +kernel
theorem dX8_number_28 : decode cX8_number 28 = .ok (.iload 4, 2) := by decide +kernel
theorem dX8_number_30 : decode cX8_number 30 = .ok (.iload_n 3, 1) := by decide +kernel
theorem dX8_number_31 : decode cX8_number 31 = .ok (.bipush 10, 2) := by decide +kernel
theorem dX8_number_33 : decode cX8_number 33 = .ok (.idiv, 1) := by decide +kernel
theorem dX8_number_34 : decode cX8_number 34 = .ok (.if_icmp .ne 10, 3) := by decide +kernel
theorem dX8_number_37 : decode cX8_number 37 = .ok (.iload_n 3, 1) := by decide +kernel
theorem dX8_number_38 : decode cX8_number 38 = .ok (.bipush 10, 2) := by decide +kernel
theorem dX8_number_40 : decode cX8_number 40 = .ok (.irem, 1) := by decide +kernel
theorem dX8_number_41 : decode cX8_number 41 = .ok (.goto 5, 3) := by decide +kernel
theorem dX8_number_44 : decode cX8_number 44 = .ok (.bipush 9, 2) := by decide +kernel
theorem dX8_number_46 : decode cX8_number 46 = .ok (.invokevirtual 78, 3) := by decide +kernel
theorem dX8_number_49 : decode cX8_number 49 = .ok (.istore 5, 2) := by decide +kernel
theorem dX8_number_51 : decode cX8_number 51 = .ok (.iload 5, 2) := by decide +kernel
theorem dX8_number_53 : decode cX8_number 53 = .ok (.bipush (-9), 2) := by decide +kernel
theorem dX8_number_55 : decode cX8_number 55 = .ok (.if_icmp .ne 8, 3) := by decide +kernel
theorem dX8_number_58 : decode cX8_number 58 = .ok (.bipush (-9), 2) := by decide +kernel
theorem dX8_number_60 : decode cX8_number 60 = .ok (.goto 11, 3) := by decide +kernel
theorem dX8_number_63 : decode cX8_number 63 = .ok (.bipush 10, 2) := by decide +kernel
theorem dX8_number_65 : decode cX8_number 65 = .ok (.iload 4, 2) := by decide +kernel
theorem dX8_number_67 : decode cX8_number 67 = .ok (.imul, 1) := by decide +kernel
theorem dX8_number_68 : decode cX8_number 68 = .ok (.iload 5, 2) := by decide +kernel
theorem dX8_number_70 : decode cX8_number 70 = .ok (.iadd, 1) := by decide +kernel
theorem dX8_number_71 : decode cX8_number 71 = .ok (.ireturn, 1) := by decide +kernel
theorem dX8_council_0 : decode cX8_council 0 = .ok (.aload_n 0, 1) := by decide +kernel
theorem dX8_council_1 : decode cX8_council 1 = .ok (.iconst 0, 1) := by decide +kernel
theorem dX8_council_2 : decode cX8_council 2 = .ok (.putfield 63, 3) := by decide +kernel
theorem dX8_council_5 : decode cX8_council 5 = .ok (.iload_n 1, 1) := by decide +kernel
theorem dX8_council_6 : decode cX8_council 6 = .ok (.invokestatic 82, 3) := by decide +kernel
theorem dX8_council_9 : decode cX8_council 9 = .ok (.ifCond .ne 5, 3) := by decide +kernel
theorem dX8_council_12 : decode cX8_council 12 = .ok (.iconst (-1), 1) := by decide +kernel
theorem dX8_council_13 : decode cX8_council 13 = .ok (.ireturn, 1) := by decide +kernel
theorem dX8_council_14 : decode cX8_council 14 = .ok (.iload_n 2, 1) := by decide +kernel
theorem dX8_council_15 : decode cX8_council 15 = .ok (.invokestatic 86, 3) := by decide +kernel
theorem dX8_council_18 : decode cX8_council 18 = .ok (.ifCond .ne 6, 3) := by decide +kernel
theorem dX8_council_21 : decode cX8_council 21 = .ok (.bipush (-2), 2) := by decide +kernel
theorem dX8_council_23 : decode cX8_council 23 = .ok (.ireturn, 1) := by decide +kernel
theorem dX8_council_24 : decode cX8_council 24 = .ok (.aload_n 0, 1) := by decide +kernel
theorem dX8_council_25 : decode cX8_council 25 = .ok (.iload_n 1, 1) := by decide +kernel
theorem dX8_council_26 : decode cX8_council 26 = .ok (.iload_n 2, 1) := by decide +kernel
theorem dX8_council_27 : decode cX8_council 27 = .ok (.iload_n 3, 1) := by decide +kernel
theorem dX8_council_28 : decode cX8_council 28 = .ok (.iload 4, 2) := by decide +kernel
theorem dX8_council_30 : decode cX8_council 30 = .ok (.invokevirtual 89, 3) := by decide +kernel
theorem dX8_council_33 : decode cX8_council 33 = .ok (.istore 5, 2) := by decide +kernel
theorem dX8_council_35 : decode cX8_council 35 = .ok (.iload 5, 2) := by decide +kernel
theorem dX8_council_37 : decode cX8_council 37 = .ok (.ifCond .eq 10, 3) := by decide +kernel
theorem dX8_council_40 : decode cX8_council 40 = .ok (.aload_n 0, 1) := by decide +kernel
theorem dX8_council_41 : decode cX8_council 41 = .ok (.iload 5, 2) := by decide +kernel
theorem dX8_council_43 : decode cX8_council 43 = .ok (.invokevirtual 93, 3) := by decide +kernel
theorem dX8_council_46 : decode cX8_council 46 = .ok (.ireturn, 1) := by decide +kernel
theorem dX8_council_47 : decode cX8_council 47 = .ok (.bipush 60, 2) := by decide +kernel
theorem dX8_council_49 : decode cX8_council 49 = .ok (.iload_n 1, 1) := by decide +kernel
theorem dX8_council_50 : decode cX8_council 50 = .ok (.imul, 1) := by decide +kernel
theorem dX8_council_51 : decode cX8_council 51 = .ok (.iload_n 3, 1) := by decide +kernel
theorem dX8_council_52 : decode cX8_council 52 = .ok (.iadd, 1) := by decide +kernel
theorem dX8_council_53 : decode cX8_council 53 = .ok (.istore 6, 2) := by decide +kernel
theorem dX8_council_55 : decode cX8_council 55 = .ok (.aload_n 0, 1) := by decide +kernel
theorem dX8_council_56 : decode cX8_council 56 = .ok (.iload 6, 2) := by decide +kernel
theorem dX8_council_58 : decode cX8_council 58 = .ok (.putfield 75, 3) := by decide +kernel
theorem dX8_council_61 : decode cX8_council 61 = .ok (.aload_n 0, 1) := by decide +kernel
theorem dX8_council_62 : decode cX8_council 62 = .ok (.iload 6, 2) := by decide +kernel
theorem dX8_council_64 : decode cX8_council 64 = .ok (.iload 4, 2) := by decide +kernel
theorem dX8_council_66 : decode cX8_council 66 = .ok (.iadd, 1) := by decide +kernel
theorem dX8_council_67 : decode cX8_council 67 = .ok (.invokevirtual 97, 3) := by decide +kernel
theorem dX8_council_70 : decode cX8_council 70 = .ok (.ifCond .ne 14, 3) := by decide +kernel
theorem dX8_council_73 : decode cX8_council 73 = .ok (.bipush (-100), 2) := by decide +kernel
theorem dX8_council_75 : decode cX8_council 75 = .ok (.aload_n 0, 1) := by decide +kernel
theorem dX8_council_76 : decode cX8_council 76 = .ok (.getfield 75, 3) := by decide +kernel
theorem dX8_council_79 : decode cX8_council 79 = .ok (.iload 6, 2) := by decide +kernel
theorem dX8_council_81 : decode cX8_council 81 = .ok (.isub, 1) := by decide +kernel
theorem dX8_council_82 : decode cX8_council 82 = .ok (.isub, 1) := by decide +kernel
theorem dX8_council_83 : decode cX8_council 83 = .ok (.ireturn, 1) := by decide +kernel
theorem dX8_council_84 : decode cX8_council 84 = .ok (.aload_n 0, 1) := by decide +kernel
theorem dX8_council_85 : decode cX8_council 85 = .ok (.aload_n 0, 1) := by decide +kernel
theorem dX8_council_86 : decode cX8_council 86 = .ok (.getfield 100, 3) := by decide +kernel
theorem dX8_council_89 : decode cX8_council 89 = .ok (.putfield 103, 3) := by decide +kernel
theorem dX8_council_92 : decode cX8_council 92 = .ok (.aload_n 0, 1) := by decide +kernel
theorem dX8_council_93 : decode cX8_council 93 = .ok (.aload_n 0, 1) := by decide +kernel
theorem dX8_council_94 : decode cX8_council 94 = .ok (.getfield 106, 3) := by decide +kernel
theorem dX8_council_97 : decode cX8_council 97 = .ok (.putfield 109, 3) := by decide +kernel
theorem dX8_council_100 : decode cX8_council 100 = .ok (.aload_n 0, 1) := by decide +kernel
theorem dX8_council_101 : decode cX8_council 101 = .ok (.aload_n 0, 1) := by decide +kernel
theorem dX8_council_102 : decode cX8_council 102 = .ok (.getfield 112, 3) := by decide +kernel
theorem dX8_council_105 : decode cX8_council 105 = .ok (.putfield 115, 3) := by decide +kernel
theorem dX8_council_108 : decode cX8_council 108 = .ok (.aload_n 0, 1) := by decide +kernel
theorem dX8_council_109 : decode cX8_council 109 = .ok (.aload_n 0, 1) := by decide +kernel
theorem dX8_council_110 : decode cX8_council 110 = .ok (.getfield 118, 3) := by decide +kernel
theorem dX8_council_113 : decode cX8_council 113 = .ok (.putfield 121, 3) := by decide +kernel
theorem dX8_council_116 : decode cX8_council 116 = .ok (.aload_n 0, 1) := by decide +kernel
theorem dX8_council_117 : decode cX8_council 117 = .ok (.aload_n 0, 1) := by decide +kernel
theorem dX8_council_118 : decode cX8_council 118 = .ok (.getfield 124, 3) := by decide +kernel
theorem dX8_council_121 : decode cX8_council 121 = .ok (.putfield 72, 3) := by decide +kernel
theorem dX8_council_124 : decode cX8_council 124 = .ok (.iconst 0, 1) := by decide +kernel
theorem dX8_council_125 : decode cX8_council 125 = .ok (.istore 7, 2) := by decide +kernel
theorem dX8_council_127 : decode cX8_council 127 = .ok (.iload 7, 2) := by decide +kernel
theorem dX8_council_129 : decode cX8_council 129 = .ok (.aload_n 0, 1) := by decide +kernel
theorem dX8_council_130 : decode cX8_council 130 = .ok (.getfield 72, 3) := by decide +kernel
theorem dX8_council_133 : decode cX8_council 133 = .ok (.if_icmp .ge 97, 3) := by decide +kernel
theorem dX8_council_136 : decode cX8_council 136 = .ok (.aload_n 0, 1) := by decide +kernel
theorem dX8_council_137 : decode cX8_council 137 = .ok (.getfield 19, 3) := by decide +kernel
theorem dX8_council_140 : decode cX8_council 140 = .ok (.iload 7, 2) := by decide +kernel
theorem dX8_council_142 : decode cX8_council 142 = .ok (.aload_n 0, 1) := by decide +kernel
theorem dX8_council_143 : decode cX8_council 143 = .ok (.getfield 42, 3) := by decide +kernel
theorem dX8_council_146 : decode cX8_council 146 = .ok (.iconst 5, 1) := by decide +kernel
theorem dX8_council_147 : decode cX8_council 147 = .ok (.iload 7, 2) := by decide +kernel
theorem dX8_council_149 : decode cX8_council 149 = .ok (.imul, 1) := by decide +kernel
theorem dX8_council_150 : decode cX8_council 150 = .ok (.iaload, 1) := by decide +kernel
theorem dX8_council_151 : decode cX8_council 151 = .ok (.iastore, 1) := by decide +kernel
theorem dX8_council_152 : decode cX8_council 152 = .ok (.aload_n 0, 1) := by decide +kernel
theorem dX8_council_153 : decode cX8_council 153 = .ok (.getfield 22, 3) := by decide +kernel
theorem dX8_council_156 : decode cX8_council 156 = .ok (.iload 7, 2) := by decide +kernel
theorem dX8_council_158 : decode cX8_council 158 = .ok (.aload_n 0, 1) := by decide +kernel
theorem dX8_council_159 : decode cX8_council 159 = .ok (.getfield 42, 3) := by decide +kernel
theorem dX8_council_162 : decode cX8_council 162 = .ok (.iconst 5, 1) := by decide +kernel
theorem dX8_council_163 : decode cX8_council 163 = .ok (.iload 7, 2) := by decide +kernel
theorem dX8_council_165 : decode cX8_council 165 = .ok (.imul, 1) := by decide +kernel
theorem dX8_council_166 : decode cX8_council 166 = .ok (.iconst 1, 1) := by decide +kernel
theorem dX8_council_167 : decode cX8_council 167 = .ok (.iadd, 1) := by decide +kernel
theorem dX8_council_168 : decode cX8_council 168 = .ok (.iaload, 1) := by decide +kernel
theorem dX8_council_169 : decode cX8_council 169 = .ok (.iastore, 1) := by decide +kernel
theorem dX8_council_170 : decode cX8_council 170 = .ok (.aload_n 0, 1) := by decide +kernel
theorem dX8_council_171 : decode cX8_council 171 = .ok (.getfield 25, 3) := by decide +kernel
theorem dX8_council_174 : decode cX8_council 174 = .ok (.iload 7, 2) := by decide +kernel
theorem dX8_council_176 : decode cX8_council 176 = .ok (.aload_n 0, 1) := by decide +kernel
theorem dX8_council_177 : decode cX8_council 177 = .ok (.getfield 42, 3) := by decide +kernel
theorem dX8_council_180 : decode cX8_council 180 = .ok (.iconst 5, 1) := by decide +kernel
theorem dX8_council_181 : decode cX8_council 181 = .ok (.iload 7, 2) := by decide +kernel
theorem dX8_council_183 : decode cX8_council 183 = .ok (.imul, 1) := by decide +kernel
theorem dX8_council_184 : decode cX8_council 184 = .ok (.iconst 2, 1) := by decide +kernel
theorem dX8_council_185 : decode cX8_council 185 = .ok (.iadd, 1) := by decide +kernel
theorem dX8_council_186 : decode cX8_council 186 = .ok (.iaload, 1) := by decide +kernel
theorem dX8_council_187 : decode cX8_council 187 = .ok (.iastore, 1) := by decide +kernel
theorem dX8_council_188 : decode cX8_council 188 = .ok (.aload_n 0, 1) := by decide +kernel
theorem dX8_council_189 : decode cX8_council 189 = .ok (.getfield 28, 3) := by decide +kernel
theorem dX8_council_192 : decode cX8_council 192 = .ok (.iload 7, 2) := by decide +kernel
theorem dX8_council_194 : decode cX8_council 194 = .ok (.aload_n 0, 1) := by decide +kernel
theorem dX8_council_195 : decode cX8_council 195 = .ok (.getfield 42, 3) := by decide +kernel
theorem dX8_council_198 : decode cX8_council 198 = .ok (.iconst 5, 1) := by decide +kernel
theorem dX8_council_199 : decode cX8_council 199 = .ok (.iload 7, 2) := by decide +kernel
theorem dX8_council_201 : decode cX8_council 201 = .ok (.imul, 1) := by decide +kernel
theorem dX8_council_202 : decode cX8_council 202 = .ok (.iconst 3, 1) := by decide +kernel
theorem dX8_council_203 : decode cX8_council 203 = .ok (.iadd, 1) := by decide +kernel
theorem dX8_council_204 : decode cX8_council 204 = .ok (.iaload, 1) := by decide +kernel
theorem dX8_council_205 : decode cX8_council 205 = .ok (.iastore, 1) := by decide +kernel
theorem dX8_council_206 : decode cX8_council 206 = .ok (.aload_n 0, 1) := by decide +kernel
theorem dX8_council_207 : decode cX8_council 207 = .ok (.getfield 31, 3) := by decide +kernel
theorem dX8_council_210 : decode cX8_council 210 = .ok (.iload 7, 2) := by decide +kernel
theorem dX8_council_212 : decode cX8_council 212 = .ok (.aload_n 0, 1) := by decide +kernel
theorem dX8_council_213 : decode cX8_council 213 = .ok (.getfield 42, 3) := by decide +kernel
theorem dX8_council_216 : decode cX8_council 216 = .ok (.iconst 5, 1) := by decide +kernel
theorem dX8_council_217 : decode cX8_council 217 = .ok (.iload 7, 2) := by decide +kernel
theorem dX8_council_219 : decode cX8_council 219 = .ok (.imul, 1) := by decide +kernel
theorem dX8_council_220 : decode cX8_council 220 = .ok (.iconst 4, 1) := by decide +kernel
theorem dX8_council_221 : decode cX8_council 221 = .ok (.iadd, 1) := by decide +kernel
theorem dX8_council_222 : decode cX8_council 222 = .ok (.iaload, 1) := by decide +kernel
theorem dX8_council_223 : decode cX8_council 223 = .ok (.iastore, 1) := by decide +kernel
theorem dX8_council_224 : decode cX8_council 224 = .ok (.iinc 7 1, 3) := by decide +kernel
theorem dX8_council_227 : decode cX8_council 227 = .ok (.goto (-100), 3) := by decide +kernel
theorem dX8_council_230 : decode cX8_council 230 = .ok (.iconst 0, 1) := by decide +kernel
theorem dX8_council_231 : decode cX8_council 231 = .ok (.istore 7, 2) := by decide +kernel
theorem dX8_council_233 : decode cX8_council 233 = .ok (.iload 7, 2) := by decide +kernel
theorem dX8_council_235 : decode cX8_council 235 = .ok (.bipush 110, 2) := by decide +kernel
theorem dX8_council_237 : decode cX8_council 237 = .ok (.if_icmp .ge 17, 3) := by decide +kernel
theorem dX8_council_240 : decode cX8_council 240 = .ok (.aload_n 0, 1) := by decide +kernel
theorem dX8_council_241 : decode cX8_council 241 = .ok (.getfield 34, 3) := by decide +kernel
theorem dX8_council_244 : decode cX8_council 244 = .ok (.iload 7, 2) := by decide +kernel
theorem dX8_council_246 : decode cX8_council 246 = .ok (.iconst 0, 1) := by decide +kernel
theorem dX8_council_247 : decode cX8_council 247 = .ok (.bastore, 1) := by decide +kernel
theorem dX8_council_248 : decode cX8_council 248 = .ok (.iinc 7 1, 3) := by decide +kernel
theorem dX8_council_251 : decode cX8_council 251 = .ok (.goto (-18), 3) := by decide +kernel
theorem dX8_council_254 : decode cX8_council 254 = .ok (.aload_n 0, 1) := by decide +kernel
theorem dX8_council_255 : decode cX8_council 255 = .ok (.iconst 0, 1) := by decide +kernel
theorem dX8_council_256 : decode cX8_council 256 = .ok (.putfield 127, 3) := by decide +kernel
theorem dX8_council_259 : decode cX8_council 259 = .ok (.aload_n 0, 1) := by decide +kernel
theorem dX8_council_260 : decode cX8_council 260 = .ok (.iconst 0, 1) := by decide +kernel
theorem dX8_council_261 : decode cX8_council 261 = .ok (.putfield 130, 3) := by decide +kernel
theorem dX8_council_264 : decode cX8_council 264 = .ok (.aload_n 0, 1) := by decide +kernel
theorem dX8_council_265 : decode cX8_council 265 = .ok (.getfield 72, 3) := by decide +kernel
theorem dX8_council_268 : decode cX8_council 268 = .ok (.ireturn, 1) := by decide +kernel
theorem dX8_readCouncil_0 : decode cX8_readCouncil 0 = .ok (.aload_n 0, 1) := by decide +kernel
theorem dX8_readCouncil_1 : decode cX8_readCouncil 1 = .ok (.iconst 0, 1) := by decide +kernel
theorem dX8_readCouncil_2 : decode cX8_readCouncil 2 = .ok (.putfield 124, 3) := by decide +kernel
theorem dX8_readCouncil_5 : decode cX8_readCouncil 5 = .ok (.aload_n 0, 1) := by decide +kernel
theorem dX8_readCouncil_6 : decode cX8_readCouncil 6 = .ok (.iload_n 1, 1) := by decide +kernel
theorem dX8_readCouncil_7 : decode cX8_readCouncil 7 = .ok (.bipush 109, 2) := by decide +kernel
theorem dX8_readCouncil_9 : decode cX8_readCouncil 9 = .ok (.invokevirtual 133, 3) := by decide +kernel
theorem dX8_readCouncil_12 : decode cX8_readCouncil 12 = .ok (.ifCond .eq 11, 3) := by decide +kernel
theorem dX8_readCouncil_15 : decode cX8_readCouncil 15 = .ok (.aload_n 0, 1) := by decide +kernel
theorem dX8_readCouncil_16 : decode cX8_readCouncil 16 = .ok (.iload_n 1, 1) := by decide +kernel
theorem dX8_readCouncil_17 : decode cX8_readCouncil 17 = .ok (.invokevirtual 137, 3) := by decide +kernel
theorem dX8_readCouncil_20 : decode cX8_readCouncil 20 = .ok (.ifCond .ne 5, 3) := by decide +kernel
theorem dX8_readCouncil_23 : decode cX8_readCouncil 23 = .ok (.iconst 0, 1) := by decide +kernel
theorem dX8_readCouncil_24 : decode cX8_readCouncil 24 = .ok (.ireturn, 1) := by decide +kernel
theorem dX8_readCouncil_25 : decode cX8_readCouncil 25 = .ok (.aload_n 0, 1) := by decide +kernel
theorem dX8_readCouncil_26 : decode cX8_readCouncil 26 = .ok (.getfield 124, 3) := by decide +kernel
theorem dX8_readCouncil_29 : decode cX8_readCouncil 29 = .ok (.ifCond .eq 20, 3) := by decide +kernel
theorem dX8_readCouncil_32 : decode cX8_readCouncil 32 = .ok (.aload_n 0, 1) := by decide +kernel
theorem dX8_readCouncil_33 : decode cX8_readCouncil 33 = .ok (.getfield 124, 3) := by decide +kernel
theorem dX8_readCouncil_36 : decode cX8_readCouncil 36 = .ok (.bipush 6, 2) := by decide +kernel
theorem dX8_readCouncil_38 : decode cX8_readCouncil 38 = .ok (.if_icmp .ge 31, 3) := by decide +kernel
theorem dX8_readCouncil_41 : decode cX8_readCouncil 41 = .ok (.aload_n 0, 1) := by decide +kernel
theorem dX8_readCouncil_42 : decode cX8_readCouncil 42 = .ok (.getfield 75, 3) := by decide +kernel
theorem dX8_readCouncil_45 : decode cX8_readCouncil 45 = .ok (.iload_n 1, 1) := by decide +kernel
theorem dX8_readCouncil_46 : decode cX8_readCouncil 46 = .ok (.if_icmp .ge 23, 3) := by decide +kernel
theorem dX8_readCouncil_49 : decode cX8_readCouncil 49 = .ok (.aload_n 0, 1) := by decide +kernel
theorem dX8_readCouncil_50 : decode cX8_readCouncil 50 = .ok (.iload_n 1, 1) := by decide +kernel
theorem dX8_readCouncil_51 : decode cX8_readCouncil 51 = .ok (.bipush 59, 2) := by decide +kernel
theorem dX8_readCouncil_53 : decode cX8_readCouncil 53 = .ok (.invokevirtual 133, 3) := by decide +kernel
theorem dX8_readCouncil_56 : decode cX8_readCouncil 56 = .ok (.ifCond .eq 11, 3) := by decide +kernel
theorem dX8_readCouncil_59 : decode cX8_readCouncil 59 = .ok (.aload_n 0, 1) := by decide +kernel
theorem dX8_readCouncil_60 : decode cX8_readCouncil 60 = .ok (.iload_n 1, 1) := by decide +kernel
theorem dX8_readCouncil_61 : decode cX8_readCouncil 61 = .ok (.invokevirtual 140, 3) := by decide +kernel
theorem dX8_readCouncil_64 : decode cX8_readCouncil 64 = .ok (.ifCond .ne (-39), 3) := by decide +kernel
theorem dX8_readCouncil_67 : decode cX8_readCouncil 67 = .ok (.iconst 0, 1) := by decide +kernel
theorem dX8_readCouncil_68 : decode cX8_readCouncil 68 = .ok (.ireturn, 1) := by decide +kernel
theorem dX8_readCouncil_69 : decode cX8_readCouncil 69 = .ok (.aload_n 0, 1) := by decide +kernel
theorem dX8_readCouncil_70 : decode cX8_readCouncil 70 = .ok (.getfield 75, 3) := by decide +kernel
theorem dX8_readCouncil_73 : decode cX8_readCouncil 73 = .ok (.iload_n 1, 1) := by decide +kernel
theorem dX8_readCouncil_74 : decode cX8_readCouncil 74 = .ok (.if_icmp .ne 7, 3) := by decide +kernel
theorem dX8_readCouncil_77 : decode cX8_readCouncil 77 = .ok (.iconst 1, 1) := by decide +kernel
theorem dX8_readCouncil_78 : decode cX8_readCouncil 78 = .ok (.goto 4, 3) := by decide +kernel
theorem dX8_readCouncil_81 : decode cX8_readCouncil 81 = .ok (.iconst 0, 1) := by decide +kernel
theorem dX8_readCouncil_82 : decode cX8_readCouncil 82 = .ok (.ireturn, 1) := by decide +kernel
theorem dX8_readCalendar_0 : decode cX8_readCalendar 0 = .ok (.aload_n 0, 1) := by decide +kernel
theorem dX8_readCalendar_1 : decode cX8_readCalendar 1 = .ok (.aload_n 0, 1) := by decide +kernel
theorem dX8_readCalendar_2 : decode cX8_readCalendar 2 = .ok (.iload_n 1, 1) := by decide +kernel
theorem dX8_readCalendar_3 : decode cX8_readCalendar 3 = .ok (.iconst 0, 1) := by decide +kernel
theorem dX8_readCalendar_4 : decode cX8_readCalendar 4 = .ok (.bipush 29, 2) := by decide +kernel
theorem dX8_readCalendar_6 : decode cX8_readCalendar 6 = .ok (.invokevirtual 143, 3) := by decide +kernel
theorem dX8_readCalendar_9 : decode cX8_readCalendar 9 = .ok (.putfield 100, 3) := by decide +kernel
theorem dX8_readCalendar_12 : decode cX8_readCalendar 12 = .ok (.aload_n 0, 1) := by decide +kernel
theorem dX8_readCalendar_13 : decode cX8_readCalendar 13 = .ok (.getfield 100, 3) := by decide +kernel
theorem dX8_readCalendar_16 : decode cX8_readCalendar 16 = .ok (.bipush (-9), 2) := by decide +kernel
theorem dX8_readCalendar_18 : decode cX8_readCalendar 18 = .ok (.if_icmp .ne 5, 3) := by decide +kernel
theorem dX8_readCalendar_21 : decode cX8_readCalendar 21 = .ok (.iconst 0, 1) := by decide +kernel
theorem dX8_readCalendar_22 : decode cX8_readCalendar 22 = .ok (.ireturn, 1) := by decide +kernel
theorem dX8_readCalendar_23 : decode cX8_readCalendar 23 = .ok (.aload_n 0, 1) := by decide +kernel
theorem dX8_readCalendar_24 : decode cX8_readCalendar 24 = .ok (.aload_n 0, 1) := by decide +kernel
theorem dX8_readCalendar_25 : decode cX8_readCalendar 25 = .ok (.iload_n 1, 1) := by decide +kernel
theorem dX8_readCalendar_26 : decode cX8_readCalendar 26 = .ok (.bipush 20, 2) := by decide +kernel
theorem dX8_readCalendar_28 : decode cX8_readCalendar 28 = .ok (.bipush 60, 2) := by decide +kernel
theorem dX8_readCalendar_30 : decode cX8_readCalendar 30 = .ok (.invokevirtual 143, 3) := by decide +kernel
theorem dX8_readCalendar_33 : decode cX8_readCalendar 33 = .ok (.putfield 106, 3) := by decide +kernel
theorem dX8_readCalendar_36 : decode cX8_readCalendar 36 = .ok (.aload_n 0, 1) := by decide +kernel
theorem dX8_readCalendar_37 : decode cX8_readCalendar 37 = .ok (.getfield 106, 3) := by decide +kernel
theorem dX8_readCalendar_40 : decode cX8_readCalendar 40 = .ok (.bipush (-9), 2) := by decide +kernel

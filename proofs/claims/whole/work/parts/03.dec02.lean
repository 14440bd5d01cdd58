theorem dX7_council_30 : decode cX7_council 30 = .ok (.aaload, 1) := by decide +kernel
theorem dX7_council_31 : decode cX7_council 31 = .ok (.astore 5, 2) := by decide +kernel
theorem dX7_council_33 : decode cX7_council 33 = .ok (.aload 5, 2) := by decide +kernel
theorem dX7_council_35 : decode cX7_council 35 = .ok (.iload_n 2, 1) := by decide +kernel
theorem dX7_council_36 : decode cX7_council 36 = .ok (.iload_n 3, 1) := by decide +kernel
theorem dX7_council_37 : decode cX7_council 37 = .ok (.iload 4, 2) := by decide +kernel
theorem dX7_council_39 : decode cX7_council 39 = .ok (.invokevirtual 44, 3) := by decide +kernel
theorem dX7_council_42 : decode cX7_council 42 = .ok (.istore 6, 2) := by decide +kernel
theorem dX7_council_44 : decode cX7_council 44 = .ok (.iload 6, 2) := by decide +kernel
theorem dX7_council_46 : decode cX7_council 46 = .ok (.ifCond .eq 10, 3) := by decide +kernel
theorem dX7_council_49 : decode cX7_council 49 = .ok (.aload_n 0, 1) := by decide +kernel
theorem dX7_council_50 : decode cX7_council 50 = .ok (.iload 6, 2) := by decide +kernel
theorem dX7_council_52 : decode cX7_council 52 = .ok (.invokevirtual 48, 3) := by decide +kernel
theorem dX7_council_55 : decode cX7_council 55 = .ok (.ireturn, 1) := by decide +kernel
theorem dX7_council_56 : decode cX7_council 56 = .ok (.aload 5, 2) := by decide +kernel
theorem dX7_council_58 : decode cX7_council 58 = .ok (.iload_n 3, 1) := by decide +kernel
theorem dX7_council_59 : decode cX7_council 59 = .ok (.iload 4, 2) := by decide +kernel
theorem dX7_council_61 : decode cX7_council 61 = .ok (.invokestatic 52, 3) := by decide +kernel
theorem dX7_council_64 : decode cX7_council 64 = .ok (.istore 7, 2) := by decide +kernel
theorem dX7_council_66 : decode cX7_council 66 = .ok (.iload 7, 2) := by decide +kernel
theorem dX7_council_68 : decode cX7_council 68 = .ok (.bipush (-9), 2) := by decide +kernel
theorem dX7_council_70 : decode cX7_council 70 = .ok (.if_icmp .eq 9, 3) := by decide +kernel
theorem dX7_council_73 : decode cX7_council 73 = .ok (.bipush (-100), 2) := by decide +kernel
theorem dX7_council_75 : decode cX7_council 75 = .ok (.iload 7, 2) := by decide +kernel
theorem dX7_council_77 : decode cX7_council 77 = .ok (.isub, 1) := by decide +kernel
theorem dX7_council_78 : decode cX7_council 78 = .ok (.ireturn, 1) := by decide +kernel
theorem dX7_council_79 : decode cX7_council 79 = .ok (.aload_n 0, 1) := by decide +kernel
theorem dX7_council_80 : decode cX7_council 80 = .ok (.getfield 12, 3) := by decide +kernel
theorem dX7_council_83 : decode cX7_council 83 = .ok (.aload 5, 2) := by decide +kernel
theorem dX7_council_85 : decode cX7_council 85 = .ok (.iload_n 3, 1) := by decide +kernel
theorem dX7_council_86 : decode cX7_council 86 = .ok (.iload 4, 2) := by decide +kernel
theorem dX7_council_88 : decode cX7_council 88 = .ok (.invokevirtual 58, 3) := by decide +kernel
theorem dX7_council_91 : decode cX7_council 91 = .ok (.aload_n 0, 1) := by decide +kernel
theorem dX7_council_92 : decode cX7_council 92 = .ok (.getfield 21, 3) := by decide +kernel
theorem dX7_council_95 : decode cX7_council 95 = .ok (.iconst 0, 1) := by decide +kernel
theorem dX7_council_96 : decode cX7_council 96 = .ok (.putfield 62, 3) := by decide +kernel
theorem dX7_council_99 : decode cX7_council 99 = .ok (.aload_n 0, 1) := by decide +kernel
theorem dX7_council_100 : decode cX7_council 100 = .ok (.getfield 12, 3) := by decide +kernel
theorem dX7_council_103 : decode cX7_council 103 = .ok (.getfield 65, 3) := by decide +kernel
theorem dX7_council_106 : decode cX7_council 106 = .ok (.ireturn, 1) := by decide +kernel
theorem dX7_ofBill_0 : decode cX7_ofBill 0 = .ok (.aload_n 0, 1) := by decide +kernel
theorem dX7_ofBill_1 : decode cX7_ofBill 1 = .ok (.iload_n 1, 1) := by decide +kernel
theorem dX7_ofBill_2 : decode cX7_ofBill 2 = .ok (.invokevirtual 66, 3) := by decide +kernel
theorem dX7_ofBill_5 : decode cX7_ofBill 5 = .ok (.ifCond .eq 5, 3) := by decide +kernel
theorem dX7_ofBill_8 : decode cX7_ofBill 8 = .ok (.iconst (-1), 1) := by decide +kernel
theorem dX7_ofBill_9 : decode cX7_ofBill 9 = .ok (.ireturn, 1) := by decide +kernel
theorem dX7_ofBill_10 : decode cX7_ofBill 10 = .ok (.aload_n 0, 1) := by decide +kernel
theorem dX7_ofBill_11 : decode cX7_ofBill 11 = .ok (.getfield 12, 3) := by decide +kernel
theorem dX7_ofBill_14 : decode cX7_ofBill 14 = .ok (.getfield 69, 3) := by decide +kernel
theorem dX7_ofBill_17 : decode cX7_ofBill 17 = .ok (.iload_n 1, 1) := by decide +kernel
theorem dX7_ofBill_18 : decode cX7_ofBill 18 = .ok (.aaload, 1) := by decide +kernel
theorem dX7_ofBill_19 : decode cX7_ofBill 19 = .ok (.astore_n 3, 1) := by decide +kernel
theorem dX7_ofBill_20 : decode cX7_ofBill 20 = .ok (.iload_n 2, 1) := by decide +kernel
theorem dX7_ofBill_21 : decode cX7_ofBill 21 = .ok (.tableswitch 60 0 4 #[35, 40, 45, 50, 55], 35) := by decide +kernel
theorem dX7_ofBill_56 : decode cX7_ofBill 56 = .ok (.aload_n 3, 1) := by decide +kernel
theorem dX7_ofBill_57 : decode cX7_ofBill 57 = .ok (.getfield 73, 3) := by decide +kernel
theorem dX7_ofBill_60 : decode cX7_ofBill 60 = .ok (.ireturn, 1) := by decide +kernel
theorem dX7_ofBill_61 : decode cX7_ofBill 61 = .ok (.aload_n 3, 1) := by decide +kernel
theorem dX7_ofBill_62 : decode cX7_ofBill 62 = .ok (.getfield 78, 3) := by decide +kernel
theorem dX7_ofBill_65 : decode cX7_ofBill 65 = .ok (.ireturn, 1) := by decide +kernel
theorem dX7_ofBill_66 : decode cX7_ofBill 66 = .ok (.aload_n 3, 1) := by decide +kernel
theorem dX7_ofBill_67 : decode cX7_ofBill 67 = .ok (.getfield 81, 3) := by decide +kernel
theorem dX7_ofBill_70 : decode cX7_ofBill 70 = .ok (.ireturn, 1) := by decide +kernel
theorem dX7_ofBill_71 : decode cX7_ofBill 71 = .ok (.aload_n 3, 1) := by decide +kernel
theorem dX7_ofBill_72 : decode cX7_ofBill 72 = .ok (.getfield 84, 3) := by decide +kernel
theorem dX7_ofBill_75 : decode cX7_ofBill 75 = .ok (.ireturn, 1) := by decide +kernel
theorem dX7_ofBill_76 : decode cX7_ofBill 76 = .ok (.aload_n 3, 1) := by decide +kernel
theorem dX7_ofBill_77 : decode cX7_ofBill 77 = .ok (.getfield 87, 3) := by decide +kernel
theorem dX7_ofBill_80 : decode cX7_ofBill 80 = .ok (.ireturn, 1) := by decide +kernel
theorem dX7_ofBill_81 : decode cX7_ofBill 81 = .ok (.bipush (-2), 2) := by decide +kernel
theorem dX7_ofBill_83 : decode cX7_ofBill 83 = .ok (.ireturn, 1) := by decide +kernel
theorem dX7_moon_0 : decode cX7_moon 0 = .ok (.iload_n 1, 1) := by decide +kernel
theorem dX7_moon_1 : decode cX7_moon 1 = .ok (.bipush 99, 2) := by decide +kernel
theorem dX7_moon_3 : decode cX7_moon 3 = .ok (.invokestatic 40, 3) := by decide +kernel
theorem dX7_moon_6 : decode cX7_moon 6 = .ok (.ifCond .ne 6, 3) := by decide +kernel
theorem dX7_moon_9 : decode cX7_moon 9 = .ok (.bipush (-2), 2) := by decide +kernel
theorem dX7_moon_11 : decode cX7_moon 11 = .ok (.ireturn, 1) := by decide +kernel
theorem dX7_moon_12 : decode cX7_moon 12 = .ok (.aload_n 0, 1) := by decide +kernel
theorem dX7_moon_13 : decode cX7_moon 13 = .ok (.invokevirtual 90, 3) := by decide +kernel
theorem dX7_moon_16 : decode cX7_moon 16 = .ok (.ifCond .eq 6, 3) := by decide +kernel
theorem dX7_moon_19 : decode cX7_moon 19 = .ok (.bipush (-3), 2) := by decide +kernel
theorem dX7_moon_21 : decode cX7_moon 21 = .ok (.ireturn, 1) := by decide +kernel
theorem dX7_moon_22 : decode cX7_moon 22 = .ok (.aload_n 0, 1) := by decide +kernel
theorem dX7_moon_23 : decode cX7_moon 23 = .ok (.getfield 12, 3) := by decide +kernel
theorem dX7_moon_26 : decode cX7_moon 26 = .ok (.getfield 94, 3) := by decide +kernel
theorem dX7_moon_29 : decode cX7_moon 29 = .ok (.iload_n 1, 1) := by decide +kernel
theorem dX7_moon_30 : decode cX7_moon 30 = .ok (.invokevirtual 98, 3) := by decide +kernel
theorem dX7_moon_33 : decode cX7_moon 33 = .ok (.ireturn, 1) := by decide +kernel
theorem dX7_span_0 : decode cX7_span 0 = .ok (.iload_n 1, 1) := by decide +kernel
theorem dX7_span_1 : decode cX7_span 1 = .ok (.bipush 9, 2) := by decide +kernel
theorem dX7_span_3 : decode cX7_span 3 = .ok (.invokestatic 40, 3) := by decide +kernel
theorem dX7_span_6 : decode cX7_span 6 = .ok (.ifCond .ne 6, 3) := by decide +kernel
theorem dX7_span_9 : decode cX7_span 9 = .ok (.bipush (-2), 2) := by decide +kernel
theorem dX7_span_11 : decode cX7_span 11 = .ok (.ireturn, 1) := by decide +kernel
theorem dX7_span_12 : decode cX7_span 12 = .ok (.aload_n 0, 1) := by decide +kernel
theorem dX7_span_13 : decode cX7_span 13 = .ok (.invokevirtual 90, 3) := by decide +kernel
theorem dX7_span_16 : decode cX7_span 16 = .ok (.ifCond .eq 6, 3) := by decide +kernel
theorem dX7_span_19 : decode cX7_span 19 = .ok (.bipush (-3), 2) := by decide +kernel
theorem dX7_span_21 : decode cX7_span 21 = .ok (.ireturn, 1) := by decide +kernel
theorem dX7_span_22 : decode cX7_span 22 = .ok (.aload_n 0, 1) := by decide +kernel
theorem dX7_span_23 : decode cX7_span 23 = .ok (.getfield 12, 3) := by decide +kernel
theorem dX7_span_26 : decode cX7_span 26 = .ok (.getfield 103, 3) := by decide +kernel
theorem dX7_span_29 : decode cX7_span 29 = .ok (.istore_n 2, 1) := by decide +kernel
theorem dX7_span_30 : decode cX7_span 30 = .ok (.aload_n 0, 1) := by decide +kernel
theorem dX7_span_31 : decode cX7_span 31 = .ok (.getfield 12, 3) := by decide +kernel
theorem dX7_span_34 : decode cX7_span 34 = .ok (.iload_n 1, 1) := by decide +kernel
theorem dX7_span_35 : decode cX7_span 35 = .ok (.putfield 103, 3) := by decide +kernel
theorem dX7_span_38 : decode cX7_span 38 = .ok (.iload_n 2, 1) := by decide +kernel
theorem dX7_span_39 : decode cX7_span 39 = .ok (.ireturn, 1) := by decide +kernel
theorem dX7_move_0 : decode cX7_move 0 = .ok (.aload_n 0, 1) := by decide +kernel
theorem dX7_move_1 : decode cX7_move 1 = .ok (.iload_n 1, 1) := by decide +kernel
theorem dX7_move_2 : decode cX7_move 2 = .ok (.invokevirtual 66, 3) := by decide +kernel
theorem dX7_move_5 : decode cX7_move 5 = .ok (.ifCond .eq 5, 3) := by decide +kernel
theorem dX7_move_8 : decode cX7_move 8 = .ok (.iconst (-1), 1) := by decide +kernel
theorem dX7_move_9 : decode cX7_move 9 = .ok (.ireturn, 1) := by decide +kernel
theorem dX7_move_10 : decode cX7_move 10 = .ok (.iload_n 2, 1) := by decide +kernel
theorem dX7_move_11 : decode cX7_move 11 = .ok (.bipush 99, 2) := by decide +kernel
theorem dX7_move_13 : decode cX7_move 13 = .ok (.invokestatic 40, 3) := by decide +kernel
theorem dX7_move_16 : decode cX7_move 16 = .ok (.ifCond .ne 6, 3) := by decide +kernel
theorem dX7_move_19 : decode cX7_move 19 = .ok (.bipush (-2), 2) := by decide +kernel
theorem dX7_move_21 : decode cX7_move 21 = .ok (.ireturn, 1) := by decide +kernel
theorem dX7_move_22 : decode cX7_move 22 = .ok (.aload_n 0, 1) := by decide +kernel
theorem dX7_move_23 : decode cX7_move 23 = .ok (.getfield 12, 3) := by decide +kernel
theorem dX7_move_26 : decode cX7_move 26 = .ok (.getfield 69, 3) := by decide +kernel
theorem dX7_move_29 : decode cX7_move 29 = .ok (.iload_n 1, 1) := by decide +kernel
theorem dX7_move_30 : decode cX7_move 30 = .ok (.aaload, 1) := by decide +kernel
theorem dX7_move_31 : decode cX7_move 31 = .ok (.getfield 78, 3) := by decide +kernel
theorem dX7_move_34 : decode cX7_move 34 = .ok (.istore_n 3, 1) := by decide +kernel
theorem dX7_move_35 : decode cX7_move 35 = .ok (.aload_n 0, 1) := by decide +kernel
theorem dX7_move_36 : decode cX7_move 36 = .ok (.getfield 12, 3) := by decide +kernel
theorem dX7_move_39 : decode cX7_move 39 = .ok (.getfield 69, 3) := by decide +kernel
theorem dX7_move_42 : decode cX7_move 42 = .ok (.iload_n 1, 1) := by decide +kernel
theorem dX7_move_43 : decode cX7_move 43 = .ok (.aaload, 1) := by decide +kernel
theorem dX7_move_44 : decode cX7_move 44 = .ok (.iload_n 2, 1) := by decide +kernel
theorem dX7_move_45 : decode cX7_move 45 = .ok (.putfield 78, 3) := by decide +kernel
theorem dX7_move_48 : decode cX7_move 48 = .ok (.iload_n 3, 1) := by decide +kernel
theorem dX7_move_49 : decode cX7_move 49 = .ok (.ireturn, 1) := by decide +kernel
theorem dX7_cloud_0 : decode cX7_cloud 0 = .ok (.iload_n 1, 1) := by decide +kernel
theorem dX7_cloud_1 : decode cX7_cloud 1 = .ok (.bipush 109, 2) := by decide +kernel
theorem dX7_cloud_3 : decode cX7_cloud 3 = .ok (.invokestatic 40, 3) := by decide +kernel
theorem dX7_cloud_6 : decode cX7_cloud 6 = .ok (.ifCond .ne 6, 3) := by decide +kernel
theorem dX7_cloud_9 : decode cX7_cloud 9 = .ok (.bipush (-2), 2) := by decide +kernel
theorem dX7_cloud_11 : decode cX7_cloud 11 = .ok (.ireturn, 1) := by decide +kernel
theorem dX7_cloud_12 : decode cX7_cloud 12 = .ok (.aload_n 0, 1) := by decide +kernel
theorem dX7_cloud_13 : decode cX7_cloud 13 = .ok (.invokevirtual 90, 3) := by decide +kernel
theorem dX7_cloud_16 : decode cX7_cloud 16 = .ok (.ifCond .eq 6, 3) := by decide +kernel
theorem dX7_cloud_19 : decode cX7_cloud 19 = .ok (.bipush (-3), 2) := by decide +kernel
theorem dX7_cloud_21 : decode cX7_cloud 21 = .ok (.ireturn, 1) := by decide +kernel
theorem dX7_cloud_22 : decode cX7_cloud 22 = .ok (.aload_n 0, 1) := by decide +kernel
theorem dX7_cloud_23 : decode cX7_cloud 23 = .ok (.getfield 12, 3) := by decide +kernel
theorem dX7_cloud_26 : decode cX7_cloud 26 = .ok (.getfield 94, 3) := by decide +kernel
theorem dX7_cloud_29 : decode cX7_cloud 29 = .ok (.iload_n 1, 1) := by decide +kernel
theorem dX7_cloud_30 : decode cX7_cloud 30 = .ok (.iload_n 2, 1) := by decide +kernel
theorem dX7_cloud_31 : decode cX7_cloud 31 = .ok (.invokevirtual 106, 3) := by decide +kernel
theorem dX7_cloud_34 : decode cX7_cloud 34 = .ok (.ifCond .eq 7, 3) := by decide +kernel
theorem dX7_cloud_37 : decode cX7_cloud 37 = .ok (.iconst 1, 1) := by decide +kernel
theorem dX7_cloud_38 : decode cX7_cloud 38 = .ok (.goto 4, 3) := by decide +kernel
theorem dX7_cloud_41 : decode cX7_cloud 41 = .ok (.iconst 0, 1) := by decide +kernel
theorem dX7_cloud_42 : decode cX7_cloud 42 = .ok (.ireturn, 1) := by decide +kernel
theorem dX7_struck_0 : decode cX7_struck 0 = .ok (.aload_n 0, 1) := by decide +kernel
theorem dX7_struck_1 : decode cX7_struck 1 = .ok (.iload_n 1, 1) := by decide +kernel
theorem dX7_struck_2 : decode cX7_struck 2 = .ok (.invokevirtual 66, 3) := by decide +kernel
theorem dX7_struck_5 : decode cX7_struck 5 = .ok (.ifCond .eq 5, 3) := by decide +kernel
theorem dX7_struck_8 : decode cX7_struck 8 = .ok (.iconst (-1), 1) := by decide +kernel
theorem dX7_struck_9 : decode cX7_struck 9 = .ok (.ireturn, 1) := by decide +kernel
theorem dX7_struck_10 : decode cX7_struck 10 = .ok (.aload_n 0, 1) := by decide +kernel
theorem dX7_struck_11 : decode cX7_struck 11 = .ok (.getfield 12, 3) := by decide +kernel
theorem dX7_struck_14 : decode cX7_struck 14 = .ok (.invokevirtual 110, 3) := by decide +kernel
theorem dX7_struck_17 : decode cX7_struck 17 = .ok (.aload_n 0, 1) := by decide +kernel
theorem dX7_struck_18 : decode cX7_struck 18 = .ok (.getfield 12, 3) := by decide +kernel
theorem dX7_struck_21 : decode cX7_struck 21 = .ok (.getfield 69, 3) := by decide +kernel
theorem dX7_struck_24 : decode cX7_struck 24 = .ok (.iload_n 1, 1) := by decide +kernel
theorem dX7_struck_25 : decode cX7_struck 25 = .ok (.aaload, 1) := by decide +kernel
theorem dX7_struck_26 : decode cX7_struck 26 = .ok (.getfield 113, 3) := by decide +kernel
theorem dX7_struck_29 : decode cX7_struck 29 = .ok (.aload_n 0, 1) := by decide +kernel
theorem dX7_struck_30 : decode cX7_struck 30 = .ok (.getfield 12, 3) := by decide +kernel
theorem dX7_struck_33 : decode cX7_struck 33 = .ok (.getfield 94, 3) := by decide +kernel
theorem dX7_struck_36 : decode cX7_struck 36 = .ok (.invokevirtual 116, 3) := by decide +kernel
theorem dX7_struck_39 : decode cX7_struck 39 = .ok (.iconst (-1), 1) := by decide +kernel
theorem dX7_struck_40 : decode cX7_struck 40 = .ok (.ixor, 1) := by decide +kernel
theorem dX7_struck_41 : decode cX7_struck 41 = .ok (.iand, 1) := by decide +kernel
theorem dX7_struck_42 : decode cX7_struck 42 = .ok (.istore_n 2, 1) := by decide +kernel
theorem dX7_struck_43 : decode cX7_struck 43 = .ok (.iload_n 2, 1) := by decide +kernel
theorem dX7_struck_44 : decode cX7_struck 44 = .ok (.ifCond .ne 8, 3) := by decide +kernel
theorem dX7_struck_47 : decode cX7_struck 47 = .ok (.bipush (-9), 2) := by decide +kernel
theorem dX7_struck_49 : decode cX7_struck 49 = .ok (.goto 17, 3) := by decide +kernel
theorem dX7_struck_52 : decode cX7_struck 52 = .ok (.aload_n 0, 1) := by decide +kernel
theorem dX7_struck_53 : decode cX7_struck 53 = .ok (.getfield 12, 3) := by decide +kernel
theorem dX7_struck_56 : decode cX7_struck 56 = .ok (.getfield 94, 3) := by decide +kernel
theorem dX7_struck_59 : decode cX7_struck 59 = .ok (.iload_n 2, 1) := by decide +kernel
theorem dX7_struck_60 : decode cX7_struck 60 = .ok (.invokestatic 120, 3) := by decide +kernel
theorem dX7_struck_63 : decode cX7_struck 63 = .ok (.invokevirtual 98, 3) := by decide +kernel
theorem dX7_struck_66 : decode cX7_struck 66 = .ok (.ireturn, 1) := by decide +kernel
theorem dX7_passing_0 : decode cX7_passing 0 = .ok (.aload_n 0, 1) := by decide +kernel
theorem dX7_passing_1 : decode cX7_passing 1 = .ok (.invokevirtual 90, 3) := by decide +kernel
theorem dX7_passing_4 : decode cX7_passing 4 = .ok (.ifCond .eq 6, 3) := by decide +kernel
theorem dX7_passing_7 : decode cX7_passing 7 = .ok (.bipush (-3), 2) := by decide +kernel
theorem dX7_passing_9 : decode cX7_passing 9 = .ok (.ireturn, 1) := by decide +kernel
theorem dX7_passing_10 : decode cX7_passing 10 = .ok (.aload_n 0, 1) := by decide +kernel
theorem dX7_passing_11 : decode cX7_passing 11 = .ok (.getfield 12, 3) := by decide +kernel
theorem dX7_passing_14 : decode cX7_passing 14 = .ok (.invokevirtual 110, 3) := by decide +kernel
theorem dX7_passing_17 : decode cX7_passing 17 = .ok (.aload_n 0, 1) := by decide +kernel
theorem dX7_passing_18 : decode cX7_passing 18 = .ok (.getfield 12, 3) := by decide +kernel
theorem dX7_passing_21 : decode cX7_passing 21 = .ok (.getfield 125, 3) := by decide +kernel
theorem dX7_passing_24 : decode cX7_passing 24 = .ok (.ireturn, 1) := by decide +kernel
theorem dX7_force_0 : decode cX7_force 0 = .ok (.iload_n 1, 1) := by decide +kernel
theorem dX7_force_1 : decode cX7_force 1 = .ok (.bipush 109, 2) := by decide +kernel
theorem dX7_force_3 : decode cX7_force 3 = .ok (.invokestatic 40, 3) := by decide +kernel
theorem dX7_force_6 : decode cX7_force 6 = .ok (.ifCond .ne 6, 3) := by decide +kernel
theorem dX7_force_9 : decode cX7_force 9 = .ok (.bipush (-2), 2) := by decide +kernel
theorem dX7_force_11 : decode cX7_force 11 = .ok (.ireturn, 1) := by decide +kernel
theorem dX7_force_12 : decode cX7_force 12 = .ok (.aload_n 0, 1) := by decide +kernel
theorem dX7_force_13 : decode cX7_force 13 = .ok (.invokevirtual 90, 3) := by decide +kernel
theorem dX7_force_16 : decode cX7_force 16 = .ok (.ifCond .eq 6, 3) := by decide +kernel
theorem dX7_force_19 : decode cX7_force 19 = .ok (.bipush (-3), 2) := by decide +kernel
theorem dX7_force_21 : decode cX7_force 21 = .ok (.ireturn, 1) := by decide +kernel
theorem dX7_force_22 : decode cX7_force 22 = .ok (.aload_n 0, 1) := by decide +kernel
theorem dX7_force_23 : decode cX7_force 23 = .ok (.getfield 12, 3) := by decide +kernel
theorem dX7_force_26 : decode cX7_force 26 = .ok (.invokevirtual 110, 3) := by decide +kernel
theorem dX7_force_29 : decode cX7_force 29 = .ok (.aload_n 0, 1) := by decide +kernel
theorem dX7_force_30 : decode cX7_force 30 = .ok (.getfield 12, 3) := by decide +kernel
theorem dX7_force_33 : decode cX7_force 33 = .ok (.iload_n 1, 1) := by decide +kernel
theorem dX7_force_34 : decode cX7_force 34 = .ok (.invokevirtual 128, 3) := by decide +kernel
theorem dX7_force_37 : decode cX7_force 37 = .ok (.ireturn, 1) := by decide +kernel
theorem dX7_holds_0 : decode cX7_holds 0 = .ok (.aload_n 0, 1) := by decide +kernel
theorem dX7_holds_1 : decode cX7_holds 1 = .ok (.iload_n 1, 1) := by decide +kernel
theorem dX7_holds_2 : decode cX7_holds 2 = .ok (.invokevirtual 66, 3) := by decide +kernel
theorem dX7_holds_5 : decode cX7_holds 5 = .ok (.ifCond .eq 5, 3) := by decide +kernel
theorem dX7_holds_8 : decode cX7_holds 8 = .ok (.iconst (-1), 1) := by decide +kernel
theorem dX7_holds_9 : decode cX7_holds 9 = .ok (.ireturn, 1) := by decide +kernel
theorem dX7_holds_10 : decode cX7_holds 10 = .ok (.aload_n 0, 1) := by decide +kernel
theorem dX7_holds_11 : decode cX7_holds 11 = .ok (.getfield 12, 3) := by decide +kernel
theorem dX7_holds_14 : decode cX7_holds 14 = .ok (.invokevirtual 110, 3) := by decide +kernel
theorem dX7_holds_17 : decode cX7_holds 17 = .ok (.aload_n 0, 1) := by decide +kernel
theorem dX7_holds_18 : decode cX7_holds 18 = .ok (.getfield 12, 3) := by decide +kernel
theorem dX7_holds_21 : decode cX7_holds 21 = .ok (.iload_n 1, 1) := by decide +kernel
theorem dX7_holds_22 : decode cX7_holds 22 = .ok (.invokevirtual 131, 3) := by decide +kernel
theorem dX7_holds_25 : decode cX7_holds 25 = .ok (.ireturn, 1) := by decide +kernel
theorem dX7_chronicle_0 : decode cX7_chronicle 0 = .ok (.aload_n 0, 1) := by decide +kernel
theorem dX7_chronicle_1 : decode cX7_chronicle 1 = .ok (.iconst 0, 1) := by decide +kernel
theorem dX7_chronicle_2 : decode cX7_chronicle 2 = .ok (.putfield 32, 3) := by decide +kernel
theorem dX7_chronicle_5 : decode cX7_chronicle 5 = .ok (.iload_n 1, 1) := by decide +kernel
theorem dX7_chronicle_6 : decode cX7_chronicle 6 = .ok (.invokestatic 36, 3) := by decide +kernel
theorem dX7_chronicle_9 : decode cX7_chronicle 9 = .ok (.ifCond .eq 5, 3) := by decide +kernel
theorem dX7_chronicle_12 : decode cX7_chronicle 12 = .ok (.iconst (-1), 1) := by decide +kernel
theorem dX7_chronicle_13 : decode cX7_chronicle 13 = .ok (.ireturn, 1) := by decide +kernel
theorem dX7_chronicle_14 : decode cX7_chronicle 14 = .ok (.iload_n 2, 1) := by decide +kernel
theorem dX7_chronicle_15 : decode cX7_chronicle 15 = .ok (.iconst 2, 1) := by decide +kernel
theorem dX7_chronicle_16 : decode cX7_chronicle 16 = .ok (.invokestatic 40, 3) := by decide +kernel
theorem dX7_chronicle_19 : decode cX7_chronicle 19 = .ok (.ifCond .ne 6, 3) := by decide +kernel
theorem dX7_chronicle_22 : decode cX7_chronicle 22 = .ok (.bipush (-2), 2) := by decide +kernel
theorem dX7_chronicle_24 : decode cX7_chronicle 24 = .ok (.ireturn, 1) := by decide +kernel
theorem dX7_chronicle_25 : decode cX7_chronicle 25 = .ok (.aload_n 0, 1) := by decide +kernel
theorem dX7_chronicle_26 : decode cX7_chronicle 26 = .ok (.getfield 27, 3) := by decide +kernel
theorem dX7_chronicle_29 : decode cX7_chronicle 29 = .ok (.iload_n 1, 1) := by decide +kernel
theorem dX7_chronicle_30 : decode cX7_chronicle 30 = .ok (.aaload, 1) := by decide +kernel
theorem dX7_chronicle_31 : decode cX7_chronicle 31 = .ok (.astore 5, 2) := by decide +kernel
theorem dX7_chronicle_33 : decode cX7_chronicle 33 = .ok (.aload 5, 2) := by decide +kernel
theorem dX7_chronicle_35 : decode cX7_chronicle 35 = .ok (.iload_n 2, 1) := by decide +kernel
theorem dX7_chronicle_36 : decode cX7_chronicle 36 = .ok (.iload_n 3, 1) := by decide +kernel
theorem dX7_chronicle_37 : decode cX7_chronicle 37 = .ok (.iload 4, 2) := by decide +kernel
theorem dX7_chronicle_39 : decode cX7_chronicle 39 = .ok (.invokevirtual 44, 3) := by decide +kernel
theorem dX7_chronicle_42 : decode cX7_chronicle 42 = .ok (.istore 6, 2) := by decide +kernel
theorem dX7_chronicle_44 : decode cX7_chronicle 44 = .ok (.iload 6, 2) := by decide +kernel
theorem dX7_chronicle_46 : decode cX7_chronicle 46 = .ok (.ifCond .eq 10, 3) := by decide +kernel
theorem dX7_chronicle_49 : decode cX7_chronicle 49 = .ok (.aload_n 0, 1) := by decide +kernel
theorem dX7_chronicle_50 : decode cX7_chronicle 50 = .ok (.iload 6, 2) := by decide +kernel
theorem dX7_chronicle_52 : decode cX7_chronicle 52 = .ok (.invokevirtual 48, 3) := by decide +kernel
theorem dX7_chronicle_55 : decode cX7_chronicle 55 = .ok (.ireturn, 1) := by decide +kernel
theorem dX7_chronicle_56 : decode cX7_chronicle 56 = .ok (.aload_n 0, 1) := by decide +kernel
theorem dX7_chronicle_57 : decode cX7_chronicle 57 = .ok (.invokevirtual 90, 3) := by decide +kernel
theorem dX7_chronicle_60 : decode cX7_chronicle 60 = .ok (.ifCond .eq 6, 3) := by decide +kernel
theorem dX7_chronicle_63 : decode cX7_chronicle 63 = .ok (.bipush (-3), 2) := by decide +kernel
theorem dX7_chronicle_65 : decode cX7_chronicle 65 = .ok (.ireturn, 1) := by decide +kernel
theorem dX7_chronicle_66 : decode cX7_chronicle 66 = .ok (.aload_n 0, 1) := by decide +kernel
theorem dX7_chronicle_67 : decode cX7_chronicle 67 = .ok (.getfield 12, 3) := by decide +kernel
theorem dX7_chronicle_70 : decode cX7_chronicle 70 = .ok (.invokevirtual 110, 3) := by decide +kernel
theorem dX7_chronicle_73 : decode cX7_chronicle 73 = .ok (.iconst 0, 1) := by decide +kernel
theorem dX7_chronicle_74 : decode cX7_chronicle 74 = .ok (.istore 7, 2) := by decide +kernel
theorem dX7_chronicle_76 : decode cX7_chronicle 76 = .ok (.iload 7, 2) := by decide +kernel
theorem dX7_chronicle_78 : decode cX7_chronicle 78 = .ok (.iload 4, 2) := by decide +kernel
theorem dX7_chronicle_80 : decode cX7_chronicle 80 = .ok (.if_icmp .ge 34, 3) := by decide +kernel
theorem dX7_chronicle_83 : decode cX7_chronicle 83 = .ok (.aload 5, 2) := by decide +kernel
theorem dX7_chronicle_85 : decode cX7_chronicle 85 = .ok (.getfield 134, 3) := by decide +kernel
theorem dX7_chronicle_88 : decode cX7_chronicle 88 = .ok (.iload_n 3, 1) := by decide +kernel
theorem dX7_chronicle_89 : decode cX7_chronicle 89 = .ok (.iload 7, 2) := by decide +kernel
theorem dX7_chronicle_91 : decode cX7_chronicle 91 = .ok (.iadd, 1) := by decide +kernel
theorem dX7_chronicle_92 : decode cX7_chronicle 92 = .ok (.iaload, 1) := by decide +kernel
theorem dX7_chronicle_93 : decode cX7_chronicle 93 = .ok (.aload_n 0, 1) := by decide +kernel
theorem dX7_chronicle_94 : decode cX7_chronicle 94 = .ok (.getfield 12, 3) := by decide +kernel
theorem dX7_chronicle_97 : decode cX7_chronicle 97 = .ok (.iload 7, 2) := by decide +kernel
theorem dX7_chronicle_99 : decode cX7_chronicle 99 = .ok (.invokevirtual 128, 3) := by decide +kernel
theorem dX7_chronicle_102 : decode cX7_chronicle 102 = .ok (.if_icmp .eq 6, 3) := by decide +kernel
theorem dX7_chronicle_105 : decode cX7_chronicle 105 = .ok (.iload 7, 2) := by decide +kernel
theorem dX7_chronicle_107 : decode cX7_chronicle 107 = .ok (.ireturn, 1) := by decide +kernel
theorem dX7_chronicle_108 : decode cX7_chronicle 108 = .ok (.iinc 7 1, 3) := by decide +kernel
theorem dX7_chronicle_111 : decode cX7_chronicle 111 = .ok (.goto (-35), 3) := by decide +kernel
theorem dX7_chronicle_114 : decode cX7_chronicle 114 = .ok (.bipush (-9), 2) := by decide +kernel
theorem dX7_chronicle_116 : decode cX7_chronicle 116 = .ok (.ireturn, 1) := by decide +kernel
theorem dX7_buy_0 : decode cX7_buy 0 = .ok (.aload_n 0, 1) := by decide +kernel
theorem dX7_buy_1 : decode cX7_buy 1 = .ok (.iload_n 1, 1) := by decide +kernel
theorem dX7_buy_2 : decode cX7_buy 2 = .ok (.invokevirtual 66, 3) := by decide +kernel
theorem dX7_buy_5 : decode cX7_buy 5 = .ok (.ifCond .eq 5, 3) := by decide +kernel
theorem dX7_buy_8 : decode cX7_buy 8 = .ok (.iconst (-1), 1) := by decide +kernel
theorem dX7_buy_9 : decode cX7_buy 9 = .ok (.ireturn, 1) := by decide +kernel
theorem dX7_buy_10 : decode cX7_buy 10 = .ok (.iload_n 2, 1) := by decide +kernel
theorem dX7_buy_11 : decode cX7_buy 11 = .ok (.bipush 109, 2) := by decide +kernel
theorem dX7_buy_13 : decode cX7_buy 13 = .ok (.invokestatic 40, 3) := by decide +kernel
theorem dX7_buy_16 : decode cX7_buy 16 = .ok (.ifCond .ne 6, 3) := by decide +kernel
theorem dX7_buy_19 : decode cX7_buy 19 = .ok (.bipush (-2), 2) := by decide +kernel
theorem dX7_buy_21 : decode cX7_buy 21 = .ok (.ireturn, 1) := by decide +kernel
theorem dX7_buy_22 : decode cX7_buy 22 = .ok (.aload_n 0, 1) := by decide +kernel
theorem dX7_buy_23 : decode cX7_buy 23 = .ok (.getfield 12, 3) := by decide +kernel
theorem dX7_buy_26 : decode cX7_buy 26 = .ok (.iload_n 1, 1) := by decide +kernel
theorem dX7_buy_27 : decode cX7_buy 27 = .ok (.iload_n 2, 1) := by decide +kernel
theorem dX7_buy_28 : decode cX7_buy 28 = .ok (.invokestatic 138, 3) := by decide +kernel
theorem dX7_buy_31 : decode cX7_buy 31 = .ok (.ireturn, 1) := by decide +kernel
theorem dX7_when_0 : decode cX7_when 0 = .ok (.aload_n 0, 1) := by decide +kernel
theorem dX7_when_1 : decode cX7_when 1 = .ok (.iload_n 1, 1) := by decide +kernel
theorem dX7_when_2 : decode cX7_when 2 = .ok (.invokevirtual 66, 3) := by decide +kernel
theorem dX7_when_5 : decode cX7_when 5 = .ok (.ifCond .eq 5, 3) := by decide +kernel
theorem dX7_when_8 : decode cX7_when 8 = .ok (.iconst (-1), 1) := by decide +kernel
theorem dX7_when_9 : decode cX7_when 9 = .ok (.ireturn, 1) := by decide +kernel
theorem dX7_when_10 : decode cX7_when 10 = .ok (.iload_n 2, 1) := by decide +kernel
theorem dX7_when_11 : decode cX7_when 11 = .ok (.bipush 109, 2) := by decide +kernel
theorem dX7_when_13 : decode cX7_when 13 = .ok (.invokestatic 40, 3) := by decide +kernel
theorem dX7_when_16 : decode cX7_when 16 = .ok (.ifCond .ne 6, 3) := by decide +kernel
theorem dX7_when_19 : decode cX7_when 19 = .ok (.bipush (-2), 2) := by decide +kernel
theorem dX7_when_21 : decode cX7_when 21 = .ok (.ireturn, 1) := by decide +kernel
theorem dX7_when_22 : decode cX7_when 22 = .ok (.aload_n 0, 1) := by decide +kernel
theorem dX7_when_23 : decode cX7_when 23 = .ok (.getfield 12, 3) := by decide +kernel
theorem dX7_when_26 : decode cX7_when 26 = .ok (.iload_n 1, 1) := by decide +kernel
theorem dX7_when_27 : decode cX7_when 27 = .ok (.iload_n 2, 1) := by decide +kernel
theorem dX7_when_28 : decode cX7_when 28 = .ok (.invokestatic 144, 3) := by decide +kernel
theorem dX7_when_31 : decode cX7_when 31 = .ok (.ireturn, 1) := by decide +kernel
theorem dX7_longest_0 : decode cX7_longest 0 = .ok (.aload_n 0, 1) := by decide +kernel
theorem dX7_longest_1 : decode cX7_longest 1 = .ok (.iload_n 1, 1) := by decide +kernel
theorem dX7_longest_2 : decode cX7_longest 2 = .ok (.invokevirtual 66, 3) := by decide +kernel
theorem dX7_longest_5 : decode cX7_longest 5 = .ok (.ifCond .eq 5, 3) := by decide +kernel
theorem dX7_longest_8 : decode cX7_longest 8 = .ok (.iconst (-1), 1) := by decide +kernel
theorem dX7_longest_9 : decode cX7_longest 9 = .ok (.ireturn, 1) := by decide +kernel
theorem dX7_longest_10 : decode cX7_longest 10 = .ok (.iload_n 2, 1) := by decide +kernel
theorem dX7_longest_11 : decode cX7_longest 11 = .ok (.iconst 1, 1) := by decide +kernel
theorem dX7_longest_12 : decode cX7_longest 12 = .ok (.invokestatic 40, 3) := by decide +kernel
theorem dX7_longest_15 : decode cX7_longest 15 = .ok (.ifCond .ne 6, 3) := by decide +kernel
theorem dX7_longest_18 : decode cX7_longest 18 = .ok (.bipush (-2), 2) := by decide +kernel
theorem dX7_longest_20 : decode cX7_longest 20 = .ok (.ireturn, 1) := by decide +kernel
theorem dX7_longest_21 : decode cX7_longest 21 = .ok (.aload_n 0, 1) := by decide +kernel
theorem dX7_longest_22 : decode cX7_longest 22 = .ok (.getfield 12, 3) := by decide +kernel
theorem dX7_longest_25 : decode cX7_longest 25 = .ok (.iload_n 1, 1) := by decide +kernel
theorem dX7_longest_26 : decode cX7_longest 26 = .ok (.iload_n 2, 1) := by decide +kernel
theorem dX7_longest_27 : decode cX7_longest 27 = .ok (.iconst 1, 1) := by decide +kernel
theorem dX7_longest_28 : decode cX7_longest 28 = .ok (.if_icmp .ne 7, 3) := by decide +kernel
theorem dX7_longest_31 : decode cX7_longest 31 = .ok (.iconst 1, 1) := by decide +kernel
theorem dX7_longest_32 : decode cX7_longest 32 = .ok (.goto 4, 3) := by decide +kernel
theorem dX7_longest_35 : decode cX7_longest 35 = .ok (.iconst 0, 1) := by decide +kernel
theorem dX7_longest_36 : decode cX7_longest 36 = .ok (.invokestatic 147, 3) := by decide +kernel
theorem dX7_longest_39 : decode cX7_longest 39 = .ok (.ireturn, 1) := by decide +kernel
theorem dX7_worth_0 : decode cX7_worth 0 = .ok (.aload_n 0, 1) := by decide +kernel
theorem dX7_worth_1 : decode cX7_worth 1 = .ok (.iload_n 1, 1) := by decide +kernel
theorem dX7_worth_2 : decode cX7_worth 2 = .ok (.invokevirtual 66, 3) := by decide +kernel
theorem dX7_worth_5 : decode cX7_worth 5 = .ok (.ifCond .eq 5, 3) := by decide +kernel
theorem dX7_worth_8 : decode cX7_worth 8 = .ok (.iconst (-1), 1) := by decide +kernel
theorem dX7_worth_9 : decode cX7_worth 9 = .ok (.ireturn, 1) := by decide +kernel
theorem dX7_worth_10 : decode cX7_worth 10 = .ok (.aload_n 0, 1) := by decide +kernel
theorem dX7_worth_11 : decode cX7_worth 11 = .ok (.getfield 12, 3) := by decide +kernel
theorem dX7_worth_14 : decode cX7_worth 14 = .ok (.iload_n 1, 1) := by decide +kernel
theorem dX7_worth_15 : decode cX7_worth 15 = .ok (.invokestatic 151, 3) := by decide +kernel
theorem dX7_worth_18 : decode cX7_worth 18 = .ok (.sipush 1000, 3) := by decide +kernel
theorem dX7_worth_21 : decode cX7_worth 21 = .ok (.iadd, 1) := by decide +kernel
theorem dX7_worth_22 : decode cX7_worth 22 = .ok (.ireturn, 1) := by decide +kernel
theorem dX7_reading_0 : decode cX7_reading 0 = .ok (.aload_n 0, 1) := by decide +kernel
theorem dX7_reading_1 : decode cX7_reading 1 = .ok (.iload_n 1, 1) := by decide +kernel
theorem dX7_reading_2 : decode cX7_reading 2 = .ok (.invokevirtual 66, 3) := by decide +kernel
theorem dX7_reading_5 : decode cX7_reading 5 = .ok (.ifCond .eq 5, 3) := by decide +kernel
theorem dX7_reading_8 : decode cX7_reading 8 = .ok (.iconst (-1), 1) := by decide +kernel
theorem dX7_reading_9 : decode cX7_reading 9 = .ok (.ireturn, 1) := by decide +kernel
theorem dX7_reading_10 : decode cX7_reading 10 = .ok (.iload_n 2, 1) := by decide +kernel
theorem dX7_reading_11 : decode cX7_reading 11 = .ok (.bipush 109, 2) := by decide +kernel
theorem dX7_reading_13 : decode cX7_reading 13 = .ok (.invokestatic 40, 3) := by decide +kernel
theorem dX7_reading_16 : decode cX7_reading 16 = .ok (.ifCond .ne 6, 3) := by decide +kernel
theorem dX7_reading_19 : decode cX7_reading 19 = .ok (.bipush (-2), 2) := by decide +kernel
theorem dX7_reading_21 : decode cX7_reading 21 = .ok (.ireturn, 1) := by decide +kernel
theorem dX7_reading_22 : decode cX7_reading 22 = .ok (.aload_n 0, 1) := by decide +kernel
theorem dX7_reading_23 : decode cX7_reading 23 = .ok (.getfield 21, 3) := by decide +kernel
theorem dX7_reading_26 : decode cX7_reading 26 = .ok (.getfield 62, 3) := by decide +kernel
theorem dX7_reading_29 : decode cX7_reading 29 = .ok (.bipush 8, 2) := by decide +kernel
theorem dX7_reading_31 : decode cX7_reading 31 = .ok (.if_icmp .lt 6, 3) := by decide +kernel
theorem dX7_reading_34 : decode cX7_reading 34 = .ok (.bipush (-4), 2) := by decide +kernel
theorem dX7_reading_36 : decode cX7_reading 36 = .ok (.ireturn, 1) := by decide +kernel
theorem dX7_reading_37 : decode cX7_reading 37 = .ok (.aload_n 0, 1) := by decide +kernel
theorem dX7_reading_38 : decode cX7_reading 38 = .ok (.getfield 21, 3) := by decide +kernel
theorem dX7_reading_41 : decode cX7_reading 41 = .ok (.iload_n 1, 1) := by decide +kernel
theorem dX7_reading_42 : decode cX7_reading 42 = .ok (.iload_n 2, 1) := by decide +kernel
theorem dX7_reading_43 : decode cX7_reading 43 = .ok (.iload_n 3, 1) := by decide +kernel
theorem dX7_reading_44 : decode cX7_reading 44 = .ok (.invokevirtual 155, 3) := by decide +kernel
theorem dX7_reading_47 : decode cX7_reading 47 = .ok (.ireturn, 1) := by decide +kernel
theorem dX7_back_0 : decode cX7_back 0 = .ok (.iload_n 1, 1) := by decide +kernel
theorem dX7_back_1 : decode cX7_back 1 = .ok (.aload_n 0, 1) := by decide +kernel
theorem dX7_back_2 : decode cX7_back 2 = .ok (.getfield 21, 3) := by decide +kernel
theorem dX7_back_5 : decode cX7_back 5 = .ok (.getfield 62, 3) := by decide +kernel
theorem dX7_back_8 : decode cX7_back 8 = .ok (.invokestatic 40, 3) := by decide +kernel
theorem dX7_back_11 : decode cX7_back 11 = .ok (.ifCond .ne 6, 3) := by decide +kernel
theorem dX7_back_14 : decode cX7_back 14 = .ok (.bipush (-2), 2) := by decide +kernel
theorem dX7_back_16 : decode cX7_back 16 = .ok (.ireturn, 1) := by decide +kernel
theorem dX7_back_17 : decode cX7_back 17 = .ok (.aload_n 0, 1) := by decide +kernel
theorem dX7_back_18 : decode cX7_back 18 = .ok (.getfield 21, 3) := by decide +kernel
theorem dX7_back_21 : decode cX7_back 21 = .ok (.dup, 1) := by decide +kernel
theorem dX7_back_22 : decode cX7_back 22 = .ok (.getfield 62, 3) := by decide +kernel
theorem dX7_back_25 : decode cX7_back 25 = .ok (.iload_n 1, 1) := by decide +kernel
theorem dX7_back_26 : decode cX7_back 26 = .ok (.isub, 1) := by decide +kernel
theorem dX7_back_27 : decode cX7_back 27 = .ok (.putfield 62, 3) := by decide +kernel
theorem dX7_back_30 : decode cX7_back 30 = .ok (.aload_n 0, 1) := by decide +kernel
theorem dX7_back_31 : decode cX7_back 31 = .ok (.getfield 21, 3) := by decide +kernel
theorem dX7_back_34 : decode cX7_back 34 = .ok (.getfield 62, 3) := by decide +kernel
theorem dX7_back_37 : decode cX7_back 37 = .ok (.ireturn, 1) := by decide +kernel
theorem dX7_spans_0 : decode cX7_spans 0 = .ok (.aload_n 0, 1) := by decide +kernel
theorem dX7_spans_1 : decode cX7_spans 1 = .ok (.invokevirtual 90, 3) := by decide +kernel
theorem dX7_spans_4 : decode cX7_spans 4 = .ok (.ifCond .eq 6, 3) := by decide +kernel
theorem dX7_spans_7 : decode cX7_spans 7 = .ok (.bipush (-3), 2) := by decide +kernel
theorem dX7_spans_9 : decode cX7_spans 9 = .ok (.ireturn, 1) := by decide +kernel
theorem dX7_spans_10 : decode cX7_spans 10 = .ok (.aload_n 0, 1) := by decide +kernel
theorem dX7_spans_11 : decode cX7_spans 11 = .ok (.getfield 12, 3) := by decide +kernel
theorem dX7_spans_14 : decode cX7_spans 14 = .ok (.aload_n 0, 1) := by decide +kernel
theorem dX7_spans_15 : decode cX7_spans 15 = .ok (.getfield 21, 3) := by decide +kernel
theorem dX7_spans_18 : decode cX7_spans 18 = .ok (.invokestatic 159, 3) := by decide +kernel
theorem dX7_spans_21 : decode cX7_spans 21 = .ok (.ireturn, 1) := by decide +kernel
theorem dX7_origins_0 : decode cX7_origins 0 = .ok (.aload_n 0, 1) := by decide +kernel
theorem dX7_origins_1 : decode cX7_origins 1 = .ok (.invokevirtual 90, 3) := by decide +kernel
theorem dX7_origins_4 : decode cX7_origins 4 = .ok (.ifCond .eq 6, 3) := by decide +kernel
theorem dX7_origins_7 : decode cX7_origins 7 = .ok (.bipush (-3), 2) := by decide +kernel
theorem dX7_origins_9 : decode cX7_origins 9 = .ok (.ireturn, 1) := by decide +kernel
theorem dX7_origins_10 : decode cX7_origins 10 = .ok (.aload_n 0, 1) := by decide +kernel
theorem dX7_origins_11 : decode cX7_origins 11 = .ok (.getfield 12, 3) := by decide +kernel
theorem dX7_origins_14 : decode cX7_origins 14 = .ok (.aload_n 0, 1) := by decide +kernel
theorem dX7_origins_15 : decode cX7_origins 15 = .ok (.getfield 21, 3) := by decide +kernel
theorem dX7_origins_18 : decode cX7_origins 18 = .ok (.invokestatic 163, 3) := by decide +kernel
theorem dX7_origins_21 : decode cX7_origins 21 = .ok (.ireturn, 1) := by decide +kernel
theorem dX7_kinds_0 : decode cX7_kinds 0 = .ok (.aload_n 0, 1) := by decide +kernel
theorem dX7_kinds_1 : decode cX7_kinds 1 = .ok (.iload_n 1, 1) := by decide +kernel
theorem dX7_kinds_2 : decode cX7_kinds 2 = .ok (.invokevirtual 66, 3) := by decide +kernel
theorem dX7_kinds_5 : decode cX7_kinds 5 = .ok (.ifCond .eq 5, 3) := by decide +kernel
theorem dX7_kinds_8 : decode cX7_kinds 8 = .ok (.iconst (-1), 1) := by decide +kernel
theorem dX7_kinds_9 : decode cX7_kinds 9 = .ok (.ireturn, 1) := by decide +kernel
theorem dX7_kinds_10 : decode cX7_kinds 10 = .ok (.aload_n 0, 1) := by decide +kernel
theorem dX7_kinds_11 : decode cX7_kinds 11 = .ok (.getfield 12, 3) := by decide +kernel
theorem dX7_kinds_14 : decode cX7_kinds 14 = .ok (.aload_n 0, 1) := by decide +kernel
theorem dX7_kinds_15 : decode cX7_kinds 15 = .ok (.getfield 21, 3) := by decide +kernel
theorem dX7_kinds_18 : decode cX7_kinds 18 = .ok (.iload_n 1, 1) := by decide +kernel
theorem dX7_kinds_19 : decode cX7_kinds 19 = .ok (.invokestatic 166, 3) := by decide +kernel
theorem dX7_kinds_22 : decode cX7_kinds 22 = .ok (.ireturn, 1) := by decide +kernel
theorem dX7_moved_0 : decode cX7_moved 0 = .ok (.aload_n 0, 1) := by decide +kernel
theorem dX7_moved_1 : decode cX7_moved 1 = .ok (.iload_n 1, 1) := by decide +kernel
theorem dX7_moved_2 : decode cX7_moved 2 = .ok (.invokevirtual 66, 3) := by decide +kernel
theorem dX7_moved_5 : decode cX7_moved 5 = .ok (.ifCond .eq 5, 3) := by decide +kernel
theorem dX7_moved_8 : decode cX7_moved 8 = .ok (.iconst (-1), 1) := by decide +kernel
theorem dX7_moved_9 : decode cX7_moved 9 = .ok (.ireturn, 1) := by decide +kernel
theorem dX7_moved_10 : decode cX7_moved 10 = .ok (.iload_n 2, 1) := by decide +kernel
theorem dX7_moved_11 : decode cX7_moved 11 = .ok (.iconst 1, 1) := by decide +kernel
theorem dX7_moved_12 : decode cX7_moved 12 = .ok (.invokestatic 40, 3) := by decide +kernel
theorem dX7_moved_15 : decode cX7_moved 15 = .ok (.ifCond .ne 6, 3) := by decide +kernel
theorem dX7_moved_18 : decode cX7_moved 18 = .ok (.bipush (-2), 2) := by decide +kernel
theorem dX7_moved_20 : decode cX7_moved 20 = .ok (.ireturn, 1) := by decide +kernel
theorem dX7_moved_21 : decode cX7_moved 21 = .ok (.aload_n 0, 1) := by decide +kernel
theorem dX7_moved_22 : decode cX7_moved 22 = .ok (.getfield 12, 3) := by decide +kernel
theorem dX7_moved_25 : decode cX7_moved 25 = .ok (.aload_n 0, 1) := by decide +kernel
theorem dX7_moved_26 : decode cX7_moved 26 = .ok (.getfield 21, 3) := by decide +kernel
theorem dX7_moved_29 : decode cX7_moved 29 = .ok (.iload_n 1, 1) := by decide +kernel
theorem dX7_moved_30 : decode cX7_moved 30 = .ok (.iload_n 2, 1) := by decide +kernel
theorem dX7_moved_31 : decode cX7_moved 31 = .ok (.iconst 1, 1) := by decide +kernel
theorem dX7_moved_32 : decode cX7_moved 32 = .ok (.if_icmp .ne 7, 3) := by decide +kernel
theorem dX7_moved_35 : decode cX7_moved 35 = .ok (.iconst 1, 1) := by decide +kernel
theorem dX7_moved_36 : decode cX7_moved 36 = .ok (.goto 4, 3) := by decide +kernel
theorem dX7_moved_39 : decode cX7_moved 39 = .ok (.iconst 0, 1) := by decide +kernel
theorem dX7_moved_40 : decode cX7_moved 40 = .ok (.invokestatic 170, 3) := by decide +kernel
theorem dX7_moved_43 : decode cX7_moved 43 = .ok (.ireturn, 1) := by decide +kernel
theorem dX7_odds_0 : decode cX7_odds 0 = .ok (.aload_n 0, 1) := by decide +kernel
theorem dX7_odds_1 : decode cX7_odds 1 = .ok (.iload_n 1, 1) := by decide +kernel
theorem dX7_odds_2 : decode cX7_odds 2 = .ok (.invokevirtual 66, 3) := by decide +kernel
theorem dX7_odds_5 : decode cX7_odds 5 = .ok (.ifCond .ne 20, 3) := by decide +kernel
theorem dX7_odds_8 : decode cX7_odds 8 = .ok (.iload_n 2, 1) := by decide +kernel
theorem dX7_odds_9 : decode cX7_odds 9 = .ok (.bipush 109, 2) := by decide +kernel
theorem dX7_odds_11 : decode cX7_odds 11 = .ok (.invokestatic 40, 3) := by decide +kernel
theorem dX7_odds_14 : decode cX7_odds 14 = .ok (.ifCond .eq 11, 3) := by decide +kernel
theorem dX7_odds_17 : decode cX7_odds 17 = .ok (.iload_n 3, 1) := by decide +kernel
theorem dX7_odds_18 : decode cX7_odds 18 = .ok (.iconst 1, 1) := by decide +kernel
theorem dX7_odds_19 : decode cX7_odds 19 = .ok (.invokestatic 40, 3) := by decide +kernel
theorem dX7_odds_22 : decode cX7_odds 22 = .ok (.ifCond .ne 7, 3) := by decide +kernel
theorem dX7_odds_25 : decode cX7_odds 25 = .ok (.ldc2_w 174, 3) := by decide +kernel
theorem dX7_odds_28 : decode cX7_odds 28 = .ok (.lreturn, 1) := by decide +kernel
theorem dX7_odds_29 : decode cX7_odds 29 = .ok (.aload_n 0, 1) := by decide +kernel
theorem dX7_odds_30 : decode cX7_odds 30 = .ok (.getfield 12, 3) := by decide +kernel
theorem dX7_odds_33 : decode cX7_odds 33 = .ok (.iload_n 1, 1) := by decide +kernel
theorem dX7_odds_34 : decode cX7_odds 34 = .ok (.iload_n 2, 1) := by decide +kernel
theorem dX7_odds_35 : decode cX7_odds 35 = .ok (.iload_n 3, 1) := by decide +kernel
theorem dX7_odds_36 : decode cX7_odds 36 = .ok (.iconst 1, 1) := by decide +kernel
theorem dX7_odds_37 : decode cX7_odds 37 = .ok (.if_icmp .ne 7, 3) := by decide +kernel
theorem dX7_odds_40 : decode cX7_odds 40 = .ok (.iconst 1, 1) := by decide +kernel
theorem dX7_odds_41 : decode cX7_odds 41 = .ok (.goto 4, 3) := by decide +kernel
theorem dX7_odds_44 : decode cX7_odds 44 = .ok (.iconst 0, 1) := by decide +kernel
theorem dX7_odds_45 : decode cX7_odds 45 = .ok (.invokestatic 176, 3) := by decide +kernel
theorem dX7_odds_48 : decode cX7_odds 48 = .ok (.lreturn, 1) := by decide +kernel
theorem dX7_sheet_0 : decode cX7_sheet 0 = .ok (.aload_n 0, 1) := by decide +kernel
theorem dX7_sheet_1 : decode cX7_sheet 1 = .ok (.iconst 0, 1) := by decide +kernel
theorem dX7_sheet_2 : decode cX7_sheet 2 = .ok (.putfield 32, 3) := by decide +kernel
theorem dX7_sheet_5 : decode cX7_sheet 5 = .ok (.iload_n 1, 1) := by decide +kernel
theorem dX7_sheet_6 : decode cX7_sheet 6 = .ok (.invokestatic 36, 3) := by decide +kernel
theorem dX7_sheet_9 : decode cX7_sheet 9 = .ok (.ifCond .eq 5, 3) := by decide +kernel
theorem dX7_sheet_12 : decode cX7_sheet 12 = .ok (.iconst (-1), 1) := by decide +kernel
theorem dX7_sheet_13 : decode cX7_sheet 13 = .ok (.ireturn, 1) := by decide +kernel
theorem dX7_sheet_14 : decode cX7_sheet 14 = .ok (.iload_n 2, 1) := by decide +kernel
theorem dX7_sheet_15 : decode cX7_sheet 15 = .ok (.iconst 2, 1) := by decide +kernel
theorem dX7_sheet_16 : decode cX7_sheet 16 = .ok (.invokestatic 40, 3) := by decide +kernel
theorem dX7_sheet_19 : decode cX7_sheet 19 = .ok (.ifCond .eq 9, 3) := by decide +kernel
theorem dX7_sheet_22 : decode cX7_sheet 22 = .ok (.iload_n 3, 1) := by decide +kernel
theorem dX7_sheet_23 : decode cX7_sheet 23 = .ok (.bipush 60, 2) := by decide +kernel
theorem dX7_sheet_25 : decode cX7_sheet 25 = .ok (.if_icmp .le 6, 3) := by decide +kernel
theorem dX7_sheet_28 : decode cX7_sheet 28 = .ok (.bipush (-2), 2) := by decide +kernel
theorem dX7_sheet_30 : decode cX7_sheet 30 = .ok (.ireturn, 1) := by decide +kernel
theorem dX7_sheet_31 : decode cX7_sheet 31 = .ok (.iload_n 3, 1) := by decide +kernel
theorem dX7_sheet_32 : decode cX7_sheet 32 = .ok (.ifCond .ge 9, 3) := by decide +kernel
theorem dX7_sheet_35 : decode cX7_sheet 35 = .ok (.aload_n 0, 1) := by decide +kernel
theorem dX7_sheet_36 : decode cX7_sheet 36 = .ok (.iconst 4, 1) := by decide +kernel
theorem dX7_sheet_37 : decode cX7_sheet 37 = .ok (.invokevirtual 48, 3) := by decide +kernel
theorem dX7_sheet_40 : decode cX7_sheet 40 = .ok (.ireturn, 1) := by decide +kernel
theorem dX7_sheet_41 : decode cX7_sheet 41 = .ok (.aload_n 0, 1) := by decide +kernel
theorem dX7_sheet_42 : decode cX7_sheet 42 = .ok (.getfield 27, 3) := by decide +kernel
theorem dX7_sheet_45 : decode cX7_sheet 45 = .ok (.iload_n 1, 1) := by decide +kernel
theorem dX7_sheet_46 : decode cX7_sheet 46 = .ok (.aaload, 1) := by decide +kernel
theorem dX7_sheet_47 : decode cX7_sheet 47 = .ok (.iload_n 2, 1) := by decide +kernel
theorem dX7_sheet_48 : decode cX7_sheet 48 = .ok (.iload_n 3, 1) := by decide +kernel
theorem dX7_sheet_49 : decode cX7_sheet 49 = .ok (.invokevirtual 180, 3) := by decide +kernel
theorem dX7_sheet_52 : decode cX7_sheet 52 = .ok (.iconst 1, 1) := by decide +kernel
theorem dX7_sheet_53 : decode cX7_sheet 53 = .ok (.ireturn, 1) := by decide +kernel
theorem dX7_lose_0 : decode cX7_lose 0 = .ok (.iload_n 1, 1) := by decide +kernel
theorem dX7_lose_1 : decode cX7_lose 1 = .ok (.invokestatic 36, 3) := by decide +kernel
theorem dX7_lose_4 : decode cX7_lose 4 = .ok (.ifCond .eq 5, 3) := by decide +kernel
theorem dX7_lose_7 : decode cX7_lose 7 = .ok (.iconst (-1), 1) := by decide +kernel
theorem dX7_lose_8 : decode cX7_lose 8 = .ok (.ireturn, 1) := by decide +kernel
theorem dX7_lose_9 : decode cX7_lose 9 = .ok (.aload_n 0, 1) := by decide +kernel
theorem dX7_lose_10 : decode cX7_lose 10 = .ok (.getfield 27, 3) := by decide +kernel
theorem dX7_lose_13 : decode cX7_lose 13 = .ok (.iload_n 1, 1) := by decide +kernel
theorem dX7_lose_14 : decode cX7_lose 14 = .ok (.aaload, 1) := by decide +kernel
theorem dX7_lose_15 : decode cX7_lose 15 = .ok (.invokevirtual 184, 3) := by decide +kernel
theorem dX7_lose_18 : decode cX7_lose 18 = .ok (.ifCond .eq 7, 3) := by decide +kernel
theorem dX7_lose_21 : decode cX7_lose 21 = .ok (.iconst 0, 1) := by decide +kernel
theorem dX7_lose_22 : decode cX7_lose 22 = .ok (.goto 4, 3) := by decide +kernel
theorem dX7_lose_25 : decode cX7_lose 25 = .ok (.iconst 1, 1) := by decide +kernel
theorem dX7_lose_26 : decode cX7_lose 26 = .ok (.istore_n 2, 1) := by decide +kernel
theorem dX7_lose_27 : decode cX7_lose 27 = .ok (.aload_n 0, 1) := by decide +kernel
theorem dX7_lose_28 : decode cX7_lose 28 = .ok (.getfield 27, 3) := by decide +kernel
theorem dX7_lose_31 : decode cX7_lose 31 = .ok (.iload_n 1, 1) := by decide +kernel
theorem dX7_lose_32 : decode cX7_lose 32 = .ok (.aaload, 1) := by decide +kernel
theorem dX7_lose_33 : decode cX7_lose 33 = .ok (.invokevirtual 187, 3) := by decide +kernel
theorem dX7_lose_36 : decode cX7_lose 36 = .ok (.iload_n 2, 1) := by decide +kernel
theorem dX7_lose_37 : decode cX7_lose 37 = .ok (.ireturn, 1) := by decide +kernel
theorem dX7_put_0 : decode cX7_put 0 = .ok (.aload_n 0, 1) := by decide +kernel
theorem dX7_put_1 : decode cX7_put 1 = .ok (.iconst 0, 1) := by decide +kernel
theorem dX7_put_2 : decode cX7_put 2 = .ok (.putfield 32, 3) := by decide +kernel
theorem dX7_put_5 : decode cX7_put 5 = .ok (.iload_n 1, 1) := by decide +kernel
theorem dX7_put_6 : decode cX7_put 6 = .ok (.invokestatic 36, 3) := by decide +kernel
theorem dX7_put_9 : decode cX7_put 9 = .ok (.ifCond .eq 5, 3) := by decide +kernel
theorem dX7_put_12 : decode cX7_put 12 = .ok (.iconst (-1), 1) := by decide +kernel
theorem dX7_put_13 : decode cX7_put 13 = .ok (.ireturn, 1) := by decide +kernel
theorem dX7_put_14 : decode cX7_put 14 = .ok (.aload_n 0, 1) := by decide +kernel
theorem dX7_put_15 : decode cX7_put 15 = .ok (.getfield 27, 3) := by decide +kernel
theorem dX7_put_18 : decode cX7_put 18 = .ok (.iload_n 1, 1) := by decide +kernel
theorem dX7_put_19 : decode cX7_put 19 = .ok (.aaload, 1) := by decide +kernel
theorem dX7_put_20 : decode cX7_put 20 = .ok (.astore 4, 2) := by decide +kernel
theorem dX7_put_22 : decode cX7_put 22 = .ok (.aload 4, 2) := by decide +kernel
theorem dX7_put_24 : decode cX7_put 24 = .ok (.invokevirtual 184, 3) := by decide +kernel
theorem dX7_put_27 : decode cX7_put 27 = .ok (.ifCond .eq 9, 3) := by decide +kernel
theorem dX7_put_30 : decode cX7_put 30 = .ok (.aload_n 0, 1) := by decide +kernel
theorem dX7_put_31 : decode cX7_put 31 = .ok (.iconst 1, 1) := by decide +kernel
theorem dX7_put_32 : decode cX7_put 32 = .ok (.invokevirtual 48, 3) := by decide +kernel
theorem dX7_put_35 : decode cX7_put 35 = .ok (.ireturn, 1) := by decide +kernel
theorem dX7_put_36 : decode cX7_put 36 = .ok (.aload 4, 2) := by decide +kernel
theorem dX7_put_38 : decode cX7_put 38 = .ok (.iload_n 2, 1) := by decide +kernel
theorem dX7_put_39 : decode cX7_put 39 = .ok (.invokevirtual 190, 3) := by decide +kernel
theorem dX7_put_42 : decode cX7_put 42 = .ok (.ifCond .ne 9, 3) := by decide +kernel
theorem dX7_put_45 : decode cX7_put 45 = .ok (.aload_n 0, 1) := by decide +kernel
theorem dX7_put_46 : decode cX7_put 46 = .ok (.iconst 3, 1) := by decide +kernel
theorem dX7_put_47 : decode cX7_put 47 = .ok (.invokevirtual 48, 3) := by decide +kernel
theorem dX7_put_50 : decode cX7_put 50 = .ok (.ireturn, 1) := by decide +kernel
theorem dX7_put_51 : decode cX7_put 51 = .ok (.aload 4, 2) := by decide +kernel
theorem dX7_put_53 : decode cX7_put 53 = .ok (.getfield 134, 3) := by decide +kernel
theorem dX7_put_56 : decode cX7_put 56 = .ok (.iload_n 2, 1) := by decide +kernel
theorem dX7_put_57 : decode cX7_put 57 = .ok (.aload 4, 2) := by decide +kernel
theorem dX7_put_59 : decode cX7_put 59 = .ok (.iload_n 3, 1) := by decide +kernel
theorem dX7_put_60 : decode cX7_put 60 = .ok (.invokevirtual 193, 3) := by decide +kernel
theorem dX7_put_63 : decode cX7_put 63 = .ok (.iastore, 1) := by decide +kernel
theorem dX7_put_64 : decode cX7_put 64 = .ok (.iconst 1, 1) := by decide +kernel
theorem dX7_put_65 : decode cX7_put 65 = .ok (.ireturn, 1) := by decide +kernel
theorem dX7_cell_0 : decode cX7_cell 0 = .ok (.aload_n 0, 1) := by decide +kernel
theorem dX7_cell_1 : decode cX7_cell 1 = .ok (.iconst 0, 1) := by decide +kernel
theorem dX7_cell_2 : decode cX7_cell 2 = .ok (.putfield 32, 3) := by decide +kernel
theorem dX7_cell_5 : decode cX7_cell 5 = .ok (.iload_n 1, 1) := by decide +kernel
theorem dX7_cell_6 : decode cX7_cell 6 = .ok (.invokestatic 36, 3) := by decide +kernel
theorem dX7_cell_9 : decode cX7_cell 9 = .ok (.ifCond .ne 11, 3) := by decide +kernel
theorem dX7_cell_12 : decode cX7_cell 12 = .ok (.iload_n 3, 1) := by decide +kernel
theorem dX7_cell_13 : decode cX7_cell 13 = .ok (.iconst 2, 1) := by decide +kernel
theorem dX7_cell_14 : decode cX7_cell 14 = .ok (.invokestatic 40, 3) := by decide +kernel
theorem dX7_cell_17 : decode cX7_cell 17 = .ok (.ifCond .ne 7, 3) := by decide +kernel
theorem dX7_cell_20 : decode cX7_cell 20 = .ok (.ldc2_w 174, 3) := by decide +kernel
theorem dX7_cell_23 : decode cX7_cell 23 = .ok (.lreturn, 1) := by decide +kernel
theorem dX7_cell_24 : decode cX7_cell 24 = .ok (.aload_n 0, 1) := by decide +kernel
theorem dX7_cell_25 : decode cX7_cell 25 = .ok (.getfield 27, 3) := by decide +kernel
theorem dX7_cell_28 : decode cX7_cell 28 = .ok (.iload_n 1, 1) := by decide +kernel
theorem dX7_cell_29 : decode cX7_cell 29 = .ok (.aaload, 1) := by decide +kernel
theorem dX7_cell_30 : decode cX7_cell 30 = .ok (.astore 4, 2) := by decide +kernel
theorem dX7_cell_32 : decode cX7_cell 32 = .ok (.aload_n 0, 1) := by decide +kernel
theorem dX7_cell_33 : decode cX7_cell 33 = .ok (.aload 4, 2) := by decide +kernel
theorem dX7_cell_35 : decode cX7_cell 35 = .ok (.iload_n 3, 1) := by decide +kernel
theorem dX7_cell_36 : decode cX7_cell 36 = .ok (.invokevirtual 196, 3) := by decide +kernel
theorem dX7_cell_39 : decode cX7_cell 39 = .ok (.putfield 32, 3) := by decide +kernel
theorem dX7_cell_42 : decode cX7_cell 42 = .ok (.aload_n 0, 1) := by decide +kernel
theorem dX7_cell_43 : decode cX7_cell 43 = .ok (.getfield 32, 3) := by decide +kernel
theorem dX7_cell_46 : decode cX7_cell 46 = .ok (.ifCond .ne 17, 3) := by decide +kernel
theorem dX7_cell_49 : decode cX7_cell 49 = .ok (.aload 4, 2) := by decide +kernel
theorem dX7_cell_51 : decode cX7_cell 51 = .ok (.iload_n 2, 1) := by decide +kernel
theorem dX7_cell_52 : decode cX7_cell 52 = .ok (.invokevirtual 190, 3) := by decide +kernel
theorem dX7_cell_55 : decode cX7_cell 55 = .ok (.ifCond .ne 8, 3) := by decide +kernel
theorem dX7_cell_58 : decode cX7_cell 58 = .ok (.aload_n 0, 1) := by decide +kernel
theorem dX7_cell_59 : decode cX7_cell 59 = .ok (.iconst 3, 1) := by decide +kernel
theorem dX7_cell_60 : decode cX7_cell 60 = .ok (.putfield 32, 3) := by decide +kernel
theorem dX7_cell_63 : decode cX7_cell 63 = .ok (.aload_n 0, 1) := by decide +kernel
theorem dX7_cell_64 : decode cX7_cell 64 = .ok (.getfield 32, 3) := by decide +kernel
theorem dX7_cell_67 : decode cX7_cell 67 = .ok (.ifCond .ne 14, 3) := by decide +kernel
theorem dX7_cell_70 : decode cX7_cell 70 = .ok (.aload 4, 2) := by decide +kernel
theorem dX7_cell_72 : decode cX7_cell 72 = .ok (.getfield 134, 3) := by decide +kernel
theorem dX7_cell_75 : decode cX7_cell 75 = .ok (.iload_n 2, 1) := by decide +kernel
theorem dX7_cell_76 : decode cX7_cell 76 = .ok (.iaload, 1) := by decide +kernel
theorem dX7_cell_77 : decode cX7_cell 77 = .ok (.i2l, 1) := by decide +kernel
theorem dX7_cell_78 : decode cX7_cell 78 = .ok (.goto 6, 3) := by decide +kernel
theorem dX7_cell_81 : decode cX7_cell 81 = .ok (.ldc2_w 174, 3) := by decide +kernel
theorem dX7_cell_84 : decode cX7_cell 84 = .ok (.lreturn, 1) := by decide +kernel
theorem dX7_copy_0 : decode cX7_copy 0 = .ok (.aload_n 0, 1) := by decide +kernel
theorem dX7_copy_1 : decode cX7_copy 1 = .ok (.iconst 0, 1) := by decide +kernel
theorem dX7_copy_2 : decode cX7_copy 2 = .ok (.putfield 32, 3) := by decide +kernel
theorem dX7_copy_5 : decode cX7_copy 5 = .ok (.iload_n 1, 1) := by decide +kernel
theorem dX7_copy_6 : decode cX7_copy 6 = .ok (.invokestatic 36, 3) := by decide +kernel
theorem dX7_copy_9 : decode cX7_copy 9 = .ok (.ifCond .ne 10, 3) := by decide +kernel
theorem dX7_copy_12 : decode cX7_copy 12 = .ok (.iload_n 3, 1) := by decide +kernel
theorem dX7_copy_13 : decode cX7_copy 13 = .ok (.invokestatic 36, 3) := by decide +kernel
theorem dX7_copy_16 : decode cX7_copy 16 = .ok (.ifCond .eq 5, 3) := by decide +kernel
theorem dX7_copy_19 : decode cX7_copy 19 = .ok (.iconst (-1), 1) := by decide +kernel
theorem dX7_copy_20 : decode cX7_copy 20 = .ok (.ireturn, 1) := by decide +kernel
theorem dX7_copy_21 : decode cX7_copy 21 = .ok (.aload_n 0, 1) := by decide +kernel
theorem dX7_copy_22 : decode cX7_copy 22 = .ok (.getfield 27, 3) := by decide +kernel
theorem dX7_copy_25 : decode cX7_copy 25 = .ok (.iload_n 1, 1) := by decide +kernel
theorem dX7_copy_26 : decode cX7_copy 26 = .ok (.aaload, 1) := by decide +kernel
theorem dX7_copy_27 : decode cX7_copy 27 = .ok (.astore 6, 2) := by decide +kernel
theorem dX7_copy_29 : decode cX7_copy 29 = .ok (.aload_n 0, 1) := by decide +kernel
theorem dX7_copy_30 : decode cX7_copy 30 = .ok (.getfield 27, 3) := by decide +kernel
theorem dX7_copy_33 : decode cX7_copy 33 = .ok (.iload_n 3, 1) := by decide +kernel
theorem dX7_copy_34 : decode cX7_copy 34 = .ok (.aaload, 1) := by decide +kernel
theorem dX7_copy_35 : decode cX7_copy 35 = .ok (.astore 7, 2) := by decide +kernel
theorem dX7_copy_37 : decode cX7_copy 37 = .ok (.aload 6, 2) := by decide +kernel
theorem dX7_copy_39 : decode cX7_copy 39 = .ok (.invokevirtual 184, 3) := by decide +kernel
theorem dX7_copy_42 : decode cX7_copy 42 = .ok (.ifCond .ne 11, 3) := by decide +kernel
theorem dX7_copy_45 : decode cX7_copy 45 = .ok (.aload 7, 2) := by decide +kernel
theorem dX7_copy_47 : decode cX7_copy 47 = .ok (.invokevirtual 184, 3) := by decide +kernel
theorem dX7_copy_50 : decode cX7_copy 50 = .ok (.ifCond .eq 9, 3) := by decide +kernel
theorem dX7_copy_53 : decode cX7_copy 53 = .ok (.aload_n 0, 1) := by decide +kernel
theorem dX7_copy_54 : decode cX7_copy 54 = .ok (.iconst 1, 1) := by decide +kernel
theorem dX7_copy_55 : decode cX7_copy 55 = .ok (.invokevirtual 48, 3) := by decide +kernel
theorem dX7_copy_58 : decode cX7_copy 58 = .ok (.ireturn, 1) := by decide +kernel
theorem dX7_copy_59 : decode cX7_copy 59 = .ok (.aload 6, 2) := by decide +kernel
theorem dX7_copy_61 : decode cX7_copy 61 = .ok (.getfield 199, 3) := by decide +kernel
theorem dX7_copy_64 : decode cX7_copy 64 = .ok (.aload 7, 2) := by decide +kernel
theorem dX7_copy_66 : decode cX7_copy 66 = .ok (.getfield 199, 3) := by decide +kernel
theorem dX7_copy_69 : decode cX7_copy 69 = .ok (.if_icmp .eq 9, 3) := by decide +kernel
theorem dX7_copy_72 : decode cX7_copy 72 = .ok (.aload_n 0, 1) := by decide +kernel
theorem dX7_copy_73 : decode cX7_copy 73 = .ok (.iconst 2, 1) := by decide +kernel
theorem dX7_copy_74 : decode cX7_copy 74 = .ok (.invokevirtual 48, 3) := by decide +kernel
theorem dX7_copy_77 : decode cX7_copy 77 = .ok (.ireturn, 1) := by decide +kernel
theorem dX7_copy_78 : decode cX7_copy 78 = .ok (.iload 5, 2) := by decide +kernel
theorem dX7_copy_80 : decode cX7_copy 80 = .ok (.ifCond .lt 26, 3) := by decide +kernel
theorem dX7_copy_83 : decode cX7_copy 83 = .ok (.aload 6, 2) := by decide +kernel
theorem dX7_copy_85 : decode cX7_copy 85 = .ok (.iload_n 2, 1) := by decide +kernel
theorem dX7_copy_86 : decode cX7_copy 86 = .ok (.iload 5, 2) := by decide +kernel
theorem dX7_copy_88 : decode cX7_copy 88 = .ok (.invokevirtual 202, 3) := by decide +kernel
theorem dX7_copy_91 : decode cX7_copy 91 = .ok (.ifCond .eq 15, 3) := by decide +kernel
theorem dX7_copy_94 : decode cX7_copy 94 = .ok (.aload 7, 2) := by decide +kernel
theorem dX7_copy_96 : decode cX7_copy 96 = .ok (.iload 4, 2) := by decide +kernel
theorem dX7_copy_98 : decode cX7_copy 98 = .ok (.iload 5, 2) := by decide +kernel
theorem dX7_copy_100 : decode cX7_copy 100 = .ok (.invokevirtual 202, 3) := by decide +kernel
theorem dX7_copy_103 : decode cX7_copy 103 = .ok (.ifCond .ne 9, 3) := by decide +kernel
theorem dX7_copy_106 : decode cX7_copy 106 = .ok (.aload_n 0, 1) := by decide +kernel
theorem dX7_copy_107 : decode cX7_copy 107 = .ok (.iconst 3, 1) := by decide +kernel
theorem dX7_copy_108 : decode cX7_copy 108 = .ok (.invokevirtual 48, 3) := by decide +kernel
theorem dX7_copy_111 : decode cX7_copy 111 = .ok (.ireturn, 1) := by decide +kernel
theorem dX7_copy_112 : decode cX7_copy 112 = .ok (.aload 6, 2) := by decide +kernel
theorem dX7_copy_114 : decode cX7_copy 114 = .ok (.getfield 134, 3) := by decide +kernel
theorem dX7_copy_117 : decode cX7_copy 117 = .ok (.iload_n 2, 1) := by decide +kernel
theorem dX7_copy_118 : decode cX7_copy 118 = .ok (.aload 7, 2) := by decide +kernel
theorem dX7_copy_120 : decode cX7_copy 120 = .ok (.getfield 134, 3) := by decide +kernel
theorem dX7_copy_123 : decode cX7_copy 123 = .ok (.iload 4, 2) := by decide +kernel
theorem dX7_copy_125 : decode cX7_copy 125 = .ok (.iload 5, 2) := by decide +kernel
theorem dX7_copy_127 : decode cX7_copy 127 = .ok (.invokestatic 205, 3) := by decide +kernel

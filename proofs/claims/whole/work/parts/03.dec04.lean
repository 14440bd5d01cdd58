theorem dX8_readCalendar_42 : decode cX8_readCalendar 42 = .ok (.if_icmp .ne 5, 3) := by decide +kernel
theorem dX8_readCalendar_45 : decode cX8_readCalendar 45 = .ok (.iconst 0, 1) := by decide +kernel
theorem dX8_readCalendar_46 : decode cX8_readCalendar 46 = .ok (.ireturn, 1) := by decide +kernel
theorem dX8_readCalendar_47 : decode cX8_readCalendar 47 = .ok (.aload_n 0, 1) := by decide +kernel
theorem dX8_readCalendar_48 : decode cX8_readCalendar 48 = .ok (.aload_n 0, 1) := by decide +kernel
theorem dX8_readCalendar_49 : decode cX8_readCalendar 49 = .ok (.iload_n 1, 1) := by decide +kernel
theorem dX8_readCalendar_50 : decode cX8_readCalendar 50 = .ok (.iconst 1, 1) := by decide +kernel
theorem dX8_readCalendar_51 : decode cX8_readCalendar 51 = .ok (.iconst 2, 1) := by decide +kernel
theorem dX8_readCalendar_52 : decode cX8_readCalendar 52 = .ok (.invokevirtual 78, 3) := by decide +kernel
theorem dX8_readCalendar_55 : decode cX8_readCalendar 55 = .ok (.putfield 112, 3) := by decide +kernel
theorem dX8_readCalendar_58 : decode cX8_readCalendar 58 = .ok (.aload_n 0, 1) := by decide +kernel
theorem dX8_readCalendar_59 : decode cX8_readCalendar 59 = .ok (.getfield 112, 3) := by decide +kernel
theorem dX8_readCalendar_62 : decode cX8_readCalendar 62 = .ok (.bipush (-9), 2) := by decide +kernel
theorem dX8_readCalendar_64 : decode cX8_readCalendar 64 = .ok (.if_icmp .ne 5, 3) := by decide +kernel
theorem dX8_readCalendar_67 : decode cX8_readCalendar 67 = .ok (.iconst 0, 1) := by decide +kernel
theorem dX8_readCalendar_68 : decode cX8_readCalendar 68 = .ok (.ireturn, 1) := by decide +kernel
theorem dX8_readCalendar_69 : decode cX8_readCalendar 69 = .ok (.aload_n 0, 1) := by decide +kernel
theorem dX8_readCalendar_70 : decode cX8_readCalendar 70 = .ok (.aload_n 0, 1) := by decide +kernel
theorem dX8_readCalendar_71 : decode cX8_readCalendar 71 = .ok (.iload_n 1, 1) := by decide +kernel
theorem dX8_readCalendar_72 : decode cX8_readCalendar 72 = .ok (.iconst 0, 1) := by decide +kernel
theorem dX8_readCalendar_73 : decode cX8_readCalendar 73 = .ok (.bipush 9, 2) := by decide +kernel
theorem dX8_readCalendar_75 : decode cX8_readCalendar 75 = .ok (.invokevirtual 78, 3) := by decide +kernel
theorem dX8_readCalendar_78 : decode cX8_readCalendar 78 = .ok (.putfield 118, 3) := by decide +kernel
theorem dX8_readCalendar_81 : decode cX8_readCalendar 81 = .ok (.aload_n 0, 1) := by decide +kernel
theorem dX8_readCalendar_82 : decode cX8_readCalendar 82 = .ok (.getfield 118, 3) := by decide +kernel
theorem dX8_readCalendar_85 : decode cX8_readCalendar 85 = .ok (.bipush (-9), 2) := by decide +kernel
theorem dX8_readCalendar_87 : decode cX8_readCalendar 87 = .ok (.if_icmp .eq 7, 3) := by decide +kernel
theorem dX8_readCalendar_90 : decode cX8_readCalendar 90 = .ok (.iconst 1, 1) := by decide +kernel
theorem dX8_readCalendar_91 : decode cX8_readCalendar 91 = .ok (.goto 4, 3) := by decide +kernel
theorem dX8_readCalendar_94 : decode cX8_readCalendar 94 = .ok (.iconst 0, 1) := by decide +kernel
theorem dX8_readCalendar_95 : decode cX8_readCalendar 95 = .ok (.ireturn, 1) := by decide +kernel
theorem dX8_readBill_0 : decode cX8_readBill 0 = .ok (.iconst 5, 1) := by decide +kernel
theorem dX8_readBill_1 : decode cX8_readBill 1 = .ok (.aload_n 0, 1) := by decide +kernel
theorem dX8_readBill_2 : decode cX8_readBill 2 = .ok (.getfield 124, 3) := by decide +kernel
theorem dX8_readBill_5 : decode cX8_readBill 5 = .ok (.imul, 1) := by decide +kernel
theorem dX8_readBill_6 : decode cX8_readBill 6 = .ok (.istore_n 2, 1) := by decide +kernel
theorem dX8_readBill_7 : decode cX8_readBill 7 = .ok (.aload_n 0, 1) := by decide +kernel
theorem dX8_readBill_8 : decode cX8_readBill 8 = .ok (.getfield 75, 3) := by decide +kernel
theorem dX8_readBill_11 : decode cX8_readBill 11 = .ok (.iload_n 1, 1) := by decide +kernel
theorem dX8_readBill_12 : decode cX8_readBill 12 = .ok (.if_icmp .ge 15, 3) := by decide +kernel
theorem dX8_readBill_15 : decode cX8_readBill 15 = .ok (.aload_n 0, 1) := by decide +kernel
theorem dX8_readBill_16 : decode cX8_readBill 16 = .ok (.getfield 16, 3) := by decide +kernel
theorem dX8_readBill_19 : decode cX8_readBill 19 = .ok (.aload_n 0, 1) := by decide +kernel
theorem dX8_readBill_20 : decode cX8_readBill 20 = .ok (.getfield 75, 3) := by decide +kernel
theorem dX8_readBill_23 : decode cX8_readBill 23 = .ok (.iaload, 1) := by decide +kernel
theorem dX8_readBill_24 : decode cX8_readBill 24 = .ok (.goto 4, 3) := by decide +kernel
theorem dX8_readBill_27 : decode cX8_readBill 27 = .ok (.iconst 0, 1) := by decide +kernel
theorem dX8_readBill_28 : decode cX8_readBill 28 = .ok (.istore_n 3, 1) := by decide +kernel
theorem dX8_readBill_29 : decode cX8_readBill 29 = .ok (.aload_n 0, 1) := by decide +kernel
theorem dX8_readBill_30 : decode cX8_readBill 30 = .ok (.getfield 42, 3) := by decide +kernel
theorem dX8_readBill_33 : decode cX8_readBill 33 = .ok (.iload_n 2, 1) := by decide +kernel
theorem dX8_readBill_34 : decode cX8_readBill 34 = .ok (.iload_n 3, 1) := by decide +kernel
theorem dX8_readBill_35 : decode cX8_readBill 35 = .ok (.bipush 98, 2) := by decide +kernel
theorem dX8_readBill_37 : decode cX8_readBill 37 = .ok (.if_icmp .ne 7, 3) := by decide +kernel
theorem dX8_readBill_40 : decode cX8_readBill 40 = .ok (.iconst 0, 1) := by decide +kernel
theorem dX8_readBill_41 : decode cX8_readBill 41 = .ok (.goto 25, 3) := by decide +kernel
theorem dX8_readBill_44 : decode cX8_readBill 44 = .ok (.iload_n 3, 1) := by decide +kernel
theorem dX8_readBill_45 : decode cX8_readBill 45 = .ok (.bipush 115, 2) := by decide +kernel
theorem dX8_readBill_47 : decode cX8_readBill 47 = .ok (.if_icmp .ne 7, 3) := by decide +kernel
theorem dX8_readBill_50 : decode cX8_readBill 50 = .ok (.iconst 1, 1) := by decide +kernel
theorem dX8_readBill_51 : decode cX8_readBill 51 = .ok (.goto 15, 3) := by decide +kernel
theorem dX8_readBill_54 : decode cX8_readBill 54 = .ok (.iload_n 3, 1) := by decide +kernel
theorem dX8_readBill_55 : decode cX8_readBill 55 = .ok (.bipush 114, 2) := by decide +kernel
theorem dX8_readBill_57 : decode cX8_readBill 57 = .ok (.if_icmp .ne 7, 3) := by decide +kernel
theorem dX8_readBill_60 : decode cX8_readBill 60 = .ok (.iconst 2, 1) := by decide +kernel
theorem dX8_readBill_61 : decode cX8_readBill 61 = .ok (.goto 5, 3) := by decide +kernel
theorem dX8_readBill_64 : decode cX8_readBill 64 = .ok (.bipush (-9), 2) := by decide +kernel
theorem dX8_readBill_66 : decode cX8_readBill 66 = .ok (.iastore, 1) := by decide +kernel
theorem dX8_readBill_67 : decode cX8_readBill 67 = .ok (.aload_n 0, 1) := by decide +kernel
theorem dX8_readBill_68 : decode cX8_readBill 68 = .ok (.getfield 42, 3) := by decide +kernel
theorem dX8_readBill_71 : decode cX8_readBill 71 = .ok (.iload_n 2, 1) := by decide +kernel
theorem dX8_readBill_72 : decode cX8_readBill 72 = .ok (.iaload, 1) := by decide +kernel
theorem dX8_readBill_73 : decode cX8_readBill 73 = .ok (.bipush (-9), 2) := by decide +kernel
theorem dX8_readBill_75 : decode cX8_readBill 75 = .ok (.if_icmp .ne 5, 3) := by decide +kernel
theorem dX8_readBill_78 : decode cX8_readBill 78 = .ok (.iconst 0, 1) := by decide +kernel
theorem dX8_readBill_79 : decode cX8_readBill 79 = .ok (.ireturn, 1) := by decide +kernel
theorem dX8_readBill_80 : decode cX8_readBill 80 = .ok (.aload_n 0, 1) := by decide +kernel
theorem dX8_readBill_81 : decode cX8_readBill 81 = .ok (.dup, 1) := by decide +kernel
theorem dX8_readBill_82 : decode cX8_readBill 82 = .ok (.getfield 75, 3) := by decide +kernel
theorem dX8_readBill_85 : decode cX8_readBill 85 = .ok (.iconst 1, 1) := by decide +kernel
theorem dX8_readBill_86 : decode cX8_readBill 86 = .ok (.iadd, 1) := by decide +kernel
theorem dX8_readBill_87 : decode cX8_readBill 87 = .ok (.putfield 75, 3) := by decide +kernel
theorem dX8_readBill_90 : decode cX8_readBill 90 = .ok (.aload_n 0, 1) := by decide +kernel
theorem dX8_readBill_91 : decode cX8_readBill 91 = .ok (.getfield 42, 3) := by decide +kernel
theorem dX8_readBill_94 : decode cX8_readBill 94 = .ok (.iload_n 2, 1) := by decide +kernel
theorem dX8_readBill_95 : decode cX8_readBill 95 = .ok (.iconst 1, 1) := by decide +kernel
theorem dX8_readBill_96 : decode cX8_readBill 96 = .ok (.iadd, 1) := by decide +kernel
theorem dX8_readBill_97 : decode cX8_readBill 97 = .ok (.aload_n 0, 1) := by decide +kernel
theorem dX8_readBill_98 : decode cX8_readBill 98 = .ok (.iload_n 1, 1) := by decide +kernel
theorem dX8_readBill_99 : decode cX8_readBill 99 = .ok (.iconst 0, 1) := by decide +kernel
theorem dX8_readBill_100 : decode cX8_readBill 100 = .ok (.bipush 99, 2) := by decide +kernel
theorem dX8_readBill_102 : decode cX8_readBill 102 = .ok (.invokevirtual 143, 3) := by decide +kernel
theorem dX8_readBill_105 : decode cX8_readBill 105 = .ok (.iastore, 1) := by decide +kernel
theorem dX8_readBill_106 : decode cX8_readBill 106 = .ok (.aload_n 0, 1) := by decide +kernel
theorem dX8_readBill_107 : decode cX8_readBill 107 = .ok (.getfield 42, 3) := by decide +kernel
theorem dX8_readBill_110 : decode cX8_readBill 110 = .ok (.iload_n 2, 1) := by decide +kernel
theorem dX8_readBill_111 : decode cX8_readBill 111 = .ok (.iconst 1, 1) := by decide +kernel
theorem dX8_readBill_112 : decode cX8_readBill 112 = .ok (.iadd, 1) := by decide +kernel
theorem dX8_readBill_113 : decode cX8_readBill 113 = .ok (.iaload, 1) := by decide +kernel
theorem dX8_readBill_114 : decode cX8_readBill 114 = .ok (.bipush (-9), 2) := by decide +kernel
theorem dX8_readBill_116 : decode cX8_readBill 116 = .ok (.if_icmp .ne 5, 3) := by decide +kernel
theorem dX8_readBill_119 : decode cX8_readBill 119 = .ok (.iconst 0, 1) := by decide +kernel
theorem dX8_readBill_120 : decode cX8_readBill 120 = .ok (.ireturn, 1) := by decide +kernel
theorem dX8_readBill_121 : decode cX8_readBill 121 = .ok (.iconst 2, 1) := by decide +kernel
theorem dX8_readBill_122 : decode cX8_readBill 122 = .ok (.istore 4, 2) := by decide +kernel
theorem dX8_readBill_124 : decode cX8_readBill 124 = .ok (.iload 4, 2) := by decide +kernel
theorem dX8_readBill_126 : decode cX8_readBill 126 = .ok (.iconst 5, 1) := by decide +kernel
theorem dX8_readBill_127 : decode cX8_readBill 127 = .ok (.if_icmp .ge 63, 3) := by decide +kernel
theorem dX8_readBill_130 : decode cX8_readBill 130 = .ok (.aload_n 0, 1) := by decide +kernel
theorem dX8_readBill_131 : decode cX8_readBill 131 = .ok (.getfield 42, 3) := by decide +kernel
theorem dX8_readBill_134 : decode cX8_readBill 134 = .ok (.iload_n 2, 1) := by decide +kernel
theorem dX8_readBill_135 : decode cX8_readBill 135 = .ok (.iload 4, 2) := by decide +kernel
theorem dX8_readBill_137 : decode cX8_readBill 137 = .ok (.iadd, 1) := by decide +kernel
theorem dX8_readBill_138 : decode cX8_readBill 138 = .ok (.aload_n 0, 1) := by decide +kernel
theorem dX8_readBill_139 : decode cX8_readBill 139 = .ok (.iload_n 1, 1) := by decide +kernel
theorem dX8_readBill_140 : decode cX8_readBill 140 = .ok (.iload 4, 2) := by decide +kernel
theorem dX8_readBill_142 : decode cX8_readBill 142 = .ok (.iconst 4, 1) := by decide +kernel
theorem dX8_readBill_143 : decode cX8_readBill 143 = .ok (.if_icmp .ne 7, 3) := by decide +kernel
theorem dX8_readBill_146 : decode cX8_readBill 146 = .ok (.iconst 1, 1) := by decide +kernel
theorem dX8_readBill_147 : decode cX8_readBill 147 = .ok (.goto 4, 3) := by decide +kernel
theorem dX8_readBill_150 : decode cX8_readBill 150 = .ok (.iconst 0, 1) := by decide +kernel
theorem dX8_readBill_151 : decode cX8_readBill 151 = .ok (.iload 4, 2) := by decide +kernel
theorem dX8_readBill_153 : decode cX8_readBill 153 = .ok (.iconst 4, 1) := by decide +kernel
theorem dX8_readBill_154 : decode cX8_readBill 154 = .ok (.if_icmp .ne 8, 3) := by decide +kernel
theorem dX8_readBill_157 : decode cX8_readBill 157 = .ok (.bipush 9, 2) := by decide +kernel
theorem dX8_readBill_159 : decode cX8_readBill 159 = .ok (.goto 5, 3) := by decide +kernel
theorem dX8_readBill_162 : decode cX8_readBill 162 = .ok (.bipush 6, 2) := by decide +kernel
theorem dX8_readBill_164 : decode cX8_readBill 164 = .ok (.invokevirtual 78, 3) := by decide +kernel
theorem dX8_readBill_167 : decode cX8_readBill 167 = .ok (.iastore, 1) := by decide +kernel
theorem dX8_readBill_168 : decode cX8_readBill 168 = .ok (.aload_n 0, 1) := by decide +kernel
theorem dX8_readBill_169 : decode cX8_readBill 169 = .ok (.getfield 42, 3) := by decide +kernel
theorem dX8_readBill_172 : decode cX8_readBill 172 = .ok (.iload_n 2, 1) := by decide +kernel
theorem dX8_readBill_173 : decode cX8_readBill 173 = .ok (.iload 4, 2) := by decide +kernel
theorem dX8_readBill_175 : decode cX8_readBill 175 = .ok (.iadd, 1) := by decide +kernel
theorem dX8_readBill_176 : decode cX8_readBill 176 = .ok (.iaload, 1) := by decide +kernel
theorem dX8_readBill_177 : decode cX8_readBill 177 = .ok (.bipush (-9), 2) := by decide +kernel
theorem dX8_readBill_179 : decode cX8_readBill 179 = .ok (.if_icmp .ne 5, 3) := by decide +kernel
theorem dX8_readBill_182 : decode cX8_readBill 182 = .ok (.iconst 0, 1) := by decide +kernel
theorem dX8_readBill_183 : decode cX8_readBill 183 = .ok (.ireturn, 1) := by decide +kernel
theorem dX8_readBill_184 : decode cX8_readBill 184 = .ok (.iinc 4 1, 3) := by decide +kernel
theorem dX8_readBill_187 : decode cX8_readBill 187 = .ok (.goto (-63), 3) := by decide +kernel
theorem dX8_readBill_190 : decode cX8_readBill 190 = .ok (.aload_n 0, 1) := by decide +kernel
theorem dX8_readBill_191 : decode cX8_readBill 191 = .ok (.dup, 1) := by decide +kernel
theorem dX8_readBill_192 : decode cX8_readBill 192 = .ok (.getfield 124, 3) := by decide +kernel
theorem dX8_readBill_195 : decode cX8_readBill 195 = .ok (.iconst 1, 1) := by decide +kernel
theorem dX8_readBill_196 : decode cX8_readBill 196 = .ok (.iadd, 1) := by decide +kernel
theorem dX8_readBill_197 : decode cX8_readBill 197 = .ok (.putfield 124, 3) := by decide +kernel
theorem dX8_readBill_200 : decode cX8_readBill 200 = .ok (.iconst 1, 1) := by decide +kernel
theorem dX8_readBill_201 : decode cX8_readBill 201 = .ok (.ireturn, 1) := by decide +kernel
theorem dX8_ofBill_0 : decode cX8_ofBill 0 = .ok (.aload_n 0, 1) := by decide +kernel
theorem dX8_ofBill_1 : decode cX8_ofBill 1 = .ok (.iload_n 1, 1) := by decide +kernel
theorem dX8_ofBill_2 : decode cX8_ofBill 2 = .ok (.invokevirtual 146, 3) := by decide +kernel
theorem dX8_ofBill_5 : decode cX8_ofBill 5 = .ok (.ifCond .ne 5, 3) := by decide +kernel
theorem dX8_ofBill_8 : decode cX8_ofBill 8 = .ok (.iconst (-1), 1) := by decide +kernel
theorem dX8_ofBill_9 : decode cX8_ofBill 9 = .ok (.ireturn, 1) := by decide +kernel
theorem dX8_ofBill_10 : decode cX8_ofBill 10 = .ok (.iload_n 2, 1) := by decide +kernel
theorem dX8_ofBill_11 : decode cX8_ofBill 11 = .ok (.tableswitch 68 0 4 #[33, 40, 47, 54, 61], 33) := by decide +kernel
theorem dX8_ofBill_44 : decode cX8_ofBill 44 = .ok (.aload_n 0, 1) := by decide +kernel
theorem dX8_ofBill_45 : decode cX8_ofBill 45 = .ok (.getfield 19, 3) := by decide +kernel
theorem dX8_ofBill_48 : decode cX8_ofBill 48 = .ok (.iload_n 1, 1) := by decide +kernel
theorem dX8_ofBill_49 : decode cX8_ofBill 49 = .ok (.iaload, 1) := by decide +kernel
theorem dX8_ofBill_50 : decode cX8_ofBill 50 = .ok (.ireturn, 1) := by decide +kernel
theorem dX8_ofBill_51 : decode cX8_ofBill 51 = .ok (.aload_n 0, 1) := by decide +kernel
theorem dX8_ofBill_52 : decode cX8_ofBill 52 = .ok (.getfield 22, 3) := by decide +kernel
theorem dX8_ofBill_55 : decode cX8_ofBill 55 = .ok (.iload_n 1, 1) := by decide +kernel
theorem dX8_ofBill_56 : decode cX8_ofBill 56 = .ok (.iaload, 1) := by decide +kernel
theorem dX8_ofBill_57 : decode cX8_ofBill 57 = .ok (.ireturn, 1) := by decide +kernel
theorem dX8_ofBill_58 : decode cX8_ofBill 58 = .ok (.aload_n 0, 1) := by decide +kernel
theorem dX8_ofBill_59 : decode cX8_ofBill 59 = .ok (.getfield 25, 3) := by decide +kernel
theorem dX8_ofBill_62 : decode cX8_ofBill 62 = .ok (.iload_n 1, 1) := by decide +kernel
theorem dX8_ofBill_63 : decode cX8_ofBill 63 = .ok (.iaload, 1) := by decide +kernel
theorem dX8_ofBill_64 : decode cX8_ofBill 64 = .ok (.ireturn, 1) := by decide +kernel
theorem dX8_ofBill_65 : decode cX8_ofBill 65 = .ok (.aload_n 0, 1) := by decide +kernel
theorem dX8_ofBill_66 : decode cX8_ofBill 66 = .ok (.getfield 28, 3) := by decide +kernel
theorem dX8_ofBill_69 : decode cX8_ofBill 69 = .ok (.iload_n 1, 1) := by decide +kernel
theorem dX8_ofBill_70 : decode cX8_ofBill 70 = .ok (.iaload, 1) := by decide +kernel
theorem dX8_ofBill_71 : decode cX8_ofBill 71 = .ok (.ireturn, 1) := by decide +kernel
theorem dX8_ofBill_72 : decode cX8_ofBill 72 = .ok (.aload_n 0, 1) := by decide +kernel
theorem dX8_ofBill_73 : decode cX8_ofBill 73 = .ok (.getfield 31, 3) := by decide +kernel
theorem dX8_ofBill_76 : decode cX8_ofBill 76 = .ok (.iload_n 1, 1) := by decide +kernel
theorem dX8_ofBill_77 : decode cX8_ofBill 77 = .ok (.iaload, 1) := by decide +kernel
theorem dX8_ofBill_78 : decode cX8_ofBill 78 = .ok (.ireturn, 1) := by decide +kernel
theorem dX8_ofBill_79 : decode cX8_ofBill 79 = .ok (.bipush (-2), 2) := by decide +kernel
theorem dX8_ofBill_81 : decode cX8_ofBill 81 = .ok (.ireturn, 1) := by decide +kernel
theorem dX8_moonDay_0 : decode cX8_moonDay 0 = .ok (.aload_n 0, 1) := by decide +kernel
theorem dX8_moonDay_1 : decode cX8_moonDay 1 = .ok (.getfield 103, 3) := by decide +kernel
theorem dX8_moonDay_4 : decode cX8_moonDay 4 = .ok (.iload_n 1, 1) := by decide +kernel
theorem dX8_moonDay_5 : decode cX8_moonDay 5 = .ok (.aload_n 0, 1) := by decide +kernel
theorem dX8_moonDay_6 : decode cX8_moonDay 6 = .ok (.getfield 109, 3) := by decide +kernel
theorem dX8_moonDay_9 : decode cX8_moonDay 9 = .ok (.imul, 1) := by decide +kernel
theorem dX8_moonDay_10 : decode cX8_moonDay 10 = .ok (.aload_n 0, 1) := by decide +kernel
theorem dX8_moonDay_11 : decode cX8_moonDay 11 = .ok (.getfield 115, 3) := by decide +kernel
theorem dX8_moonDay_14 : decode cX8_moonDay 14 = .ok (.idiv, 1) := by decide +kernel
theorem dX8_moonDay_15 : decode cX8_moonDay 15 = .ok (.iadd, 1) := by decide +kernel
theorem dX8_moonDay_16 : decode cX8_moonDay 16 = .ok (.ireturn, 1) := by decide +kernel
theorem dX8_moon_0 : decode cX8_moon 0 = .ok (.iload_n 1, 1) := by decide +kernel
theorem dX8_moon_1 : decode cX8_moon 1 = .ok (.iconst 0, 1) := by decide +kernel
theorem dX8_moon_2 : decode cX8_moon 2 = .ok (.bipush 99, 2) := by decide +kernel
theorem dX8_moon_4 : decode cX8_moon 4 = .ok (.invokestatic 68, 3) := by decide +kernel
theorem dX8_moon_7 : decode cX8_moon 7 = .ok (.ifCond .ne 6, 3) := by decide +kernel
theorem dX8_moon_10 : decode cX8_moon 10 = .ok (.bipush (-2), 2) := by decide +kernel
theorem dX8_moon_12 : decode cX8_moon 12 = .ok (.ireturn, 1) := by decide +kernel
theorem dX8_moon_13 : decode cX8_moon 13 = .ok (.aload_n 0, 1) := by decide +kernel
theorem dX8_moon_14 : decode cX8_moon 14 = .ok (.getfield 72, 3) := by decide +kernel
theorem dX8_moon_17 : decode cX8_moon 17 = .ok (.ifCond .ne 8, 3) := by decide +kernel
theorem dX8_moon_20 : decode cX8_moon 20 = .ok (.bipush (-3), 2) := by decide +kernel
theorem dX8_moon_22 : decode cX8_moon 22 = .ok (.goto 8, 3) := by decide +kernel
theorem dX8_moon_25 : decode cX8_moon 25 = .ok (.aload_n 0, 1) := by decide +kernel
theorem dX8_moon_26 : decode cX8_moon 26 = .ok (.iload_n 1, 1) := by decide +kernel
theorem dX8_moon_27 : decode cX8_moon 27 = .ok (.invokevirtual 149, 3) := by decide +kernel
theorem dX8_moon_30 : decode cX8_moon 30 = .ok (.ireturn, 1) := by decide +kernel
theorem dX8_span_0 : decode cX8_span 0 = .ok (.iload_n 1, 1) := by decide +kernel
theorem dX8_span_1 : decode cX8_span 1 = .ok (.iconst 0, 1) := by decide +kernel
theorem dX8_span_2 : decode cX8_span 2 = .ok (.bipush 9, 2) := by decide +kernel
theorem dX8_span_4 : decode cX8_span 4 = .ok (.invokestatic 68, 3) := by decide +kernel
theorem dX8_span_7 : decode cX8_span 7 = .ok (.ifCond .ne 6, 3) := by decide +kernel
theorem dX8_span_10 : decode cX8_span 10 = .ok (.bipush (-2), 2) := by decide +kernel
theorem dX8_span_12 : decode cX8_span 12 = .ok (.ireturn, 1) := by decide +kernel
theorem dX8_span_13 : decode cX8_span 13 = .ok (.aload_n 0, 1) := by decide +kernel
theorem dX8_span_14 : decode cX8_span 14 = .ok (.getfield 72, 3) := by decide +kernel
theorem dX8_span_17 : decode cX8_span 17 = .ok (.ifCond .ne 6, 3) := by decide +kernel
theorem dX8_span_20 : decode cX8_span 20 = .ok (.bipush (-3), 2) := by decide +kernel
theorem dX8_span_22 : decode cX8_span 22 = .ok (.ireturn, 1) := by decide +kernel
theorem dX8_span_23 : decode cX8_span 23 = .ok (.aload_n 0, 1) := by decide +kernel
theorem dX8_span_24 : decode cX8_span 24 = .ok (.getfield 121, 3) := by decide +kernel
theorem dX8_span_27 : decode cX8_span 27 = .ok (.istore_n 2, 1) := by decide +kernel
theorem dX8_span_28 : decode cX8_span 28 = .ok (.aload_n 0, 1) := by decide +kernel
theorem dX8_span_29 : decode cX8_span 29 = .ok (.iload_n 1, 1) := by decide +kernel
theorem dX8_span_30 : decode cX8_span 30 = .ok (.putfield 121, 3) := by decide +kernel
theorem dX8_span_33 : decode cX8_span 33 = .ok (.iload_n 2, 1) := by decide +kernel
theorem dX8_span_34 : decode cX8_span 34 = .ok (.ireturn, 1) := by decide +kernel
theorem dX8_move_0 : decode cX8_move 0 = .ok (.aload_n 0, 1) := by decide +kernel
theorem dX8_move_1 : decode cX8_move 1 = .ok (.iload_n 1, 1) := by decide +kernel
theorem dX8_move_2 : decode cX8_move 2 = .ok (.invokevirtual 146, 3) := by decide +kernel
theorem dX8_move_5 : decode cX8_move 5 = .ok (.ifCond .ne 5, 3) := by decide +kernel
theorem dX8_move_8 : decode cX8_move 8 = .ok (.iconst (-1), 1) := by decide +kernel
theorem dX8_move_9 : decode cX8_move 9 = .ok (.ireturn, 1) := by decide +kernel
theorem dX8_move_10 : decode cX8_move 10 = .ok (.iload_n 2, 1) := by decide +kernel
theorem dX8_move_11 : decode cX8_move 11 = .ok (.iconst 0, 1) := by decide +kernel
theorem dX8_move_12 : decode cX8_move 12 = .ok (.bipush 99, 2) := by decide +kernel
theorem dX8_move_14 : decode cX8_move 14 = .ok (.invokestatic 68, 3) := by decide +kernel
theorem dX8_move_17 : decode cX8_move 17 = .ok (.ifCond .ne 6, 3) := by decide +kernel
theorem dX8_move_20 : decode cX8_move 20 = .ok (.bipush (-2), 2) := by decide +kernel
theorem dX8_move_22 : decode cX8_move 22 = .ok (.ireturn, 1) := by decide +kernel
theorem dX8_move_23 : decode cX8_move 23 = .ok (.aload_n 0, 1) := by decide +kernel
theorem dX8_move_24 : decode cX8_move 24 = .ok (.getfield 22, 3) := by decide +kernel
theorem dX8_move_27 : decode cX8_move 27 = .ok (.iload_n 1, 1) := by decide +kernel
theorem dX8_move_28 : decode cX8_move 28 = .ok (.iaload, 1) := by decide +kernel
theorem dX8_move_29 : decode cX8_move 29 = .ok (.istore_n 3, 1) := by decide +kernel
theorem dX8_move_30 : decode cX8_move 30 = .ok (.aload_n 0, 1) := by decide +kernel
theorem dX8_move_31 : decode cX8_move 31 = .ok (.getfield 22, 3) := by decide +kernel
theorem dX8_move_34 : decode cX8_move 34 = .ok (.iload_n 1, 1) := by decide +kernel
theorem dX8_move_35 : decode cX8_move 35 = .ok (.iload_n 2, 1) := by decide +kernel
theorem dX8_move_36 : decode cX8_move 36 = .ok (.iastore, 1) := by decide +kernel
theorem dX8_move_37 : decode cX8_move 37 = .ok (.iload_n 3, 1) := by decide +kernel
theorem dX8_move_38 : decode cX8_move 38 = .ok (.ireturn, 1) := by decide +kernel
theorem dX8_cloud_0 : decode cX8_cloud 0 = .ok (.iload_n 1, 1) := by decide +kernel
theorem dX8_cloud_1 : decode cX8_cloud 1 = .ok (.invokestatic 152, 3) := by decide +kernel
theorem dX8_cloud_4 : decode cX8_cloud 4 = .ok (.ifCond .ne 6, 3) := by decide +kernel
theorem dX8_cloud_7 : decode cX8_cloud 7 = .ok (.bipush (-2), 2) := by decide +kernel
theorem dX8_cloud_9 : decode cX8_cloud 9 = .ok (.ireturn, 1) := by decide +kernel
theorem dX8_cloud_10 : decode cX8_cloud 10 = .ok (.aload_n 0, 1) := by decide +kernel
theorem dX8_cloud_11 : decode cX8_cloud 11 = .ok (.getfield 72, 3) := by decide +kernel
theorem dX8_cloud_14 : decode cX8_cloud 14 = .ok (.ifCond .ne 6, 3) := by decide +kernel
theorem dX8_cloud_17 : decode cX8_cloud 17 = .ok (.bipush (-3), 2) := by decide +kernel
theorem dX8_cloud_19 : decode cX8_cloud 19 = .ok (.ireturn, 1) := by decide +kernel
theorem dX8_cloud_20 : decode cX8_cloud 20 = .ok (.aload_n 0, 1) := by decide +kernel
theorem dX8_cloud_21 : decode cX8_cloud 21 = .ok (.getfield 34, 3) := by decide +kernel
theorem dX8_cloud_24 : decode cX8_cloud 24 = .ok (.iload_n 1, 1) := by decide +kernel
theorem dX8_cloud_25 : decode cX8_cloud 25 = .ok (.baload, 1) := by decide +kernel
theorem dX8_cloud_26 : decode cX8_cloud 26 = .ok (.istore_n 3, 1) := by decide +kernel
theorem dX8_cloud_27 : decode cX8_cloud 27 = .ok (.aload_n 0, 1) := by decide +kernel
theorem dX8_cloud_28 : decode cX8_cloud 28 = .ok (.getfield 34, 3) := by decide +kernel
theorem dX8_cloud_31 : decode cX8_cloud 31 = .ok (.iload_n 1, 1) := by decide +kernel
theorem dX8_cloud_32 : decode cX8_cloud 32 = .ok (.iload_n 2, 1) := by decide +kernel
theorem dX8_cloud_33 : decode cX8_cloud 33 = .ok (.bastore, 1) := by decide +kernel
theorem dX8_cloud_34 : decode cX8_cloud 34 = .ok (.aload_n 0, 1) := by decide +kernel
theorem dX8_cloud_35 : decode cX8_cloud 35 = .ok (.dup, 1) := by decide +kernel
theorem dX8_cloud_36 : decode cX8_cloud 36 = .ok (.getfield 127, 3) := by decide +kernel
theorem dX8_cloud_39 : decode cX8_cloud 39 = .ok (.iload_n 3, 1) := by decide +kernel
theorem dX8_cloud_40 : decode cX8_cloud 40 = .ok (.iload_n 2, 1) := by decide +kernel
theorem dX8_cloud_41 : decode cX8_cloud 41 = .ok (.if_icmp .ne 7, 3) := by decide +kernel
theorem dX8_cloud_44 : decode cX8_cloud 44 = .ok (.iconst 0, 1) := by decide +kernel
theorem dX8_cloud_45 : decode cX8_cloud 45 = .ok (.goto 12, 3) := by decide +kernel
theorem dX8_cloud_48 : decode cX8_cloud 48 = .ok (.iload_n 2, 1) := by decide +kernel
theorem dX8_cloud_49 : decode cX8_cloud 49 = .ok (.ifCond .eq 7, 3) := by decide +kernel
theorem dX8_cloud_52 : decode cX8_cloud 52 = .ok (.iconst 1, 1) := by decide +kernel
theorem dX8_cloud_53 : decode cX8_cloud 53 = .ok (.goto 4, 3) := by decide +kernel
theorem dX8_cloud_56 : decode cX8_cloud 56 = .ok (.iconst (-1), 1) := by decide +kernel
theorem dX8_cloud_57 : decode cX8_cloud 57 = .ok (.iadd, 1) := by decide +kernel
theorem dX8_cloud_58 : decode cX8_cloud 58 = .ok (.putfield 127, 3) := by decide +kernel
theorem dX8_cloud_61 : decode cX8_cloud 61 = .ok (.iload_n 3, 1) := by decide +kernel
theorem dX8_cloud_62 : decode cX8_cloud 62 = .ok (.iload_n 2, 1) := by decide +kernel
theorem dX8_cloud_63 : decode cX8_cloud 63 = .ok (.if_icmp .ne 7, 3) := by decide +kernel
theorem dX8_cloud_66 : decode cX8_cloud 66 = .ok (.iconst 0, 1) := by decide +kernel
theorem dX8_cloud_67 : decode cX8_cloud 67 = .ok (.goto 4, 3) := by decide +kernel
theorem dX8_cloud_70 : decode cX8_cloud 70 = .ok (.iconst 1, 1) := by decide +kernel
theorem dX8_cloud_71 : decode cX8_cloud 71 = .ok (.ireturn, 1) := by decide +kernel
theorem dX8_moons_0 : decode cX8_moons 0 = .ok (.iconst 0, 1) := by decide +kernel
theorem dX8_moons_1 : decode cX8_moons 1 = .ok (.istore_n 1, 1) := by decide +kernel
theorem dX8_moons_2 : decode cX8_moons 2 = .ok (.aload_n 0, 1) := by decide +kernel
theorem dX8_moons_3 : decode cX8_moons 3 = .ok (.iload_n 1, 1) := by decide +kernel
theorem dX8_moons_4 : decode cX8_moons 4 = .ok (.invokevirtual 149, 3) := by decide +kernel
theorem dX8_moons_7 : decode cX8_moons 7 = .ok (.bipush 110, 2) := by decide +kernel
theorem dX8_moons_9 : decode cX8_moons 9 = .ok (.if_icmp .ge 9, 3) := by decide +kernel
theorem dX8_moons_12 : decode cX8_moons 12 = .ok (.iinc 1 1, 3) := by decide +kernel
theorem dX8_moons_15 : decode cX8_moons 15 = .ok (.goto (-13), 3) := by decide +kernel
theorem dX8_moons_18 : decode cX8_moons 18 = .ok (.iload_n 1, 1) := by decide +kernel
theorem dX8_moons_19 : decode cX8_moons 19 = .ok (.ireturn, 1) := by decide +kernel
theorem dX8_isDark_0 : decode cX8_isDark 0 = .ok (.aload_n 0, 1) := by decide +kernel
theorem dX8_isDark_1 : decode cX8_isDark 1 = .ok (.getfield 155, 3) := by decide +kernel
theorem dX8_isDark_4 : decode cX8_isDark 4 = .ok (.iload_n 1, 1) := by decide +kernel
theorem dX8_isDark_5 : decode cX8_isDark 5 = .ok (.ishr, 1) := by decide +kernel
theorem dX8_isDark_6 : decode cX8_isDark 6 = .ok (.iconst 1, 1) := by decide +kernel
theorem dX8_isDark_7 : decode cX8_isDark 7 = .ok (.iand, 1) := by decide +kernel
theorem dX8_isDark_8 : decode cX8_isDark 8 = .ok (.iconst 1, 1) := by decide +kernel
theorem dX8_isDark_9 : decode cX8_isDark 9 = .ok (.if_icmp .eq 23, 3) := by decide +kernel
theorem dX8_isDark_12 : decode cX8_isDark 12 = .ok (.aload_n 0, 1) := by decide +kernel
theorem dX8_isDark_13 : decode cX8_isDark 13 = .ok (.getfield 158, 3) := by decide +kernel
theorem dX8_isDark_16 : decode cX8_isDark 16 = .ok (.ifCond .ne 20, 3) := by decide +kernel
theorem dX8_isDark_19 : decode cX8_isDark 19 = .ok (.aload_n 0, 1) := by decide +kernel
theorem dX8_isDark_20 : decode cX8_isDark 20 = .ok (.getfield 34, 3) := by decide +kernel
theorem dX8_isDark_23 : decode cX8_isDark 23 = .ok (.aload_n 0, 1) := by decide +kernel
theorem dX8_isDark_24 : decode cX8_isDark 24 = .ok (.iload_n 1, 1) := by decide +kernel
theorem dX8_isDark_25 : decode cX8_isDark 25 = .ok (.invokevirtual 149, 3) := by decide +kernel
theorem dX8_isDark_28 : decode cX8_isDark 28 = .ok (.baload, 1) := by decide +kernel
theorem dX8_isDark_29 : decode cX8_isDark 29 = .ok (.ifCond .eq 7, 3) := by decide +kernel
theorem dX8_isDark_32 : decode cX8_isDark 32 = .ok (.iconst 1, 1) := by decide +kernel
theorem dX8_isDark_33 : decode cX8_isDark 33 = .ok (.goto 4, 3) := by decide +kernel
theorem dX8_isDark_36 : decode cX8_isDark 36 = .ok (.iconst 0, 1) := by decide +kernel
theorem dX8_isDark_37 : decode cX8_isDark 37 = .ok (.ireturn, 1) := by decide +kernel
theorem dX8_struckOn_0 : decode cX8_struckOn 0 = .ok (.iconst 0, 1) := by decide +kernel
theorem dX8_struckOn_1 : decode cX8_struckOn 1 = .ok (.istore_n 2, 1) := by decide +kernel
theorem dX8_struckOn_2 : decode cX8_struckOn 2 = .ok (.aload_n 0, 1) := by decide +kernel
theorem dX8_struckOn_3 : decode cX8_struckOn 3 = .ok (.iload_n 2, 1) := by decide +kernel
theorem dX8_struckOn_4 : decode cX8_struckOn 4 = .ok (.invokevirtual 149, 3) := by decide +kernel
theorem dX8_struckOn_7 : decode cX8_struckOn 7 = .ok (.bipush 110, 2) := by decide +kernel
theorem dX8_struckOn_9 : decode cX8_struckOn 9 = .ok (.if_icmp .ge 51, 3) := by decide +kernel
theorem dX8_struckOn_12 : decode cX8_struckOn 12 = .ok (.aload_n 0, 1) := by decide +kernel
theorem dX8_struckOn_13 : decode cX8_struckOn 13 = .ok (.iload_n 2, 1) := by decide +kernel
theorem dX8_struckOn_14 : decode cX8_struckOn 14 = .ok (.invokevirtual 149, 3) := by decide +kernel
theorem dX8_struckOn_17 : decode cX8_struckOn 17 = .ok (.aload_n 0, 1) := by decide +kernel
theorem dX8_struckOn_18 : decode cX8_struckOn 18 = .ok (.getfield 22, 3) := by decide +kernel
theorem dX8_struckOn_21 : decode cX8_struckOn 21 = .ok (.iload_n 1, 1) := by decide +kernel
theorem dX8_struckOn_22 : decode cX8_struckOn 22 = .ok (.iaload, 1) := by decide +kernel
theorem dX8_struckOn_23 : decode cX8_struckOn 23 = .ok (.aload_n 0, 1) := by decide +kernel
theorem dX8_struckOn_24 : decode cX8_struckOn 24 = .ok (.getfield 22, 3) := by decide +kernel
theorem dX8_struckOn_27 : decode cX8_struckOn 27 = .ok (.iload_n 1, 1) := by decide +kernel
theorem dX8_struckOn_28 : decode cX8_struckOn 28 = .ok (.iaload, 1) := by decide +kernel
theorem dX8_struckOn_29 : decode cX8_struckOn 29 = .ok (.aload_n 0, 1) := by decide +kernel
theorem dX8_struckOn_30 : decode cX8_struckOn 30 = .ok (.getfield 121, 3) := by decide +kernel
theorem dX8_struckOn_33 : decode cX8_struckOn 33 = .ok (.iadd, 1) := by decide +kernel
theorem dX8_struckOn_34 : decode cX8_struckOn 34 = .ok (.invokestatic 68, 3) := by decide +kernel
theorem dX8_struckOn_37 : decode cX8_struckOn 37 = .ok (.ifCond .eq 17, 3) := by decide +kernel
theorem dX8_struckOn_40 : decode cX8_struckOn 40 = .ok (.aload_n 0, 1) := by decide +kernel
theorem dX8_struckOn_41 : decode cX8_struckOn 41 = .ok (.iload_n 2, 1) := by decide +kernel
theorem dX8_struckOn_42 : decode cX8_struckOn 42 = .ok (.invokevirtual 162, 3) := by decide +kernel
theorem dX8_struckOn_45 : decode cX8_struckOn 45 = .ok (.ifCond .ne 9, 3) := by decide +kernel
theorem dX8_struckOn_48 : decode cX8_struckOn 48 = .ok (.aload_n 0, 1) := by decide +kernel
theorem dX8_struckOn_49 : decode cX8_struckOn 49 = .ok (.iload_n 2, 1) := by decide +kernel
theorem dX8_struckOn_50 : decode cX8_struckOn 50 = .ok (.invokevirtual 149, 3) := by decide +kernel
theorem dX8_struckOn_53 : decode cX8_struckOn 53 = .ok (.ireturn, 1) := by decide +kernel
theorem dX8_struckOn_54 : decode cX8_struckOn 54 = .ok (.iinc 2 1, 3) := by decide +kernel
theorem dX8_struckOn_57 : decode cX8_struckOn 57 = .ok (.goto (-55), 3) := by decide +kernel
theorem dX8_struckOn_60 : decode cX8_struckOn 60 = .ok (.bipush (-9), 2) := by decide +kernel
theorem dX8_struckOn_62 : decode cX8_struckOn 62 = .ok (.ireturn, 1) := by decide +kernel
theorem dX8_struck_0 : decode cX8_struck 0 = .ok (.aload_n 0, 1) := by decide +kernel
theorem dX8_struck_1 : decode cX8_struck 1 = .ok (.iload_n 1, 1) := by decide +kernel
theorem dX8_struck_2 : decode cX8_struck 2 = .ok (.invokevirtual 146, 3) := by decide +kernel
theorem dX8_struck_5 : decode cX8_struck 5 = .ok (.ifCond .eq 11, 3) := by decide +kernel
theorem dX8_struck_8 : decode cX8_struck 8 = .ok (.aload_n 0, 1) := by decide +kernel
theorem dX8_struck_9 : decode cX8_struck 9 = .ok (.iload_n 1, 1) := by decide +kernel
theorem dX8_struck_10 : decode cX8_struck 10 = .ok (.invokevirtual 165, 3) := by decide +kernel
theorem dX8_struck_13 : decode cX8_struck 13 = .ok (.goto 4, 3) := by decide +kernel
theorem dX8_struck_16 : decode cX8_struck 16 = .ok (.iconst (-1), 1) := by decide +kernel
theorem dX8_struck_17 : decode cX8_struck 17 = .ok (.ireturn, 1) := by decide +kernel
theorem dX8_layOrder_0 : decode cX8_layOrder 0 = .ok (.iconst 0, 1) := by decide +kernel
theorem dX8_layOrder_1 : decode cX8_layOrder 1 = .ok (.istore_n 1, 1) := by decide +kernel
theorem dX8_layOrder_2 : decode cX8_layOrder 2 = .ok (.iload_n 1, 1) := by decide +kernel
theorem dX8_layOrder_3 : decode cX8_layOrder 3 = .ok (.aload_n 0, 1) := by decide +kernel
theorem dX8_layOrder_4 : decode cX8_layOrder 4 = .ok (.getfield 72, 3) := by decide +kernel
theorem dX8_layOrder_7 : decode cX8_layOrder 7 = .ok (.if_icmp .ge 64, 3) := by decide +kernel
theorem dX8_layOrder_10 : decode cX8_layOrder 10 = .ok (.iload_n 1, 1) := by decide +kernel
theorem dX8_layOrder_11 : decode cX8_layOrder 11 = .ok (.istore_n 2, 1) := by decide +kernel
theorem dX8_layOrder_12 : decode cX8_layOrder 12 = .ok (.iload_n 2, 1) := by decide +kernel
theorem dX8_layOrder_13 : decode cX8_layOrder 13 = .ok (.ifCond .le 45, 3) := by decide +kernel
theorem dX8_layOrder_16 : decode cX8_layOrder 16 = .ok (.aload_n 0, 1) := by decide +kernel
theorem dX8_layOrder_17 : decode cX8_layOrder 17 = .ok (.getfield 22, 3) := by decide +kernel
theorem dX8_layOrder_20 : decode cX8_layOrder 20 = .ok (.aload_n 0, 1) := by decide +kernel
theorem dX8_layOrder_21 : decode cX8_layOrder 21 = .ok (.getfield 45, 3) := by decide +kernel
theorem dX8_layOrder_24 : decode cX8_layOrder 24 = .ok (.iload_n 2, 1) := by decide +kernel
theorem dX8_layOrder_25 : decode cX8_layOrder 25 = .ok (.iconst 1, 1) := by decide +kernel
theorem dX8_layOrder_26 : decode cX8_layOrder 26 = .ok (.isub, 1) := by decide +kernel
theorem dX8_layOrder_27 : decode cX8_layOrder 27 = .ok (.iaload, 1) := by decide +kernel
theorem dX8_layOrder_28 : decode cX8_layOrder 28 = .ok (.iaload, 1) := by decide +kernel
theorem dX8_layOrder_29 : decode cX8_layOrder 29 = .ok (.aload_n 0, 1) := by decide +kernel
theorem dX8_layOrder_30 : decode cX8_layOrder 30 = .ok (.getfield 22, 3) := by decide +kernel
theorem dX8_layOrder_33 : decode cX8_layOrder 33 = .ok (.iload_n 1, 1) := by decide +kernel
theorem dX8_layOrder_34 : decode cX8_layOrder 34 = .ok (.iaload, 1) := by decide +kernel
theorem dX8_layOrder_35 : decode cX8_layOrder 35 = .ok (.if_icmp .le 23, 3) := by decide +kernel
theorem dX8_layOrder_38 : decode cX8_layOrder 38 = .ok (.aload_n 0, 1) := by decide +kernel
theorem dX8_layOrder_39 : decode cX8_layOrder 39 = .ok (.getfield 45, 3) := by decide +kernel
theorem dX8_layOrder_42 : decode cX8_layOrder 42 = .ok (.iload_n 2, 1) := by decide +kernel
theorem dX8_layOrder_43 : decode cX8_layOrder 43 = .ok (.aload_n 0, 1) := by decide +kernel
theorem dX8_layOrder_44 : decode cX8_layOrder 44 = .ok (.getfield 45, 3) := by decide +kernel
theorem dX8_layOrder_47 : decode cX8_layOrder 47 = .ok (.iload_n 2, 1) := by decide +kernel
theorem dX8_layOrder_48 : decode cX8_layOrder 48 = .ok (.iconst 1, 1) := by decide +kernel
theorem dX8_layOrder_49 : decode cX8_layOrder 49 = .ok (.isub, 1) := by decide +kernel
theorem dX8_layOrder_50 : decode cX8_layOrder 50 = .ok (.iaload, 1) := by decide +kernel
theorem dX8_layOrder_51 : decode cX8_layOrder 51 = .ok (.iastore, 1) := by decide +kernel
theorem dX8_layOrder_52 : decode cX8_layOrder 52 = .ok (.iinc 2 (-1), 3) := by decide +kernel
theorem dX8_layOrder_55 : decode cX8_layOrder 55 = .ok (.goto (-43), 3) := by decide +kernel
theorem dX8_layOrder_58 : decode cX8_layOrder 58 = .ok (.aload_n 0, 1) := by decide +kernel
theorem dX8_layOrder_59 : decode cX8_layOrder 59 = .ok (.getfield 45, 3) := by decide +kernel
theorem dX8_layOrder_62 : decode cX8_layOrder 62 = .ok (.iload_n 2, 1) := by decide +kernel
theorem dX8_layOrder_63 : decode cX8_layOrder 63 = .ok (.iload_n 1, 1) := by decide +kernel
theorem dX8_layOrder_64 : decode cX8_layOrder 64 = .ok (.iastore, 1) := by decide +kernel
theorem dX8_layOrder_65 : decode cX8_layOrder 65 = .ok (.iinc 1 1, 3) := by decide +kernel
theorem dX8_layOrder_68 : decode cX8_layOrder 68 = .ok (.goto (-66), 3) := by decide +kernel
theorem dX8_layOrder_71 : decode cX8_layOrder 71 = .ok (.return_, 1) := by decide +kernel
theorem dX8_isOn_0 : decode cX8_isOn 0 = .ok (.iload_n 2, 1) := by decide +kernel
theorem dX8_isOn_1 : decode cX8_isOn 1 = .ok (.aload_n 0, 1) := by decide +kernel
theorem dX8_isOn_2 : decode cX8_isOn 2 = .ok (.getfield 22, 3) := by decide +kernel
theorem dX8_isOn_5 : decode cX8_isOn 5 = .ok (.iload_n 1, 1) := by decide +kernel
theorem dX8_isOn_6 : decode cX8_isOn 6 = .ok (.iaload, 1) := by decide +kernel
theorem dX8_isOn_7 : decode cX8_isOn 7 = .ok (.isub, 1) := by decide +kernel
theorem dX8_isOn_8 : decode cX8_isOn 8 = .ok (.istore_n 3, 1) := by decide +kernel
theorem dX8_isOn_9 : decode cX8_isOn 9 = .ok (.aload_n 0, 1) := by decide +kernel
theorem dX8_isOn_10 : decode cX8_isOn 10 = .ok (.getfield 48, 3) := by decide +kernel
theorem dX8_isOn_13 : decode cX8_isOn 13 = .ok (.iload_n 1, 1) := by decide +kernel
theorem dX8_isOn_14 : decode cX8_isOn 14 = .ok (.baload, 1) := by decide +kernel
theorem dX8_isOn_15 : decode cX8_isOn 15 = .ok (.ifCond .eq 34, 3) := by decide +kernel
theorem dX8_isOn_18 : decode cX8_isOn 18 = .ok (.iload_n 3, 1) := by decide +kernel
theorem dX8_isOn_19 : decode cX8_isOn 19 = .ok (.ifCond .le 30, 3) := by decide +kernel
theorem dX8_isOn_22 : decode cX8_isOn 22 = .ok (.aload_n 0, 1) := by decide +kernel
theorem dX8_isOn_23 : decode cX8_isOn 23 = .ok (.getfield 19, 3) := by decide +kernel
theorem dX8_isOn_26 : decode cX8_isOn 26 = .ok (.iload_n 1, 1) := by decide +kernel
theorem dX8_isOn_27 : decode cX8_isOn 27 = .ok (.iaload, 1) := by decide +kernel
theorem dX8_isOn_28 : decode cX8_isOn 28 = .ok (.iconst 1, 1) := by decide +kernel
theorem dX8_isOn_29 : decode cX8_isOn 29 = .ok (.if_icmp .ne 16, 3) := by decide +kernel
theorem dX8_isOn_32 : decode cX8_isOn 32 = .ok (.iload_n 3, 1) := by decide +kernel
theorem dX8_isOn_33 : decode cX8_isOn 33 = .ok (.bipush 10, 2) := by decide +kernel
theorem dX8_isOn_35 : decode cX8_isOn 35 = .ok (.aload_n 0, 1) := by decide +kernel
theorem dX8_isOn_36 : decode cX8_isOn 36 = .ok (.getfield 31, 3) := by decide +kernel
theorem dX8_isOn_39 : decode cX8_isOn 39 = .ok (.iload_n 1, 1) := by decide +kernel
theorem dX8_isOn_40 : decode cX8_isOn 40 = .ok (.iaload, 1) := by decide +kernel
theorem dX8_isOn_41 : decode cX8_isOn 41 = .ok (.imul, 1) := by decide +kernel
theorem dX8_isOn_42 : decode cX8_isOn 42 = .ok (.if_icmp .gt 7, 3) := by decide +kernel
theorem dX8_isOn_45 : decode cX8_isOn 45 = .ok (.iconst 1, 1) := by decide +kernel
theorem dX8_isOn_46 : decode cX8_isOn 46 = .ok (.goto 4, 3) := by decide +kernel
theorem dX8_isOn_49 : decode cX8_isOn 49 = .ok (.iconst 0, 1) := by decide +kernel
theorem dX8_isOn_50 : decode cX8_isOn 50 = .ok (.ireturn, 1) := by decide +kernel
theorem dX8_layForce_0 : decode cX8_layForce 0 = .ok (.iconst 0, 1) := by decide +kernel
theorem dX8_layForce_1 : decode cX8_layForce 1 = .ok (.istore_n 2, 1) := by decide +kernel
theorem dX8_layForce_2 : decode cX8_layForce 2 = .ok (.aload_n 0, 1) := by decide +kernel
theorem dX8_layForce_3 : decode cX8_layForce 3 = .ok (.getfield 72, 3) := by decide +kernel
theorem dX8_layForce_6 : decode cX8_layForce 6 = .ok (.iconst 1, 1) := by decide +kernel
theorem dX8_layForce_7 : decode cX8_layForce 7 = .ok (.isub, 1) := by decide +kernel
theorem dX8_layForce_8 : decode cX8_layForce 8 = .ok (.istore_n 3, 1) := by decide +kernel
theorem dX8_layForce_9 : decode cX8_layForce 9 = .ok (.iload_n 3, 1) := by decide +kernel
theorem dX8_layForce_10 : decode cX8_layForce 10 = .ok (.ifCond .lt 85, 3) := by decide +kernel
theorem dX8_layForce_13 : decode cX8_layForce 13 = .ok (.aload_n 0, 1) := by decide +kernel
theorem dX8_layForce_14 : decode cX8_layForce 14 = .ok (.getfield 45, 3) := by decide +kernel
theorem dX8_layForce_17 : decode cX8_layForce 17 = .ok (.iload_n 3, 1) := by decide +kernel
theorem dX8_layForce_18 : decode cX8_layForce 18 = .ok (.iaload, 1) := by decide +kernel
theorem dX8_layForce_19 : decode cX8_layForce 19 = .ok (.istore 4, 2) := by decide +kernel
theorem dX8_layForce_21 : decode cX8_layForce 21 = .ok (.aload_n 0, 1) := by decide +kernel
theorem dX8_layForce_22 : decode cX8_layForce 22 = .ok (.getfield 51, 3) := by decide +kernel
theorem dX8_layForce_25 : decode cX8_layForce 25 = .ok (.iload 4, 2) := by decide +kernel
theorem dX8_layForce_27 : decode cX8_layForce 27 = .ok (.aload_n 0, 1) := by decide +kernel
theorem dX8_layForce_28 : decode cX8_layForce 28 = .ok (.iload 4, 2) := by decide +kernel
theorem dX8_layForce_30 : decode cX8_layForce 30 = .ok (.iload_n 1, 1) := by decide +kernel
theorem dX8_layForce_31 : decode cX8_layForce 31 = .ok (.invokevirtual 168, 3) := by decide +kernel
theorem dX8_layForce_34 : decode cX8_layForce 34 = .ok (.ifCond .eq 16, 3) := by decide +kernel
theorem dX8_layForce_37 : decode cX8_layForce 37 = .ok (.iload_n 2, 1) := by decide +kernel
theorem dX8_layForce_38 : decode cX8_layForce 38 = .ok (.iload 4, 2) := by decide +kernel
theorem dX8_layForce_40 : decode cX8_layForce 40 = .ok (.ishr, 1) := by decide +kernel
theorem dX8_layForce_41 : decode cX8_layForce 41 = .ok (.iconst 1, 1) := by decide +kernel
theorem dX8_layForce_42 : decode cX8_layForce 42 = .ok (.iand, 1) := by decide +kernel
theorem dX8_layForce_43 : decode cX8_layForce 43 = .ok (.ifCond .ne 7, 3) := by decide +kernel
theorem dX8_layForce_46 : decode cX8_layForce 46 = .ok (.iconst 1, 1) := by decide +kernel
theorem dX8_layForce_47 : decode cX8_layForce 47 = .ok (.goto 4, 3) := by decide +kernel
theorem dX8_layForce_50 : decode cX8_layForce 50 = .ok (.iconst 0, 1) := by decide +kernel
theorem dX8_layForce_51 : decode cX8_layForce 51 = .ok (.bastore, 1) := by decide +kernel
theorem dX8_layForce_52 : decode cX8_layForce 52 = .ok (.iload_n 2, 1) := by decide +kernel
theorem dX8_layForce_53 : decode cX8_layForce 53 = .ok (.aload_n 0, 1) := by decide +kernel
theorem dX8_layForce_54 : decode cX8_layForce 54 = .ok (.getfield 51, 3) := by decide +kernel
theorem dX8_layForce_57 : decode cX8_layForce 57 = .ok (.iload 4, 2) := by decide +kernel
theorem dX8_layForce_59 : decode cX8_layForce 59 = .ok (.baload, 1) := by decide +kernel
theorem dX8_layForce_60 : decode cX8_layForce 60 = .ok (.ifCond .eq 26, 3) := by decide +kernel
theorem dX8_layForce_63 : decode cX8_layForce 63 = .ok (.aload_n 0, 1) := by decide +kernel
theorem dX8_layForce_64 : decode cX8_layForce 64 = .ok (.getfield 19, 3) := by decide +kernel
theorem dX8_layForce_67 : decode cX8_layForce 67 = .ok (.iload 4, 2) := by decide +kernel
theorem dX8_layForce_69 : decode cX8_layForce 69 = .ok (.iaload, 1) := by decide +kernel
theorem dX8_layForce_70 : decode cX8_layForce 70 = .ok (.iconst 2, 1) := by decide +kernel
theorem dX8_layForce_71 : decode cX8_layForce 71 = .ok (.if_icmp .ne 15, 3) := by decide +kernel
theorem dX8_layForce_74 : decode cX8_layForce 74 = .ok (.iconst 1, 1) := by decide +kernel
theorem dX8_layForce_75 : decode cX8_layForce 75 = .ok (.aload_n 0, 1) := by decide +kernel
theorem dX8_layForce_76 : decode cX8_layForce 76 = .ok (.getfield 28, 3) := by decide +kernel
theorem dX8_layForce_79 : decode cX8_layForce 79 = .ok (.iload 4, 2) := by decide +kernel
theorem dX8_layForce_81 : decode cX8_layForce 81 = .ok (.iaload, 1) := by decide +kernel
theorem dX8_layForce_82 : decode cX8_layForce 82 = .ok (.ishl, 1) := by decide +kernel
theorem dX8_layForce_83 : decode cX8_layForce 83 = .ok (.goto 4, 3) := by decide +kernel
theorem dX8_layForce_86 : decode cX8_layForce 86 = .ok (.iconst 0, 1) := by decide +kernel
theorem dX8_layForce_87 : decode cX8_layForce 87 = .ok (.ior, 1) := by decide +kernel
theorem dX8_layForce_88 : decode cX8_layForce 88 = .ok (.istore_n 2, 1) := by decide +kernel
theorem dX8_layForce_89 : decode cX8_layForce 89 = .ok (.iinc 3 (-1), 3) := by decide +kernel
theorem dX8_layForce_92 : decode cX8_layForce 92 = .ok (.goto (-83), 3) := by decide +kernel
theorem dX8_layForce_95 : decode cX8_layForce 95 = .ok (.return_, 1) := by decide +kernel
theorem dX8_layPassing_0 : decode cX8_layPassing 0 = .ok (.aload_n 0, 1) := by decide +kernel
theorem dX8_layPassing_1 : decode cX8_layPassing 1 = .ok (.invokevirtual 171, 3) := by decide +kernel
theorem dX8_layPassing_4 : decode cX8_layPassing 4 = .ok (.iconst 0, 1) := by decide +kernel
theorem dX8_layPassing_5 : decode cX8_layPassing 5 = .ok (.istore_n 1, 1) := by decide +kernel
theorem dX8_layPassing_6 : decode cX8_layPassing 6 = .ok (.iload_n 1, 1) := by decide +kernel
theorem dX8_layPassing_7 : decode cX8_layPassing 7 = .ok (.aload_n 0, 1) := by decide +kernel
theorem dX8_layPassing_8 : decode cX8_layPassing 8 = .ok (.getfield 72, 3) := by decide +kernel
theorem dX8_layPassing_11 : decode cX8_layPassing 11 = .ok (.if_icmp .ge 16, 3) := by decide +kernel
theorem dX8_layPassing_14 : decode cX8_layPassing 14 = .ok (.aload_n 0, 1) := by decide +kernel
theorem dX8_layPassing_15 : decode cX8_layPassing 15 = .ok (.getfield 48, 3) := by decide +kernel
theorem dX8_layPassing_18 : decode cX8_layPassing 18 = .ok (.iload_n 1, 1) := by decide +kernel
theorem dX8_layPassing_19 : decode cX8_layPassing 19 = .ok (.iconst 0, 1) := by decide +kernel
theorem dX8_layPassing_20 : decode cX8_layPassing 20 = .ok (.bastore, 1) := by decide +kernel
theorem dX8_layPassing_21 : decode cX8_layPassing 21 = .ok (.iinc 1 1, 3) := by decide +kernel
theorem dX8_layPassing_24 : decode cX8_layPassing 24 = .ok (.goto (-18), 3) := by decide +kernel
theorem dX8_layPassing_27 : decode cX8_layPassing 27 = .ok (.iconst 0, 1) := by decide +kernel
theorem dX8_layPassing_28 : decode cX8_layPassing 28 = .ok (.istore_n 1, 1) := by decide +kernel
theorem dX8_layPassing_29 : decode cX8_layPassing 29 = .ok (.iload_n 1, 1) := by decide +kernel
theorem dX8_layPassing_30 : decode cX8_layPassing 30 = .ok (.aload_n 0, 1) := by decide +kernel
theorem dX8_layPassing_31 : decode cX8_layPassing 31 = .ok (.getfield 72, 3) := by decide +kernel
theorem dX8_layPassing_34 : decode cX8_layPassing 34 = .ok (.if_icmp .ge 105, 3) := by decide +kernel
theorem dX8_layPassing_37 : decode cX8_layPassing 37 = .ok (.aload_n 0, 1) := by decide +kernel
theorem dX8_layPassing_38 : decode cX8_layPassing 38 = .ok (.getfield 45, 3) := by decide +kernel
theorem dX8_layPassing_41 : decode cX8_layPassing 41 = .ok (.iload_n 1, 1) := by decide +kernel
theorem dX8_layPassing_42 : decode cX8_layPassing 42 = .ok (.iaload, 1) := by decide +kernel
theorem dX8_layPassing_43 : decode cX8_layPassing 43 = .ok (.istore_n 2, 1) := by decide +kernel
theorem dX8_layPassing_44 : decode cX8_layPassing 44 = .ok (.iload_n 2, 1) := by decide +kernel
theorem dX8_layPassing_45 : decode cX8_layPassing 45 = .ok (.aload_n 0, 1) := by decide +kernel
theorem dX8_layPassing_46 : decode cX8_layPassing 46 = .ok (.getfield 38, 3) := by decide +kernel
theorem dX8_layPassing_49 : decode cX8_layPassing 49 = .ok (.if_icmp .eq 17, 3) := by decide +kernel
theorem dX8_layPassing_52 : decode cX8_layPassing 52 = .ok (.aload_n 0, 1) := by decide +kernel
theorem dX8_layPassing_53 : decode cX8_layPassing 53 = .ok (.iload_n 2, 1) := by decide +kernel
theorem dX8_layPassing_54 : decode cX8_layPassing 54 = .ok (.invokevirtual 165, 3) := by decide +kernel
theorem dX8_layPassing_57 : decode cX8_layPassing 57 = .ok (.bipush (-9), 2) := by decide +kernel
theorem dX8_layPassing_59 : decode cX8_layPassing 59 = .ok (.if_icmp .ne 7, 3) := by decide +kernel
theorem dX8_layPassing_62 : decode cX8_layPassing 62 = .ok (.iconst 1, 1) := by decide +kernel
theorem dX8_layPassing_63 : decode cX8_layPassing 63 = .ok (.goto 4, 3) := by decide +kernel
theorem dX8_layPassing_66 : decode cX8_layPassing 66 = .ok (.iconst 0, 1) := by decide +kernel
theorem dX8_layPassing_67 : decode cX8_layPassing 67 = .ok (.istore_n 3, 1) := by decide +kernel
theorem dX8_layPassing_68 : decode cX8_layPassing 68 = .ok (.iload_n 3, 1) := by decide +kernel
theorem dX8_layPassing_69 : decode cX8_layPassing 69 = .ok (.ifCond .eq 57, 3) := by decide +kernel
theorem dX8_layPassing_72 : decode cX8_layPassing 72 = .ok (.aload_n 0, 1) := by decide +kernel
theorem dX8_layPassing_73 : decode cX8_layPassing 73 = .ok (.getfield 25, 3) := by decide +kernel
theorem dX8_layPassing_76 : decode cX8_layPassing 76 = .ok (.iload_n 2, 1) := by decide +kernel
theorem dX8_layPassing_77 : decode cX8_layPassing 77 = .ok (.iaload, 1) := by decide +kernel
theorem dX8_layPassing_78 : decode cX8_layPassing 78 = .ok (.bipush 6, 2) := by decide +kernel
theorem dX8_layPassing_80 : decode cX8_layPassing 80 = .ok (.if_icmp .eq 46, 3) := by decide +kernel
theorem dX8_layPassing_83 : decode cX8_layPassing 83 = .ok (.aload_n 0, 1) := by decide +kernel
theorem dX8_layPassing_84 : decode cX8_layPassing 84 = .ok (.aload_n 0, 1) := by decide +kernel
theorem dX8_layPassing_85 : decode cX8_layPassing 85 = .ok (.getfield 22, 3) := by decide +kernel
theorem dX8_layPassing_88 : decode cX8_layPassing 88 = .ok (.iload_n 2, 1) := by decide +kernel
theorem dX8_layPassing_89 : decode cX8_layPassing 89 = .ok (.iaload, 1) := by decide +kernel
theorem dX8_layPassing_90 : decode cX8_layPassing 90 = .ok (.invokevirtual 174, 3) := by decide +kernel
theorem dX8_layPassing_93 : decode cX8_layPassing 93 = .ok (.aload_n 0, 1) := by decide +kernel
theorem dX8_layPassing_94 : decode cX8_layPassing 94 = .ok (.aload_n 0, 1) := by decide +kernel
theorem dX8_layPassing_95 : decode cX8_layPassing 95 = .ok (.getfield 25, 3) := by decide +kernel
theorem dX8_layPassing_98 : decode cX8_layPassing 98 = .ok (.iload_n 2, 1) := by decide +kernel
theorem dX8_layPassing_99 : decode cX8_layPassing 99 = .ok (.iaload, 1) := by decide +kernel
theorem dX8_layPassing_100 : decode cX8_layPassing 100 = .ok (.invokevirtual 146, 3) := by decide +kernel
theorem dX8_layPassing_103 : decode cX8_layPassing 103 = .ok (.ifCond .eq 21, 3) := by decide +kernel
theorem dX8_layPassing_106 : decode cX8_layPassing 106 = .ok (.aload_n 0, 1) := by decide +kernel
theorem dX8_layPassing_107 : decode cX8_layPassing 107 = .ok (.getfield 51, 3) := by decide +kernel
theorem dX8_layPassing_110 : decode cX8_layPassing 110 = .ok (.aload_n 0, 1) := by decide +kernel
theorem dX8_layPassing_111 : decode cX8_layPassing 111 = .ok (.getfield 25, 3) := by decide +kernel
theorem dX8_layPassing_114 : decode cX8_layPassing 114 = .ok (.iload_n 2, 1) := by decide +kernel
theorem dX8_layPassing_115 : decode cX8_layPassing 115 = .ok (.iaload, 1) := by decide +kernel
theorem dX8_layPassing_116 : decode cX8_layPassing 116 = .ok (.baload, 1) := by decide +kernel
theorem dX8_layPassing_117 : decode cX8_layPassing 117 = .ok (.ifCond .eq 7, 3) := by decide +kernel
theorem dX8_layPassing_120 : decode cX8_layPassing 120 = .ok (.iconst 1, 1) := by decide +kernel
theorem dX8_layPassing_121 : decode cX8_layPassing 121 = .ok (.goto 4, 3) := by decide +kernel
theorem dX8_layPassing_124 : decode cX8_layPassing 124 = .ok (.iconst 0, 1) := by decide +kernel
theorem dX8_layPassing_125 : decode cX8_layPassing 125 = .ok (.istore_n 3, 1) := by decide +kernel
theorem dX8_layPassing_126 : decode cX8_layPassing 126 = .ok (.aload_n 0, 1) := by decide +kernel
theorem dX8_layPassing_127 : decode cX8_layPassing 127 = .ok (.getfield 48, 3) := by decide +kernel
theorem dX8_layPassing_130 : decode cX8_layPassing 130 = .ok (.iload_n 2, 1) := by decide +kernel
theorem dX8_layPassing_131 : decode cX8_layPassing 131 = .ok (.iload_n 3, 1) := by decide +kernel
theorem dX8_layPassing_132 : decode cX8_layPassing 132 = .ok (.bastore, 1) := by decide +kernel
theorem dX8_layPassing_133 : decode cX8_layPassing 133 = .ok (.iinc 1 1, 3) := by decide +kernel
theorem dX8_layPassing_136 : decode cX8_layPassing 136 = .ok (.goto (-107), 3) := by decide +kernel
theorem dX8_layPassing_139 : decode cX8_layPassing 139 = .ok (.return_, 1) := by decide +kernel
theorem dX8_passing_0 : decode cX8_passing 0 = .ok (.aload_n 0, 1) := by decide +kernel
theorem dX8_passing_1 : decode cX8_passing 1 = .ok (.getfield 72, 3) := by decide +kernel
theorem dX8_passing_4 : decode cX8_passing 4 = .ok (.ifCond .ne 6, 3) := by decide +kernel
theorem dX8_passing_7 : decode cX8_passing 7 = .ok (.bipush (-3), 2) := by decide +kernel
theorem dX8_passing_9 : decode cX8_passing 9 = .ok (.ireturn, 1) := by decide +kernel
theorem dX8_passing_10 : decode cX8_passing 10 = .ok (.aload_n 0, 1) := by decide +kernel
theorem dX8_passing_11 : decode cX8_passing 11 = .ok (.invokevirtual 178, 3) := by decide +kernel
theorem dX8_passing_14 : decode cX8_passing 14 = .ok (.iconst 0, 1) := by decide +kernel
theorem dX8_passing_15 : decode cX8_passing 15 = .ok (.istore_n 1, 1) := by decide +kernel
theorem dX8_passing_16 : decode cX8_passing 16 = .ok (.iconst 0, 1) := by decide +kernel
theorem dX8_passing_17 : decode cX8_passing 17 = .ok (.istore_n 2, 1) := by decide +kernel
theorem dX8_passing_18 : decode cX8_passing 18 = .ok (.iload_n 2, 1) := by decide +kernel
theorem dX8_passing_19 : decode cX8_passing 19 = .ok (.aload_n 0, 1) := by decide +kernel
theorem dX8_passing_20 : decode cX8_passing 20 = .ok (.getfield 72, 3) := by decide +kernel
theorem dX8_passing_23 : decode cX8_passing 23 = .ok (.if_icmp .ge 28, 3) := by decide +kernel
theorem dX8_passing_26 : decode cX8_passing 26 = .ok (.iload_n 1, 1) := by decide +kernel
theorem dX8_passing_27 : decode cX8_passing 27 = .ok (.aload_n 0, 1) := by decide +kernel
theorem dX8_passing_28 : decode cX8_passing 28 = .ok (.getfield 48, 3) := by decide +kernel
theorem dX8_passing_31 : decode cX8_passing 31 = .ok (.iload_n 2, 1) := by decide +kernel
theorem dX8_passing_32 : decode cX8_passing 32 = .ok (.baload, 1) := by decide +kernel
theorem dX8_passing_33 : decode cX8_passing 33 = .ok (.ifCond .eq 9, 3) := by decide +kernel
theorem dX8_passing_36 : decode cX8_passing 36 = .ok (.iconst 1, 1) := by decide +kernel
theorem dX8_passing_37 : decode cX8_passing 37 = .ok (.iload_n 2, 1) := by decide +kernel
theorem dX8_passing_38 : decode cX8_passing 38 = .ok (.ishl, 1) := by decide +kernel
theorem dX8_passing_39 : decode cX8_passing 39 = .ok (.goto 4, 3) := by decide +kernel
theorem dX8_passing_42 : decode cX8_passing 42 = .ok (.iconst 0, 1) := by decide +kernel
theorem dX8_passing_43 : decode cX8_passing 43 = .ok (.ior, 1) := by decide +kernel
theorem dX8_passing_44 : decode cX8_passing 44 = .ok (.istore_n 1, 1) := by decide +kernel
theorem dX8_passing_45 : decode cX8_passing 45 = .ok (.iinc 2 1, 3) := by decide +kernel
theorem dX8_passing_48 : decode cX8_passing 48 = .ok (.goto (-30), 3) := by decide +kernel
theorem dX8_passing_51 : decode cX8_passing 51 = .ok (.iload_n 1, 1) := by decide +kernel
theorem dX8_passing_52 : decode cX8_passing 52 = .ok (.ireturn, 1) := by decide +kernel
theorem dX8_forceNow_0 : decode cX8_forceNow 0 = .ok (.aload_n 0, 1) := by decide +kernel
theorem dX8_forceNow_1 : decode cX8_forceNow 1 = .ok (.iload_n 1, 1) := by decide +kernel
theorem dX8_forceNow_2 : decode cX8_forceNow 2 = .ok (.invokevirtual 174, 3) := by decide +kernel
theorem dX8_forceNow_5 : decode cX8_forceNow 5 = .ok (.iconst 0, 1) := by decide +kernel
theorem dX8_forceNow_6 : decode cX8_forceNow 6 = .ok (.istore_n 2, 1) := by decide +kernel
theorem dX8_forceNow_7 : decode cX8_forceNow 7 = .ok (.iconst 0, 1) := by decide +kernel
theorem dX8_forceNow_8 : decode cX8_forceNow 8 = .ok (.istore_n 3, 1) := by decide +kernel
theorem dX8_forceNow_9 : decode cX8_forceNow 9 = .ok (.iload_n 3, 1) := by decide +kernel
theorem dX8_forceNow_10 : decode cX8_forceNow 10 = .ok (.aload_n 0, 1) := by decide +kernel
theorem dX8_forceNow_11 : decode cX8_forceNow 11 = .ok (.getfield 72, 3) := by decide +kernel
theorem dX8_forceNow_14 : decode cX8_forceNow 14 = .ok (.if_icmp .ge 28, 3) := by decide +kernel
theorem dX8_forceNow_17 : decode cX8_forceNow 17 = .ok (.iload_n 2, 1) := by decide +kernel
theorem dX8_forceNow_18 : decode cX8_forceNow 18 = .ok (.aload_n 0, 1) := by decide +kernel
theorem dX8_forceNow_19 : decode cX8_forceNow 19 = .ok (.getfield 51, 3) := by decide +kernel
theorem dX8_forceNow_22 : decode cX8_forceNow 22 = .ok (.iload_n 3, 1) := by decide +kernel
theorem dX8_forceNow_23 : decode cX8_forceNow 23 = .ok (.baload, 1) := by decide +kernel
theorem dX8_forceNow_24 : decode cX8_forceNow 24 = .ok (.ifCond .eq 9, 3) := by decide +kernel
theorem dX8_forceNow_27 : decode cX8_forceNow 27 = .ok (.iconst 1, 1) := by decide +kernel
theorem dX8_forceNow_28 : decode cX8_forceNow 28 = .ok (.iload_n 3, 1) := by decide +kernel
theorem dX8_forceNow_29 : decode cX8_forceNow 29 = .ok (.ishl, 1) := by decide +kernel
theorem dX8_forceNow_30 : decode cX8_forceNow 30 = .ok (.goto 4, 3) := by decide +kernel
theorem dX8_forceNow_33 : decode cX8_forceNow 33 = .ok (.iconst 0, 1) := by decide +kernel
theorem dX8_forceNow_34 : decode cX8_forceNow 34 = .ok (.ior, 1) := by decide +kernel
theorem dX8_forceNow_35 : decode cX8_forceNow 35 = .ok (.istore_n 2, 1) := by decide +kernel
theorem dX8_forceNow_36 : decode cX8_forceNow 36 = .ok (.iinc 3 1, 3) := by decide +kernel
theorem dX8_forceNow_39 : decode cX8_forceNow 39 = .ok (.goto (-30), 3) := by decide +kernel
theorem dX8_forceNow_42 : decode cX8_forceNow 42 = .ok (.iload_n 2, 1) := by decide +kernel
theorem dX8_forceNow_43 : decode cX8_forceNow 43 = .ok (.ireturn, 1) := by decide +kernel
theorem dX8_forceOn_0 : decode cX8_forceOn 0 = .ok (.aload_n 0, 1) := by decide +kernel
theorem dX8_forceOn_1 : decode cX8_forceOn 1 = .ok (.invokevirtual 178, 3) := by decide +kernel
theorem dX8_forceOn_4 : decode cX8_forceOn 4 = .ok (.aload_n 0, 1) := by decide +kernel
theorem dX8_forceOn_5 : decode cX8_forceOn 5 = .ok (.iload_n 1, 1) := by decide +kernel
theorem dX8_forceOn_6 : decode cX8_forceOn 6 = .ok (.invokevirtual 181, 3) := by decide +kernel
theorem dX8_forceOn_9 : decode cX8_forceOn 9 = .ok (.ireturn, 1) := by decide +kernel
theorem dX8_force_0 : decode cX8_force 0 = .ok (.iload_n 1, 1) := by decide +kernel
theorem dX8_force_1 : decode cX8_force 1 = .ok (.invokestatic 152, 3) := by decide +kernel
theorem dX8_force_4 : decode cX8_force 4 = .ok (.ifCond .ne 6, 3) := by decide +kernel
theorem dX8_force_7 : decode cX8_force 7 = .ok (.bipush (-2), 2) := by decide +kernel
theorem dX8_force_9 : decode cX8_force 9 = .ok (.ireturn, 1) := by decide +kernel
theorem dX8_force_10 : decode cX8_force 10 = .ok (.aload_n 0, 1) := by decide +kernel
theorem dX8_force_11 : decode cX8_force 11 = .ok (.getfield 72, 3) := by decide +kernel
theorem dX8_force_14 : decode cX8_force 14 = .ok (.ifCond .ne 8, 3) := by decide +kernel
theorem dX8_force_17 : decode cX8_force 17 = .ok (.bipush (-3), 2) := by decide +kernel
theorem dX8_force_19 : decode cX8_force 19 = .ok (.goto 8, 3) := by decide +kernel
theorem dX8_force_22 : decode cX8_force 22 = .ok (.aload_n 0, 1) := by decide +kernel
theorem dX8_force_23 : decode cX8_force 23 = .ok (.iload_n 1, 1) := by decide +kernel
theorem dX8_force_24 : decode cX8_force 24 = .ok (.invokevirtual 184, 3) := by decide +kernel
theorem dX8_force_27 : decode cX8_force 27 = .ok (.ireturn, 1) := by decide +kernel
theorem dX8_holdsNow_0 : decode cX8_holdsNow 0 = .ok (.aload_n 0, 1) := by decide +kernel
theorem dX8_holdsNow_1 : decode cX8_holdsNow 1 = .ok (.invokevirtual 178, 3) := by decide +kernel
theorem dX8_holdsNow_4 : decode cX8_holdsNow 4 = .ok (.iconst 0, 1) := by decide +kernel
theorem dX8_holdsNow_5 : decode cX8_holdsNow 5 = .ok (.istore_n 2, 1) := by decide +kernel
theorem dX8_holdsNow_6 : decode cX8_holdsNow 6 = .ok (.iconst 0, 1) := by decide +kernel
theorem dX8_holdsNow_7 : decode cX8_holdsNow 7 = .ok (.istore_n 3, 1) := by decide +kernel
theorem dX8_holdsNow_8 : decode cX8_holdsNow 8 = .ok (.iload_n 3, 1) := by decide +kernel
theorem dX8_holdsNow_9 : decode cX8_holdsNow 9 = .ok (.bipush 110, 2) := by decide +kernel
theorem dX8_holdsNow_11 : decode cX8_holdsNow 11 = .ok (.if_icmp .ge 21, 3) := by decide +kernel
theorem dX8_holdsNow_14 : decode cX8_holdsNow 14 = .ok (.iload_n 2, 1) := by decide +kernel
theorem dX8_holdsNow_15 : decode cX8_holdsNow 15 = .ok (.aload_n 0, 1) := by decide +kernel
theorem dX8_holdsNow_16 : decode cX8_holdsNow 16 = .ok (.iload_n 3, 1) := by decide +kernel
theorem dX8_holdsNow_17 : decode cX8_holdsNow 17 = .ok (.invokevirtual 181, 3) := by decide +kernel
theorem dX8_holdsNow_20 : decode cX8_holdsNow 20 = .ok (.iload_n 1, 1) := by decide +kernel
theorem dX8_holdsNow_21 : decode cX8_holdsNow 21 = .ok (.ishr, 1) := by decide +kernel
theorem dX8_holdsNow_22 : decode cX8_holdsNow 22 = .ok (.iconst 1, 1) := by decide +kernel
theorem dX8_holdsNow_23 : decode cX8_holdsNow 23 = .ok (.iand, 1) := by decide +kernel
theorem dX8_holdsNow_24 : decode cX8_holdsNow 24 = .ok (.iadd, 1) := by decide +kernel
theorem dX8_holdsNow_25 : decode cX8_holdsNow 25 = .ok (.istore_n 2, 1) := by decide +kernel
theorem dX8_holdsNow_26 : decode cX8_holdsNow 26 = .ok (.iinc 3 1, 3) := by decide +kernel
theorem dX8_holdsNow_29 : decode cX8_holdsNow 29 = .ok (.goto (-21), 3) := by decide +kernel
theorem dX8_holdsNow_32 : decode cX8_holdsNow 32 = .ok (.iload_n 2, 1) := by decide +kernel
theorem dX8_holdsNow_33 : decode cX8_holdsNow 33 = .ok (.ireturn, 1) := by decide +kernel
theorem dX8_holds_0 : decode cX8_holds 0 = .ok (.aload_n 0, 1) := by decide +kernel
theorem dX8_holds_1 : decode cX8_holds 1 = .ok (.iload_n 1, 1) := by decide +kernel
theorem dX8_holds_2 : decode cX8_holds 2 = .ok (.invokevirtual 146, 3) := by decide +kernel
theorem dX8_holds_5 : decode cX8_holds 5 = .ok (.ifCond .eq 11, 3) := by decide +kernel
theorem dX8_holds_8 : decode cX8_holds 8 = .ok (.aload_n 0, 1) := by decide +kernel
theorem dX8_holds_9 : decode cX8_holds 9 = .ok (.iload_n 1, 1) := by decide +kernel
theorem dX8_holds_10 : decode cX8_holds 10 = .ok (.invokevirtual 187, 3) := by decide +kernel
theorem dX8_holds_13 : decode cX8_holds 13 = .ok (.goto 4, 3) := by decide +kernel

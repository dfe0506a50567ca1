theorem dX7_paysFor_91 : decode cX7_paysFor 91 = .ok (.getfield 7, 3) := by decide +kernel
theorem dX7_paysFor_94 : decode cX7_paysFor 94 = .ok (.iconst 1, 1) := by decide +kernel
theorem dX7_paysFor_95 : decode cX7_paysFor 95 = .ok (.iaload, 1) := by decide +kernel
theorem dX7_paysFor_96 : decode cX7_paysFor 96 = .ok (.goto 4, 3) := by decide +kernel
theorem dX7_paysFor_99 : decode cX7_paysFor 99 = .ok (.iconst 0, 1) := by decide +kernel
theorem dX7_paysFor_100 : decode cX7_paysFor 100 = .ok (.invokevirtual 90, 3) := by decide +kernel
theorem dX7_paysFor_103 : decode cX7_paysFor 103 = .ok (.goto 74, 3) := by decide +kernel
theorem dX7_paysFor_106 : decode cX7_paysFor 106 = .ok (.aload_n 0, 1) := by decide +kernel
theorem dX7_paysFor_107 : decode cX7_paysFor 107 = .ok (.getfield 7, 3) := by decide +kernel
theorem dX7_paysFor_110 : decode cX7_paysFor 110 = .ok (.bipush 6, 2) := by decide +kernel
theorem dX7_paysFor_112 : decode cX7_paysFor 112 = .ok (.iaload, 1) := by decide +kernel
theorem dX7_paysFor_113 : decode cX7_paysFor 113 = .ok (.bipush 50, 2) := by decide +kernel
theorem dX7_paysFor_115 : decode cX7_paysFor 115 = .ok (.if_icmp .lt 62, 3) := by decide +kernel
theorem dX7_paysFor_118 : decode cX7_paysFor 118 = .ok (.aload_n 0, 1) := by decide +kernel
theorem dX7_paysFor_119 : decode cX7_paysFor 119 = .ok (.iload_n 1, 1) := by decide +kernel
theorem dX7_paysFor_120 : decode cX7_paysFor 120 = .ok (.invokevirtual 94, 3) := by decide +kernel
theorem dX7_paysFor_123 : decode cX7_paysFor 123 = .ok (.goto 54, 3) := by decide +kernel
theorem dX7_paysFor_126 : decode cX7_paysFor 126 = .ok (.aload_n 0, 1) := by decide +kernel
theorem dX7_paysFor_127 : decode cX7_paysFor 127 = .ok (.iload_n 1, 1) := by decide +kernel
theorem dX7_paysFor_128 : decode cX7_paysFor 128 = .ok (.iconst 2, 1) := by decide +kernel
theorem dX7_paysFor_129 : decode cX7_paysFor 129 = .ok (.aload_n 0, 1) := by decide +kernel
theorem dX7_paysFor_130 : decode cX7_paysFor 130 = .ok (.getfield 7, 3) := by decide +kernel
theorem dX7_paysFor_133 : decode cX7_paysFor 133 = .ok (.iconst 1, 1) := by decide +kernel
theorem dX7_paysFor_134 : decode cX7_paysFor 134 = .ok (.iaload, 1) := by decide +kernel
theorem dX7_paysFor_135 : decode cX7_paysFor 135 = .ok (.imul, 1) := by decide +kernel
theorem dX7_paysFor_136 : decode cX7_paysFor 136 = .ok (.invokevirtual 90, 3) := by decide +kernel
theorem dX7_paysFor_139 : decode cX7_paysFor 139 = .ok (.goto 38, 3) := by decide +kernel
theorem dX7_paysFor_142 : decode cX7_paysFor 142 = .ok (.aload_n 0, 1) := by decide +kernel
theorem dX7_paysFor_143 : decode cX7_paysFor 143 = .ok (.iload_n 1, 1) := by decide +kernel
theorem dX7_paysFor_144 : decode cX7_paysFor 144 = .ok (.iconst 4, 1) := by decide +kernel
theorem dX7_paysFor_145 : decode cX7_paysFor 145 = .ok (.aload_n 0, 1) := by decide +kernel
theorem dX7_paysFor_146 : decode cX7_paysFor 146 = .ok (.iload_n 1, 1) := by decide +kernel
theorem dX7_paysFor_147 : decode cX7_paysFor 147 = .ok (.iconst 4, 1) := by decide +kernel
theorem dX7_paysFor_148 : decode cX7_paysFor 148 = .ok (.invokevirtual 63, 3) := by decide +kernel
theorem dX7_paysFor_151 : decode cX7_paysFor 151 = .ok (.aload_n 0, 1) := by decide +kernel
theorem dX7_paysFor_152 : decode cX7_paysFor 152 = .ok (.getfield 7, 3) := by decide +kernel
theorem dX7_paysFor_155 : decode cX7_paysFor 155 = .ok (.iconst 1, 1) := by decide +kernel
theorem dX7_paysFor_156 : decode cX7_paysFor 156 = .ok (.iaload, 1) := by decide +kernel
theorem dX7_paysFor_157 : decode cX7_paysFor 157 = .ok (.iconst 2, 1) := by decide +kernel
theorem dX7_paysFor_158 : decode cX7_paysFor 158 = .ok (.idiv, 1) := by decide +kernel
theorem dX7_paysFor_159 : decode cX7_paysFor 159 = .ok (.iadd, 1) := by decide +kernel
theorem dX7_paysFor_160 : decode cX7_paysFor 160 = .ok (.invokevirtual 43, 3) := by decide +kernel
theorem dX7_paysFor_163 : decode cX7_paysFor 163 = .ok (.goto 14, 3) := by decide +kernel
theorem dX7_paysFor_166 : decode cX7_paysFor 166 = .ok (.aload_n 0, 1) := by decide +kernel
theorem dX7_paysFor_167 : decode cX7_paysFor 167 = .ok (.iload_n 1, 1) := by decide +kernel
theorem dX7_paysFor_168 : decode cX7_paysFor 168 = .ok (.aload_n 0, 1) := by decide +kernel
theorem dX7_paysFor_169 : decode cX7_paysFor 169 = .ok (.getfield 7, 3) := by decide +kernel
theorem dX7_paysFor_172 : decode cX7_paysFor 172 = .ok (.iconst 1, 1) := by decide +kernel
theorem dX7_paysFor_173 : decode cX7_paysFor 173 = .ok (.iaload, 1) := by decide +kernel
theorem dX7_paysFor_174 : decode cX7_paysFor 174 = .ok (.invokevirtual 90, 3) := by decide +kernel
theorem dX7_paysFor_177 : decode cX7_paysFor 177 = .ok (.return_, 1) := by decide +kernel
theorem dX7_hasCup_0 : decode cX7_hasCup 0 = .ok (.aload_n 0, 1) := by decide +kernel
theorem dX7_hasCup_1 : decode cX7_hasCup 1 = .ok (.getfield 7, 3) := by decide +kernel
theorem dX7_hasCup_4 : decode cX7_hasCup 4 = .ok (.iconst 3, 1) := by decide +kernel
theorem dX7_hasCup_5 : decode cX7_hasCup 5 = .ok (.iaload, 1) := by decide +kernel
theorem dX7_hasCup_6 : decode cX7_hasCup 6 = .ok (.ifCond .le 5, 3) := by decide +kernel
theorem dX7_hasCup_9 : decode cX7_hasCup 9 = .ok (.iconst 1, 1) := by decide +kernel
theorem dX7_hasCup_10 : decode cX7_hasCup 10 = .ok (.ireturn, 1) := by decide +kernel
theorem dX7_hasCup_11 : decode cX7_hasCup 11 = .ok (.aload_n 0, 1) := by decide +kernel
theorem dX7_hasCup_12 : decode cX7_hasCup 12 = .ok (.iload_n 1, 1) := by decide +kernel
theorem dX7_hasCup_13 : decode cX7_hasCup 13 = .ok (.iconst 0, 1) := by decide +kernel
theorem dX7_hasCup_14 : decode cX7_hasCup 14 = .ok (.invokevirtual 63, 3) := by decide +kernel
theorem dX7_hasCup_17 : decode cX7_hasCup 17 = .ok (.bipush 6, 2) := by decide +kernel
theorem dX7_hasCup_19 : decode cX7_hasCup 19 = .ok (.if_icmp .eq 14, 3) := by decide +kernel
theorem dX7_hasCup_22 : decode cX7_hasCup 22 = .ok (.aload_n 0, 1) := by decide +kernel
theorem dX7_hasCup_23 : decode cX7_hasCup 23 = .ok (.invokevirtual 86, 3) := by decide +kernel
theorem dX7_hasCup_26 : decode cX7_hasCup 26 = .ok (.bipush 10, 2) := by decide +kernel
theorem dX7_hasCup_28 : decode cX7_hasCup 28 = .ok (.irem, 1) := by decide +kernel
theorem dX7_hasCup_29 : decode cX7_hasCup 29 = .ok (.iconst 3, 1) := by decide +kernel
theorem dX7_hasCup_30 : decode cX7_hasCup 30 = .ok (.if_icmp .ge 7, 3) := by decide +kernel
theorem dX7_hasCup_33 : decode cX7_hasCup 33 = .ok (.iconst 1, 1) := by decide +kernel
theorem dX7_hasCup_34 : decode cX7_hasCup 34 = .ok (.goto 4, 3) := by decide +kernel
theorem dX7_hasCup_37 : decode cX7_hasCup 37 = .ok (.iconst 0, 1) := by decide +kernel
theorem dX7_hasCup_38 : decode cX7_hasCup 38 = .ok (.istore_n 2, 1) := by decide +kernel
theorem dX7_hasCup_39 : decode cX7_hasCup 39 = .ok (.aload_n 0, 1) := by decide +kernel
theorem dX7_hasCup_40 : decode cX7_hasCup 40 = .ok (.getfield 7, 3) := by decide +kernel
theorem dX7_hasCup_43 : decode cX7_hasCup 43 = .ok (.iconst 3, 1) := by decide +kernel
theorem dX7_hasCup_44 : decode cX7_hasCup 44 = .ok (.iload_n 2, 1) := by decide +kernel
theorem dX7_hasCup_45 : decode cX7_hasCup 45 = .ok (.ifCond .eq 12, 3) := by decide +kernel
theorem dX7_hasCup_48 : decode cX7_hasCup 48 = .ok (.aload_n 0, 1) := by decide +kernel
theorem dX7_hasCup_49 : decode cX7_hasCup 49 = .ok (.getfield 7, 3) := by decide +kernel
theorem dX7_hasCup_52 : decode cX7_hasCup 52 = .ok (.iconst 2, 1) := by decide +kernel
theorem dX7_hasCup_53 : decode cX7_hasCup 53 = .ok (.iaload, 1) := by decide +kernel
theorem dX7_hasCup_54 : decode cX7_hasCup 54 = .ok (.goto 4, 3) := by decide +kernel
theorem dX7_hasCup_57 : decode cX7_hasCup 57 = .ok (.iconst 0, 1) := by decide +kernel
theorem dX7_hasCup_58 : decode cX7_hasCup 58 = .ok (.iastore, 1) := by decide +kernel
theorem dX7_hasCup_59 : decode cX7_hasCup 59 = .ok (.aload_n 0, 1) := by decide +kernel
theorem dX7_hasCup_60 : decode cX7_hasCup 60 = .ok (.getfield 7, 3) := by decide +kernel
theorem dX7_hasCup_63 : decode cX7_hasCup 63 = .ok (.bipush 8, 2) := by decide +kernel
theorem dX7_hasCup_65 : decode cX7_hasCup 65 = .ok (.dup2, 1) := by decide +kernel
theorem dX7_hasCup_66 : decode cX7_hasCup 66 = .ok (.iaload, 1) := by decide +kernel
theorem dX7_hasCup_67 : decode cX7_hasCup 67 = .ok (.iload_n 2, 1) := by decide +kernel
theorem dX7_hasCup_68 : decode cX7_hasCup 68 = .ok (.ifCond .eq 7, 3) := by decide +kernel
theorem dX7_hasCup_71 : decode cX7_hasCup 71 = .ok (.iconst 0, 1) := by decide +kernel
theorem dX7_hasCup_72 : decode cX7_hasCup 72 = .ok (.goto 4, 3) := by decide +kernel
theorem dX7_hasCup_75 : decode cX7_hasCup 75 = .ok (.iconst 1, 1) := by decide +kernel
theorem dX7_hasCup_76 : decode cX7_hasCup 76 = .ok (.iadd, 1) := by decide +kernel
theorem dX7_hasCup_77 : decode cX7_hasCup 77 = .ok (.iastore, 1) := by decide +kernel
theorem dX7_hasCup_78 : decode cX7_hasCup 78 = .ok (.iload_n 2, 1) := by decide +kernel
theorem dX7_hasCup_79 : decode cX7_hasCup 79 = .ok (.ireturn, 1) := by decide +kernel
theorem dX7_drinks_0 : decode cX7_drinks 0 = .ok (.aload_n 0, 1) := by decide +kernel
theorem dX7_drinks_1 : decode cX7_drinks 1 = .ok (.iload_n 1, 1) := by decide +kernel
theorem dX7_drinks_2 : decode cX7_drinks 2 = .ok (.iconst 3, 1) := by decide +kernel
theorem dX7_drinks_3 : decode cX7_drinks 3 = .ok (.invokevirtual 63, 3) := by decide +kernel
theorem dX7_drinks_6 : decode cX7_drinks 6 = .ok (.aload_n 0, 1) := by decide +kernel
theorem dX7_drinks_7 : decode cX7_drinks 7 = .ok (.getfield 7, 3) := by decide +kernel
theorem dX7_drinks_10 : decode cX7_drinks 10 = .ok (.iconst 1, 1) := by decide +kernel
theorem dX7_drinks_11 : decode cX7_drinks 11 = .ok (.iaload, 1) := by decide +kernel
theorem dX7_drinks_12 : decode cX7_drinks 12 = .ok (.if_icmp .ge 7, 3) := by decide +kernel
theorem dX7_drinks_15 : decode cX7_drinks 15 = .ok (.iconst 0, 1) := by decide +kernel
theorem dX7_drinks_16 : decode cX7_drinks 16 = .ok (.goto 9, 3) := by decide +kernel
theorem dX7_drinks_19 : decode cX7_drinks 19 = .ok (.aload_n 0, 1) := by decide +kernel
theorem dX7_drinks_20 : decode cX7_drinks 20 = .ok (.iload_n 1, 1) := by decide +kernel
theorem dX7_drinks_21 : decode cX7_drinks 21 = .ok (.iconst 1, 1) := by decide +kernel
theorem dX7_drinks_22 : decode cX7_drinks 22 = .ok (.invokevirtual 63, 3) := by decide +kernel
theorem dX7_drinks_25 : decode cX7_drinks 25 = .ok (.istore_n 2, 1) := by decide +kernel
theorem dX7_drinks_26 : decode cX7_drinks 26 = .ok (.iconst 0, 1) := by decide +kernel
theorem dX7_drinks_27 : decode cX7_drinks 27 = .ok (.istore_n 3, 1) := by decide +kernel
theorem dX7_drinks_28 : decode cX7_drinks 28 = .ok (.iload_n 3, 1) := by decide +kernel
theorem dX7_drinks_29 : decode cX7_drinks 29 = .ok (.iload_n 2, 1) := by decide +kernel
theorem dX7_drinks_30 : decode cX7_drinks 30 = .ok (.if_icmp .ge 66, 3) := by decide +kernel
theorem dX7_drinks_33 : decode cX7_drinks 33 = .ok (.aload_n 0, 1) := by decide +kernel
theorem dX7_drinks_34 : decode cX7_drinks 34 = .ok (.iload_n 1, 1) := by decide +kernel
theorem dX7_drinks_35 : decode cX7_drinks 35 = .ok (.invokevirtual 98, 3) := by decide +kernel
theorem dX7_drinks_38 : decode cX7_drinks 38 = .ok (.ifCond .ne 4, 3) := by decide +kernel
theorem dX7_drinks_41 : decode cX7_drinks 41 = .ok (.return_, 1) := by decide +kernel
theorem dX7_drinks_42 : decode cX7_drinks 42 = .ok (.aload_n 0, 1) := by decide +kernel
theorem dX7_drinks_43 : decode cX7_drinks 43 = .ok (.getfield 7, 3) := by decide +kernel
theorem dX7_drinks_46 : decode cX7_drinks 46 = .ok (.iconst 3, 1) := by decide +kernel
theorem dX7_drinks_47 : decode cX7_drinks 47 = .ok (.dup2, 1) := by decide +kernel
theorem dX7_drinks_48 : decode cX7_drinks 48 = .ok (.iaload, 1) := by decide +kernel
theorem dX7_drinks_49 : decode cX7_drinks 49 = .ok (.iconst 1, 1) := by decide +kernel
theorem dX7_drinks_50 : decode cX7_drinks 50 = .ok (.isub, 1) := by decide +kernel
theorem dX7_drinks_51 : decode cX7_drinks 51 = .ok (.iastore, 1) := by decide +kernel
theorem dX7_drinks_52 : decode cX7_drinks 52 = .ok (.aload_n 0, 1) := by decide +kernel
theorem dX7_drinks_53 : decode cX7_drinks 53 = .ok (.iload_n 1, 1) := by decide +kernel
theorem dX7_drinks_54 : decode cX7_drinks 54 = .ok (.iconst 5, 1) := by decide +kernel
theorem dX7_drinks_55 : decode cX7_drinks 55 = .ok (.aload_n 0, 1) := by decide +kernel
theorem dX7_drinks_56 : decode cX7_drinks 56 = .ok (.iload_n 1, 1) := by decide +kernel
theorem dX7_drinks_57 : decode cX7_drinks 57 = .ok (.iconst 5, 1) := by decide +kernel
theorem dX7_drinks_58 : decode cX7_drinks 58 = .ok (.invokevirtual 63, 3) := by decide +kernel
theorem dX7_drinks_61 : decode cX7_drinks 61 = .ok (.iconst 1, 1) := by decide +kernel
theorem dX7_drinks_62 : decode cX7_drinks 62 = .ok (.iadd, 1) := by decide +kernel
theorem dX7_drinks_63 : decode cX7_drinks 63 = .ok (.invokevirtual 43, 3) := by decide +kernel
theorem dX7_drinks_66 : decode cX7_drinks 66 = .ok (.aload_n 0, 1) := by decide +kernel
theorem dX7_drinks_67 : decode cX7_drinks 67 = .ok (.dup, 1) := by decide +kernel
theorem dX7_drinks_68 : decode cX7_drinks 68 = .ok (.getfield 101, 3) := by decide +kernel
theorem dX7_drinks_71 : decode cX7_drinks 71 = .ok (.iconst 1, 1) := by decide +kernel
theorem dX7_drinks_72 : decode cX7_drinks 72 = .ok (.iadd, 1) := by decide +kernel
theorem dX7_drinks_73 : decode cX7_drinks 73 = .ok (.putfield 101, 3) := by decide +kernel
theorem dX7_drinks_76 : decode cX7_drinks 76 = .ok (.aload_n 0, 1) := by decide +kernel
theorem dX7_drinks_77 : decode cX7_drinks 77 = .ok (.iload_n 1, 1) := by decide +kernel
theorem dX7_drinks_78 : decode cX7_drinks 78 = .ok (.iload_n 3, 1) := by decide +kernel
theorem dX7_drinks_79 : decode cX7_drinks 79 = .ok (.ifCond .ne 7, 3) := by decide +kernel
theorem dX7_drinks_82 : decode cX7_drinks 82 = .ok (.iconst 1, 1) := by decide +kernel
theorem dX7_drinks_83 : decode cX7_drinks 83 = .ok (.goto 4, 3) := by decide +kernel
theorem dX7_drinks_86 : decode cX7_drinks 86 = .ok (.iconst 0, 1) := by decide +kernel
theorem dX7_drinks_87 : decode cX7_drinks 87 = .ok (.invokevirtual 104, 3) := by decide +kernel
theorem dX7_drinks_90 : decode cX7_drinks 90 = .ok (.iinc 3 1, 3) := by decide +kernel
theorem dX7_drinks_93 : decode cX7_drinks 93 = .ok (.goto (-65), 3) := by decide +kernel
theorem dX7_drinks_96 : decode cX7_drinks 96 = .ok (.return_, 1) := by decide +kernel
theorem dX7_settles_0 : decode cX7_settles 0 = .ok (.iconst 0, 1) := by decide +kernel
theorem dX7_settles_1 : decode cX7_settles 1 = .ok (.istore_n 1, 1) := by decide +kernel
theorem dX7_settles_2 : decode cX7_settles 2 = .ok (.iload_n 1, 1) := by decide +kernel
theorem dX7_settles_3 : decode cX7_settles 3 = .ok (.aload_n 0, 1) := by decide +kernel
theorem dX7_settles_4 : decode cX7_settles 4 = .ok (.getfield 7, 3) := by decide +kernel
theorem dX7_settles_7 : decode cX7_settles 7 = .ok (.iconst 0, 1) := by decide +kernel
theorem dX7_settles_8 : decode cX7_settles 8 = .ok (.iaload, 1) := by decide +kernel
theorem dX7_settles_9 : decode cX7_settles 9 = .ok (.if_icmp .ge 66, 3) := by decide +kernel
theorem dX7_settles_12 : decode cX7_settles 12 = .ok (.aload_n 0, 1) := by decide +kernel
theorem dX7_settles_13 : decode cX7_settles 13 = .ok (.iload_n 1, 1) := by decide +kernel
theorem dX7_settles_14 : decode cX7_settles 14 = .ok (.iconst 0, 1) := by decide +kernel
theorem dX7_settles_15 : decode cX7_settles 15 = .ok (.invokevirtual 63, 3) := by decide +kernel
theorem dX7_settles_18 : decode cX7_settles 18 = .ok (.iconst 1, 1) := by decide +kernel
theorem dX7_settles_19 : decode cX7_settles 19 = .ok (.if_icmp .eq 14, 3) := by decide +kernel
theorem dX7_settles_22 : decode cX7_settles 22 = .ok (.aload_n 0, 1) := by decide +kernel
theorem dX7_settles_23 : decode cX7_settles 23 = .ok (.iload_n 1, 1) := by decide +kernel
theorem dX7_settles_24 : decode cX7_settles 24 = .ok (.iconst 0, 1) := by decide +kernel
theorem dX7_settles_25 : decode cX7_settles 25 = .ok (.invokevirtual 63, 3) := by decide +kernel
theorem dX7_settles_28 : decode cX7_settles 28 = .ok (.bipush 6, 2) := by decide +kernel
theorem dX7_settles_30 : decode cX7_settles 30 = .ok (.if_icmp .ne 39, 3) := by decide +kernel
theorem dX7_settles_33 : decode cX7_settles 33 = .ok (.aload_n 0, 1) := by decide +kernel
theorem dX7_settles_34 : decode cX7_settles 34 = .ok (.iload_n 1, 1) := by decide +kernel
theorem dX7_settles_35 : decode cX7_settles 35 = .ok (.iconst 4, 1) := by decide +kernel
theorem dX7_settles_36 : decode cX7_settles 36 = .ok (.invokevirtual 63, 3) := by decide +kernel
theorem dX7_settles_39 : decode cX7_settles 39 = .ok (.aload_n 0, 1) := by decide +kernel
theorem dX7_settles_40 : decode cX7_settles 40 = .ok (.iload_n 1, 1) := by decide +kernel
theorem dX7_settles_41 : decode cX7_settles 41 = .ok (.iconst 2, 1) := by decide +kernel
theorem dX7_settles_42 : decode cX7_settles 42 = .ok (.invokevirtual 63, 3) := by decide +kernel
theorem dX7_settles_45 : decode cX7_settles 45 = .ok (.invokestatic 75, 3) := by decide +kernel
theorem dX7_settles_48 : decode cX7_settles 48 = .ok (.istore_n 2, 1) := by decide +kernel
theorem dX7_settles_49 : decode cX7_settles 49 = .ok (.aload_n 0, 1) := by decide +kernel
theorem dX7_settles_50 : decode cX7_settles 50 = .ok (.iload_n 1, 1) := by decide +kernel
theorem dX7_settles_51 : decode cX7_settles 51 = .ok (.iload_n 2, 1) := by decide +kernel
theorem dX7_settles_52 : decode cX7_settles 52 = .ok (.invokevirtual 90, 3) := by decide +kernel
theorem dX7_settles_55 : decode cX7_settles 55 = .ok (.aload_n 0, 1) := by decide +kernel
theorem dX7_settles_56 : decode cX7_settles 56 = .ok (.iload_n 1, 1) := by decide +kernel
theorem dX7_settles_57 : decode cX7_settles 57 = .ok (.iconst 4, 1) := by decide +kernel
theorem dX7_settles_58 : decode cX7_settles 58 = .ok (.aload_n 0, 1) := by decide +kernel
theorem dX7_settles_59 : decode cX7_settles 59 = .ok (.iload_n 1, 1) := by decide +kernel
theorem dX7_settles_60 : decode cX7_settles 60 = .ok (.iconst 4, 1) := by decide +kernel
theorem dX7_settles_61 : decode cX7_settles 61 = .ok (.invokevirtual 63, 3) := by decide +kernel
theorem dX7_settles_64 : decode cX7_settles 64 = .ok (.iload_n 2, 1) := by decide +kernel
theorem dX7_settles_65 : decode cX7_settles 65 = .ok (.isub, 1) := by decide +kernel
theorem dX7_settles_66 : decode cX7_settles 66 = .ok (.invokevirtual 43, 3) := by decide +kernel
theorem dX7_settles_69 : decode cX7_settles 69 = .ok (.iinc 1 1, 3) := by decide +kernel
theorem dX7_settles_72 : decode cX7_settles 72 = .ok (.goto (-70), 3) := by decide +kernel
theorem dX7_settles_75 : decode cX7_settles 75 = .ok (.aload_n 0, 1) := by decide +kernel
theorem dX7_settles_76 : decode cX7_settles 76 = .ok (.iconst 5, 1) := by decide +kernel
theorem dX7_settles_77 : decode cX7_settles 77 = .ok (.invokevirtual 78, 3) := by decide +kernel
theorem dX7_settles_80 : decode cX7_settles 80 = .ok (.istore_n 1, 1) := by decide +kernel
theorem dX7_settles_81 : decode cX7_settles 81 = .ok (.bipush 19, 2) := by decide +kernel
theorem dX7_settles_83 : decode cX7_settles 83 = .ok (.istore_n 2, 1) := by decide +kernel
theorem dX7_settles_84 : decode cX7_settles 84 = .ok (.iload_n 2, 1) := by decide +kernel
theorem dX7_settles_85 : decode cX7_settles 85 = .ok (.ifCond .le 59, 3) := by decide +kernel
theorem dX7_settles_88 : decode cX7_settles 88 = .ok (.aload_n 0, 1) := by decide +kernel
theorem dX7_settles_89 : decode cX7_settles 89 = .ok (.getfield 7, 3) := by decide +kernel
theorem dX7_settles_92 : decode cX7_settles 92 = .ok (.bipush 82, 2) := by decide +kernel
theorem dX7_settles_94 : decode cX7_settles 94 = .ok (.iconst 2, 1) := by decide +kernel
theorem dX7_settles_95 : decode cX7_settles 95 = .ok (.iload_n 2, 1) := by decide +kernel
theorem dX7_settles_96 : decode cX7_settles 96 = .ok (.imul, 1) := by decide +kernel
theorem dX7_settles_97 : decode cX7_settles 97 = .ok (.iadd, 1) := by decide +kernel
theorem dX7_settles_98 : decode cX7_settles 98 = .ok (.aload_n 0, 1) := by decide +kernel
theorem dX7_settles_99 : decode cX7_settles 99 = .ok (.getfield 7, 3) := by decide +kernel
theorem dX7_settles_102 : decode cX7_settles 102 = .ok (.bipush 82, 2) := by decide +kernel
theorem dX7_settles_104 : decode cX7_settles 104 = .ok (.iconst 2, 1) := by decide +kernel
theorem dX7_settles_105 : decode cX7_settles 105 = .ok (.iload_n 2, 1) := by decide +kernel
theorem dX7_settles_106 : decode cX7_settles 106 = .ok (.imul, 1) := by decide +kernel
theorem dX7_settles_107 : decode cX7_settles 107 = .ok (.iadd, 1) := by decide +kernel
theorem dX7_settles_108 : decode cX7_settles 108 = .ok (.iconst 2, 1) := by decide +kernel
theorem dX7_settles_109 : decode cX7_settles 109 = .ok (.isub, 1) := by decide +kernel
theorem dX7_settles_110 : decode cX7_settles 110 = .ok (.iaload, 1) := by decide +kernel
theorem dX7_settles_111 : decode cX7_settles 111 = .ok (.iastore, 1) := by decide +kernel
theorem dX7_settles_112 : decode cX7_settles 112 = .ok (.aload_n 0, 1) := by decide +kernel
theorem dX7_settles_113 : decode cX7_settles 113 = .ok (.getfield 7, 3) := by decide +kernel
theorem dX7_settles_116 : decode cX7_settles 116 = .ok (.bipush 82, 2) := by decide +kernel
theorem dX7_settles_118 : decode cX7_settles 118 = .ok (.iconst 2, 1) := by decide +kernel
theorem dX7_settles_119 : decode cX7_settles 119 = .ok (.iload_n 2, 1) := by decide +kernel
theorem dX7_settles_120 : decode cX7_settles 120 = .ok (.imul, 1) := by decide +kernel
theorem dX7_settles_121 : decode cX7_settles 121 = .ok (.iadd, 1) := by decide +kernel
theorem dX7_settles_122 : decode cX7_settles 122 = .ok (.iconst 1, 1) := by decide +kernel
theorem dX7_settles_123 : decode cX7_settles 123 = .ok (.iadd, 1) := by decide +kernel
theorem dX7_settles_124 : decode cX7_settles 124 = .ok (.aload_n 0, 1) := by decide +kernel
theorem dX7_settles_125 : decode cX7_settles 125 = .ok (.getfield 7, 3) := by decide +kernel
theorem dX7_settles_128 : decode cX7_settles 128 = .ok (.bipush 82, 2) := by decide +kernel
theorem dX7_settles_130 : decode cX7_settles 130 = .ok (.iconst 2, 1) := by decide +kernel
theorem dX7_settles_131 : decode cX7_settles 131 = .ok (.iload_n 2, 1) := by decide +kernel
theorem dX7_settles_132 : decode cX7_settles 132 = .ok (.imul, 1) := by decide +kernel
theorem dX7_settles_133 : decode cX7_settles 133 = .ok (.iadd, 1) := by decide +kernel
theorem dX7_settles_134 : decode cX7_settles 134 = .ok (.iconst 1, 1) := by decide +kernel
theorem dX7_settles_135 : decode cX7_settles 135 = .ok (.isub, 1) := by decide +kernel
theorem dX7_settles_136 : decode cX7_settles 136 = .ok (.iaload, 1) := by decide +kernel
theorem dX7_settles_137 : decode cX7_settles 137 = .ok (.iastore, 1) := by decide +kernel
theorem dX7_settles_138 : decode cX7_settles 138 = .ok (.iinc 2 (-1), 3) := by decide +kernel
theorem dX7_settles_141 : decode cX7_settles 141 = .ok (.goto (-57), 3) := by decide +kernel
theorem dX7_settles_144 : decode cX7_settles 144 = .ok (.aload_n 0, 1) := by decide +kernel
theorem dX7_settles_145 : decode cX7_settles 145 = .ok (.getfield 7, 3) := by decide +kernel
theorem dX7_settles_148 : decode cX7_settles 148 = .ok (.bipush 82, 2) := by decide +kernel
theorem dX7_settles_150 : decode cX7_settles 150 = .ok (.iload_n 1, 1) := by decide +kernel
theorem dX7_settles_151 : decode cX7_settles 151 = .ok (.iastore, 1) := by decide +kernel
theorem dX7_settles_152 : decode cX7_settles 152 = .ok (.aload_n 0, 1) := by decide +kernel
theorem dX7_settles_153 : decode cX7_settles 153 = .ok (.getfield 7, 3) := by decide +kernel
theorem dX7_settles_156 : decode cX7_settles 156 = .ok (.bipush 83, 2) := by decide +kernel
theorem dX7_settles_158 : decode cX7_settles 158 = .ok (.aload_n 0, 1) := by decide +kernel
theorem dX7_settles_159 : decode cX7_settles 159 = .ok (.getfield 7, 3) := by decide +kernel
theorem dX7_settles_162 : decode cX7_settles 162 = .ok (.bipush 9, 2) := by decide +kernel
theorem dX7_settles_164 : decode cX7_settles 164 = .ok (.iaload, 1) := by decide +kernel
theorem dX7_settles_165 : decode cX7_settles 165 = .ok (.iastore, 1) := by decide +kernel
theorem dX7_settles_166 : decode cX7_settles 166 = .ok (.aload_n 0, 1) := by decide +kernel
theorem dX7_settles_167 : decode cX7_settles 167 = .ok (.getfield 7, 3) := by decide +kernel
theorem dX7_settles_170 : decode cX7_settles 170 = .ok (.bipush 11, 2) := by decide +kernel
theorem dX7_settles_172 : decode cX7_settles 172 = .ok (.bipush 20, 2) := by decide +kernel
theorem dX7_settles_174 : decode cX7_settles 174 = .ok (.aload_n 0, 1) := by decide +kernel
theorem dX7_settles_175 : decode cX7_settles 175 = .ok (.getfield 7, 3) := by decide +kernel
theorem dX7_settles_178 : decode cX7_settles 178 = .ok (.bipush 11, 2) := by decide +kernel
theorem dX7_settles_180 : decode cX7_settles 180 = .ok (.iaload, 1) := by decide +kernel
theorem dX7_settles_181 : decode cX7_settles 181 = .ok (.iconst 1, 1) := by decide +kernel
theorem dX7_settles_182 : decode cX7_settles 182 = .ok (.iadd, 1) := by decide +kernel
theorem dX7_settles_183 : decode cX7_settles 183 = .ok (.invokestatic 75, 3) := by decide +kernel
theorem dX7_settles_186 : decode cX7_settles 186 = .ok (.iastore, 1) := by decide +kernel
theorem dX7_settles_187 : decode cX7_settles 187 = .ok (.aload_n 0, 1) := by decide +kernel
theorem dX7_settles_188 : decode cX7_settles 188 = .ok (.getfield 7, 3) := by decide +kernel
theorem dX7_settles_191 : decode cX7_settles 191 = .ok (.iconst 1, 1) := by decide +kernel
theorem dX7_settles_192 : decode cX7_settles 192 = .ok (.iaload, 1) := by decide +kernel
theorem dX7_settles_193 : decode cX7_settles 193 = .ok (.iload_n 1, 1) := by decide +kernel
theorem dX7_settles_194 : decode cX7_settles 194 = .ok (.imul, 1) := by decide +kernel
theorem dX7_settles_195 : decode cX7_settles 195 = .ok (.istore_n 2, 1) := by decide +kernel
theorem dX7_settles_196 : decode cX7_settles 196 = .ok (.aload_n 0, 1) := by decide +kernel
theorem dX7_settles_197 : decode cX7_settles 197 = .ok (.getfield 7, 3) := by decide +kernel
theorem dX7_settles_200 : decode cX7_settles 200 = .ok (.bipush 6, 2) := by decide +kernel
theorem dX7_settles_202 : decode cX7_settles 202 = .ok (.iload_n 2, 1) := by decide +kernel
theorem dX7_settles_203 : decode cX7_settles 203 = .ok (.ifCond .ne 8, 3) := by decide +kernel
theorem dX7_settles_206 : decode cX7_settles 206 = .ok (.bipush 100, 2) := by decide +kernel
theorem dX7_settles_208 : decode cX7_settles 208 = .ok (.goto 47, 3) := by decide +kernel
theorem dX7_settles_211 : decode cX7_settles 211 = .ok (.aload_n 0, 1) := by decide +kernel
theorem dX7_settles_212 : decode cX7_settles 212 = .ok (.getfield 7, 3) := by decide +kernel
theorem dX7_settles_215 : decode cX7_settles 215 = .ok (.bipush 9, 2) := by decide +kernel
theorem dX7_settles_217 : decode cX7_settles 217 = .ok (.iaload, 1) := by decide +kernel
theorem dX7_settles_218 : decode cX7_settles 218 = .ok (.i2l, 1) := by decide +kernel
theorem dX7_settles_219 : decode cX7_settles 219 = .ok (.ldc2_w 108, 3) := by decide +kernel
theorem dX7_settles_222 : decode cX7_settles 222 = .ok (.lmul, 1) := by decide +kernel
theorem dX7_settles_223 : decode cX7_settles 223 = .ok (.iload_n 2, 1) := by decide +kernel
theorem dX7_settles_224 : decode cX7_settles 224 = .ok (.i2l, 1) := by decide +kernel
theorem dX7_settles_225 : decode cX7_settles 225 = .ok (.ldiv, 1) := by decide +kernel
theorem dX7_settles_226 : decode cX7_settles 226 = .ok (.ldc2_w 73, 3) := by decide +kernel
theorem dX7_settles_229 : decode cX7_settles 229 = .ok (.lcmp, 1) := by decide +kernel
theorem dX7_settles_230 : decode cX7_settles 230 = .ok (.ifCond .le 9, 3) := by decide +kernel
theorem dX7_settles_233 : decode cX7_settles 233 = .ok (.ldc2_w 73, 3) := by decide +kernel
theorem dX7_settles_236 : decode cX7_settles 236 = .ok (.goto 18, 3) := by decide +kernel
theorem dX7_settles_239 : decode cX7_settles 239 = .ok (.aload_n 0, 1) := by decide +kernel
theorem dX7_settles_240 : decode cX7_settles 240 = .ok (.getfield 7, 3) := by decide +kernel
theorem dX7_settles_243 : decode cX7_settles 243 = .ok (.bipush 9, 2) := by decide +kernel
theorem dX7_settles_245 : decode cX7_settles 245 = .ok (.iaload, 1) := by decide +kernel
theorem dX7_settles_246 : decode cX7_settles 246 = .ok (.i2l, 1) := by decide +kernel
theorem dX7_settles_247 : decode cX7_settles 247 = .ok (.ldc2_w 108, 3) := by decide +kernel
theorem dX7_settles_250 : decode cX7_settles 250 = .ok (.lmul, 1) := by decide +kernel
theorem dX7_settles_251 : decode cX7_settles 251 = .ok (.iload_n 2, 1) := by decide +kernel
theorem dX7_settles_252 : decode cX7_settles 252 = .ok (.i2l, 1) := by decide +kernel
theorem dX7_settles_253 : decode cX7_settles 253 = .ok (.ldiv, 1) := by decide +kernel
theorem dX7_settles_254 : decode cX7_settles 254 = .ok (.l2i, 1) := by decide +kernel
theorem dX7_settles_255 : decode cX7_settles 255 = .ok (.iastore, 1) := by decide +kernel
theorem dX7_settles_256 : decode cX7_settles 256 = .ok (.aload_n 0, 1) := by decide +kernel
theorem dX7_settles_257 : decode cX7_settles 257 = .ok (.getfield 7, 3) := by decide +kernel
theorem dX7_settles_260 : decode cX7_settles 260 = .ok (.bipush 9, 2) := by decide +kernel
theorem dX7_settles_262 : decode cX7_settles 262 = .ok (.iconst 0, 1) := by decide +kernel
theorem dX7_settles_263 : decode cX7_settles 263 = .ok (.iastore, 1) := by decide +kernel
theorem dX7_settles_264 : decode cX7_settles 264 = .ok (.iconst 0, 1) := by decide +kernel
theorem dX7_settles_265 : decode cX7_settles 265 = .ok (.istore_n 3, 1) := by decide +kernel
theorem dX7_settles_266 : decode cX7_settles 266 = .ok (.iload_n 3, 1) := by decide +kernel
theorem dX7_settles_267 : decode cX7_settles 267 = .ok (.aload_n 0, 1) := by decide +kernel
theorem dX7_settles_268 : decode cX7_settles 268 = .ok (.getfield 7, 3) := by decide +kernel
theorem dX7_settles_271 : decode cX7_settles 271 = .ok (.iconst 0, 1) := by decide +kernel
theorem dX7_settles_272 : decode cX7_settles 272 = .ok (.iaload, 1) := by decide +kernel
theorem dX7_settles_273 : decode cX7_settles 273 = .ok (.if_icmp .ge 24, 3) := by decide +kernel
theorem dX7_settles_276 : decode cX7_settles 276 = .ok (.aload_n 0, 1) := by decide +kernel
theorem dX7_settles_277 : decode cX7_settles 277 = .ok (.iload_n 3, 1) := by decide +kernel
theorem dX7_settles_278 : decode cX7_settles 278 = .ok (.iconst 5, 1) := by decide +kernel
theorem dX7_settles_279 : decode cX7_settles 279 = .ok (.iconst 0, 1) := by decide +kernel
theorem dX7_settles_280 : decode cX7_settles 280 = .ok (.invokevirtual 43, 3) := by decide +kernel
theorem dX7_settles_283 : decode cX7_settles 283 = .ok (.aload_n 0, 1) := by decide +kernel
theorem dX7_settles_284 : decode cX7_settles 284 = .ok (.iload_n 3, 1) := by decide +kernel
theorem dX7_settles_285 : decode cX7_settles 285 = .ok (.bipush 6, 2) := by decide +kernel
theorem dX7_settles_287 : decode cX7_settles 287 = .ok (.iconst 0, 1) := by decide +kernel
theorem dX7_settles_288 : decode cX7_settles 288 = .ok (.invokevirtual 43, 3) := by decide +kernel
theorem dX7_settles_291 : decode cX7_settles 291 = .ok (.iinc 3 1, 3) := by decide +kernel
theorem dX7_settles_294 : decode cX7_settles 294 = .ok (.goto (-28), 3) := by decide +kernel
theorem dX7_settles_297 : decode cX7_settles 297 = .ok (.return_, 1) := by decide +kernel
theorem dX7_goesBy_0 : decode cX7_goesBy 0 = .ok (.iconst 0, 1) := by decide +kernel
theorem dX7_goesBy_1 : decode cX7_goesBy 1 = .ok (.istore_n 1, 1) := by decide +kernel
theorem dX7_goesBy_2 : decode cX7_goesBy 2 = .ok (.iload_n 1, 1) := by decide +kernel
theorem dX7_goesBy_3 : decode cX7_goesBy 3 = .ok (.aload_n 0, 1) := by decide +kernel
theorem dX7_goesBy_4 : decode cX7_goesBy 4 = .ok (.getfield 7, 3) := by decide +kernel
theorem dX7_goesBy_7 : decode cX7_goesBy 7 = .ok (.iconst 0, 1) := by decide +kernel
theorem dX7_goesBy_8 : decode cX7_goesBy 8 = .ok (.iaload, 1) := by decide +kernel
theorem dX7_goesBy_9 : decode cX7_goesBy 9 = .ok (.if_icmp .ge 14, 3) := by decide +kernel
theorem dX7_goesBy_12 : decode cX7_goesBy 12 = .ok (.aload_n 0, 1) := by decide +kernel
theorem dX7_goesBy_13 : decode cX7_goesBy 13 = .ok (.iload_n 1, 1) := by decide +kernel
theorem dX7_goesBy_14 : decode cX7_goesBy 14 = .ok (.invokevirtual 110, 3) := by decide +kernel
theorem dX7_goesBy_17 : decode cX7_goesBy 17 = .ok (.iinc 1 1, 3) := by decide +kernel
theorem dX7_goesBy_20 : decode cX7_goesBy 20 = .ok (.goto (-18), 3) := by decide +kernel
theorem dX7_goesBy_23 : decode cX7_goesBy 23 = .ok (.aload_n 0, 1) := by decide +kernel
theorem dX7_goesBy_24 : decode cX7_goesBy 24 = .ok (.getfield 7, 3) := by decide +kernel
theorem dX7_goesBy_27 : decode cX7_goesBy 27 = .ok (.iconst 3, 1) := by decide +kernel
theorem dX7_goesBy_28 : decode cX7_goesBy 28 = .ok (.aload_n 0, 1) := by decide +kernel
theorem dX7_goesBy_29 : decode cX7_goesBy 29 = .ok (.getfield 7, 3) := by decide +kernel
theorem dX7_goesBy_32 : decode cX7_goesBy 32 = .ok (.iconst 2, 1) := by decide +kernel
theorem dX7_goesBy_33 : decode cX7_goesBy 33 = .ok (.iaload, 1) := by decide +kernel
theorem dX7_goesBy_34 : decode cX7_goesBy 34 = .ok (.iastore, 1) := by decide +kernel
theorem dX7_goesBy_35 : decode cX7_goesBy 35 = .ok (.aload_n 0, 1) := by decide +kernel
theorem dX7_goesBy_36 : decode cX7_goesBy 36 = .ok (.getfield 7, 3) := by decide +kernel
theorem dX7_goesBy_39 : decode cX7_goesBy 39 = .ok (.bipush 7, 2) := by decide +kernel
theorem dX7_goesBy_41 : decode cX7_goesBy 41 = .ok (.iaload, 1) := by decide +kernel
theorem dX7_goesBy_42 : decode cX7_goesBy 42 = .ok (.iconst 5, 1) := by decide +kernel
theorem dX7_goesBy_43 : decode cX7_goesBy 43 = .ok (.irem, 1) := by decide +kernel
theorem dX7_goesBy_44 : decode cX7_goesBy 44 = .ok (.iconst 4, 1) := by decide +kernel
theorem dX7_goesBy_45 : decode cX7_goesBy 45 = .ok (.if_icmp .ne 7, 3) := by decide +kernel
theorem dX7_goesBy_48 : decode cX7_goesBy 48 = .ok (.aload_n 0, 1) := by decide +kernel
theorem dX7_goesBy_49 : decode cX7_goesBy 49 = .ok (.invokevirtual 113, 3) := by decide +kernel
theorem dX7_goesBy_52 : decode cX7_goesBy 52 = .ok (.aload_n 0, 1) := by decide +kernel
theorem dX7_goesBy_53 : decode cX7_goesBy 53 = .ok (.getfield 7, 3) := by decide +kernel
theorem dX7_goesBy_56 : decode cX7_goesBy 56 = .ok (.bipush 7, 2) := by decide +kernel
theorem dX7_goesBy_58 : decode cX7_goesBy 58 = .ok (.dup2, 1) := by decide +kernel
theorem dX7_goesBy_59 : decode cX7_goesBy 59 = .ok (.iaload, 1) := by decide +kernel
theorem dX7_goesBy_60 : decode cX7_goesBy 60 = .ok (.iconst 1, 1) := by decide +kernel
theorem dX7_goesBy_61 : decode cX7_goesBy 61 = .ok (.iadd, 1) := by decide +kernel
theorem dX7_goesBy_62 : decode cX7_goesBy 62 = .ok (.iastore, 1) := by decide +kernel
theorem dX7_goesBy_63 : decode cX7_goesBy 63 = .ok (.return_, 1) := by decide +kernel
theorem dX7_goesOn_0 : decode cX7_goesOn 0 = .ok (.aload_n 0, 1) := by decide +kernel
theorem dX7_goesOn_1 : decode cX7_goesOn 1 = .ok (.iconst 0, 1) := by decide +kernel
theorem dX7_goesOn_2 : decode cX7_goesOn 2 = .ok (.putfield 82, 3) := by decide +kernel
theorem dX7_goesOn_5 : decode cX7_goesOn 5 = .ok (.aload_n 0, 1) := by decide +kernel
theorem dX7_goesOn_6 : decode cX7_goesOn 6 = .ok (.iconst 0, 1) := by decide +kernel
theorem dX7_goesOn_7 : decode cX7_goesOn 7 = .ok (.putfield 101, 3) := by decide +kernel
theorem dX7_goesOn_10 : decode cX7_goesOn 10 = .ok (.iconst 0, 1) := by decide +kernel
theorem dX7_goesOn_11 : decode cX7_goesOn 11 = .ok (.istore_n 2, 1) := by decide +kernel
theorem dX7_goesOn_12 : decode cX7_goesOn 12 = .ok (.iload_n 2, 1) := by decide +kernel
theorem dX7_goesOn_13 : decode cX7_goesOn 13 = .ok (.iload_n 1, 1) := by decide +kernel
theorem dX7_goesOn_14 : decode cX7_goesOn 14 = .ok (.if_icmp .ge 13, 3) := by decide +kernel
theorem dX7_goesOn_17 : decode cX7_goesOn 17 = .ok (.aload_n 0, 1) := by decide +kernel
theorem dX7_goesOn_18 : decode cX7_goesOn 18 = .ok (.invokevirtual 116, 3) := by decide +kernel
theorem dX7_goesOn_21 : decode cX7_goesOn 21 = .ok (.iinc 2 1, 3) := by decide +kernel
theorem dX7_goesOn_24 : decode cX7_goesOn 24 = .ok (.goto (-12), 3) := by decide +kernel
theorem dX7_goesOn_27 : decode cX7_goesOn 27 = .ok (.aload_n 0, 1) := by decide +kernel
theorem dX7_goesOn_28 : decode cX7_goesOn 28 = .ok (.getfield 82, 3) := by decide +kernel
theorem dX7_goesOn_31 : decode cX7_goesOn 31 = .ok (.ireturn, 1) := by decide +kernel
theorem dX7_isFar_0 : decode cX7_isFar 0 = .ok (.aload_n 0, 1) := by decide +kernel
theorem dX7_isFar_1 : decode cX7_isFar 1 = .ok (.getfield 7, 3) := by decide +kernel
theorem dX7_isFar_4 : decode cX7_isFar 4 = .ok (.bipush 7, 2) := by decide +kernel
theorem dX7_isFar_6 : decode cX7_isFar 6 = .ok (.iaload, 1) := by decide +kernel
theorem dX7_isFar_7 : decode cX7_isFar 7 = .ok (.iload_n 1, 1) := by decide +kernel
theorem dX7_isFar_8 : decode cX7_isFar 8 = .ok (.iadd, 1) := by decide +kernel
theorem dX7_isFar_9 : decode cX7_isFar 9 = .ok (.sipush 9999, 3) := by decide +kernel
theorem dX7_isFar_12 : decode cX7_isFar 12 = .ok (.if_icmp .le 7, 3) := by decide +kernel
theorem dX7_isFar_15 : decode cX7_isFar 15 = .ok (.iconst 1, 1) := by decide +kernel
theorem dX7_isFar_16 : decode cX7_isFar 16 = .ok (.goto 4, 3) := by decide +kernel
theorem dX7_isFar_19 : decode cX7_isFar 19 = .ok (.iconst 0, 1) := by decide +kernel
theorem dX7_isFar_20 : decode cX7_isFar 20 = .ok (.ireturn, 1) := by decide +kernel
theorem dX7_days_0 : decode cX7_days 0 = .ok (.iload_n 1, 1) := by decide +kernel
theorem dX7_days_1 : decode cX7_days 1 = .ok (.i2l, 1) := by decide +kernel
theorem dX7_days_2 : decode cX7_days 2 = .ok (.lconst 1, 1) := by decide +kernel
theorem dX7_days_3 : decode cX7_days 3 = .ok (.ldc2_w 119, 3) := by decide +kernel
theorem dX7_days_6 : decode cX7_days 6 = .ok (.invokestatic 39, 3) := by decide +kernel
theorem dX7_days_9 : decode cX7_days 9 = .ok (.ifCond .ne 9, 3) := by decide +kernel
theorem dX7_days_12 : decode cX7_days 12 = .ok (.aload_n 0, 1) := by decide +kernel
theorem dX7_days_13 : decode cX7_days 13 = .ok (.iconst 0, 1) := by decide +kernel
theorem dX7_days_14 : decode cX7_days 14 = .ok (.invokevirtual 51, 3) := by decide +kernel
theorem dX7_days_17 : decode cX7_days 17 = .ok (.ireturn, 1) := by decide +kernel
theorem dX7_days_18 : decode cX7_days 18 = .ok (.aload_n 0, 1) := by decide +kernel
theorem dX7_days_19 : decode cX7_days 19 = .ok (.iload_n 1, 1) := by decide +kernel
theorem dX7_days_20 : decode cX7_days 20 = .ok (.invokevirtual 121, 3) := by decide +kernel
theorem dX7_days_23 : decode cX7_days 23 = .ok (.ifCond .eq 11, 3) := by decide +kernel
theorem dX7_days_26 : decode cX7_days 26 = .ok (.aload_n 0, 1) := by decide +kernel
theorem dX7_days_27 : decode cX7_days 27 = .ok (.iconst 4, 1) := by decide +kernel
theorem dX7_days_28 : decode cX7_days 28 = .ok (.invokevirtual 51, 3) := by decide +kernel
theorem dX7_days_31 : decode cX7_days 31 = .ok (.goto 8, 3) := by decide +kernel
theorem dX7_days_34 : decode cX7_days 34 = .ok (.aload_n 0, 1) := by decide +kernel
theorem dX7_days_35 : decode cX7_days 35 = .ok (.iload_n 1, 1) := by decide +kernel
theorem dX7_days_36 : decode cX7_days 36 = .ok (.invokevirtual 124, 3) := by decide +kernel
theorem dX7_days_39 : decode cX7_days 39 = .ok (.ireturn, 1) := by decide +kernel
theorem dX7_week_0 : decode cX7_week 0 = .ok (.iload_n 1, 1) := by decide +kernel
theorem dX7_week_1 : decode cX7_week 1 = .ok (.ifCond .lt 13, 3) := by decide +kernel
theorem dX7_week_4 : decode cX7_week 4 = .ok (.iload_n 2, 1) := by decide +kernel
theorem dX7_week_5 : decode cX7_week 5 = .ok (.i2l, 1) := by decide +kernel
theorem dX7_week_6 : decode cX7_week 6 = .ok (.lconst 0, 1) := by decide +kernel
theorem dX7_week_7 : decode cX7_week 7 = .ok (.lconst 1, 1) := by decide +kernel
theorem dX7_week_8 : decode cX7_week 8 = .ok (.invokestatic 39, 3) := by decide +kernel
theorem dX7_week_11 : decode cX7_week 11 = .ok (.ifCond .ne 9, 3) := by decide +kernel
theorem dX7_week_14 : decode cX7_week 14 = .ok (.aload_n 0, 1) := by decide +kernel
theorem dX7_week_15 : decode cX7_week 15 = .ok (.iconst 0, 1) := by decide +kernel
theorem dX7_week_16 : decode cX7_week 16 = .ok (.invokevirtual 51, 3) := by decide +kernel
theorem dX7_week_19 : decode cX7_week 19 = .ok (.ireturn, 1) := by decide +kernel
theorem dX7_week_20 : decode cX7_week 20 = .ok (.iload_n 1, 1) := by decide +kernel
theorem dX7_week_21 : decode cX7_week 21 = .ok (.aload_n 0, 1) := by decide +kernel
theorem dX7_week_22 : decode cX7_week 22 = .ok (.getfield 7, 3) := by decide +kernel
theorem dX7_week_25 : decode cX7_week 25 = .ok (.bipush 11, 2) := by decide +kernel
theorem dX7_week_27 : decode cX7_week 27 = .ok (.iaload, 1) := by decide +kernel
theorem dX7_week_28 : decode cX7_week 28 = .ok (.if_icmp .lt 11, 3) := by decide +kernel
theorem dX7_week_31 : decode cX7_week 31 = .ok (.aload_n 0, 1) := by decide +kernel
theorem dX7_week_32 : decode cX7_week 32 = .ok (.iconst 3, 1) := by decide +kernel
theorem dX7_week_33 : decode cX7_week 33 = .ok (.invokevirtual 51, 3) := by decide +kernel
theorem dX7_week_36 : decode cX7_week 36 = .ok (.goto 16, 3) := by decide +kernel
theorem dX7_week_39 : decode cX7_week 39 = .ok (.aload_n 0, 1) := by decide +kernel
theorem dX7_week_40 : decode cX7_week 40 = .ok (.getfield 7, 3) := by decide +kernel
theorem dX7_week_43 : decode cX7_week 43 = .ok (.bipush 82, 2) := by decide +kernel
theorem dX7_week_45 : decode cX7_week 45 = .ok (.iconst 2, 1) := by decide +kernel
theorem dX7_week_46 : decode cX7_week 46 = .ok (.iload_n 1, 1) := by decide +kernel
theorem dX7_week_47 : decode cX7_week 47 = .ok (.imul, 1) := by decide +kernel
theorem dX7_week_48 : decode cX7_week 48 = .ok (.iadd, 1) := by decide +kernel
theorem dX7_week_49 : decode cX7_week 49 = .ok (.iload_n 2, 1) := by decide +kernel
theorem dX7_week_50 : decode cX7_week 50 = .ok (.iadd, 1) := by decide +kernel
theorem dX7_week_51 : decode cX7_week 51 = .ok (.iaload, 1) := by decide +kernel
theorem dX7_week_52 : decode cX7_week 52 = .ok (.ireturn, 1) := by decide +kernel
theorem dX7_common_0 : decode cX7_common 0 = .ok (.iload_n 0, 1) := by decide +kernel
theorem dX7_common_1 : decode cX7_common 1 = .ok (.istore_n 2, 1) := by decide +kernel
theorem dX7_common_2 : decode cX7_common 2 = .ok (.iload_n 1, 1) := by decide +kernel
theorem dX7_common_3 : decode cX7_common 3 = .ok (.istore_n 3, 1) := by decide +kernel
theorem dX7_common_4 : decode cX7_common 4 = .ok (.iload_n 3, 1) := by decide +kernel
theorem dX7_common_5 : decode cX7_common 5 = .ok (.ifCond .eq 16, 3) := by decide +kernel
theorem dX7_common_8 : decode cX7_common 8 = .ok (.iload_n 2, 1) := by decide +kernel
theorem dX7_common_9 : decode cX7_common 9 = .ok (.iload_n 3, 1) := by decide +kernel
theorem dX7_common_10 : decode cX7_common 10 = .ok (.irem, 1) := by decide +kernel
theorem dX7_common_11 : decode cX7_common 11 = .ok (.istore 4, 2) := by decide +kernel
theorem dX7_common_13 : decode cX7_common 13 = .ok (.iload_n 3, 1) := by decide +kernel
theorem dX7_common_14 : decode cX7_common 14 = .ok (.istore_n 2, 1) := by decide +kernel
theorem dX7_common_15 : decode cX7_common 15 = .ok (.iload 4, 2) := by decide +kernel
theorem dX7_common_17 : decode cX7_common 17 = .ok (.istore_n 3, 1) := by decide +kernel
theorem dX7_common_18 : decode cX7_common 18 = .ok (.goto (-14), 3) := by decide +kernel
theorem dX7_common_21 : decode cX7_common 21 = .ok (.iload_n 2, 1) := by decide +kernel
theorem dX7_common_22 : decode cX7_common 22 = .ok (.ireturn, 1) := by decide +kernel
theorem dX7_each_0 : decode cX7_each 0 = .ok (.iload_n 1, 1) := by decide +kernel
theorem dX7_each_1 : decode cX7_each 1 = .ok (.i2l, 1) := by decide +kernel
theorem dX7_each_2 : decode cX7_each 2 = .ok (.lconst 0, 1) := by decide +kernel
theorem dX7_each_3 : decode cX7_each 3 = .ok (.lconst 1, 1) := by decide +kernel
theorem dX7_each_4 : decode cX7_each 4 = .ok (.invokestatic 39, 3) := by decide +kernel
theorem dX7_each_7 : decode cX7_each 7 = .ok (.ifCond .ne 9, 3) := by decide +kernel
theorem dX7_each_10 : decode cX7_each 10 = .ok (.aload_n 0, 1) := by decide +kernel
theorem dX7_each_11 : decode cX7_each 11 = .ok (.iconst 0, 1) := by decide +kernel
theorem dX7_each_12 : decode cX7_each 12 = .ok (.invokevirtual 51, 3) := by decide +kernel
theorem dX7_each_15 : decode cX7_each 15 = .ok (.ireturn, 1) := by decide +kernel
theorem dX7_each_16 : decode cX7_each 16 = .ok (.iconst 0, 1) := by decide +kernel
theorem dX7_each_17 : decode cX7_each 17 = .ok (.istore_n 2, 1) := by decide +kernel
theorem dX7_each_18 : decode cX7_each 18 = .ok (.iconst 0, 1) := by decide +kernel
theorem dX7_each_19 : decode cX7_each 19 = .ok (.istore_n 3, 1) := by decide +kernel
theorem dX7_each_20 : decode cX7_each 20 = .ok (.iconst 0, 1) := by decide +kernel
theorem dX7_each_21 : decode cX7_each 21 = .ok (.istore 4, 2) := by decide +kernel
theorem dX7_each_23 : decode cX7_each 23 = .ok (.iload 4, 2) := by decide +kernel
theorem dX7_each_25 : decode cX7_each 25 = .ok (.aload_n 0, 1) := by decide +kernel
theorem dX7_each_26 : decode cX7_each 26 = .ok (.getfield 7, 3) := by decide +kernel
theorem dX7_each_29 : decode cX7_each 29 = .ok (.bipush 11, 2) := by decide +kernel
theorem dX7_each_31 : decode cX7_each 31 = .ok (.iaload, 1) := by decide +kernel
theorem dX7_each_32 : decode cX7_each 32 = .ok (.if_icmp .ge 41, 3) := by decide +kernel
theorem dX7_each_35 : decode cX7_each 35 = .ok (.iload_n 3, 1) := by decide +kernel
theorem dX7_each_36 : decode cX7_each 36 = .ok (.aload_n 0, 1) := by decide +kernel
theorem dX7_each_37 : decode cX7_each 37 = .ok (.getfield 7, 3) := by decide +kernel
theorem dX7_each_40 : decode cX7_each 40 = .ok (.bipush 82, 2) := by decide +kernel
theorem dX7_each_42 : decode cX7_each 42 = .ok (.iconst 2, 1) := by decide +kernel
theorem dX7_each_43 : decode cX7_each 43 = .ok (.iload 4, 2) := by decide +kernel
theorem dX7_each_45 : decode cX7_each 45 = .ok (.imul, 1) := by decide +kernel
theorem dX7_each_46 : decode cX7_each 46 = .ok (.iadd, 1) := by decide +kernel
theorem dX7_each_47 : decode cX7_each 47 = .ok (.iaload, 1) := by decide +kernel
theorem dX7_each_48 : decode cX7_each 48 = .ok (.iadd, 1) := by decide +kernel
theorem dX7_each_49 : decode cX7_each 49 = .ok (.istore_n 3, 1) := by decide +kernel
theorem dX7_each_50 : decode cX7_each 50 = .ok (.iload_n 2, 1) := by decide +kernel
theorem dX7_each_51 : decode cX7_each 51 = .ok (.aload_n 0, 1) := by decide +kernel
theorem dX7_each_52 : decode cX7_each 52 = .ok (.getfield 7, 3) := by decide +kernel
theorem dX7_each_55 : decode cX7_each 55 = .ok (.bipush 82, 2) := by decide +kernel
theorem dX7_each_57 : decode cX7_each 57 = .ok (.iconst 2, 1) := by decide +kernel
theorem dX7_each_58 : decode cX7_each 58 = .ok (.iload 4, 2) := by decide +kernel
theorem dX7_each_60 : decode cX7_each 60 = .ok (.imul, 1) := by decide +kernel
theorem dX7_each_61 : decode cX7_each 61 = .ok (.iadd, 1) := by decide +kernel
theorem dX7_each_62 : decode cX7_each 62 = .ok (.iconst 1, 1) := by decide +kernel
theorem dX7_each_63 : decode cX7_each 63 = .ok (.iadd, 1) := by decide +kernel
theorem dX7_each_64 : decode cX7_each 64 = .ok (.iaload, 1) := by decide +kernel
theorem dX7_each_65 : decode cX7_each 65 = .ok (.iadd, 1) := by decide +kernel
theorem dX7_each_66 : decode cX7_each 66 = .ok (.istore_n 2, 1) := by decide +kernel
theorem dX7_each_67 : decode cX7_each 67 = .ok (.iinc 4 1, 3) := by decide +kernel
theorem dX7_each_70 : decode cX7_each 70 = .ok (.goto (-47), 3) := by decide +kernel
theorem dX7_each_73 : decode cX7_each 73 = .ok (.iload_n 3, 1) := by decide +kernel
theorem dX7_each_74 : decode cX7_each 74 = .ok (.ifCond .ne 9, 3) := by decide +kernel
theorem dX7_each_77 : decode cX7_each 77 = .ok (.aload_n 0, 1) := by decide +kernel
theorem dX7_each_78 : decode cX7_each 78 = .ok (.iconst 3, 1) := by decide +kernel
theorem dX7_each_79 : decode cX7_each 79 = .ok (.invokevirtual 51, 3) := by decide +kernel
theorem dX7_each_82 : decode cX7_each 82 = .ok (.ireturn, 1) := by decide +kernel
theorem dX7_each_83 : decode cX7_each 83 = .ok (.iload_n 1, 1) := by decide +kernel
theorem dX7_each_84 : decode cX7_each 84 = .ok (.ifCond .ne 7, 3) := by decide +kernel
theorem dX7_each_87 : decode cX7_each 87 = .ok (.iload_n 2, 1) := by decide +kernel
theorem dX7_each_88 : decode cX7_each 88 = .ok (.goto 4, 3) := by decide +kernel
theorem dX7_each_91 : decode cX7_each 91 = .ok (.iload_n 3, 1) := by decide +kernel
theorem dX7_each_92 : decode cX7_each 92 = .ok (.iload_n 2, 1) := by decide +kernel
theorem dX7_each_93 : decode cX7_each 93 = .ok (.iload_n 3, 1) := by decide +kernel
theorem dX7_each_94 : decode cX7_each 94 = .ok (.invokestatic 127, 3) := by decide +kernel
theorem dX7_each_97 : decode cX7_each 97 = .ok (.idiv, 1) := by decide +kernel
theorem dX7_each_98 : decode cX7_each 98 = .ok (.ireturn, 1) := by decide +kernel
theorem dX7_isSum_0 : decode cX7_isSum 0 = .ok (.iconst 0, 1) := by decide +kernel
theorem dX7_isSum_1 : decode cX7_isSum 1 = .ok (.istore_n 3, 1) := by decide +kernel
theorem dX7_isSum_2 : decode cX7_isSum 2 = .ok (.iconst 0, 1) := by decide +kernel
theorem dX7_isSum_3 : decode cX7_isSum 3 = .ok (.istore 4, 2) := by decide +kernel
theorem dX7_isSum_5 : decode cX7_isSum 5 = .ok (.iload 4, 2) := by decide +kernel
theorem dX7_isSum_7 : decode cX7_isSum 7 = .ok (.aload_n 0, 1) := by decide +kernel
theorem dX7_isSum_8 : decode cX7_isSum 8 = .ok (.getfield 7, 3) := by decide +kernel
theorem dX7_isSum_11 : decode cX7_isSum 11 = .ok (.iconst 0, 1) := by decide +kernel
theorem dX7_isSum_12 : decode cX7_isSum 12 = .ok (.iaload, 1) := by decide +kernel
theorem dX7_isSum_13 : decode cX7_isSum 13 = .ok (.if_icmp .ge 26, 3) := by decide +kernel
theorem dX7_isSum_16 : decode cX7_isSum 16 = .ok (.iload_n 3, 1) := by decide +kernel
theorem dX7_isSum_17 : decode cX7_isSum 17 = .ok (.iload_n 1, 1) := by decide +kernel
theorem dX7_isSum_18 : decode cX7_isSum 18 = .ok (.iload 4, 2) := by decide +kernel
theorem dX7_isSum_20 : decode cX7_isSum 20 = .ok (.ishr, 1) := by decide +kernel
theorem dX7_isSum_21 : decode cX7_isSum 21 = .ok (.iconst 1, 1) := by decide +kernel
theorem dX7_isSum_22 : decode cX7_isSum 22 = .ok (.iand, 1) := by decide +kernel
theorem dX7_isSum_23 : decode cX7_isSum 23 = .ok (.aload_n 0, 1) := by decide +kernel
theorem dX7_isSum_24 : decode cX7_isSum 24 = .ok (.iload 4, 2) := by decide +kernel
theorem dX7_isSum_26 : decode cX7_isSum 26 = .ok (.iconst 5, 1) := by decide +kernel
theorem dX7_isSum_27 : decode cX7_isSum 27 = .ok (.invokevirtual 63, 3) := by decide +kernel
theorem dX7_isSum_30 : decode cX7_isSum 30 = .ok (.imul, 1) := by decide +kernel
theorem dX7_isSum_31 : decode cX7_isSum 31 = .ok (.iadd, 1) := by decide +kernel
theorem dX7_isSum_32 : decode cX7_isSum 32 = .ok (.istore_n 3, 1) := by decide +kernel
theorem dX7_isSum_33 : decode cX7_isSum 33 = .ok (.iinc 4 1, 3) := by decide +kernel
theorem dX7_isSum_36 : decode cX7_isSum 36 = .ok (.goto (-31), 3) := by decide +kernel
theorem dX7_isSum_39 : decode cX7_isSum 39 = .ok (.iload_n 3, 1) := by decide +kernel
theorem dX7_isSum_40 : decode cX7_isSum 40 = .ok (.aload_n 0, 1) := by decide +kernel
theorem dX7_isSum_41 : decode cX7_isSum 41 = .ok (.getfield 7, 3) := by decide +kernel
theorem dX7_isSum_44 : decode cX7_isSum 44 = .ok (.iconst 1, 1) := by decide +kernel
theorem dX7_isSum_45 : decode cX7_isSum 45 = .ok (.iaload, 1) := by decide +kernel
theorem dX7_isSum_46 : decode cX7_isSum 46 = .ok (.imul, 1) := by decide +kernel
theorem dX7_isSum_47 : decode cX7_isSum 47 = .ok (.iload_n 2, 1) := by decide +kernel
theorem dX7_isSum_48 : decode cX7_isSum 48 = .ok (.if_icmp .ne 7, 3) := by decide +kernel
theorem dX7_isSum_51 : decode cX7_isSum 51 = .ok (.iconst 1, 1) := by decide +kernel
theorem dX7_isSum_52 : decode cX7_isSum 52 = .ok (.goto 4, 3) := by decide +kernel
theorem dX7_isSum_55 : decode cX7_isSum 55 = .ok (.iconst 0, 1) := by decide +kernel
theorem dX7_isSum_56 : decode cX7_isSum 56 = .ok (.ireturn, 1) := by decide +kernel
theorem dX7_ones_0 : decode cX7_ones 0 = .ok (.iconst 0, 1) := by decide +kernel
theorem dX7_ones_1 : decode cX7_ones 1 = .ok (.istore_n 1, 1) := by decide +kernel
theorem dX7_ones_2 : decode cX7_ones 2 = .ok (.iconst 0, 1) := by decide +kernel
theorem dX7_ones_3 : decode cX7_ones 3 = .ok (.istore_n 2, 1) := by decide +kernel
theorem dX7_ones_4 : decode cX7_ones 4 = .ok (.iload_n 2, 1) := by decide +kernel
theorem dX7_ones_5 : decode cX7_ones 5 = .ok (.bipush 12, 2) := by decide +kernel
theorem dX7_ones_7 : decode cX7_ones 7 = .ok (.if_icmp .ge 17, 3) := by decide +kernel
theorem dX7_ones_10 : decode cX7_ones 10 = .ok (.iload_n 1, 1) := by decide +kernel
theorem dX7_ones_11 : decode cX7_ones 11 = .ok (.iload_n 0, 1) := by decide +kernel
theorem dX7_ones_12 : decode cX7_ones 12 = .ok (.iload_n 2, 1) := by decide +kernel
theorem dX7_ones_13 : decode cX7_ones 13 = .ok (.ishr, 1) := by decide +kernel
theorem dX7_ones_14 : decode cX7_ones 14 = .ok (.iconst 1, 1) := by decide +kernel
theorem dX7_ones_15 : decode cX7_ones 15 = .ok (.iand, 1) := by decide +kernel
theorem dX7_ones_16 : decode cX7_ones 16 = .ok (.iadd, 1) := by decide +kernel
theorem dX7_ones_17 : decode cX7_ones 17 = .ok (.istore_n 1, 1) := by decide +kernel
theorem dX7_ones_18 : decode cX7_ones 18 = .ok (.iinc 2 1, 3) := by decide +kernel
theorem dX7_ones_21 : decode cX7_ones 21 = .ok (.goto (-17), 3) := by decide +kernel
theorem dX7_ones_24 : decode cX7_ones 24 = .ok (.iload_n 1, 1) := by decide +kernel
theorem dX7_ones_25 : decode cX7_ones 25 = .ok (.ireturn, 1) := by decide +kernel
theorem dX7_findSets_0 : decode cX7_findSets 0 = .ok (.aload_n 0, 1) := by decide +kernel
theorem dX7_findSets_1 : decode cX7_findSets 1 = .ok (.iconst 0, 1) := by decide +kernel
theorem dX7_findSets_2 : decode cX7_findSets 2 = .ok (.putfield 130, 3) := by decide +kernel
theorem dX7_findSets_5 : decode cX7_findSets 5 = .ok (.aload_n 0, 1) := by decide +kernel
theorem dX7_findSets_6 : decode cX7_findSets 6 = .ok (.iconst (-1), 1) := by decide +kernel
theorem dX7_findSets_7 : decode cX7_findSets 7 = .ok (.putfield 133, 3) := by decide +kernel
theorem dX7_findSets_10 : decode cX7_findSets 10 = .ok (.aload_n 0, 1) := by decide +kernel
theorem dX7_findSets_11 : decode cX7_findSets 11 = .ok (.iconst 0, 1) := by decide +kernel
theorem dX7_findSets_12 : decode cX7_findSets 12 = .ok (.putfield 136, 3) := by decide +kernel
theorem dX7_findSets_15 : decode cX7_findSets 15 = .ok (.aload_n 0, 1) := by decide +kernel
theorem dX7_findSets_16 : decode cX7_findSets 16 = .ok (.iconst 0, 1) := by decide +kernel
theorem dX7_findSets_17 : decode cX7_findSets 17 = .ok (.putfield 139, 3) := by decide +kernel
theorem dX7_findSets_20 : decode cX7_findSets 20 = .ok (.iconst 1, 1) := by decide +kernel
theorem dX7_findSets_21 : decode cX7_findSets 21 = .ok (.istore_n 2, 1) := by decide +kernel
theorem dX7_findSets_22 : decode cX7_findSets 22 = .ok (.iload_n 2, 1) := by decide +kernel
theorem dX7_findSets_23 : decode cX7_findSets 23 = .ok (.iconst 1, 1) := by decide +kernel
theorem dX7_findSets_24 : decode cX7_findSets 24 = .ok (.aload_n 0, 1) := by decide +kernel
theorem dX7_findSets_25 : decode cX7_findSets 25 = .ok (.getfield 7, 3) := by decide +kernel
theorem dX7_findSets_28 : decode cX7_findSets 28 = .ok (.iconst 0, 1) := by decide +kernel
theorem dX7_findSets_29 : decode cX7_findSets 29 = .ok (.iaload, 1) := by decide +kernel
theorem dX7_findSets_30 : decode cX7_findSets 30 = .ok (.ishl, 1) := by decide +kernel
theorem dX7_findSets_31 : decode cX7_findSets 31 = .ok (.if_icmp .ge 81, 3) := by decide +kernel
theorem dX7_findSets_34 : decode cX7_findSets 34 = .ok (.aload_n 0, 1) := by decide +kernel
theorem dX7_findSets_35 : decode cX7_findSets 35 = .ok (.iload_n 2, 1) := by decide +kernel
theorem dX7_findSets_36 : decode cX7_findSets 36 = .ok (.iload_n 1, 1) := by decide +kernel
theorem dX7_findSets_37 : decode cX7_findSets 37 = .ok (.invokevirtual 142, 3) := by decide +kernel
theorem dX7_findSets_40 : decode cX7_findSets 40 = .ok (.ifCond .eq 66, 3) := by decide +kernel
theorem dX7_findSets_43 : decode cX7_findSets 43 = .ok (.aload_n 0, 1) := by decide +kernel
theorem dX7_findSets_44 : decode cX7_findSets 44 = .ok (.dup, 1) := by decide +kernel
theorem dX7_findSets_45 : decode cX7_findSets 45 = .ok (.getfield 130, 3) := by decide +kernel
theorem dX7_findSets_48 : decode cX7_findSets 48 = .ok (.iconst 1, 1) := by decide +kernel
theorem dX7_findSets_49 : decode cX7_findSets 49 = .ok (.iadd, 1) := by decide +kernel
theorem dX7_findSets_50 : decode cX7_findSets 50 = .ok (.putfield 130, 3) := by decide +kernel
theorem dX7_findSets_53 : decode cX7_findSets 53 = .ok (.aload_n 0, 1) := by decide +kernel
theorem dX7_findSets_54 : decode cX7_findSets 54 = .ok (.dup, 1) := by decide +kernel
theorem dX7_findSets_55 : decode cX7_findSets 55 = .ok (.getfield 133, 3) := by decide +kernel
theorem dX7_findSets_58 : decode cX7_findSets 58 = .ok (.iload_n 2, 1) := by decide +kernel
theorem dX7_findSets_59 : decode cX7_findSets 59 = .ok (.iand, 1) := by decide +kernel
theorem dX7_findSets_60 : decode cX7_findSets 60 = .ok (.putfield 133, 3) := by decide +kernel
theorem dX7_findSets_63 : decode cX7_findSets 63 = .ok (.aload_n 0, 1) := by decide +kernel
theorem dX7_findSets_64 : decode cX7_findSets 64 = .ok (.dup, 1) := by decide +kernel
theorem dX7_findSets_65 : decode cX7_findSets 65 = .ok (.getfield 136, 3) := by decide +kernel
theorem dX7_findSets_68 : decode cX7_findSets 68 = .ok (.iload_n 2, 1) := by decide +kernel
theorem dX7_findSets_69 : decode cX7_findSets 69 = .ok (.ior, 1) := by decide +kernel
theorem dX7_findSets_70 : decode cX7_findSets 70 = .ok (.putfield 136, 3) := by decide +kernel
theorem dX7_findSets_73 : decode cX7_findSets 73 = .ok (.aload_n 0, 1) := by decide +kernel
theorem dX7_findSets_74 : decode cX7_findSets 74 = .ok (.aload_n 0, 1) := by decide +kernel
theorem dX7_findSets_75 : decode cX7_findSets 75 = .ok (.getfield 139, 3) := by decide +kernel
theorem dX7_findSets_78 : decode cX7_findSets 78 = .ok (.ifCond .eq 17, 3) := by decide +kernel
theorem dX7_findSets_81 : decode cX7_findSets 81 = .ok (.iload_n 2, 1) := by decide +kernel
theorem dX7_findSets_82 : decode cX7_findSets 82 = .ok (.invokestatic 146, 3) := by decide +kernel
theorem dX7_findSets_85 : decode cX7_findSets 85 = .ok (.aload_n 0, 1) := by decide +kernel
theorem dX7_findSets_86 : decode cX7_findSets 86 = .ok (.getfield 139, 3) := by decide +kernel
theorem dX7_findSets_89 : decode cX7_findSets 89 = .ok (.invokestatic 146, 3) := by decide +kernel
theorem dX7_findSets_92 : decode cX7_findSets 92 = .ok (.if_icmp .ge 7, 3) := by decide +kernel
theorem dX7_findSets_95 : decode cX7_findSets 95 = .ok (.iload_n 2, 1) := by decide +kernel
theorem dX7_findSets_96 : decode cX7_findSets 96 = .ok (.goto 7, 3) := by decide +kernel
theorem dX7_findSets_99 : decode cX7_findSets 99 = .ok (.aload_n 0, 1) := by decide +kernel
theorem dX7_findSets_100 : decode cX7_findSets 100 = .ok (.getfield 139, 3) := by decide +kernel
theorem dX7_findSets_103 : decode cX7_findSets 103 = .ok (.putfield 139, 3) := by decide +kernel
theorem dX7_findSets_106 : decode cX7_findSets 106 = .ok (.iinc 2 1, 3) := by decide +kernel
theorem dX7_findSets_109 : decode cX7_findSets 109 = .ok (.goto (-87), 3) := by decide +kernel
theorem dX7_findSets_112 : decode cX7_findSets 112 = .ok (.return_, 1) := by decide +kernel
theorem dX7_many_0 : decode cX7_many 0 = .ok (.iload_n 1, 1) := by decide +kernel
theorem dX7_many_1 : decode cX7_many 1 = .ok (.i2l, 1) := by decide +kernel
theorem dX7_many_2 : decode cX7_many 2 = .ok (.lconst 0, 1) := by decide +kernel
theorem dX7_many_3 : decode cX7_many 3 = .ok (.ldc2_w 67, 3) := by decide +kernel
theorem dX7_many_6 : decode cX7_many 6 = .ok (.invokestatic 39, 3) := by decide +kernel
theorem dX7_many_9 : decode cX7_many 9 = .ok (.ifCond .ne 9, 3) := by decide +kernel
theorem dX7_many_12 : decode cX7_many 12 = .ok (.aload_n 0, 1) := by decide +kernel
theorem dX7_many_13 : decode cX7_many 13 = .ok (.iconst 0, 1) := by decide +kernel
theorem dX7_many_14 : decode cX7_many 14 = .ok (.invokevirtual 51, 3) := by decide +kernel
theorem dX7_many_17 : decode cX7_many 17 = .ok (.ireturn, 1) := by decide +kernel
theorem dX7_many_18 : decode cX7_many 18 = .ok (.aload_n 0, 1) := by decide +kernel
theorem dX7_many_19 : decode cX7_many 19 = .ok (.iload_n 1, 1) := by decide +kernel
theorem dX7_many_20 : decode cX7_many 20 = .ok (.invokevirtual 149, 3) := by decide +kernel
theorem dX7_many_23 : decode cX7_many 23 = .ok (.aload_n 0, 1) := by decide +kernel
theorem dX7_many_24 : decode cX7_many 24 = .ok (.getfield 130, 3) := by decide +kernel
theorem dX7_many_27 : decode cX7_many 27 = .ok (.ireturn, 1) := by decide +kernel
theorem dX7_who_0 : decode cX7_who 0 = .ok (.iload_n 1, 1) := by decide +kernel
theorem dX7_who_1 : decode cX7_who 1 = .ok (.i2l, 1) := by decide +kernel
theorem dX7_who_2 : decode cX7_who 2 = .ok (.lconst 0, 1) := by decide +kernel
theorem dX7_who_3 : decode cX7_who 3 = .ok (.ldc2_w 67, 3) := by decide +kernel
theorem dX7_who_6 : decode cX7_who 6 = .ok (.invokestatic 39, 3) := by decide +kernel
theorem dX7_who_9 : decode cX7_who 9 = .ok (.ifCond .eq 13, 3) := by decide +kernel
theorem dX7_who_12 : decode cX7_who 12 = .ok (.iload_n 2, 1) := by decide +kernel
theorem dX7_who_13 : decode cX7_who 13 = .ok (.i2l, 1) := by decide +kernel
theorem dX7_who_14 : decode cX7_who 14 = .ok (.lconst 0, 1) := by decide +kernel
theorem dX7_who_15 : decode cX7_who 15 = .ok (.lconst 1, 1) := by decide +kernel
theorem dX7_who_16 : decode cX7_who 16 = .ok (.invokestatic 39, 3) := by decide +kernel
theorem dX7_who_19 : decode cX7_who 19 = .ok (.ifCond .ne 9, 3) := by decide +kernel
theorem dX7_who_22 : decode cX7_who 22 = .ok (.aload_n 0, 1) := by decide +kernel
theorem dX7_who_23 : decode cX7_who 23 = .ok (.iconst 0, 1) := by decide +kernel
theorem dX7_who_24 : decode cX7_who 24 = .ok (.invokevirtual 51, 3) := by decide +kernel
theorem dX7_who_27 : decode cX7_who 27 = .ok (.ireturn, 1) := by decide +kernel
theorem dX7_who_28 : decode cX7_who 28 = .ok (.aload_n 0, 1) := by decide +kernel
theorem dX7_who_29 : decode cX7_who 29 = .ok (.iload_n 1, 1) := by decide +kernel
theorem dX7_who_30 : decode cX7_who 30 = .ok (.invokevirtual 149, 3) := by decide +kernel
theorem dX7_who_33 : decode cX7_who 33 = .ok (.aload_n 0, 1) := by decide +kernel
theorem dX7_who_34 : decode cX7_who 34 = .ok (.getfield 130, 3) := by decide +kernel
theorem dX7_who_37 : decode cX7_who 37 = .ok (.ifCond .ne 11, 3) := by decide +kernel
theorem dX7_who_40 : decode cX7_who 40 = .ok (.aload_n 0, 1) := by decide +kernel
theorem dX7_who_41 : decode cX7_who 41 = .ok (.iconst 3, 1) := by decide +kernel
theorem dX7_who_42 : decode cX7_who 42 = .ok (.invokevirtual 51, 3) := by decide +kernel
theorem dX7_who_45 : decode cX7_who 45 = .ok (.goto 18, 3) := by decide +kernel
theorem dX7_who_48 : decode cX7_who 48 = .ok (.iload_n 2, 1) := by decide +kernel
theorem dX7_who_49 : decode cX7_who 49 = .ok (.ifCond .ne 10, 3) := by decide +kernel
theorem dX7_who_52 : decode cX7_who 52 = .ok (.aload_n 0, 1) := by decide +kernel
theorem dX7_who_53 : decode cX7_who 53 = .ok (.getfield 133, 3) := by decide +kernel
theorem dX7_who_56 : decode cX7_who 56 = .ok (.goto 7, 3) := by decide +kernel
theorem dX7_who_59 : decode cX7_who 59 = .ok (.aload_n 0, 1) := by decide +kernel
theorem dX7_who_60 : decode cX7_who 60 = .ok (.getfield 136, 3) := by decide +kernel
theorem dX7_who_63 : decode cX7_who 63 = .ok (.ireturn, 1) := by decide +kernel
theorem dX7_fewest_0 : decode cX7_fewest 0 = .ok (.iload_n 1, 1) := by decide +kernel
theorem dX7_fewest_1 : decode cX7_fewest 1 = .ok (.i2l, 1) := by decide +kernel
theorem dX7_fewest_2 : decode cX7_fewest 2 = .ok (.lconst 0, 1) := by decide +kernel
theorem dX7_fewest_3 : decode cX7_fewest 3 = .ok (.ldc2_w 67, 3) := by decide +kernel
theorem dX7_fewest_6 : decode cX7_fewest 6 = .ok (.invokestatic 39, 3) := by decide +kernel
theorem dX7_fewest_9 : decode cX7_fewest 9 = .ok (.ifCond .ne 9, 3) := by decide +kernel
theorem dX7_fewest_12 : decode cX7_fewest 12 = .ok (.aload_n 0, 1) := by decide +kernel
theorem dX7_fewest_13 : decode cX7_fewest 13 = .ok (.iconst 0, 1) := by decide +kernel
theorem dX7_fewest_14 : decode cX7_fewest 14 = .ok (.invokevirtual 51, 3) := by decide +kernel
theorem dX7_fewest_17 : decode cX7_fewest 17 = .ok (.ireturn, 1) := by decide +kernel
theorem dX7_fewest_18 : decode cX7_fewest 18 = .ok (.aload_n 0, 1) := by decide +kernel
theorem dX7_fewest_19 : decode cX7_fewest 19 = .ok (.iload_n 1, 1) := by decide +kernel
theorem dX7_fewest_20 : decode cX7_fewest 20 = .ok (.invokevirtual 149, 3) := by decide +kernel
theorem dX7_fewest_23 : decode cX7_fewest 23 = .ok (.aload_n 0, 1) := by decide +kernel
theorem dX7_fewest_24 : decode cX7_fewest 24 = .ok (.getfield 130, 3) := by decide +kernel
theorem dX7_fewest_27 : decode cX7_fewest 27 = .ok (.ifCond .ne 11, 3) := by decide +kernel
theorem dX7_fewest_30 : decode cX7_fewest 30 = .ok (.aload_n 0, 1) := by decide +kernel
theorem dX7_fewest_31 : decode cX7_fewest 31 = .ok (.iconst 3, 1) := by decide +kernel
theorem dX7_fewest_32 : decode cX7_fewest 32 = .ok (.invokevirtual 51, 3) := by decide +kernel
theorem dX7_fewest_35 : decode cX7_fewest 35 = .ok (.goto 7, 3) := by decide +kernel
theorem dX7_fewest_38 : decode cX7_fewest 38 = .ok (.aload_n 0, 1) := by decide +kernel
theorem dX7_fewest_39 : decode cX7_fewest 39 = .ok (.getfield 139, 3) := by decide +kernel
theorem dX7_fewest_42 : decode cX7_fewest 42 = .ok (.ireturn, 1) := by decide +kernel
theorem dX7_begins_0 : decode cX7_begins 0 = .ok (.aload_n 0, 1) := by decide +kernel
theorem dX7_begins_1 : decode cX7_begins 1 = .ok (.getfield 7, 3) := by decide +kernel
theorem dX7_begins_4 : decode cX7_begins 4 = .ok (.aload_n 0, 1) := by decide +kernel
theorem dX7_begins_5 : decode cX7_begins 5 = .ok (.getfield 13, 3) := by decide +kernel
theorem dX7_begins_8 : decode cX7_begins 8 = .ok (.invokestatic 152, 3) := by decide +kernel
theorem dX7_begins_11 : decode cX7_begins 11 = .ok (.return_, 1) := by decide +kernel
theorem dX7_ends_0 : decode cX7_ends 0 = .ok (.aload_n 0, 1) := by decide +kernel
theorem dX7_ends_1 : decode cX7_ends 1 = .ok (.getfield 13, 3) := by decide +kernel
theorem dX7_ends_4 : decode cX7_ends 4 = .ok (.aload_n 0, 1) := by decide +kernel
theorem dX7_ends_5 : decode cX7_ends 5 = .ok (.getfield 7, 3) := by decide +kernel
theorem dX7_ends_8 : decode cX7_ends 8 = .ok (.invokestatic 152, 3) := by decide +kernel
theorem dX7_ends_11 : decode cX7_ends 11 = .ok (.return_, 1) := by decide +kernel
theorem dX7_why_0 : decode cX7_why 0 = .ok (.iload_n 1, 1) := by decide +kernel
theorem dX7_why_1 : decode cX7_why 1 = .ok (.ifCond .ne 7, 3) := by decide +kernel
theorem dX7_why_4 : decode cX7_why 4 = .ok (.iconst 0, 1) := by decide +kernel
theorem dX7_why_5 : decode cX7_why 5 = .ok (.goto 16, 3) := by decide +kernel
theorem dX7_why_8 : decode cX7_why 8 = .ok (.aload_n 0, 1) := by decide +kernel
theorem dX7_why_9 : decode cX7_why 9 = .ok (.iload_n 2, 1) := by decide +kernel
theorem dX7_why_10 : decode cX7_why 10 = .ok (.invokevirtual 121, 3) := by decide +kernel
theorem dX7_why_13 : decode cX7_why 13 = .ok (.ifCond .eq 7, 3) := by decide +kernel
theorem dX7_why_16 : decode cX7_why 16 = .ok (.iconst 4, 1) := by decide +kernel
theorem dX7_why_17 : decode cX7_why 17 = .ok (.goto 4, 3) := by decide +kernel
theorem dX7_why_20 : decode cX7_why 20 = .ok (.iconst (-1), 1) := by decide +kernel
theorem dX7_why_21 : decode cX7_why 21 = .ok (.ireturn, 1) := by decide +kernel
theorem dX7_ahead_0 : decode cX7_ahead 0 = .ok (.aload_n 0, 1) := by decide +kernel
theorem dX7_ahead_1 : decode cX7_ahead 1 = .ok (.iload_n 1, 1) := by decide +kernel
theorem dX7_ahead_2 : decode cX7_ahead 2 = .ok (.i2l, 1) := by decide +kernel
theorem dX7_ahead_3 : decode cX7_ahead 3 = .ok (.lconst 0, 1) := by decide +kernel
theorem dX7_ahead_4 : decode cX7_ahead 4 = .ok (.ldc2_w 108, 3) := by decide +kernel
theorem dX7_ahead_7 : decode cX7_ahead 7 = .ok (.invokestatic 39, 3) := by decide +kernel
theorem dX7_ahead_10 : decode cX7_ahead 10 = .ok (.ifCond .eq 19, 3) := by decide +kernel
theorem dX7_ahead_13 : decode cX7_ahead 13 = .ok (.iload_n 2, 1) := by decide +kernel
theorem dX7_ahead_14 : decode cX7_ahead 14 = .ok (.i2l, 1) := by decide +kernel
theorem dX7_ahead_15 : decode cX7_ahead 15 = .ok (.lconst 0, 1) := by decide +kernel
theorem dX7_ahead_16 : decode cX7_ahead 16 = .ok (.ldc2_w 156, 3) := by decide +kernel
theorem dX7_ahead_19 : decode cX7_ahead 19 = .ok (.invokestatic 39, 3) := by decide +kernel
theorem dX7_ahead_22 : decode cX7_ahead 22 = .ok (.ifCond .eq 7, 3) := by decide +kernel
theorem dX7_ahead_25 : decode cX7_ahead 25 = .ok (.iconst 1, 1) := by decide +kernel
theorem dX7_ahead_26 : decode cX7_ahead 26 = .ok (.goto 4, 3) := by decide +kernel
theorem dX7_ahead_29 : decode cX7_ahead 29 = .ok (.iconst 0, 1) := by decide +kernel
theorem dX7_ahead_30 : decode cX7_ahead 30 = .ok (.iload_n 1, 1) := by decide +kernel
theorem dX7_ahead_31 : decode cX7_ahead 31 = .ok (.invokevirtual 158, 3) := by decide +kernel
theorem dX7_ahead_34 : decode cX7_ahead 34 = .ok (.istore_n 3, 1) := by decide +kernel
theorem dX7_ahead_35 : decode cX7_ahead 35 = .ok (.iload_n 3, 1) := by decide +kernel
theorem dX7_ahead_36 : decode cX7_ahead 36 = .ok (.ifCond .lt 9, 3) := by decide +kernel
theorem dX7_ahead_39 : decode cX7_ahead 39 = .ok (.aload_n 0, 1) := by decide +kernel
theorem dX7_ahead_40 : decode cX7_ahead 40 = .ok (.iload_n 3, 1) := by decide +kernel
theorem dX7_ahead_41 : decode cX7_ahead 41 = .ok (.invokevirtual 51, 3) := by decide +kernel
theorem dX7_ahead_44 : decode cX7_ahead 44 = .ok (.ireturn, 1) := by decide +kernel
theorem dX7_ahead_45 : decode cX7_ahead 45 = .ok (.aload_n 0, 1) := by decide +kernel
theorem dX7_ahead_46 : decode cX7_ahead 46 = .ok (.invokevirtual 162, 3) := by decide +kernel
theorem dX7_ahead_49 : decode cX7_ahead 49 = .ok (.aload_n 0, 1) := by decide +kernel
theorem dX7_ahead_50 : decode cX7_ahead 50 = .ok (.iload_n 1, 1) := by decide +kernel
theorem dX7_ahead_51 : decode cX7_ahead 51 = .ok (.invokevirtual 124, 3) := by decide +kernel
theorem dX7_ahead_54 : decode cX7_ahead 54 = .ok (.istore 4, 2) := by decide +kernel
theorem dX7_ahead_56 : decode cX7_ahead 56 = .ok (.iload_n 2, 1) := by decide +kernel
theorem dX7_ahead_57 : decode cX7_ahead 57 = .ok (.ifCond .ne 12, 3) := by decide +kernel
theorem dX7_ahead_60 : decode cX7_ahead 60 = .ok (.aload_n 0, 1) := by decide +kernel
theorem dX7_ahead_61 : decode cX7_ahead 61 = .ok (.getfield 7, 3) := by decide +kernel
theorem dX7_ahead_64 : decode cX7_ahead 64 = .ok (.iconst 4, 1) := by decide +kernel
theorem dX7_ahead_65 : decode cX7_ahead 65 = .ok (.iaload, 1) := by decide +kernel
theorem dX7_ahead_66 : decode cX7_ahead 66 = .ok (.goto 68, 3) := by decide +kernel
theorem dX7_ahead_69 : decode cX7_ahead 69 = .ok (.iload_n 2, 1) := by decide +kernel
theorem dX7_ahead_70 : decode cX7_ahead 70 = .ok (.iconst 1, 1) := by decide +kernel
theorem dX7_ahead_71 : decode cX7_ahead 71 = .ok (.if_icmp .ne 10, 3) := by decide +kernel
theorem dX7_ahead_74 : decode cX7_ahead 74 = .ok (.aload_n 0, 1) := by decide +kernel
theorem dX7_ahead_75 : decode cX7_ahead 75 = .ok (.getfield 101, 3) := by decide +kernel
theorem dX7_ahead_78 : decode cX7_ahead 78 = .ok (.goto 56, 3) := by decide +kernel
theorem dX7_ahead_81 : decode cX7_ahead 81 = .ok (.iload_n 2, 1) := by decide +kernel
theorem dX7_ahead_82 : decode cX7_ahead 82 = .ok (.iconst 2, 1) := by decide +kernel
theorem dX7_ahead_83 : decode cX7_ahead 83 = .ok (.if_icmp .ne 11, 3) := by decide +kernel
theorem dX7_ahead_86 : decode cX7_ahead 86 = .ok (.aload_n 0, 1) := by decide +kernel
theorem dX7_ahead_87 : decode cX7_ahead 87 = .ok (.iconst 4, 1) := by decide +kernel
theorem dX7_ahead_88 : decode cX7_ahead 88 = .ok (.invokevirtual 78, 3) := by decide +kernel
theorem dX7_ahead_91 : decode cX7_ahead 91 = .ok (.goto 43, 3) := by decide +kernel
theorem dX7_ahead_94 : decode cX7_ahead 94 = .ok (.iload_n 2, 1) := by decide +kernel
theorem dX7_ahead_95 : decode cX7_ahead 95 = .ok (.iconst 3, 1) := by decide +kernel
theorem dX7_ahead_96 : decode cX7_ahead 96 = .ok (.if_icmp .ne 21, 3) := by decide +kernel
theorem dX7_ahead_99 : decode cX7_ahead 99 = .ok (.aload_n 0, 1) := by decide +kernel
theorem dX7_ahead_100 : decode cX7_ahead 100 = .ok (.getfield 7, 3) := by decide +kernel
theorem dX7_ahead_103 : decode cX7_ahead 103 = .ok (.bipush 8, 2) := by decide +kernel
theorem dX7_ahead_105 : decode cX7_ahead 105 = .ok (.iaload, 1) := by decide +kernel
theorem dX7_ahead_106 : decode cX7_ahead 106 = .ok (.aload_n 0, 1) := by decide +kernel
theorem dX7_ahead_107 : decode cX7_ahead 107 = .ok (.getfield 13, 3) := by decide +kernel
theorem dX7_ahead_110 : decode cX7_ahead 110 = .ok (.bipush 8, 2) := by decide +kernel
theorem dX7_ahead_112 : decode cX7_ahead 112 = .ok (.iaload, 1) := by decide +kernel
theorem dX7_ahead_113 : decode cX7_ahead 113 = .ok (.isub, 1) := by decide +kernel
theorem dX7_ahead_114 : decode cX7_ahead 114 = .ok (.goto 20, 3) := by decide +kernel
theorem dX7_ahead_117 : decode cX7_ahead 117 = .ok (.iload_n 2, 1) := by decide +kernel
theorem dX7_ahead_118 : decode cX7_ahead 118 = .ok (.iconst 4, 1) := by decide +kernel
theorem dX7_ahead_119 : decode cX7_ahead 119 = .ok (.if_icmp .ne 8, 3) := by decide +kernel
theorem dX7_ahead_122 : decode cX7_ahead 122 = .ok (.iload 4, 2) := by decide +kernel
theorem dX7_ahead_124 : decode cX7_ahead 124 = .ok (.goto 10, 3) := by decide +kernel
theorem dX7_ahead_127 : decode cX7_ahead 127 = .ok (.aload_n 0, 1) := by decide +kernel
theorem dX7_ahead_128 : decode cX7_ahead 128 = .ok (.getfield 7, 3) := by decide +kernel
theorem dX7_ahead_131 : decode cX7_ahead 131 = .ok (.bipush 6, 2) := by decide +kernel
theorem dX7_ahead_133 : decode cX7_ahead 133 = .ok (.iaload, 1) := by decide +kernel
theorem dX7_ahead_134 : decode cX7_ahead 134 = .ok (.istore 5, 2) := by decide +kernel
theorem dX7_ahead_136 : decode cX7_ahead 136 = .ok (.aload_n 0, 1) := by decide +kernel
theorem dX7_ahead_137 : decode cX7_ahead 137 = .ok (.invokevirtual 165, 3) := by decide +kernel
theorem dX7_ahead_140 : decode cX7_ahead 140 = .ok (.iload 5, 2) := by decide +kernel
theorem dX7_ahead_142 : decode cX7_ahead 142 = .ok (.ireturn, 1) := by decide +kernel
theorem dX7_monday_0 : decode cX7_monday 0 = .ok (.aload_n 0, 1) := by decide +kernel
theorem dX7_monday_1 : decode cX7_monday 1 = .ok (.getfield 7, 3) := by decide +kernel
theorem dX7_monday_4 : decode cX7_monday 4 = .ok (.bipush 6, 2) := by decide +kernel
theorem dX7_monday_6 : decode cX7_monday 6 = .ok (.iload_n 1, 1) := by decide +kernel
theorem dX7_monday_7 : decode cX7_monday 7 = .ok (.iastore, 1) := by decide +kernel
theorem dX7_monday_8 : decode cX7_monday 8 = .ok (.aload_n 0, 1) := by decide +kernel
theorem dX7_monday_9 : decode cX7_monday 9 = .ok (.getfield 7, 3) := by decide +kernel
theorem dX7_monday_12 : decode cX7_monday 12 = .ok (.bipush 7, 2) := by decide +kernel
theorem dX7_monday_14 : decode cX7_monday 14 = .ok (.iconst 0, 1) := by decide +kernel
theorem dX7_monday_15 : decode cX7_monday 15 = .ok (.iastore, 1) := by decide +kernel
theorem dX7_monday_16 : decode cX7_monday 16 = .ok (.aload_n 0, 1) := by decide +kernel
theorem dX7_monday_17 : decode cX7_monday 17 = .ok (.getfield 7, 3) := by decide +kernel
theorem dX7_monday_20 : decode cX7_monday 20 = .ok (.bipush 9, 2) := by decide +kernel
theorem dX7_monday_22 : decode cX7_monday 22 = .ok (.iconst 0, 1) := by decide +kernel
theorem dX7_monday_23 : decode cX7_monday 23 = .ok (.iastore, 1) := by decide +kernel
theorem dX7_monday_24 : decode cX7_monday 24 = .ok (.iconst 0, 1) := by decide +kernel
theorem dX7_monday_25 : decode cX7_monday 25 = .ok (.istore_n 2, 1) := by decide +kernel
theorem dX7_monday_26 : decode cX7_monday 26 = .ok (.iload_n 2, 1) := by decide +kernel
theorem dX7_monday_27 : decode cX7_monday 27 = .ok (.aload_n 0, 1) := by decide +kernel
theorem dX7_monday_28 : decode cX7_monday 28 = .ok (.getfield 7, 3) := by decide +kernel
theorem dX7_monday_31 : decode cX7_monday 31 = .ok (.iconst 0, 1) := by decide +kernel
theorem dX7_monday_32 : decode cX7_monday 32 = .ok (.iaload, 1) := by decide +kernel
theorem dX7_monday_33 : decode cX7_monday 33 = .ok (.if_icmp .ge 24, 3) := by decide +kernel
theorem dX7_monday_36 : decode cX7_monday 36 = .ok (.aload_n 0, 1) := by decide +kernel
theorem dX7_monday_37 : decode cX7_monday 37 = .ok (.iload_n 2, 1) := by decide +kernel
theorem dX7_monday_38 : decode cX7_monday 38 = .ok (.iconst 5, 1) := by decide +kernel
theorem dX7_monday_39 : decode cX7_monday 39 = .ok (.iconst 0, 1) := by decide +kernel
theorem dX7_monday_40 : decode cX7_monday 40 = .ok (.invokevirtual 43, 3) := by decide +kernel
theorem dX7_monday_43 : decode cX7_monday 43 = .ok (.aload_n 0, 1) := by decide +kernel
theorem dX7_monday_44 : decode cX7_monday 44 = .ok (.iload_n 2, 1) := by decide +kernel
theorem dX7_monday_45 : decode cX7_monday 45 = .ok (.bipush 6, 2) := by decide +kernel
theorem dX7_monday_47 : decode cX7_monday 47 = .ok (.iconst 0, 1) := by decide +kernel
theorem dX7_monday_48 : decode cX7_monday 48 = .ok (.invokevirtual 43, 3) := by decide +kernel
theorem dX7_monday_51 : decode cX7_monday 51 = .ok (.iinc 2 1, 3) := by decide +kernel
theorem dX7_monday_54 : decode cX7_monday 54 = .ok (.goto (-28), 3) := by decide +kernel
theorem dX7_monday_57 : decode cX7_monday 57 = .ok (.return_, 1) := by decide +kernel
theorem dX7_rests_0 : decode cX7_rests 0 = .ok (.aload_n 0, 1) := by decide +kernel
theorem dX7_rests_1 : decode cX7_rests 1 = .ok (.getfield 7, 3) := by decide +kernel
theorem dX7_rests_4 : decode cX7_rests 4 = .ok (.bipush 7, 2) := by decide +kernel
theorem dX7_rests_6 : decode cX7_rests 6 = .ok (.iaload, 1) := by decide +kernel
theorem dX7_rests_7 : decode cX7_rests 7 = .ok (.sipush 9990, 3) := by decide +kernel
theorem dX7_rests_10 : decode cX7_rests 10 = .ok (.if_icmp .le 9, 3) := by decide +kernel
theorem dX7_rests_13 : decode cX7_rests 13 = .ok (.aload_n 0, 1) := by decide +kernel
theorem dX7_rests_14 : decode cX7_rests 14 = .ok (.iconst 4, 1) := by decide +kernel
theorem dX7_rests_15 : decode cX7_rests 15 = .ok (.invokevirtual 51, 3) := by decide +kernel
theorem dX7_rests_18 : decode cX7_rests 18 = .ok (.ireturn, 1) := by decide +kernel
theorem dX7_rests_19 : decode cX7_rests 19 = .ok (.iconst 0, 1) := by decide +kernel
theorem dX7_rests_20 : decode cX7_rests 20 = .ok (.istore_n 1, 1) := by decide +kernel
theorem dX7_rests_21 : decode cX7_rests 21 = .ok (.iconst 0, 1) := by decide +kernel
theorem dX7_rests_22 : decode cX7_rests 22 = .ok (.istore_n 2, 1) := by decide +kernel
theorem dX7_rests_23 : decode cX7_rests 23 = .ok (.iload_n 2, 1) := by decide +kernel
theorem dX7_rests_24 : decode cX7_rests 24 = .ok (.bipush 11, 2) := by decide +kernel
theorem dX7_rests_26 : decode cX7_rests 26 = .ok (.if_icmp .ge 55, 3) := by decide +kernel
theorem dX7_rests_29 : decode cX7_rests 29 = .ok (.aload_n 0, 1) := by decide +kernel
theorem dX7_rests_30 : decode cX7_rests 30 = .ok (.invokevirtual 162, 3) := by decide +kernel
theorem dX7_rests_33 : decode cX7_rests 33 = .ok (.aload_n 0, 1) := by decide +kernel
theorem dX7_rests_34 : decode cX7_rests 34 = .ok (.bipush 10, 2) := by decide +kernel
theorem dX7_rests_36 : decode cX7_rests 36 = .ok (.iload_n 2, 1) := by decide +kernel
theorem dX7_rests_37 : decode cX7_rests 37 = .ok (.imul, 1) := by decide +kernel
theorem dX7_rests_38 : decode cX7_rests 38 = .ok (.invokevirtual 168, 3) := by decide +kernel
theorem dX7_rests_41 : decode cX7_rests 41 = .ok (.aload_n 0, 1) := by decide +kernel
theorem dX7_rests_42 : decode cX7_rests 42 = .ok (.iconst 5, 1) := by decide +kernel
theorem dX7_rests_43 : decode cX7_rests 43 = .ok (.invokevirtual 124, 3) := by decide +kernel
theorem dX7_rests_46 : decode cX7_rests 46 = .ok (.istore_n 3, 1) := by decide +kernel
theorem dX7_rests_47 : decode cX7_rests 47 = .ok (.iload_n 1, 1) := by decide +kernel
theorem dX7_rests_48 : decode cX7_rests 48 = .ok (.aload_n 0, 1) := by decide +kernel
theorem dX7_rests_49 : decode cX7_rests 49 = .ok (.getfield 7, 3) := by decide +kernel
theorem dX7_rests_52 : decode cX7_rests 52 = .ok (.bipush 6, 2) := by decide +kernel
theorem dX7_rests_54 : decode cX7_rests 54 = .ok (.iaload, 1) := by decide +kernel
theorem dX7_rests_55 : decode cX7_rests 55 = .ok (.bipush 10, 2) := by decide +kernel
theorem dX7_rests_57 : decode cX7_rests 57 = .ok (.iload_n 2, 1) := by decide +kernel
theorem dX7_rests_58 : decode cX7_rests 58 = .ok (.imul, 1) := by decide +kernel
theorem dX7_rests_59 : decode cX7_rests 59 = .ok (.if_icmp .ne 9, 3) := by decide +kernel
theorem dX7_rests_62 : decode cX7_rests 62 = .ok (.iconst 1, 1) := by decide +kernel
theorem dX7_rests_63 : decode cX7_rests 63 = .ok (.iload_n 2, 1) := by decide +kernel
theorem dX7_rests_64 : decode cX7_rests 64 = .ok (.ishl, 1) := by decide +kernel
theorem dX7_rests_65 : decode cX7_rests 65 = .ok (.goto 4, 3) := by decide +kernel
theorem dX7_rests_68 : decode cX7_rests 68 = .ok (.iconst 0, 1) := by decide +kernel
theorem dX7_rests_69 : decode cX7_rests 69 = .ok (.ior, 1) := by decide +kernel
theorem dX7_rests_70 : decode cX7_rests 70 = .ok (.istore_n 1, 1) := by decide +kernel
theorem dX7_rests_71 : decode cX7_rests 71 = .ok (.aload_n 0, 1) := by decide +kernel
theorem dX7_rests_72 : decode cX7_rests 72 = .ok (.invokevirtual 165, 3) := by decide +kernel
theorem dX7_rests_75 : decode cX7_rests 75 = .ok (.iinc 2 1, 3) := by decide +kernel
theorem dX7_rests_78 : decode cX7_rests 78 = .ok (.goto (-55), 3) := by decide +kernel
theorem dX7_rests_81 : decode cX7_rests 81 = .ok (.iload_n 1, 1) := by decide +kernel
theorem dX7_rests_82 : decode cX7_rests 82 = .ok (.ireturn, 1) := by decide +kernel
theorem dX7_tips_0 : decode cX7_tips 0 = .ok (.iload_n 1, 1) := by decide +kernel
theorem dX7_tips_1 : decode cX7_tips 1 = .ok (.i2l, 1) := by decide +kernel
theorem dX7_tips_2 : decode cX7_tips 2 = .ok (.lconst 0, 1) := by decide +kernel
theorem dX7_tips_3 : decode cX7_tips 3 = .ok (.ldc2_w 73, 3) := by decide +kernel
theorem dX7_tips_6 : decode cX7_tips 6 = .ok (.invokestatic 39, 3) := by decide +kernel
theorem dX7_tips_9 : decode cX7_tips 9 = .ok (.ifCond .eq 15, 3) := by decide +kernel
theorem dX7_tips_12 : decode cX7_tips 12 = .ok (.iload_n 2, 1) := by decide +kernel
theorem dX7_tips_13 : decode cX7_tips 13 = .ok (.i2l, 1) := by decide +kernel
theorem dX7_tips_14 : decode cX7_tips 14 = .ok (.lconst 1, 1) := by decide +kernel
theorem dX7_tips_15 : decode cX7_tips 15 = .ok (.ldc2_w 171, 3) := by decide +kernel
theorem dX7_tips_18 : decode cX7_tips 18 = .ok (.invokestatic 39, 3) := by decide +kernel
theorem dX7_tips_21 : decode cX7_tips 21 = .ok (.ifCond .ne 9, 3) := by decide +kernel
theorem dX7_tips_24 : decode cX7_tips 24 = .ok (.aload_n 0, 1) := by decide +kernel
theorem dX7_tips_25 : decode cX7_tips 25 = .ok (.iconst 0, 1) := by decide +kernel
theorem dX7_tips_26 : decode cX7_tips 26 = .ok (.invokevirtual 51, 3) := by decide +kernel
theorem dX7_tips_29 : decode cX7_tips 29 = .ok (.ireturn, 1) := by decide +kernel
theorem dX7_tips_30 : decode cX7_tips 30 = .ok (.aload_n 0, 1) := by decide +kernel
theorem dX7_tips_31 : decode cX7_tips 31 = .ok (.getfield 7, 3) := by decide +kernel
theorem dX7_tips_34 : decode cX7_tips 34 = .ok (.bipush 7, 2) := by decide +kernel
theorem dX7_tips_36 : decode cX7_tips 36 = .ok (.iaload, 1) := by decide +kernel
theorem dX7_tips_37 : decode cX7_tips 37 = .ok (.sipush 9940, 3) := by decide +kernel
theorem dX7_tips_40 : decode cX7_tips 40 = .ok (.if_icmp .le 9, 3) := by decide +kernel
theorem dX7_tips_43 : decode cX7_tips 43 = .ok (.aload_n 0, 1) := by decide +kernel
theorem dX7_tips_44 : decode cX7_tips 44 = .ok (.iconst 4, 1) := by decide +kernel
theorem dX7_tips_45 : decode cX7_tips 45 = .ok (.invokevirtual 51, 3) := by decide +kernel
theorem dX7_tips_48 : decode cX7_tips 48 = .ok (.ireturn, 1) := by decide +kernel
theorem dX7_tips_49 : decode cX7_tips 49 = .ok (.aload_n 0, 1) := by decide +kernel
theorem dX7_tips_50 : decode cX7_tips 50 = .ok (.invokevirtual 162, 3) := by decide +kernel
theorem dX7_tips_53 : decode cX7_tips 53 = .ok (.aload_n 0, 1) := by decide +kernel
theorem dX7_tips_54 : decode cX7_tips 54 = .ok (.iload_n 1, 1) := by decide +kernel
theorem dX7_tips_55 : decode cX7_tips 55 = .ok (.invokevirtual 168, 3) := by decide +kernel
theorem dX7_tips_58 : decode cX7_tips 58 = .ok (.aload_n 0, 1) := by decide +kernel
theorem dX7_tips_59 : decode cX7_tips 59 = .ok (.iconst 5, 1) := by decide +kernel
theorem dX7_tips_60 : decode cX7_tips 60 = .ok (.iload_n 2, 1) := by decide +kernel
theorem dX7_tips_61 : decode cX7_tips 61 = .ok (.imul, 1) := by decide +kernel
theorem dX7_tips_62 : decode cX7_tips 62 = .ok (.invokevirtual 124, 3) := by decide +kernel
theorem dX7_tips_65 : decode cX7_tips 65 = .ok (.istore_n 3, 1) := by decide +kernel
theorem dX7_tips_66 : decode cX7_tips 66 = .ok (.aload_n 0, 1) := by decide +kernel
theorem dX7_tips_67 : decode cX7_tips 67 = .ok (.getfield 7, 3) := by decide +kernel
theorem dX7_tips_70 : decode cX7_tips 70 = .ok (.bipush 6, 2) := by decide +kernel
theorem dX7_tips_72 : decode cX7_tips 72 = .ok (.iaload, 1) := by decide +kernel
theorem dX7_tips_73 : decode cX7_tips 73 = .ok (.istore 4, 2) := by decide +kernel
theorem dX7_tips_75 : decode cX7_tips 75 = .ok (.aload_n 0, 1) := by decide +kernel
theorem dX7_tips_76 : decode cX7_tips 76 = .ok (.invokevirtual 165, 3) := by decide +kernel
theorem dX7_tips_79 : decode cX7_tips 79 = .ok (.iload 4, 2) := by decide +kernel
theorem dX7_tips_81 : decode cX7_tips 81 = .ok (.ireturn, 1) := by decide +kernel
theorem dX7_comesWith_0 : decode cX7_comesWith 0 = .ok (.aload_n 0, 1) := by decide +kernel
theorem dX7_comesWith_1 : decode cX7_comesWith 1 = .ok (.invokevirtual 162, 3) := by decide +kernel
theorem dX7_comesWith_4 : decode cX7_comesWith 4 = .ok (.aload_n 0, 1) := by decide +kernel
theorem dX7_comesWith_5 : decode cX7_comesWith 5 = .ok (.getfield 7, 3) := by decide +kernel
theorem dX7_comesWith_8 : decode cX7_comesWith 8 = .ok (.iload_n 1, 1) := by decide +kernel
theorem dX7_comesWith_9 : decode cX7_comesWith 9 = .ok (.iload_n 2, 1) := by decide +kernel
theorem dX7_comesWith_10 : decode cX7_comesWith 10 = .ok (.iastore, 1) := by decide +kernel
theorem dX7_comesWith_11 : decode cX7_comesWith 11 = .ok (.aload_n 0, 1) := by decide +kernel
theorem dX7_comesWith_12 : decode cX7_comesWith 12 = .ok (.iload_n 3, 1) := by decide +kernel
theorem dX7_comesWith_13 : decode cX7_comesWith 13 = .ok (.invokevirtual 124, 3) := by decide +kernel
theorem dX7_comesWith_16 : decode cX7_comesWith 16 = .ok (.istore 4, 2) := by decide +kernel
theorem dX7_comesWith_18 : decode cX7_comesWith 18 = .ok (.aload_n 0, 1) := by decide +kernel
theorem dX7_comesWith_19 : decode cX7_comesWith 19 = .ok (.invokevirtual 165, 3) := by decide +kernel
theorem dX7_comesWith_22 : decode cX7_comesWith 22 = .ok (.iload 4, 2) := by decide +kernel
theorem dX7_comesWith_24 : decode cX7_comesWith 24 = .ok (.ireturn, 1) := by decide +kernel
theorem dX7_bestOf_0 : decode cX7_bestOf 0 = .ok (.iconst (-1), 1) := by decide +kernel
theorem dX7_bestOf_1 : decode cX7_bestOf 1 = .ok (.istore 4, 2) := by decide +kernel
theorem dX7_bestOf_3 : decode cX7_bestOf 3 = .ok (.iconst 0, 1) := by decide +kernel
theorem dX7_bestOf_4 : decode cX7_bestOf 4 = .ok (.istore 5, 2) := by decide +kernel
theorem dX7_bestOf_6 : decode cX7_bestOf 6 = .ok (.iconst 0, 1) := by decide +kernel
theorem dX7_bestOf_7 : decode cX7_bestOf 7 = .ok (.istore 6, 2) := by decide +kernel
theorem dX7_bestOf_9 : decode cX7_bestOf 9 = .ok (.iload 6, 2) := by decide +kernel
theorem dX7_bestOf_11 : decode cX7_bestOf 11 = .ok (.iload_n 2, 1) := by decide +kernel
theorem dX7_bestOf_12 : decode cX7_bestOf 12 = .ok (.if_icmp .gt 39, 3) := by decide +kernel
theorem dX7_bestOf_15 : decode cX7_bestOf 15 = .ok (.aload_n 0, 1) := by decide +kernel
theorem dX7_bestOf_16 : decode cX7_bestOf 16 = .ok (.iload_n 1, 1) := by decide +kernel
theorem dX7_bestOf_17 : decode cX7_bestOf 17 = .ok (.iload 6, 2) := by decide +kernel
theorem dX7_bestOf_19 : decode cX7_bestOf 19 = .ok (.iload_n 3, 1) := by decide +kernel
theorem dX7_bestOf_20 : decode cX7_bestOf 20 = .ok (.invokevirtual 173, 3) := by decide +kernel
theorem dX7_bestOf_23 : decode cX7_bestOf 23 = .ok (.istore 7, 2) := by decide +kernel
theorem dX7_bestOf_25 : decode cX7_bestOf 25 = .ok (.iload 4, 2) := by decide +kernel
theorem dX7_bestOf_27 : decode cX7_bestOf 27 = .ok (.ifCond .lt 10, 3) := by decide +kernel
theorem dX7_bestOf_30 : decode cX7_bestOf 30 = .ok (.iload 7, 2) := by decide +kernel
theorem dX7_bestOf_32 : decode cX7_bestOf 32 = .ok (.iload 5, 2) := by decide +kernel
theorem dX7_bestOf_34 : decode cX7_bestOf 34 = .ok (.if_icmp .le 11, 3) := by decide +kernel
theorem dX7_bestOf_37 : decode cX7_bestOf 37 = .ok (.iload 6, 2) := by decide +kernel
theorem dX7_bestOf_39 : decode cX7_bestOf 39 = .ok (.istore 4, 2) := by decide +kernel
theorem dX7_bestOf_41 : decode cX7_bestOf 41 = .ok (.iload 7, 2) := by decide +kernel
theorem dX7_bestOf_43 : decode cX7_bestOf 43 = .ok (.istore 5, 2) := by decide +kernel
theorem dX7_bestOf_45 : decode cX7_bestOf 45 = .ok (.iinc 6 1, 3) := by decide +kernel
theorem dX7_bestOf_48 : decode cX7_bestOf 48 = .ok (.goto (-39), 3) := by decide +kernel
theorem dX7_bestOf_51 : decode cX7_bestOf 51 = .ok (.iload 4, 2) := by decide +kernel
theorem dX7_bestOf_53 : decode cX7_bestOf 53 = .ok (.ireturn, 1) := by decide +kernel
theorem dX7_best_0 : decode cX7_best 0 = .ok (.aload_n 0, 1) := by decide +kernel
theorem dX7_best_1 : decode cX7_best 1 = .ok (.iload_n 1, 1) := by decide +kernel
theorem dX7_best_2 : decode cX7_best 2 = .ok (.i2l, 1) := by decide +kernel
theorem dX7_best_3 : decode cX7_best 3 = .ok (.lconst 1, 1) := by decide +kernel
theorem dX7_best_4 : decode cX7_best 4 = .ok (.ldc2_w 177, 3) := by decide +kernel
theorem dX7_best_7 : decode cX7_best 7 = .ok (.invokestatic 39, 3) := by decide +kernel
theorem dX7_best_10 : decode cX7_best 10 = .ok (.iload_n 1, 1) := by decide +kernel
theorem dX7_best_11 : decode cX7_best 11 = .ok (.invokevirtual 158, 3) := by decide +kernel
theorem dX7_best_14 : decode cX7_best 14 = .ok (.istore_n 2, 1) := by decide +kernel
theorem dX7_best_15 : decode cX7_best 15 = .ok (.iload_n 2, 1) := by decide +kernel
theorem dX7_best_16 : decode cX7_best 16 = .ok (.ifCond .lt 11, 3) := by decide +kernel
theorem dX7_best_19 : decode cX7_best 19 = .ok (.aload_n 0, 1) := by decide +kernel
theorem dX7_best_20 : decode cX7_best 20 = .ok (.iload_n 2, 1) := by decide +kernel
theorem dX7_best_21 : decode cX7_best 21 = .ok (.invokevirtual 51, 3) := by decide +kernel
theorem dX7_best_24 : decode cX7_best 24 = .ok (.goto 11, 3) := by decide +kernel
theorem dX7_best_27 : decode cX7_best 27 = .ok (.aload_n 0, 1) := by decide +kernel
theorem dX7_best_28 : decode cX7_best 28 = .ok (.iconst 1, 1) := by decide +kernel
theorem dX7_best_29 : decode cX7_best 29 = .ok (.bipush 99, 2) := by decide +kernel
theorem dX7_best_31 : decode cX7_best 31 = .ok (.iload_n 1, 1) := by decide +kernel
theorem dX7_best_32 : decode cX7_best 32 = .ok (.invokevirtual 179, 3) := by decide +kernel
theorem dX7_best_35 : decode cX7_best 35 = .ok (.ireturn, 1) := by decide +kernel
theorem dX7_sign_0 : decode cX7_sign 0 = .ok (.aload_n 0, 1) := by decide +kernel
theorem dX7_sign_1 : decode cX7_sign 1 = .ok (.iload_n 1, 1) := by decide +kernel
theorem dX7_sign_2 : decode cX7_sign 2 = .ok (.i2l, 1) := by decide +kernel
theorem dX7_sign_3 : decode cX7_sign 3 = .ok (.lconst 1, 1) := by decide +kernel
theorem dX7_sign_4 : decode cX7_sign 4 = .ok (.ldc2_w 119, 3) := by decide +kernel
theorem dX7_sign_7 : decode cX7_sign 7 = .ok (.invokestatic 39, 3) := by decide +kernel
theorem dX7_sign_10 : decode cX7_sign 10 = .ok (.iload_n 1, 1) := by decide +kernel
theorem dX7_sign_11 : decode cX7_sign 11 = .ok (.invokevirtual 158, 3) := by decide +kernel
theorem dX7_sign_14 : decode cX7_sign 14 = .ok (.istore_n 2, 1) := by decide +kernel
theorem dX7_sign_15 : decode cX7_sign 15 = .ok (.iload_n 2, 1) := by decide +kernel
theorem dX7_sign_16 : decode cX7_sign 16 = .ok (.ifCond .lt 11, 3) := by decide +kernel
theorem dX7_sign_19 : decode cX7_sign 19 = .ok (.aload_n 0, 1) := by decide +kernel
theorem dX7_sign_20 : decode cX7_sign 20 = .ok (.iload_n 2, 1) := by decide +kernel
theorem dX7_sign_21 : decode cX7_sign 21 = .ok (.invokevirtual 51, 3) := by decide +kernel
theorem dX7_sign_24 : decode cX7_sign 24 = .ok (.goto 10, 3) := by decide +kernel
theorem dX7_sign_27 : decode cX7_sign 27 = .ok (.aload_n 0, 1) := by decide +kernel
theorem dX7_sign_28 : decode cX7_sign 28 = .ok (.iconst 5, 1) := by decide +kernel
theorem dX7_sign_29 : decode cX7_sign 29 = .ok (.iconst 2, 1) := by decide +kernel
theorem dX7_sign_30 : decode cX7_sign 30 = .ok (.iload_n 1, 1) := by decide +kernel
theorem dX7_sign_31 : decode cX7_sign 31 = .ok (.invokevirtual 179, 3) := by decide +kernel
theorem dX7_sign_34 : decode cX7_sign 34 = .ok (.ireturn, 1) := by decide +kernel
theorem dX7_potFor_0 : decode cX7_potFor 0 = .ok (.aload_n 0, 1) := by decide +kernel
theorem dX7_potFor_1 : decode cX7_potFor 1 = .ok (.iload_n 1, 1) := by decide +kernel
theorem dX7_potFor_2 : decode cX7_potFor 2 = .ok (.i2l, 1) := by decide +kernel
theorem dX7_potFor_3 : decode cX7_potFor 3 = .ok (.lconst 1, 1) := by decide +kernel
theorem dX7_potFor_4 : decode cX7_potFor 4 = .ok (.ldc2_w 177, 3) := by decide +kernel
theorem dX7_potFor_7 : decode cX7_potFor 7 = .ok (.invokestatic 39, 3) := by decide +kernel
theorem dX7_potFor_10 : decode cX7_potFor 10 = .ok (.iload_n 1, 1) := by decide +kernel
theorem dX7_potFor_11 : decode cX7_potFor 11 = .ok (.invokevirtual 158, 3) := by decide +kernel
theorem dX7_potFor_14 : decode cX7_potFor 14 = .ok (.istore_n 2, 1) := by decide +kernel
theorem dX7_potFor_15 : decode cX7_potFor 15 = .ok (.iload_n 2, 1) := by decide +kernel
theorem dX7_potFor_16 : decode cX7_potFor 16 = .ok (.ifCond .lt 9, 3) := by decide +kernel
theorem dX7_potFor_19 : decode cX7_potFor 19 = .ok (.aload_n 0, 1) := by decide +kernel
theorem dX7_potFor_20 : decode cX7_potFor 20 = .ok (.iload_n 2, 1) := by decide +kernel
theorem dX7_potFor_21 : decode cX7_potFor 21 = .ok (.invokevirtual 51, 3) := by decide +kernel
theorem dX7_potFor_24 : decode cX7_potFor 24 = .ok (.ireturn, 1) := by decide +kernel
theorem dX7_potFor_25 : decode cX7_potFor 25 = .ok (.iconst 1, 1) := by decide +kernel
theorem dX7_potFor_26 : decode cX7_potFor 26 = .ok (.istore_n 3, 1) := by decide +kernel
theorem dX7_potFor_27 : decode cX7_potFor 27 = .ok (.iload_n 3, 1) := by decide +kernel
theorem dX7_potFor_28 : decode cX7_potFor 28 = .ok (.bipush 100, 2) := by decide +kernel
theorem dX7_potFor_30 : decode cX7_potFor 30 = .ok (.if_icmp .ge 69, 3) := by decide +kernel
theorem dX7_potFor_33 : decode cX7_potFor 33 = .ok (.aload_n 0, 1) := by decide +kernel
theorem dX7_potFor_34 : decode cX7_potFor 34 = .ok (.invokevirtual 162, 3) := by decide +kernel
theorem dX7_potFor_37 : decode cX7_potFor 37 = .ok (.aload_n 0, 1) := by decide +kernel
theorem dX7_potFor_38 : decode cX7_potFor 38 = .ok (.getfield 7, 3) := by decide +kernel
theorem dX7_potFor_41 : decode cX7_potFor 41 = .ok (.iconst 2, 1) := by decide +kernel
theorem dX7_potFor_42 : decode cX7_potFor 42 = .ok (.iload_n 3, 1) := by decide +kernel
theorem dX7_potFor_43 : decode cX7_potFor 43 = .ok (.iastore, 1) := by decide +kernel
theorem dX7_potFor_44 : decode cX7_potFor 44 = .ok (.aload_n 0, 1) := by decide +kernel
theorem dX7_potFor_45 : decode cX7_potFor 45 = .ok (.getfield 7, 3) := by decide +kernel
theorem dX7_potFor_48 : decode cX7_potFor 48 = .ok (.iconst 3, 1) := by decide +kernel
theorem dX7_potFor_49 : decode cX7_potFor 49 = .ok (.iload_n 3, 1) := by decide +kernel
theorem dX7_potFor_50 : decode cX7_potFor 50 = .ok (.iastore, 1) := by decide +kernel
theorem dX7_potFor_51 : decode cX7_potFor 51 = .ok (.aload_n 0, 1) := by decide +kernel
theorem dX7_potFor_52 : decode cX7_potFor 52 = .ok (.iload_n 1, 1) := by decide +kernel
theorem dX7_potFor_53 : decode cX7_potFor 53 = .ok (.invokevirtual 124, 3) := by decide +kernel
theorem dX7_potFor_56 : decode cX7_potFor 56 = .ok (.istore 4, 2) := by decide +kernel
theorem dX7_potFor_58 : decode cX7_potFor 58 = .ok (.aload_n 0, 1) := by decide +kernel
theorem dX7_potFor_59 : decode cX7_potFor 59 = .ok (.getfield 7, 3) := by decide +kernel
theorem dX7_potFor_62 : decode cX7_potFor 62 = .ok (.bipush 8, 2) := by decide +kernel
theorem dX7_potFor_64 : decode cX7_potFor 64 = .ok (.iaload, 1) := by decide +kernel
theorem dX7_potFor_65 : decode cX7_potFor 65 = .ok (.aload_n 0, 1) := by decide +kernel
theorem dX7_potFor_66 : decode cX7_potFor 66 = .ok (.getfield 13, 3) := by decide +kernel
theorem dX7_potFor_69 : decode cX7_potFor 69 = .ok (.bipush 8, 2) := by decide +kernel
theorem dX7_potFor_71 : decode cX7_potFor 71 = .ok (.iaload, 1) := by decide +kernel
theorem dX7_potFor_72 : decode cX7_potFor 72 = .ok (.if_icmp .ne 7, 3) := by decide +kernel
theorem dX7_potFor_75 : decode cX7_potFor 75 = .ok (.iconst 1, 1) := by decide +kernel
theorem dX7_potFor_76 : decode cX7_potFor 76 = .ok (.goto 4, 3) := by decide +kernel
theorem dX7_potFor_79 : decode cX7_potFor 79 = .ok (.iconst 0, 1) := by decide +kernel
theorem dX7_potFor_80 : decode cX7_potFor 80 = .ok (.istore 5, 2) := by decide +kernel
theorem dX7_potFor_82 : decode cX7_potFor 82 = .ok (.aload_n 0, 1) := by decide +kernel
theorem dX7_potFor_83 : decode cX7_potFor 83 = .ok (.invokevirtual 165, 3) := by decide +kernel
theorem dX7_potFor_86 : decode cX7_potFor 86 = .ok (.iload 5, 2) := by decide +kernel
theorem dX7_potFor_88 : decode cX7_potFor 88 = .ok (.ifCond .eq 5, 3) := by decide +kernel
theorem dX7_potFor_91 : decode cX7_potFor 91 = .ok (.iload_n 3, 1) := by decide +kernel
theorem dX7_potFor_92 : decode cX7_potFor 92 = .ok (.ireturn, 1) := by decide +kernel
theorem dX7_potFor_93 : decode cX7_potFor 93 = .ok (.iinc 3 1, 3) := by decide +kernel
theorem dX7_potFor_96 : decode cX7_potFor 96 = .ok (.goto (-69), 3) := by decide +kernel
theorem dX7_potFor_99 : decode cX7_potFor 99 = .ok (.aload_n 0, 1) := by decide +kernel
theorem dX7_potFor_100 : decode cX7_potFor 100 = .ok (.iconst 3, 1) := by decide +kernel
theorem dX7_potFor_101 : decode cX7_potFor 101 = .ok (.invokevirtual 51, 3) := by decide +kernel
theorem dX7_potFor_104 : decode cX7_potFor 104 = .ok (.ireturn, 1) := by decide +kernel
theorem dX7_kindFor_0 : decode cX7_kindFor 0 = .ok (.aload_n 0, 1) := by decide +kernel
theorem dX7_kindFor_1 : decode cX7_kindFor 1 = .ok (.aload_n 0, 1) := by decide +kernel
theorem dX7_kindFor_2 : decode cX7_kindFor 2 = .ok (.iload_n 1, 1) := by decide +kernel
theorem dX7_kindFor_3 : decode cX7_kindFor 3 = .ok (.invokevirtual 59, 3) := by decide +kernel
theorem dX7_kindFor_6 : decode cX7_kindFor 6 = .ok (.ifCond .eq 19, 3) := by decide +kernel
theorem dX7_kindFor_9 : decode cX7_kindFor 9 = .ok (.iload_n 2, 1) := by decide +kernel
theorem dX7_kindFor_10 : decode cX7_kindFor 10 = .ok (.i2l, 1) := by decide +kernel
theorem dX7_kindFor_11 : decode cX7_kindFor 11 = .ok (.lconst 1, 1) := by decide +kernel
theorem dX7_kindFor_12 : decode cX7_kindFor 12 = .ok (.ldc2_w 119, 3) := by decide +kernel
theorem dX7_kindFor_15 : decode cX7_kindFor 15 = .ok (.invokestatic 39, 3) := by decide +kernel
theorem dX7_kindFor_18 : decode cX7_kindFor 18 = .ok (.ifCond .eq 7, 3) := by decide +kernel
theorem dX7_kindFor_21 : decode cX7_kindFor 21 = .ok (.iconst 1, 1) := by decide +kernel
theorem dX7_kindFor_22 : decode cX7_kindFor 22 = .ok (.goto 4, 3) := by decide +kernel
theorem dX7_kindFor_25 : decode cX7_kindFor 25 = .ok (.iconst 0, 1) := by decide +kernel
theorem dX7_kindFor_26 : decode cX7_kindFor 26 = .ok (.iload_n 2, 1) := by decide +kernel
theorem dX7_kindFor_27 : decode cX7_kindFor 27 = .ok (.invokevirtual 158, 3) := by decide +kernel
theorem dX7_kindFor_30 : decode cX7_kindFor 30 = .ok (.istore_n 3, 1) := by decide +kernel
theorem dX7_kindFor_31 : decode cX7_kindFor 31 = .ok (.iload_n 3, 1) := by decide +kernel
theorem dX7_kindFor_32 : decode cX7_kindFor 32 = .ok (.ifCond .lt 9, 3) := by decide +kernel
theorem dX7_kindFor_35 : decode cX7_kindFor 35 = .ok (.aload_n 0, 1) := by decide +kernel
theorem dX7_kindFor_36 : decode cX7_kindFor 36 = .ok (.iload_n 3, 1) := by decide +kernel
theorem dX7_kindFor_37 : decode cX7_kindFor 37 = .ok (.invokevirtual 51, 3) := by decide +kernel
theorem dX7_kindFor_40 : decode cX7_kindFor 40 = .ok (.ireturn, 1) := by decide +kernel
theorem dX7_kindFor_41 : decode cX7_kindFor 41 = .ok (.iconst (-1), 1) := by decide +kernel
theorem dX7_kindFor_42 : decode cX7_kindFor 42 = .ok (.istore 4, 2) := by decide +kernel
theorem dX7_kindFor_44 : decode cX7_kindFor 44 = .ok (.iconst 0, 1) := by decide +kernel
theorem dX7_kindFor_45 : decode cX7_kindFor 45 = .ok (.istore 5, 2) := by decide +kernel
theorem dX7_kindFor_47 : decode cX7_kindFor 47 = .ok (.iconst 0, 1) := by decide +kernel
theorem dX7_kindFor_48 : decode cX7_kindFor 48 = .ok (.istore 6, 2) := by decide +kernel
theorem dX7_kindFor_50 : decode cX7_kindFor 50 = .ok (.iload 6, 2) := by decide +kernel
theorem dX7_kindFor_52 : decode cX7_kindFor 52 = .ok (.bipush 7, 2) := by decide +kernel
theorem dX7_kindFor_54 : decode cX7_kindFor 54 = .ok (.if_icmp .ge 67, 3) := by decide +kernel
theorem dX7_kindFor_57 : decode cX7_kindFor 57 = .ok (.aload_n 0, 1) := by decide +kernel
theorem dX7_kindFor_58 : decode cX7_kindFor 58 = .ok (.invokevirtual 162, 3) := by decide +kernel
theorem dX7_kindFor_61 : decode cX7_kindFor 61 = .ok (.aload_n 0, 1) := by decide +kernel
theorem dX7_kindFor_62 : decode cX7_kindFor 62 = .ok (.iload_n 1, 1) := by decide +kernel
theorem dX7_kindFor_63 : decode cX7_kindFor 63 = .ok (.iconst 0, 1) := by decide +kernel
theorem dX7_kindFor_64 : decode cX7_kindFor 64 = .ok (.iload 6, 2) := by decide +kernel
theorem dX7_kindFor_66 : decode cX7_kindFor 66 = .ok (.invokevirtual 43, 3) := by decide +kernel
theorem dX7_kindFor_69 : decode cX7_kindFor 69 = .ok (.aload_n 0, 1) := by decide +kernel
theorem dX7_kindFor_70 : decode cX7_kindFor 70 = .ok (.iload_n 2, 1) := by decide +kernel
theorem dX7_kindFor_71 : decode cX7_kindFor 71 = .ok (.invokevirtual 124, 3) := by decide +kernel
theorem dX7_kindFor_74 : decode cX7_kindFor 74 = .ok (.istore 7, 2) := by decide +kernel
theorem dX7_kindFor_76 : decode cX7_kindFor 76 = .ok (.aload_n 0, 1) := by decide +kernel
theorem dX7_kindFor_77 : decode cX7_kindFor 77 = .ok (.iload_n 1, 1) := by decide +kernel
theorem dX7_kindFor_78 : decode cX7_kindFor 78 = .ok (.iconst 2, 1) := by decide +kernel
theorem dX7_kindFor_79 : decode cX7_kindFor 79 = .ok (.invokevirtual 63, 3) := by decide +kernel
theorem dX7_kindFor_82 : decode cX7_kindFor 82 = .ok (.aload_n 0, 1) := by decide +kernel
theorem dX7_kindFor_83 : decode cX7_kindFor 83 = .ok (.iload_n 1, 1) := by decide +kernel
theorem dX7_kindFor_84 : decode cX7_kindFor 84 = .ok (.iconst 4, 1) := by decide +kernel
theorem dX7_kindFor_85 : decode cX7_kindFor 85 = .ok (.invokevirtual 63, 3) := by decide +kernel
theorem dX7_kindFor_88 : decode cX7_kindFor 88 = .ok (.isub, 1) := by decide +kernel
theorem dX7_kindFor_89 : decode cX7_kindFor 89 = .ok (.istore 8, 2) := by decide +kernel
theorem dX7_kindFor_91 : decode cX7_kindFor 91 = .ok (.aload_n 0, 1) := by decide +kernel
theorem dX7_kindFor_92 : decode cX7_kindFor 92 = .ok (.invokevirtual 165, 3) := by decide +kernel
theorem dX7_kindFor_95 : decode cX7_kindFor 95 = .ok (.iload 4, 2) := by decide +kernel
theorem dX7_kindFor_97 : decode cX7_kindFor 97 = .ok (.ifCond .lt 10, 3) := by decide +kernel
theorem dX7_kindFor_100 : decode cX7_kindFor 100 = .ok (.iload 8, 2) := by decide +kernel
theorem dX7_kindFor_102 : decode cX7_kindFor 102 = .ok (.iload 5, 2) := by decide +kernel
theorem dX7_kindFor_104 : decode cX7_kindFor 104 = .ok (.if_icmp .le 11, 3) := by decide +kernel
theorem dX7_kindFor_107 : decode cX7_kindFor 107 = .ok (.iload 6, 2) := by decide +kernel
theorem dX7_kindFor_109 : decode cX7_kindFor 109 = .ok (.istore 4, 2) := by decide +kernel
theorem dX7_kindFor_111 : decode cX7_kindFor 111 = .ok (.iload 8, 2) := by decide +kernel
theorem dX7_kindFor_113 : decode cX7_kindFor 113 = .ok (.istore 5, 2) := by decide +kernel
theorem dX7_kindFor_115 : decode cX7_kindFor 115 = .ok (.iinc 6 1, 3) := by decide +kernel
theorem dX7_kindFor_118 : decode cX7_kindFor 118 = .ok (.goto (-68), 3) := by decide +kernel
theorem dX7_kindFor_121 : decode cX7_kindFor 121 = .ok (.iload 4, 2) := by decide +kernel
theorem dX7_kindFor_123 : decode cX7_kindFor 123 = .ok (.ireturn, 1) := by decide +kernel
theorem dX7_told_0 : decode cX7_told 0 = .ok (.aload_n 0, 1) := by decide +kernel
theorem dX7_told_1 : decode cX7_told 1 = .ok (.aload_n 0, 1) := by decide +kernel
theorem dX7_told_2 : decode cX7_told 2 = .ok (.iload_n 1, 1) := by decide +kernel
theorem dX7_told_3 : decode cX7_told 3 = .ok (.invokevirtual 59, 3) := by decide +kernel
theorem dX7_told_6 : decode cX7_told 6 = .ok (.ifCond .eq 19, 3) := by decide +kernel
theorem dX7_told_9 : decode cX7_told 9 = .ok (.iload_n 2, 1) := by decide +kernel
theorem dX7_told_10 : decode cX7_told 10 = .ok (.i2l, 1) := by decide +kernel
theorem dX7_told_11 : decode cX7_told 11 = .ok (.lconst 1, 1) := by decide +kernel
theorem dX7_told_12 : decode cX7_told 12 = .ok (.ldc2_w 119, 3) := by decide +kernel
theorem dX7_told_15 : decode cX7_told 15 = .ok (.invokestatic 39, 3) := by decide +kernel
theorem dX7_told_18 : decode cX7_told 18 = .ok (.ifCond .eq 7, 3) := by decide +kernel
theorem dX7_told_21 : decode cX7_told 21 = .ok (.iconst 1, 1) := by decide +kernel
theorem dX7_told_22 : decode cX7_told 22 = .ok (.goto 4, 3) := by decide +kernel
theorem dX7_told_25 : decode cX7_told 25 = .ok (.iconst 0, 1) := by decide +kernel
theorem dX7_told_26 : decode cX7_told 26 = .ok (.iload_n 2, 1) := by decide +kernel
theorem dX7_told_27 : decode cX7_told 27 = .ok (.invokevirtual 158, 3) := by decide +kernel
theorem dX7_told_30 : decode cX7_told 30 = .ok (.istore_n 3, 1) := by decide +kernel
theorem dX7_told_31 : decode cX7_told 31 = .ok (.iload_n 3, 1) := by decide +kernel
theorem dX7_told_32 : decode cX7_told 32 = .ok (.ifCond .lt 9, 3) := by decide +kernel
theorem dX7_told_35 : decode cX7_told 35 = .ok (.aload_n 0, 1) := by decide +kernel
theorem dX7_told_36 : decode cX7_told 36 = .ok (.iload_n 3, 1) := by decide +kernel
theorem dX7_told_37 : decode cX7_told 37 = .ok (.invokevirtual 51, 3) := by decide +kernel
theorem dX7_told_40 : decode cX7_told 40 = .ok (.ireturn, 1) := by decide +kernel
theorem dX7_told_41 : decode cX7_told 41 = .ok (.bipush 12, 2) := by decide +kernel
theorem dX7_told_43 : decode cX7_told 43 = .ok (.bipush 7, 2) := by decide +kernel
theorem dX7_told_45 : decode cX7_told 45 = .ok (.iload_n 1, 1) := by decide +kernel
theorem dX7_told_46 : decode cX7_told 46 = .ok (.imul, 1) := by decide +kernel
theorem dX7_told_47 : decode cX7_told 47 = .ok (.iadd, 1) := by decide +kernel
theorem dX7_told_48 : decode cX7_told 48 = .ok (.iconst 0, 1) := by decide +kernel
theorem dX7_told_49 : decode cX7_told 49 = .ok (.iadd, 1) := by decide +kernel
theorem dX7_told_50 : decode cX7_told 50 = .ok (.istore 4, 2) := by decide +kernel
theorem dX7_told_52 : decode cX7_told 52 = .ok (.aload_n 0, 1) := by decide +kernel
theorem dX7_told_53 : decode cX7_told 53 = .ok (.iload 4, 2) := by decide +kernel
theorem dX7_told_55 : decode cX7_told 55 = .ok (.iconst 0, 1) := by decide +kernel
theorem dX7_told_56 : decode cX7_told 56 = .ok (.iload_n 2, 1) := by decide +kernel
theorem dX7_told_57 : decode cX7_told 57 = .ok (.invokevirtual 173, 3) := by decide +kernel
theorem dX7_told_60 : decode cX7_told 60 = .ok (.aload_n 0, 1) := by decide +kernel
theorem dX7_told_61 : decode cX7_told 61 = .ok (.iload 4, 2) := by decide +kernel
theorem dX7_told_63 : decode cX7_told 63 = .ok (.aload_n 0, 1) := by decide +kernel
theorem dX7_told_64 : decode cX7_told 64 = .ok (.getfield 7, 3) := by decide +kernel
theorem dX7_told_67 : decode cX7_told 67 = .ok (.iload 4, 2) := by decide +kernel
theorem dX7_told_69 : decode cX7_told 69 = .ok (.iaload, 1) := by decide +kernel
theorem dX7_told_70 : decode cX7_told 70 = .ok (.iload_n 2, 1) := by decide +kernel
theorem dX7_told_71 : decode cX7_told 71 = .ok (.invokevirtual 173, 3) := by decide +kernel
theorem dX7_told_74 : decode cX7_told 74 = .ok (.isub, 1) := by decide +kernel
theorem dX7_told_75 : decode cX7_told 75 = .ok (.ireturn, 1) := by decide +kernel
theorem dX7_drinking_0 : decode cX7_drinking 0 = .ok (.iconst 0, 1) := by decide +kernel
theorem dX7_drinking_1 : decode cX7_drinking 1 = .ok (.istore_n 1, 1) := by decide +kernel
theorem dX7_drinking_2 : decode cX7_drinking 2 = .ok (.iconst 0, 1) := by decide +kernel
theorem dX7_drinking_3 : decode cX7_drinking 3 = .ok (.istore_n 2, 1) := by decide +kernel
theorem dX7_drinking_4 : decode cX7_drinking 4 = .ok (.iload_n 2, 1) := by decide +kernel
theorem dX7_drinking_5 : decode cX7_drinking 5 = .ok (.aload_n 0, 1) := by decide +kernel
theorem dX7_drinking_6 : decode cX7_drinking 6 = .ok (.getfield 7, 3) := by decide +kernel
theorem dX7_drinking_9 : decode cX7_drinking 9 = .ok (.iconst 0, 1) := by decide +kernel
theorem dX7_drinking_10 : decode cX7_drinking 10 = .ok (.iaload, 1) := by decide +kernel
theorem dX7_drinking_11 : decode cX7_drinking 11 = .ok (.if_icmp .ge 26, 3) := by decide +kernel
theorem dX7_drinking_14 : decode cX7_drinking 14 = .ok (.iload_n 1, 1) := by decide +kernel
theorem dX7_drinking_15 : decode cX7_drinking 15 = .ok (.aload_n 0, 1) := by decide +kernel
theorem dX7_drinking_16 : decode cX7_drinking 16 = .ok (.iload_n 2, 1) := by decide +kernel
theorem dX7_drinking_17 : decode cX7_drinking 17 = .ok (.iconst 5, 1) := by decide +kernel
theorem dX7_drinking_18 : decode cX7_drinking 18 = .ok (.invokevirtual 63, 3) := by decide +kernel
theorem dX7_drinking_21 : decode cX7_drinking 21 = .ok (.ifCond .le 7, 3) := by decide +kernel
theorem dX7_drinking_24 : decode cX7_drinking 24 = .ok (.iconst 1, 1) := by decide +kernel
theorem dX7_drinking_25 : decode cX7_drinking 25 = .ok (.goto 4, 3) := by decide +kernel
theorem dX7_drinking_28 : decode cX7_drinking 28 = .ok (.iconst 0, 1) := by decide +kernel
theorem dX7_drinking_29 : decode cX7_drinking 29 = .ok (.iadd, 1) := by decide +kernel
theorem dX7_drinking_30 : decode cX7_drinking 30 = .ok (.istore_n 1, 1) := by decide +kernel
theorem dX7_drinking_31 : decode cX7_drinking 31 = .ok (.iinc 2 1, 3) := by decide +kernel
theorem dX7_drinking_34 : decode cX7_drinking 34 = .ok (.goto (-30), 3) := by decide +kernel
theorem dX7_drinking_37 : decode cX7_drinking 37 = .ok (.iload_n 1, 1) := by decide +kernel
theorem dX7_drinking_38 : decode cX7_drinking 38 = .ok (.ireturn, 1) := by decide +kernel
theorem dX7_uneven_0 : decode cX7_uneven 0 = .ok (.iload_n 1, 1) := by decide +kernel
theorem dX7_uneven_1 : decode cX7_uneven 1 = .ok (.i2l, 1) := by decide +kernel
theorem dX7_uneven_2 : decode cX7_uneven 2 = .ok (.lconst 0, 1) := by decide +kernel
theorem dX7_uneven_3 : decode cX7_uneven 3 = .ok (.ldc2_w 71, 3) := by decide +kernel
theorem dX7_uneven_6 : decode cX7_uneven 6 = .ok (.invokestatic 39, 3) := by decide +kernel
theorem dX7_uneven_9 : decode cX7_uneven 9 = .ok (.ifCond .ne 9, 3) := by decide +kernel
theorem dX7_uneven_12 : decode cX7_uneven 12 = .ok (.aload_n 0, 1) := by decide +kernel
theorem dX7_uneven_13 : decode cX7_uneven 13 = .ok (.iconst 0, 1) := by decide +kernel
theorem dX7_uneven_14 : decode cX7_uneven 14 = .ok (.invokevirtual 51, 3) := by decide +kernel
theorem dX7_uneven_17 : decode cX7_uneven 17 = .ok (.ireturn, 1) := by decide +kernel
theorem dX7_uneven_18 : decode cX7_uneven 18 = .ok (.aload_n 0, 1) := by decide +kernel
theorem dX7_uneven_19 : decode cX7_uneven 19 = .ok (.invokevirtual 182, 3) := by decide +kernel
theorem dX7_uneven_22 : decode cX7_uneven 22 = .ok (.istore_n 2, 1) := by decide +kernel
theorem dX7_uneven_23 : decode cX7_uneven 23 = .ok (.iload_n 2, 1) := by decide +kernel
theorem dX7_uneven_24 : decode cX7_uneven 24 = .ok (.ifCond .ne 9, 3) := by decide +kernel
theorem dX7_uneven_27 : decode cX7_uneven 27 = .ok (.aload_n 0, 1) := by decide +kernel
theorem dX7_uneven_28 : decode cX7_uneven 28 = .ok (.iconst 3, 1) := by decide +kernel
theorem dX7_uneven_29 : decode cX7_uneven 29 = .ok (.invokevirtual 51, 3) := by decide +kernel
theorem dX7_uneven_32 : decode cX7_uneven 32 = .ok (.ireturn, 1) := by decide +kernel
theorem dX7_uneven_33 : decode cX7_uneven 33 = .ok (.aload_n 0, 1) := by decide +kernel
theorem dX7_uneven_34 : decode cX7_uneven 34 = .ok (.getfield 7, 3) := by decide +kernel
theorem dX7_uneven_37 : decode cX7_uneven 37 = .ok (.iconst 1, 1) := by decide +kernel
theorem dX7_uneven_38 : decode cX7_uneven 38 = .ok (.iaload, 1) := by decide +kernel
theorem dX7_uneven_39 : decode cX7_uneven 39 = .ok (.aload_n 0, 1) := by decide +kernel
theorem dX7_uneven_40 : decode cX7_uneven 40 = .ok (.iconst 5, 1) := by decide +kernel
theorem dX7_uneven_41 : decode cX7_uneven 41 = .ok (.invokevirtual 78, 3) := by decide +kernel
theorem dX7_uneven_44 : decode cX7_uneven 44 = .ok (.imul, 1) := by decide +kernel
theorem dX7_uneven_45 : decode cX7_uneven 45 = .ok (.iload_n 2, 1) := by decide +kernel
theorem dX7_uneven_46 : decode cX7_uneven 46 = .ok (.idiv, 1) := by decide +kernel
theorem dX7_uneven_47 : decode cX7_uneven 47 = .ok (.istore_n 3, 1) := by decide +kernel
theorem dX7_uneven_48 : decode cX7_uneven 48 = .ok (.iconst (-1), 1) := by decide +kernel
theorem dX7_uneven_49 : decode cX7_uneven 49 = .ok (.istore 4, 2) := by decide +kernel
theorem dX7_uneven_51 : decode cX7_uneven 51 = .ok (.iconst (-1), 1) := by decide +kernel
theorem dX7_uneven_52 : decode cX7_uneven 52 = .ok (.istore 5, 2) := by decide +kernel
theorem dX7_uneven_54 : decode cX7_uneven 54 = .ok (.iconst 0, 1) := by decide +kernel
theorem dX7_uneven_55 : decode cX7_uneven 55 = .ok (.istore 6, 2) := by decide +kernel

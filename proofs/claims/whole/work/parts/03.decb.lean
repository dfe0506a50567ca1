theorem dX5_passDigits_2 : decode cX5_passDigits 2 = .ok (.putfield 21, 3) := by decide +kernel
theorem dX5_passDigits_5 : decode cX5_passDigits 5 = .ok (.aload_n 0, 1) := by decide +kernel
theorem dX5_passDigits_6 : decode cX5_passDigits 6 = .ok (.getfield 18, 3) := by decide +kernel
theorem dX5_passDigits_9 : decode cX5_passDigits 9 = .ok (.aload_n 0, 1) := by decide +kernel
theorem dX5_passDigits_10 : decode cX5_passDigits 10 = .ok (.getfield 27, 3) := by decide +kernel
theorem dX5_passDigits_13 : decode cX5_passDigits 13 = .ok (.getfield 123, 3) := by decide +kernel
theorem dX5_passDigits_16 : decode cX5_passDigits 16 = .ok (.if_icmp .ge 59, 3) := by decide +kernel
theorem dX5_passDigits_19 : decode cX5_passDigits 19 = .ok (.aload_n 0, 1) := by decide +kernel
theorem dX5_passDigits_20 : decode cX5_passDigits 20 = .ok (.aload_n 0, 1) := by decide +kernel
theorem dX5_passDigits_21 : decode cX5_passDigits 21 = .ok (.getfield 18, 3) := by decide +kernel
theorem dX5_passDigits_24 : decode cX5_passDigits 24 = .ok (.invokevirtual 115, 3) := by decide +kernel
theorem dX5_passDigits_27 : decode cX5_passDigits 27 = .ok (.invokestatic 133, 3) := by decide +kernel
theorem dX5_passDigits_30 : decode cX5_passDigits 30 = .ok (.ifCond .eq 45, 3) := by decide +kernel
theorem dX5_passDigits_33 : decode cX5_passDigits 33 = .ok (.aload_n 0, 1) := by decide +kernel
theorem dX5_passDigits_34 : decode cX5_passDigits 34 = .ok (.aload_n 0, 1) := by decide +kernel
theorem dX5_passDigits_35 : decode cX5_passDigits 35 = .ok (.getfield 21, 3) := by decide +kernel
theorem dX5_passDigits_38 : decode cX5_passDigits 38 = .ok (.bipush 10, 2) := by decide +kernel
theorem dX5_passDigits_40 : decode cX5_passDigits 40 = .ok (.imul, 1) := by decide +kernel
theorem dX5_passDigits_41 : decode cX5_passDigits 41 = .ok (.aload_n 0, 1) := by decide +kernel
theorem dX5_passDigits_42 : decode cX5_passDigits 42 = .ok (.aload_n 0, 1) := by decide +kernel
theorem dX5_passDigits_43 : decode cX5_passDigits 43 = .ok (.getfield 18, 3) := by decide +kernel
theorem dX5_passDigits_46 : decode cX5_passDigits 46 = .ok (.invokevirtual 115, 3) := by decide +kernel
theorem dX5_passDigits_49 : decode cX5_passDigits 49 = .ok (.iadd, 1) := by decide +kernel
theorem dX5_passDigits_50 : decode cX5_passDigits 50 = .ok (.bipush 48, 2) := by decide +kernel
theorem dX5_passDigits_52 : decode cX5_passDigits 52 = .ok (.isub, 1) := by decide +kernel
theorem dX5_passDigits_53 : decode cX5_passDigits 53 = .ok (.sipush 10000, 3) := by decide +kernel
theorem dX5_passDigits_56 : decode cX5_passDigits 56 = .ok (.invokestatic 139, 3) := by decide +kernel
theorem dX5_passDigits_59 : decode cX5_passDigits 59 = .ok (.putfield 21, 3) := by decide +kernel
theorem dX5_passDigits_62 : decode cX5_passDigits 62 = .ok (.aload_n 0, 1) := by decide +kernel
theorem dX5_passDigits_63 : decode cX5_passDigits 63 = .ok (.dup, 1) := by decide +kernel
theorem dX5_passDigits_64 : decode cX5_passDigits 64 = .ok (.getfield 18, 3) := by decide +kernel
theorem dX5_passDigits_67 : decode cX5_passDigits 67 = .ok (.iconst 1, 1) := by decide +kernel
theorem dX5_passDigits_68 : decode cX5_passDigits 68 = .ok (.iadd, 1) := by decide +kernel
theorem dX5_passDigits_69 : decode cX5_passDigits 69 = .ok (.putfield 18, 3) := by decide +kernel
theorem dX5_passDigits_72 : decode cX5_passDigits 72 = .ok (.goto (-67), 3) := by decide +kernel
theorem dX5_passDigits_75 : decode cX5_passDigits 75 = .ok (.return_, 1) := by decide +kernel
theorem dX5_byteAt_0 : decode cX5_byteAt 0 = .ok (.iload_n 1, 1) := by decide +kernel
theorem dX5_byteAt_1 : decode cX5_byteAt 1 = .ok (.ifCond .lt 26, 3) := by decide +kernel
theorem dX5_byteAt_4 : decode cX5_byteAt 4 = .ok (.iload_n 1, 1) := by decide +kernel
theorem dX5_byteAt_5 : decode cX5_byteAt 5 = .ok (.aload_n 0, 1) := by decide +kernel
theorem dX5_byteAt_6 : decode cX5_byteAt 6 = .ok (.getfield 27, 3) := by decide +kernel
theorem dX5_byteAt_9 : decode cX5_byteAt 9 = .ok (.getfield 123, 3) := by decide +kernel
theorem dX5_byteAt_12 : decode cX5_byteAt 12 = .ok (.if_icmp .ge 15, 3) := by decide +kernel
theorem dX5_byteAt_15 : decode cX5_byteAt 15 = .ok (.aload_n 0, 1) := by decide +kernel
theorem dX5_byteAt_16 : decode cX5_byteAt 16 = .ok (.getfield 27, 3) := by decide +kernel
theorem dX5_byteAt_19 : decode cX5_byteAt 19 = .ok (.getfield 145, 3) := by decide +kernel
theorem dX5_byteAt_22 : decode cX5_byteAt 22 = .ok (.iload_n 1, 1) := by decide +kernel
theorem dX5_byteAt_23 : decode cX5_byteAt 23 = .ok (.iaload, 1) := by decide +kernel
theorem dX5_byteAt_24 : decode cX5_byteAt 24 = .ok (.goto 4, 3) := by decide +kernel
theorem dX5_byteAt_27 : decode cX5_byteAt 27 = .ok (.iconst (-1), 1) := by decide +kernel
theorem dX5_byteAt_28 : decode cX5_byteAt 28 = .ok (.ireturn, 1) := by decide +kernel
theorem dX5_isLetter_0 : decode cX5_isLetter 0 = .ok (.iload_n 0, 1) := by decide +kernel
theorem dX5_isLetter_1 : decode cX5_isLetter 1 = .ok (.bipush 97, 2) := by decide +kernel
theorem dX5_isLetter_3 : decode cX5_isLetter 3 = .ok (.if_icmp .lt 13, 3) := by decide +kernel
theorem dX5_isLetter_6 : decode cX5_isLetter 6 = .ok (.iload_n 0, 1) := by decide +kernel
theorem dX5_isLetter_7 : decode cX5_isLetter 7 = .ok (.bipush 122, 2) := by decide +kernel
theorem dX5_isLetter_9 : decode cX5_isLetter 9 = .ok (.if_icmp .gt 7, 3) := by decide +kernel
theorem dX5_isLetter_12 : decode cX5_isLetter 12 = .ok (.iconst 1, 1) := by decide +kernel
theorem dX5_isLetter_13 : decode cX5_isLetter 13 = .ok (.goto 4, 3) := by decide +kernel
theorem dX5_isLetter_16 : decode cX5_isLetter 16 = .ok (.iconst 0, 1) := by decide +kernel
theorem dX5_isLetter_17 : decode cX5_isLetter 17 = .ok (.ireturn, 1) := by decide +kernel
theorem dX5_isDigit_0 : decode cX5_isDigit 0 = .ok (.iload_n 0, 1) := by decide +kernel
theorem dX5_isDigit_1 : decode cX5_isDigit 1 = .ok (.bipush 48, 2) := by decide +kernel
theorem dX5_isDigit_3 : decode cX5_isDigit 3 = .ok (.if_icmp .lt 13, 3) := by decide +kernel
theorem dX5_isDigit_6 : decode cX5_isDigit 6 = .ok (.iload_n 0, 1) := by decide +kernel
theorem dX5_isDigit_7 : decode cX5_isDigit 7 = .ok (.bipush 57, 2) := by decide +kernel
theorem dX5_isDigit_9 : decode cX5_isDigit 9 = .ok (.if_icmp .gt 7, 3) := by decide +kernel
theorem dX5_isDigit_12 : decode cX5_isDigit 12 = .ok (.iconst 1, 1) := by decide +kernel
theorem dX5_isDigit_13 : decode cX5_isDigit 13 = .ok (.goto 4, 3) := by decide +kernel
theorem dX5_isDigit_16 : decode cX5_isDigit 16 = .ok (.iconst 0, 1) := by decide +kernel
theorem dX5_isDigit_17 : decode cX5_isDigit 17 = .ok (.ireturn, 1) := by decide +kernel
theorem dX5_wordOfKind_0 : decode cX5_wordOfKind 0 = .ok (.iload_n 0, 1) := by decide +kernel
theorem dX5_wordOfKind_1 : decode cX5_wordOfKind 1 = .ok (.tableswitch 57 0 5 #[39, 42, 45, 48, 51, 54], 39) := by decide +kernel
theorem dX5_wordOfKind_40 : decode cX5_wordOfKind 40 = .ok (.ldc 149, 2) := by decide +kernel
theorem dX5_wordOfKind_42 : decode cX5_wordOfKind 42 = .ok (.areturn, 1) := by decide +kernel
theorem dX5_wordOfKind_43 : decode cX5_wordOfKind 43 = .ok (.ldc 151, 2) := by decide +kernel
theorem dX5_wordOfKind_45 : decode cX5_wordOfKind 45 = .ok (.areturn, 1) := by decide +kernel
theorem dX5_wordOfKind_46 : decode cX5_wordOfKind 46 = .ok (.ldc 153, 2) := by decide +kernel
theorem dX5_wordOfKind_48 : decode cX5_wordOfKind 48 = .ok (.areturn, 1) := by decide +kernel
theorem dX5_wordOfKind_49 : decode cX5_wordOfKind 49 = .ok (.ldc 155, 2) := by decide +kernel
theorem dX5_wordOfKind_51 : decode cX5_wordOfKind 51 = .ok (.areturn, 1) := by decide +kernel
theorem dX5_wordOfKind_52 : decode cX5_wordOfKind 52 = .ok (.ldc 157, 2) := by decide +kernel
theorem dX5_wordOfKind_54 : decode cX5_wordOfKind 54 = .ok (.areturn, 1) := by decide +kernel
theorem dX5_wordOfKind_55 : decode cX5_wordOfKind 55 = .ok (.ldc 159, 2) := by decide +kernel
theorem dX5_wordOfKind_57 : decode cX5_wordOfKind 57 = .ok (.areturn, 1) := by decide +kernel
theorem dX5_wordOfKind_58 : decode cX5_wordOfKind 58 = .ok (.ldc 161, 2) := by decide +kernel
theorem dX5_wordOfKind_60 : decode cX5_wordOfKind 60 = .ok (.areturn, 1) := by decide +kernel
theorem dX5_wordOfSign_0 : decode cX5_wordOfSign 0 = .ok (.iload_n 0, 1) := by decide +kernel
theorem dX5_wordOfSign_1 : decode cX5_wordOfSign 1 = .ok (.lookupswitch 33 #[(0, 27), (1, 30)], 27) := by decide +kernel
theorem dX5_wordOfSign_28 : decode cX5_wordOfSign 28 = .ok (.ldc 163, 2) := by decide +kernel
theorem dX5_wordOfSign_30 : decode cX5_wordOfSign 30 = .ok (.areturn, 1) := by decide +kernel
theorem dX5_wordOfSign_31 : decode cX5_wordOfSign 31 = .ok (.ldc 165, 2) := by decide +kernel
theorem dX5_wordOfSign_33 : decode cX5_wordOfSign 33 = .ok (.areturn, 1) := by decide +kernel
theorem dX5_wordOfSign_34 : decode cX5_wordOfSign 34 = .ok (.ldc 167, 2) := by decide +kernel
theorem dX5_wordOfSign_36 : decode cX5_wordOfSign 36 = .ok (.areturn, 1) := by decide +kernel
theorem dX6_init_0 : decode cX6_init 0 = .ok (.aload_n 0, 1) := by decide +kernel
theorem dX6_init_1 : decode cX6_init 1 = .ok (.invokespecial 1, 3) := by decide +kernel
theorem dX6_init_4 : decode cX6_init 4 = .ok (.aload_n 0, 1) := by decide +kernel
theorem dX6_init_5 : decode cX6_init 5 = .ok (.new 7, 3) := by decide +kernel
theorem dX6_init_8 : decode cX6_init 8 = .ok (.dup, 1) := by decide +kernel
theorem dX6_init_9 : decode cX6_init 9 = .ok (.invokespecial 9, 3) := by decide +kernel
theorem dX6_init_12 : decode cX6_init 12 = .ok (.putfield 10, 3) := by decide +kernel
theorem dX6_init_15 : decode cX6_init 15 = .ok (.aload_n 0, 1) := by decide +kernel
theorem dX6_init_16 : decode cX6_init 16 = .ok (.new 7, 3) := by decide +kernel
theorem dX6_init_19 : decode cX6_init 19 = .ok (.dup, 1) := by decide +kernel
theorem dX6_init_20 : decode cX6_init 20 = .ok (.invokespecial 9, 3) := by decide +kernel
theorem dX6_init_23 : decode cX6_init 23 = .ok (.putfield 16, 3) := by decide +kernel
theorem dX6_init_26 : decode cX6_init 26 = .ok (.aload_n 0, 1) := by decide +kernel
theorem dX6_init_27 : decode cX6_init 27 = .ok (.new 7, 3) := by decide +kernel
theorem dX6_init_30 : decode cX6_init 30 = .ok (.dup, 1) := by decide +kernel
theorem dX6_init_31 : decode cX6_init 31 = .ok (.invokespecial 9, 3) := by decide +kernel
theorem dX6_init_34 : decode cX6_init 34 = .ok (.putfield 19, 3) := by decide +kernel
theorem dX6_init_37 : decode cX6_init 37 = .ok (.aload_n 0, 1) := by decide +kernel
theorem dX6_init_38 : decode cX6_init 38 = .ok (.iconst 0, 1) := by decide +kernel
theorem dX6_init_39 : decode cX6_init 39 = .ok (.putfield 22, 3) := by decide +kernel
theorem dX6_init_42 : decode cX6_init 42 = .ok (.aload_n 0, 1) := by decide +kernel
theorem dX6_init_43 : decode cX6_init 43 = .ok (.new 26, 3) := by decide +kernel
theorem dX6_init_46 : decode cX6_init 46 = .ok (.dup, 1) := by decide +kernel
theorem dX6_init_47 : decode cX6_init 47 = .ok (.invokespecial 28, 3) := by decide +kernel
theorem dX6_init_50 : decode cX6_init 50 = .ok (.putfield 29, 3) := by decide +kernel
theorem dX6_init_53 : decode cX6_init 53 = .ok (.aload_n 0, 1) := by decide +kernel
theorem dX6_init_54 : decode cX6_init 54 = .ok (.new 33, 3) := by decide +kernel
theorem dX6_init_57 : decode cX6_init 57 = .ok (.dup, 1) := by decide +kernel
theorem dX6_init_58 : decode cX6_init 58 = .ok (.aload_n 0, 1) := by decide +kernel
theorem dX6_init_59 : decode cX6_init 59 = .ok (.getfield 29, 3) := by decide +kernel
theorem dX6_init_62 : decode cX6_init 62 = .ok (.invokespecial 35, 3) := by decide +kernel
theorem dX6_init_65 : decode cX6_init 65 = .ok (.putfield 38, 3) := by decide +kernel
theorem dX6_init_68 : decode cX6_init 68 = .ok (.aload_n 0, 1) := by decide +kernel
theorem dX6_init_69 : decode cX6_init 69 = .ok (.iconst 4, 1) := by decide +kernel
theorem dX6_init_70 : decode cX6_init 70 = .ok (.anewarray 42, 3) := by decide +kernel
theorem dX6_init_73 : decode cX6_init 73 = .ok (.putfield 44, 3) := by decide +kernel
theorem dX6_init_76 : decode cX6_init 76 = .ok (.aload_n 0, 1) := by decide +kernel
theorem dX6_init_77 : decode cX6_init 77 = .ok (.bipush 7, 2) := by decide +kernel
theorem dX6_init_79 : decode cX6_init 79 = .ok (.newarray .int, 2) := by decide +kernel
theorem dX6_init_81 : decode cX6_init 81 = .ok (.putfield 48, 3) := by decide +kernel
theorem dX6_init_84 : decode cX6_init 84 = .ok (.iconst 0, 1) := by decide +kernel
theorem dX6_init_85 : decode cX6_init 85 = .ok (.istore_n 1, 1) := by decide +kernel
theorem dX6_init_86 : decode cX6_init 86 = .ok (.iload_n 1, 1) := by decide +kernel
theorem dX6_init_87 : decode cX6_init 87 = .ok (.iconst 4, 1) := by decide +kernel
theorem dX6_init_88 : decode cX6_init 88 = .ok (.if_icmp .ge 22, 3) := by decide +kernel
theorem dX6_init_91 : decode cX6_init 91 = .ok (.aload_n 0, 1) := by decide +kernel
theorem dX6_init_92 : decode cX6_init 92 = .ok (.getfield 44, 3) := by decide +kernel
theorem dX6_init_95 : decode cX6_init 95 = .ok (.iload_n 1, 1) := by decide +kernel
theorem dX6_init_96 : decode cX6_init 96 = .ok (.new 42, 3) := by decide +kernel
theorem dX6_init_99 : decode cX6_init 99 = .ok (.dup, 1) := by decide +kernel
theorem dX6_init_100 : decode cX6_init 100 = .ok (.invokespecial 52, 3) := by decide +kernel
theorem dX6_init_103 : decode cX6_init 103 = .ok (.aastore, 1) := by decide +kernel
theorem dX6_init_104 : decode cX6_init 104 = .ok (.iinc 1 1, 3) := by decide +kernel
theorem dX6_init_107 : decode cX6_init 107 = .ok (.goto (-21), 3) := by decide +kernel
theorem dX6_init_110 : decode cX6_init 110 = .ok (.return_, 1) := by decide +kernel
theorem dX6_drinker_0 : decode cX6_drinker 0 = .ok (.iload_n 1, 1) := by decide +kernel
theorem dX6_drinker_1 : decode cX6_drinker 1 = .ok (.iconst 0, 1) := by decide +kernel
theorem dX6_drinker_2 : decode cX6_drinker 2 = .ok (.bipush 6, 2) := by decide +kernel
theorem dX6_drinker_4 : decode cX6_drinker 4 = .ok (.invokestatic 53, 3) := by decide +kernel
theorem dX6_drinker_7 : decode cX6_drinker 7 = .ok (.ifCond .eq 13, 3) := by decide +kernel
theorem dX6_drinker_10 : decode cX6_drinker 10 = .ok (.iload_n 2, 1) := by decide +kernel
theorem dX6_drinker_11 : decode cX6_drinker 11 = .ok (.iconst 1, 1) := by decide +kernel
theorem dX6_drinker_12 : decode cX6_drinker 12 = .ok (.bipush 9, 2) := by decide +kernel
theorem dX6_drinker_14 : decode cX6_drinker 14 = .ok (.invokestatic 53, 3) := by decide +kernel
theorem dX6_drinker_17 : decode cX6_drinker 17 = .ok (.ifCond .ne 9, 3) := by decide +kernel
theorem dX6_drinker_20 : decode cX6_drinker 20 = .ok (.aload_n 0, 1) := by decide +kernel
theorem dX6_drinker_21 : decode cX6_drinker 21 = .ok (.iconst 0, 1) := by decide +kernel
theorem dX6_drinker_22 : decode cX6_drinker 22 = .ok (.invokevirtual 57, 3) := by decide +kernel
theorem dX6_drinker_25 : decode cX6_drinker 25 = .ok (.ireturn, 1) := by decide +kernel
theorem dX6_drinker_26 : decode cX6_drinker 26 = .ok (.aload_n 0, 1) := by decide +kernel
theorem dX6_drinker_27 : decode cX6_drinker 27 = .ok (.getfield 10, 3) := by decide +kernel
theorem dX6_drinker_30 : decode cX6_drinker 30 = .ok (.getfield 61, 3) := by decide +kernel
theorem dX6_drinker_33 : decode cX6_drinker 33 = .ok (.bipush 10, 2) := by decide +kernel
theorem dX6_drinker_35 : decode cX6_drinker 35 = .ok (.if_icmp .lt 9, 3) := by decide +kernel
theorem dX6_drinker_38 : decode cX6_drinker 38 = .ok (.aload_n 0, 1) := by decide +kernel
theorem dX6_drinker_39 : decode cX6_drinker 39 = .ok (.iconst 1, 1) := by decide +kernel
theorem dX6_drinker_40 : decode cX6_drinker 40 = .ok (.invokevirtual 57, 3) := by decide +kernel
theorem dX6_drinker_43 : decode cX6_drinker 43 = .ok (.ireturn, 1) := by decide +kernel
theorem dX6_drinker_44 : decode cX6_drinker 44 = .ok (.aload_n 0, 1) := by decide +kernel
theorem dX6_drinker_45 : decode cX6_drinker 45 = .ok (.getfield 10, 3) := by decide +kernel
theorem dX6_drinker_48 : decode cX6_drinker 48 = .ok (.iload_n 1, 1) := by decide +kernel
theorem dX6_drinker_49 : decode cX6_drinker 49 = .ok (.iload_n 2, 1) := by decide +kernel
theorem dX6_drinker_50 : decode cX6_drinker 50 = .ok (.invokevirtual 65, 3) := by decide +kernel
theorem dX6_drinker_53 : decode cX6_drinker 53 = .ok (.pop, 1) := by decide +kernel
theorem dX6_drinker_54 : decode cX6_drinker 54 = .ok (.aload_n 0, 1) := by decide +kernel
theorem dX6_drinker_55 : decode cX6_drinker 55 = .ok (.getfield 10, 3) := by decide +kernel
theorem dX6_drinker_58 : decode cX6_drinker 58 = .ok (.getfield 61, 3) := by decide +kernel
theorem dX6_drinker_61 : decode cX6_drinker 61 = .ok (.iconst 1, 1) := by decide +kernel
theorem dX6_drinker_62 : decode cX6_drinker 62 = .ok (.isub, 1) := by decide +kernel
theorem dX6_drinker_63 : decode cX6_drinker 63 = .ok (.ireturn, 1) := by decide +kernel
theorem dX6_of_0 : decode cX6_of 0 = .ok (.aload_n 0, 1) := by decide +kernel
theorem dX6_of_1 : decode cX6_of 1 = .ok (.iload_n 1, 1) := by decide +kernel
theorem dX6_of_2 : decode cX6_of 2 = .ok (.invokevirtual 69, 3) := by decide +kernel
theorem dX6_of_5 : decode cX6_of 5 = .ok (.ifCond .eq 13, 3) := by decide +kernel
theorem dX6_of_8 : decode cX6_of 8 = .ok (.iload_n 2, 1) := by decide +kernel
theorem dX6_of_9 : decode cX6_of 9 = .ok (.iconst 0, 1) := by decide +kernel
theorem dX6_of_10 : decode cX6_of 10 = .ok (.bipush 6, 2) := by decide +kernel
theorem dX6_of_12 : decode cX6_of 12 = .ok (.invokestatic 53, 3) := by decide +kernel
theorem dX6_of_15 : decode cX6_of 15 = .ok (.ifCond .ne 9, 3) := by decide +kernel
theorem dX6_of_18 : decode cX6_of 18 = .ok (.aload_n 0, 1) := by decide +kernel
theorem dX6_of_19 : decode cX6_of 19 = .ok (.iconst 0, 1) := by decide +kernel
theorem dX6_of_20 : decode cX6_of 20 = .ok (.invokevirtual 57, 3) := by decide +kernel
theorem dX6_of_23 : decode cX6_of 23 = .ok (.ireturn, 1) := by decide +kernel
theorem dX6_of_24 : decode cX6_of 24 = .ok (.aload_n 0, 1) := by decide +kernel
theorem dX6_of_25 : decode cX6_of 25 = .ok (.getfield 10, 3) := by decide +kernel
theorem dX6_of_28 : decode cX6_of 28 = .ok (.getfield 73, 3) := by decide +kernel
theorem dX6_of_31 : decode cX6_of 31 = .ok (.iload_n 1, 1) := by decide +kernel
theorem dX6_of_32 : decode cX6_of 32 = .ok (.aaload, 1) := by decide +kernel
theorem dX6_of_33 : decode cX6_of 33 = .ok (.iload_n 2, 1) := by decide +kernel
theorem dX6_of_34 : decode cX6_of 34 = .ok (.invokevirtual 77, 3) := by decide +kernel
theorem dX6_of_37 : decode cX6_of 37 = .ok (.ireturn, 1) := by decide +kernel
theorem dX6_change_0 : decode cX6_change 0 = .ok (.aload_n 0, 1) := by decide +kernel
theorem dX6_change_1 : decode cX6_change 1 = .ok (.iload_n 1, 1) := by decide +kernel
theorem dX6_change_2 : decode cX6_change 2 = .ok (.invokevirtual 69, 3) := by decide +kernel
theorem dX6_change_5 : decode cX6_change 5 = .ok (.ifCond .eq 11, 3) := by decide +kernel
theorem dX6_change_8 : decode cX6_change 8 = .ok (.iload_n 2, 1) := by decide +kernel
theorem dX6_change_9 : decode cX6_change 9 = .ok (.iload_n 3, 1) := by decide +kernel
theorem dX6_change_10 : decode cX6_change 10 = .ok (.invokestatic 82, 3) := by decide +kernel
theorem dX6_change_13 : decode cX6_change 13 = .ok (.ifCond .ne 9, 3) := by decide +kernel
theorem dX6_change_16 : decode cX6_change 16 = .ok (.aload_n 0, 1) := by decide +kernel
theorem dX6_change_17 : decode cX6_change 17 = .ok (.iconst 0, 1) := by decide +kernel
theorem dX6_change_18 : decode cX6_change 18 = .ok (.invokevirtual 57, 3) := by decide +kernel
theorem dX6_change_21 : decode cX6_change 21 = .ok (.ireturn, 1) := by decide +kernel
theorem dX6_change_22 : decode cX6_change 22 = .ok (.aload_n 0, 1) := by decide +kernel
theorem dX6_change_23 : decode cX6_change 23 = .ok (.getfield 10, 3) := by decide +kernel
theorem dX6_change_26 : decode cX6_change 26 = .ok (.getfield 73, 3) := by decide +kernel
theorem dX6_change_29 : decode cX6_change 29 = .ok (.iload_n 1, 1) := by decide +kernel
theorem dX6_change_30 : decode cX6_change 30 = .ok (.aaload, 1) := by decide +kernel
theorem dX6_change_31 : decode cX6_change 31 = .ok (.iload_n 2, 1) := by decide +kernel
theorem dX6_change_32 : decode cX6_change 32 = .ok (.invokevirtual 77, 3) := by decide +kernel
theorem dX6_change_35 : decode cX6_change 35 = .ok (.istore 4, 2) := by decide +kernel
theorem dX6_change_37 : decode cX6_change 37 = .ok (.aload_n 0, 1) := by decide +kernel
theorem dX6_change_38 : decode cX6_change 38 = .ok (.getfield 10, 3) := by decide +kernel
theorem dX6_change_41 : decode cX6_change 41 = .ok (.getfield 73, 3) := by decide +kernel
theorem dX6_change_44 : decode cX6_change 44 = .ok (.iload_n 1, 1) := by decide +kernel
theorem dX6_change_45 : decode cX6_change 45 = .ok (.aaload, 1) := by decide +kernel
theorem dX6_change_46 : decode cX6_change 46 = .ok (.iload_n 2, 1) := by decide +kernel
theorem dX6_change_47 : decode cX6_change 47 = .ok (.iload_n 3, 1) := by decide +kernel
theorem dX6_change_48 : decode cX6_change 48 = .ok (.invokevirtual 86, 3) := by decide +kernel
theorem dX6_change_51 : decode cX6_change 51 = .ok (.iload 4, 2) := by decide +kernel
theorem dX6_change_53 : decode cX6_change 53 = .ok (.ireturn, 1) := by decide +kernel
theorem dX6_room_0 : decode cX6_room 0 = .ok (.iload_n 1, 1) := by decide +kernel
theorem dX6_room_1 : decode cX6_room 1 = .ok (.tableswitch 45 0 2 #[27, 33, 39], 27) := by decide +kernel
theorem dX6_room_28 : decode cX6_room 28 = .ok (.aload_n 0, 1) := by decide +kernel
theorem dX6_room_29 : decode cX6_room 29 = .ok (.iload_n 2, 1) := by decide +kernel
theorem dX6_room_30 : decode cX6_room 30 = .ok (.invokevirtual 90, 3) := by decide +kernel
theorem dX6_room_33 : decode cX6_room 33 = .ok (.ireturn, 1) := by decide +kernel
theorem dX6_room_34 : decode cX6_room 34 = .ok (.aload_n 0, 1) := by decide +kernel
theorem dX6_room_35 : decode cX6_room 35 = .ok (.iload_n 2, 1) := by decide +kernel
theorem dX6_room_36 : decode cX6_room 36 = .ok (.invokevirtual 93, 3) := by decide +kernel
theorem dX6_room_39 : decode cX6_room 39 = .ok (.ireturn, 1) := by decide +kernel
theorem dX6_room_40 : decode cX6_room 40 = .ok (.aload_n 0, 1) := by decide +kernel
theorem dX6_room_41 : decode cX6_room 41 = .ok (.iload_n 2, 1) := by decide +kernel
theorem dX6_room_42 : decode cX6_room 42 = .ok (.invokevirtual 96, 3) := by decide +kernel
theorem dX6_room_45 : decode cX6_room 45 = .ok (.ireturn, 1) := by decide +kernel
theorem dX6_room_46 : decode cX6_room 46 = .ok (.aload_n 0, 1) := by decide +kernel
theorem dX6_room_47 : decode cX6_room 47 = .ok (.iconst 0, 1) := by decide +kernel
theorem dX6_room_48 : decode cX6_room 48 = .ok (.invokevirtual 57, 3) := by decide +kernel
theorem dX6_room_51 : decode cX6_room 51 = .ok (.ireturn, 1) := by decide +kernel
theorem dX6_empty_0 : decode cX6_empty 0 = .ok (.aload_n 0, 1) := by decide +kernel
theorem dX6_empty_1 : decode cX6_empty 1 = .ok (.getfield 10, 3) := by decide +kernel
theorem dX6_empty_4 : decode cX6_empty 4 = .ok (.getfield 99, 3) := by decide +kernel
theorem dX6_empty_7 : decode cX6_empty 7 = .ok (.istore_n 1, 1) := by decide +kernel
theorem dX6_empty_8 : decode cX6_empty 8 = .ok (.aload_n 0, 1) := by decide +kernel
theorem dX6_empty_9 : decode cX6_empty 9 = .ok (.getfield 10, 3) := by decide +kernel
theorem dX6_empty_12 : decode cX6_empty 12 = .ok (.iconst 0, 1) := by decide +kernel
theorem dX6_empty_13 : decode cX6_empty 13 = .ok (.putfield 99, 3) := by decide +kernel
theorem dX6_empty_16 : decode cX6_empty 16 = .ok (.iload_n 1, 1) := by decide +kernel
theorem dX6_empty_17 : decode cX6_empty 17 = .ok (.ireturn, 1) := by decide +kernel
theorem dX6_taken_0 : decode cX6_taken 0 = .ok (.iload_n 1, 1) := by decide +kernel
theorem dX6_taken_1 : decode cX6_taken 1 = .ok (.iconst 1, 1) := by decide +kernel
theorem dX6_taken_2 : decode cX6_taken 2 = .ok (.sipush 999, 3) := by decide +kernel
theorem dX6_taken_5 : decode cX6_taken 5 = .ok (.invokestatic 53, 3) := by decide +kernel
theorem dX6_taken_8 : decode cX6_taken 8 = .ok (.ifCond .ne 9, 3) := by decide +kernel
theorem dX6_taken_11 : decode cX6_taken 11 = .ok (.aload_n 0, 1) := by decide +kernel
theorem dX6_taken_12 : decode cX6_taken 12 = .ok (.iconst 0, 1) := by decide +kernel
theorem dX6_taken_13 : decode cX6_taken 13 = .ok (.invokevirtual 57, 3) := by decide +kernel
theorem dX6_taken_16 : decode cX6_taken 16 = .ok (.ireturn, 1) := by decide +kernel
theorem dX6_taken_17 : decode cX6_taken 17 = .ok (.iload_n 1, 1) := by decide +kernel
theorem dX6_taken_18 : decode cX6_taken 18 = .ok (.aload_n 0, 1) := by decide +kernel
theorem dX6_taken_19 : decode cX6_taken 19 = .ok (.getfield 10, 3) := by decide +kernel
theorem dX6_taken_22 : decode cX6_taken 22 = .ok (.getfield 99, 3) := by decide +kernel
theorem dX6_taken_25 : decode cX6_taken 25 = .ok (.invokestatic 102, 3) := by decide +kernel
theorem dX6_taken_28 : decode cX6_taken 28 = .ok (.istore_n 2, 1) := by decide +kernel
theorem dX6_taken_29 : decode cX6_taken 29 = .ok (.aload_n 0, 1) := by decide +kernel
theorem dX6_taken_30 : decode cX6_taken 30 = .ok (.getfield 10, 3) := by decide +kernel
theorem dX6_taken_33 : decode cX6_taken 33 = .ok (.dup, 1) := by decide +kernel
theorem dX6_taken_34 : decode cX6_taken 34 = .ok (.getfield 99, 3) := by decide +kernel
theorem dX6_taken_37 : decode cX6_taken 37 = .ok (.iload_n 2, 1) := by decide +kernel
theorem dX6_taken_38 : decode cX6_taken 38 = .ok (.isub, 1) := by decide +kernel
theorem dX6_taken_39 : decode cX6_taken 39 = .ok (.putfield 99, 3) := by decide +kernel
theorem dX6_taken_42 : decode cX6_taken 42 = .ok (.iload_n 2, 1) := by decide +kernel
theorem dX6_taken_43 : decode cX6_taken 43 = .ok (.ireturn, 1) := by decide +kernel
theorem dX6_forgive_0 : decode cX6_forgive 0 = .ok (.aload_n 0, 1) := by decide +kernel
theorem dX6_forgive_1 : decode cX6_forgive 1 = .ok (.iload_n 1, 1) := by decide +kernel
theorem dX6_forgive_2 : decode cX6_forgive 2 = .ok (.invokevirtual 69, 3) := by decide +kernel
theorem dX6_forgive_5 : decode cX6_forgive 5 = .ok (.ifCond .ne 9, 3) := by decide +kernel
theorem dX6_forgive_8 : decode cX6_forgive 8 = .ok (.aload_n 0, 1) := by decide +kernel
theorem dX6_forgive_9 : decode cX6_forgive 9 = .ok (.iconst 0, 1) := by decide +kernel
theorem dX6_forgive_10 : decode cX6_forgive 10 = .ok (.invokevirtual 57, 3) := by decide +kernel
theorem dX6_forgive_13 : decode cX6_forgive 13 = .ok (.ireturn, 1) := by decide +kernel
theorem dX6_forgive_14 : decode cX6_forgive 14 = .ok (.aload_n 0, 1) := by decide +kernel
theorem dX6_forgive_15 : decode cX6_forgive 15 = .ok (.getfield 10, 3) := by decide +kernel
theorem dX6_forgive_18 : decode cX6_forgive 18 = .ok (.getfield 73, 3) := by decide +kernel
theorem dX6_forgive_21 : decode cX6_forgive 21 = .ok (.iload_n 1, 1) := by decide +kernel
theorem dX6_forgive_22 : decode cX6_forgive 22 = .ok (.aaload, 1) := by decide +kernel
theorem dX6_forgive_23 : decode cX6_forgive 23 = .ok (.getfield 108, 3) := by decide +kernel
theorem dX6_forgive_26 : decode cX6_forgive 26 = .ok (.istore_n 2, 1) := by decide +kernel
theorem dX6_forgive_27 : decode cX6_forgive 27 = .ok (.aload_n 0, 1) := by decide +kernel
theorem dX6_forgive_28 : decode cX6_forgive 28 = .ok (.getfield 10, 3) := by decide +kernel
theorem dX6_forgive_31 : decode cX6_forgive 31 = .ok (.getfield 73, 3) := by decide +kernel
theorem dX6_forgive_34 : decode cX6_forgive 34 = .ok (.iload_n 1, 1) := by decide +kernel
theorem dX6_forgive_35 : decode cX6_forgive 35 = .ok (.aaload, 1) := by decide +kernel
theorem dX6_forgive_36 : decode cX6_forgive 36 = .ok (.iconst 0, 1) := by decide +kernel
theorem dX6_forgive_37 : decode cX6_forgive 37 = .ok (.putfield 108, 3) := by decide +kernel
theorem dX6_forgive_40 : decode cX6_forgive 40 = .ok (.iload_n 2, 1) := by decide +kernel
theorem dX6_forgive_41 : decode cX6_forgive 41 = .ok (.ireturn, 1) := by decide +kernel
theorem dX6_now_0 : decode cX6_now 0 = .ok (.iload_n 1, 1) := by decide +kernel
theorem dX6_now_1 : decode cX6_now 1 = .ok (.tableswitch 140 0 9 #[55, 63, 71, 79, 87, 95, 103, 112, 121, 130], 55) := by decide +kernel
theorem dX6_now_56 : decode cX6_now 56 = .ok (.aload_n 0, 1) := by decide +kernel
theorem dX6_now_57 : decode cX6_now 57 = .ok (.getfield 10, 3) := by decide +kernel
theorem dX6_now_60 : decode cX6_now 60 = .ok (.getfield 111, 3) := by decide +kernel
theorem dX6_now_63 : decode cX6_now 63 = .ok (.ireturn, 1) := by decide +kernel
theorem dX6_now_64 : decode cX6_now 64 = .ok (.aload_n 0, 1) := by decide +kernel
theorem dX6_now_65 : decode cX6_now 65 = .ok (.getfield 10, 3) := by decide +kernel
theorem dX6_now_68 : decode cX6_now 68 = .ok (.getfield 99, 3) := by decide +kernel
theorem dX6_now_71 : decode cX6_now 71 = .ok (.ireturn, 1) := by decide +kernel
theorem dX6_now_72 : decode cX6_now 72 = .ok (.aload_n 0, 1) := by decide +kernel
theorem dX6_now_73 : decode cX6_now 73 = .ok (.getfield 10, 3) := by decide +kernel
theorem dX6_now_76 : decode cX6_now 76 = .ok (.getfield 114, 3) := by decide +kernel
theorem dX6_now_79 : decode cX6_now 79 = .ok (.ireturn, 1) := by decide +kernel
theorem dX6_now_80 : decode cX6_now 80 = .ok (.aload_n 0, 1) := by decide +kernel
theorem dX6_now_81 : decode cX6_now 81 = .ok (.getfield 10, 3) := by decide +kernel
theorem dX6_now_84 : decode cX6_now 84 = .ok (.getfield 117, 3) := by decide +kernel
theorem dX6_now_87 : decode cX6_now 87 = .ok (.ireturn, 1) := by decide +kernel
theorem dX6_now_88 : decode cX6_now 88 = .ok (.aload_n 0, 1) := by decide +kernel
theorem dX6_now_89 : decode cX6_now 89 = .ok (.getfield 10, 3) := by decide +kernel
theorem dX6_now_92 : decode cX6_now 92 = .ok (.invokevirtual 120, 3) := by decide +kernel
theorem dX6_now_95 : decode cX6_now 95 = .ok (.ireturn, 1) := by decide +kernel
theorem dX6_now_96 : decode cX6_now 96 = .ok (.aload_n 0, 1) := by decide +kernel
theorem dX6_now_97 : decode cX6_now 97 = .ok (.getfield 10, 3) := by decide +kernel
theorem dX6_now_100 : decode cX6_now 100 = .ok (.getfield 124, 3) := by decide +kernel
theorem dX6_now_103 : decode cX6_now 103 = .ok (.ireturn, 1) := by decide +kernel
theorem dX6_now_104 : decode cX6_now 104 = .ok (.aload_n 0, 1) := by decide +kernel
theorem dX6_now_105 : decode cX6_now 105 = .ok (.getfield 10, 3) := by decide +kernel
theorem dX6_now_108 : decode cX6_now 108 = .ok (.iconst 4, 1) := by decide +kernel
theorem dX6_now_109 : decode cX6_now 109 = .ok (.invokevirtual 127, 3) := by decide +kernel
theorem dX6_now_112 : decode cX6_now 112 = .ok (.ireturn, 1) := by decide +kernel
theorem dX6_now_113 : decode cX6_now 113 = .ok (.aload_n 0, 1) := by decide +kernel
theorem dX6_now_114 : decode cX6_now 114 = .ok (.getfield 10, 3) := by decide +kernel
theorem dX6_now_117 : decode cX6_now 117 = .ok (.iconst 2, 1) := by decide +kernel
theorem dX6_now_118 : decode cX6_now 118 = .ok (.invokevirtual 127, 3) := by decide +kernel
theorem dX6_now_121 : decode cX6_now 121 = .ok (.ireturn, 1) := by decide +kernel
theorem dX6_now_122 : decode cX6_now 122 = .ok (.aload_n 0, 1) := by decide +kernel
theorem dX6_now_123 : decode cX6_now 123 = .ok (.getfield 10, 3) := by decide +kernel
theorem dX6_now_126 : decode cX6_now 126 = .ok (.iconst 5, 1) := by decide +kernel
theorem dX6_now_127 : decode cX6_now 127 = .ok (.invokevirtual 127, 3) := by decide +kernel
theorem dX6_now_130 : decode cX6_now 130 = .ok (.ireturn, 1) := by decide +kernel
theorem dX6_now_131 : decode cX6_now 131 = .ok (.aload_n 0, 1) := by decide +kernel
theorem dX6_now_132 : decode cX6_now 132 = .ok (.getfield 10, 3) := by decide +kernel
theorem dX6_now_135 : decode cX6_now 135 = .ok (.bipush 6, 2) := by decide +kernel
theorem dX6_now_137 : decode cX6_now 137 = .ok (.invokevirtual 127, 3) := by decide +kernel
theorem dX6_now_140 : decode cX6_now 140 = .ok (.ireturn, 1) := by decide +kernel
theorem dX6_now_141 : decode cX6_now 141 = .ok (.aload_n 0, 1) := by decide +kernel
theorem dX6_now_142 : decode cX6_now 142 = .ok (.iconst 0, 1) := by decide +kernel
theorem dX6_now_143 : decode cX6_now 143 = .ok (.invokevirtual 57, 3) := by decide +kernel
theorem dX6_now_146 : decode cX6_now 146 = .ok (.ireturn, 1) := by decide +kernel
theorem dX6_days_0 : decode cX6_days 0 = .ok (.iload_n 1, 1) := by decide +kernel
theorem dX6_days_1 : decode cX6_days 1 = .ok (.iconst 1, 1) := by decide +kernel
theorem dX6_days_2 : decode cX6_days 2 = .ok (.bipush 50, 2) := by decide +kernel
theorem dX6_days_4 : decode cX6_days 4 = .ok (.invokestatic 53, 3) := by decide +kernel
theorem dX6_days_7 : decode cX6_days 7 = .ok (.ifCond .ne 9, 3) := by decide +kernel
theorem dX6_days_10 : decode cX6_days 10 = .ok (.aload_n 0, 1) := by decide +kernel
theorem dX6_days_11 : decode cX6_days 11 = .ok (.iconst 0, 1) := by decide +kernel
theorem dX6_days_12 : decode cX6_days 12 = .ok (.invokevirtual 57, 3) := by decide +kernel
theorem dX6_days_15 : decode cX6_days 15 = .ok (.ireturn, 1) := by decide +kernel
theorem dX6_days_16 : decode cX6_days 16 = .ok (.aload_n 0, 1) := by decide +kernel
theorem dX6_days_17 : decode cX6_days 17 = .ok (.iload_n 1, 1) := by decide +kernel
theorem dX6_days_18 : decode cX6_days 18 = .ok (.invokevirtual 130, 3) := by decide +kernel
theorem dX6_days_21 : decode cX6_days 21 = .ok (.ifCond .eq 9, 3) := by decide +kernel
theorem dX6_days_24 : decode cX6_days 24 = .ok (.aload_n 0, 1) := by decide +kernel
theorem dX6_days_25 : decode cX6_days 25 = .ok (.iconst 4, 1) := by decide +kernel
theorem dX6_days_26 : decode cX6_days 26 = .ok (.invokevirtual 57, 3) := by decide +kernel
theorem dX6_days_29 : decode cX6_days 29 = .ok (.ireturn, 1) := by decide +kernel
theorem dX6_days_30 : decode cX6_days 30 = .ok (.aload_n 0, 1) := by decide +kernel
theorem dX6_days_31 : decode cX6_days 31 = .ok (.getfield 10, 3) := by decide +kernel
theorem dX6_days_34 : decode cX6_days 34 = .ok (.iload_n 1, 1) := by decide +kernel
theorem dX6_days_35 : decode cX6_days 35 = .ok (.invokevirtual 133, 3) := by decide +kernel
theorem dX6_days_38 : decode cX6_days 38 = .ok (.ireturn, 1) := by decide +kernel
theorem dX6_week_0 : decode cX6_week 0 = .ok (.iload_n 1, 1) := by decide +kernel
theorem dX6_week_1 : decode cX6_week 1 = .ok (.ifCond .lt 12, 3) := by decide +kernel
theorem dX6_week_4 : decode cX6_week 4 = .ok (.iload_n 2, 1) := by decide +kernel
theorem dX6_week_5 : decode cX6_week 5 = .ok (.iconst 0, 1) := by decide +kernel
theorem dX6_week_6 : decode cX6_week 6 = .ok (.iconst 1, 1) := by decide +kernel
theorem dX6_week_7 : decode cX6_week 7 = .ok (.invokestatic 53, 3) := by decide +kernel
theorem dX6_week_10 : decode cX6_week 10 = .ok (.ifCond .ne 9, 3) := by decide +kernel
theorem dX6_week_13 : decode cX6_week 13 = .ok (.aload_n 0, 1) := by decide +kernel
theorem dX6_week_14 : decode cX6_week 14 = .ok (.iconst 0, 1) := by decide +kernel
theorem dX6_week_15 : decode cX6_week 15 = .ok (.invokevirtual 57, 3) := by decide +kernel
theorem dX6_week_18 : decode cX6_week 18 = .ok (.ireturn, 1) := by decide +kernel
theorem dX6_week_19 : decode cX6_week 19 = .ok (.iload_n 1, 1) := by decide +kernel
theorem dX6_week_20 : decode cX6_week 20 = .ok (.aload_n 0, 1) := by decide +kernel
theorem dX6_week_21 : decode cX6_week 21 = .ok (.getfield 10, 3) := by decide +kernel
theorem dX6_week_24 : decode cX6_week 24 = .ok (.getfield 136, 3) := by decide +kernel
theorem dX6_week_27 : decode cX6_week 27 = .ok (.getfield 140, 3) := by decide +kernel
theorem dX6_week_30 : decode cX6_week 30 = .ok (.if_icmp .lt 9, 3) := by decide +kernel
theorem dX6_week_33 : decode cX6_week 33 = .ok (.aload_n 0, 1) := by decide +kernel
theorem dX6_week_34 : decode cX6_week 34 = .ok (.iconst 3, 1) := by decide +kernel
theorem dX6_week_35 : decode cX6_week 35 = .ok (.invokevirtual 57, 3) := by decide +kernel
theorem dX6_week_38 : decode cX6_week 38 = .ok (.ireturn, 1) := by decide +kernel
theorem dX6_week_39 : decode cX6_week 39 = .ok (.iload_n 2, 1) := by decide +kernel
theorem dX6_week_40 : decode cX6_week 40 = .ok (.ifCond .ne 18, 3) := by decide +kernel
theorem dX6_week_43 : decode cX6_week 43 = .ok (.aload_n 0, 1) := by decide +kernel
theorem dX6_week_44 : decode cX6_week 44 = .ok (.getfield 10, 3) := by decide +kernel
theorem dX6_week_47 : decode cX6_week 47 = .ok (.getfield 136, 3) := by decide +kernel
theorem dX6_week_50 : decode cX6_week 50 = .ok (.getfield 143, 3) := by decide +kernel
theorem dX6_week_53 : decode cX6_week 53 = .ok (.iload_n 1, 1) := by decide +kernel
theorem dX6_week_54 : decode cX6_week 54 = .ok (.iaload, 1) := by decide +kernel
theorem dX6_week_55 : decode cX6_week 55 = .ok (.goto 15, 3) := by decide +kernel
theorem dX6_week_58 : decode cX6_week 58 = .ok (.aload_n 0, 1) := by decide +kernel
theorem dX6_week_59 : decode cX6_week 59 = .ok (.getfield 10, 3) := by decide +kernel
theorem dX6_week_62 : decode cX6_week 62 = .ok (.getfield 136, 3) := by decide +kernel
theorem dX6_week_65 : decode cX6_week 65 = .ok (.getfield 146, 3) := by decide +kernel
theorem dX6_week_68 : decode cX6_week 68 = .ok (.iload_n 1, 1) := by decide +kernel
theorem dX6_week_69 : decode cX6_week 69 = .ok (.iaload, 1) := by decide +kernel
theorem dX6_week_70 : decode cX6_week 70 = .ok (.ireturn, 1) := by decide +kernel
theorem dX6_each_0 : decode cX6_each 0 = .ok (.iload_n 1, 1) := by decide +kernel
theorem dX6_each_1 : decode cX6_each 1 = .ok (.iconst 0, 1) := by decide +kernel
theorem dX6_each_2 : decode cX6_each 2 = .ok (.iconst 1, 1) := by decide +kernel
theorem dX6_each_3 : decode cX6_each 3 = .ok (.invokestatic 53, 3) := by decide +kernel
theorem dX6_each_6 : decode cX6_each 6 = .ok (.ifCond .ne 9, 3) := by decide +kernel
theorem dX6_each_9 : decode cX6_each 9 = .ok (.aload_n 0, 1) := by decide +kernel
theorem dX6_each_10 : decode cX6_each 10 = .ok (.iconst 0, 1) := by decide +kernel
theorem dX6_each_11 : decode cX6_each 11 = .ok (.invokevirtual 57, 3) := by decide +kernel
theorem dX6_each_14 : decode cX6_each 14 = .ok (.ireturn, 1) := by decide +kernel
theorem dX6_each_15 : decode cX6_each 15 = .ok (.aload_n 0, 1) := by decide +kernel
theorem dX6_each_16 : decode cX6_each 16 = .ok (.getfield 10, 3) := by decide +kernel
theorem dX6_each_19 : decode cX6_each 19 = .ok (.getfield 136, 3) := by decide +kernel
theorem dX6_each_22 : decode cX6_each 22 = .ok (.invokevirtual 149, 3) := by decide +kernel
theorem dX6_each_25 : decode cX6_each 25 = .ok (.istore_n 2, 1) := by decide +kernel
theorem dX6_each_26 : decode cX6_each 26 = .ok (.iload_n 2, 1) := by decide +kernel
theorem dX6_each_27 : decode cX6_each 27 = .ok (.ifCond .ne 9, 3) := by decide +kernel
theorem dX6_each_30 : decode cX6_each 30 = .ok (.aload_n 0, 1) := by decide +kernel
theorem dX6_each_31 : decode cX6_each 31 = .ok (.iconst 3, 1) := by decide +kernel
theorem dX6_each_32 : decode cX6_each 32 = .ok (.invokevirtual 57, 3) := by decide +kernel
theorem dX6_each_35 : decode cX6_each 35 = .ok (.ireturn, 1) := by decide +kernel
theorem dX6_each_36 : decode cX6_each 36 = .ok (.aload_n 0, 1) := by decide +kernel
theorem dX6_each_37 : decode cX6_each 37 = .ok (.getfield 10, 3) := by decide +kernel
theorem dX6_each_40 : decode cX6_each 40 = .ok (.getfield 136, 3) := by decide +kernel
theorem dX6_each_43 : decode cX6_each 43 = .ok (.invokevirtual 152, 3) := by decide +kernel
theorem dX6_each_46 : decode cX6_each 46 = .ok (.istore_n 3, 1) := by decide +kernel
theorem dX6_each_47 : decode cX6_each 47 = .ok (.iload_n 3, 1) := by decide +kernel
theorem dX6_each_48 : decode cX6_each 48 = .ok (.iload_n 2, 1) := by decide +kernel
theorem dX6_each_49 : decode cX6_each 49 = .ok (.invokestatic 155, 3) := by decide +kernel
theorem dX6_each_52 : decode cX6_each 52 = .ok (.istore 4, 2) := by decide +kernel
theorem dX6_each_54 : decode cX6_each 54 = .ok (.iload_n 1, 1) := by decide +kernel
theorem dX6_each_55 : decode cX6_each 55 = .ok (.ifCond .ne 7, 3) := by decide +kernel
theorem dX6_each_58 : decode cX6_each 58 = .ok (.iload_n 3, 1) := by decide +kernel
theorem dX6_each_59 : decode cX6_each 59 = .ok (.goto 4, 3) := by decide +kernel
theorem dX6_each_62 : decode cX6_each 62 = .ok (.iload_n 2, 1) := by decide +kernel
theorem dX6_each_63 : decode cX6_each 63 = .ok (.iload 4, 2) := by decide +kernel
theorem dX6_each_65 : decode cX6_each 65 = .ok (.idiv, 1) := by decide +kernel
theorem dX6_each_66 : decode cX6_each 66 = .ok (.ireturn, 1) := by decide +kernel
theorem dX6_many_0 : decode cX6_many 0 = .ok (.iload_n 1, 1) := by decide +kernel
theorem dX6_many_1 : decode cX6_many 1 = .ok (.iconst 0, 1) := by decide +kernel
theorem dX6_many_2 : decode cX6_many 2 = .ok (.sipush 9999, 3) := by decide +kernel
theorem dX6_many_5 : decode cX6_many 5 = .ok (.invokestatic 53, 3) := by decide +kernel
theorem dX6_many_8 : decode cX6_many 8 = .ok (.ifCond .ne 9, 3) := by decide +kernel
theorem dX6_many_11 : decode cX6_many 11 = .ok (.aload_n 0, 1) := by decide +kernel
theorem dX6_many_12 : decode cX6_many 12 = .ok (.iconst 0, 1) := by decide +kernel
theorem dX6_many_13 : decode cX6_many 13 = .ok (.invokevirtual 57, 3) := by decide +kernel
theorem dX6_many_16 : decode cX6_many 16 = .ok (.ireturn, 1) := by decide +kernel
theorem dX6_many_17 : decode cX6_many 17 = .ok (.iconst 0, 1) := by decide +kernel
theorem dX6_many_18 : decode cX6_many 18 = .ok (.istore_n 2, 1) := by decide +kernel
theorem dX6_many_19 : decode cX6_many 19 = .ok (.iconst 1, 1) := by decide +kernel
theorem dX6_many_20 : decode cX6_many 20 = .ok (.istore_n 3, 1) := by decide +kernel
theorem dX6_many_21 : decode cX6_many 21 = .ok (.iload_n 3, 1) := by decide +kernel
theorem dX6_many_22 : decode cX6_many 22 = .ok (.iconst 1, 1) := by decide +kernel
theorem dX6_many_23 : decode cX6_many 23 = .ok (.aload_n 0, 1) := by decide +kernel
theorem dX6_many_24 : decode cX6_many 24 = .ok (.getfield 10, 3) := by decide +kernel
theorem dX6_many_27 : decode cX6_many 27 = .ok (.getfield 61, 3) := by decide +kernel
theorem dX6_many_30 : decode cX6_many 30 = .ok (.ishl, 1) := by decide +kernel
theorem dX6_many_31 : decode cX6_many 31 = .ok (.if_icmp .ge 24, 3) := by decide +kernel
theorem dX6_many_34 : decode cX6_many 34 = .ok (.aload_n 0, 1) := by decide +kernel
theorem dX6_many_35 : decode cX6_many 35 = .ok (.getfield 10, 3) := by decide +kernel
theorem dX6_many_38 : decode cX6_many 38 = .ok (.iload_n 3, 1) := by decide +kernel
theorem dX6_many_39 : decode cX6_many 39 = .ok (.invokevirtual 158, 3) := by decide +kernel
theorem dX6_many_42 : decode cX6_many 42 = .ok (.iload_n 1, 1) := by decide +kernel
theorem dX6_many_43 : decode cX6_many 43 = .ok (.if_icmp .ne 6, 3) := by decide +kernel
theorem dX6_many_46 : decode cX6_many 46 = .ok (.iinc 2 1, 3) := by decide +kernel
theorem dX6_many_49 : decode cX6_many 49 = .ok (.iinc 3 1, 3) := by decide +kernel
theorem dX6_many_52 : decode cX6_many 52 = .ok (.goto (-31), 3) := by decide +kernel
theorem dX6_many_55 : decode cX6_many 55 = .ok (.iload_n 2, 1) := by decide +kernel
theorem dX6_many_56 : decode cX6_many 56 = .ok (.ireturn, 1) := by decide +kernel
theorem dX6_who_0 : decode cX6_who 0 = .ok (.iload_n 1, 1) := by decide +kernel
theorem dX6_who_1 : decode cX6_who 1 = .ok (.iconst 0, 1) := by decide +kernel
theorem dX6_who_2 : decode cX6_who 2 = .ok (.sipush 9999, 3) := by decide +kernel
theorem dX6_who_5 : decode cX6_who 5 = .ok (.invokestatic 53, 3) := by decide +kernel
theorem dX6_who_8 : decode cX6_who 8 = .ok (.ifCond .eq 12, 3) := by decide +kernel
theorem dX6_who_11 : decode cX6_who 11 = .ok (.iload_n 2, 1) := by decide +kernel
theorem dX6_who_12 : decode cX6_who 12 = .ok (.iconst 0, 1) := by decide +kernel
theorem dX6_who_13 : decode cX6_who 13 = .ok (.iconst 1, 1) := by decide +kernel
theorem dX6_who_14 : decode cX6_who 14 = .ok (.invokestatic 53, 3) := by decide +kernel
theorem dX6_who_17 : decode cX6_who 17 = .ok (.ifCond .ne 9, 3) := by decide +kernel
theorem dX6_who_20 : decode cX6_who 20 = .ok (.aload_n 0, 1) := by decide +kernel
theorem dX6_who_21 : decode cX6_who 21 = .ok (.iconst 0, 1) := by decide +kernel
theorem dX6_who_22 : decode cX6_who 22 = .ok (.invokevirtual 57, 3) := by decide +kernel
theorem dX6_who_25 : decode cX6_who 25 = .ok (.ireturn, 1) := by decide +kernel
theorem dX6_who_26 : decode cX6_who 26 = .ok (.iconst (-1), 1) := by decide +kernel
theorem dX6_who_27 : decode cX6_who 27 = .ok (.istore_n 3, 1) := by decide +kernel
theorem dX6_who_28 : decode cX6_who 28 = .ok (.iconst 0, 1) := by decide +kernel
theorem dX6_who_29 : decode cX6_who 29 = .ok (.istore 4, 2) := by decide +kernel
theorem dX6_who_31 : decode cX6_who 31 = .ok (.iconst 1, 1) := by decide +kernel
theorem dX6_who_32 : decode cX6_who 32 = .ok (.istore 5, 2) := by decide +kernel
theorem dX6_who_34 : decode cX6_who 34 = .ok (.iload 5, 2) := by decide +kernel
theorem dX6_who_36 : decode cX6_who 36 = .ok (.iconst 1, 1) := by decide +kernel
theorem dX6_who_37 : decode cX6_who 37 = .ok (.aload_n 0, 1) := by decide +kernel
theorem dX6_who_38 : decode cX6_who 38 = .ok (.getfield 10, 3) := by decide +kernel
theorem dX6_who_41 : decode cX6_who 41 = .ok (.getfield 61, 3) := by decide +kernel
theorem dX6_who_44 : decode cX6_who 44 = .ok (.ishl, 1) := by decide +kernel
theorem dX6_who_45 : decode cX6_who 45 = .ok (.if_icmp .ge 34, 3) := by decide +kernel
theorem dX6_who_48 : decode cX6_who 48 = .ok (.aload_n 0, 1) := by decide +kernel
theorem dX6_who_49 : decode cX6_who 49 = .ok (.getfield 10, 3) := by decide +kernel
theorem dX6_who_52 : decode cX6_who 52 = .ok (.iload 5, 2) := by decide +kernel
theorem dX6_who_54 : decode cX6_who 54 = .ok (.invokevirtual 158, 3) := by decide +kernel
theorem dX6_who_57 : decode cX6_who 57 = .ok (.iload_n 1, 1) := by decide +kernel
theorem dX6_who_58 : decode cX6_who 58 = .ok (.if_icmp .ne 15, 3) := by decide +kernel
theorem dX6_who_61 : decode cX6_who 61 = .ok (.iload_n 3, 1) := by decide +kernel
theorem dX6_who_62 : decode cX6_who 62 = .ok (.iload 5, 2) := by decide +kernel
theorem dX6_who_64 : decode cX6_who 64 = .ok (.iand, 1) := by decide +kernel
theorem dX6_who_65 : decode cX6_who 65 = .ok (.istore_n 3, 1) := by decide +kernel
theorem dX6_who_66 : decode cX6_who 66 = .ok (.iload 4, 2) := by decide +kernel
theorem dX6_who_68 : decode cX6_who 68 = .ok (.iload 5, 2) := by decide +kernel
theorem dX6_who_70 : decode cX6_who 70 = .ok (.ior, 1) := by decide +kernel
theorem dX6_who_71 : decode cX6_who 71 = .ok (.istore 4, 2) := by decide +kernel
theorem dX6_who_73 : decode cX6_who 73 = .ok (.iinc 5 1, 3) := by decide +kernel
theorem dX6_who_76 : decode cX6_who 76 = .ok (.goto (-42), 3) := by decide +kernel
theorem dX6_who_79 : decode cX6_who 79 = .ok (.iload 4, 2) := by decide +kernel
theorem dX6_who_81 : decode cX6_who 81 = .ok (.ifCond .ne 9, 3) := by decide +kernel
theorem dX6_who_84 : decode cX6_who 84 = .ok (.aload_n 0, 1) := by decide +kernel
theorem dX6_who_85 : decode cX6_who 85 = .ok (.iconst 3, 1) := by decide +kernel
theorem dX6_who_86 : decode cX6_who 86 = .ok (.invokevirtual 57, 3) := by decide +kernel
theorem dX6_who_89 : decode cX6_who 89 = .ok (.ireturn, 1) := by decide +kernel
theorem dX6_who_90 : decode cX6_who 90 = .ok (.iload_n 2, 1) := by decide +kernel
theorem dX6_who_91 : decode cX6_who 91 = .ok (.ifCond .ne 7, 3) := by decide +kernel
theorem dX6_who_94 : decode cX6_who 94 = .ok (.iload_n 3, 1) := by decide +kernel
theorem dX6_who_95 : decode cX6_who 95 = .ok (.goto 5, 3) := by decide +kernel
theorem dX6_who_98 : decode cX6_who 98 = .ok (.iload 4, 2) := by decide +kernel
theorem dX6_who_100 : decode cX6_who 100 = .ok (.ireturn, 1) := by decide +kernel
theorem dX6_fewest_0 : decode cX6_fewest 0 = .ok (.iload_n 1, 1) := by decide +kernel
theorem dX6_fewest_1 : decode cX6_fewest 1 = .ok (.iconst 0, 1) := by decide +kernel
theorem dX6_fewest_2 : decode cX6_fewest 2 = .ok (.sipush 9999, 3) := by decide +kernel
theorem dX6_fewest_5 : decode cX6_fewest 5 = .ok (.invokestatic 53, 3) := by decide +kernel
theorem dX6_fewest_8 : decode cX6_fewest 8 = .ok (.ifCond .ne 9, 3) := by decide +kernel
theorem dX6_fewest_11 : decode cX6_fewest 11 = .ok (.aload_n 0, 1) := by decide +kernel
theorem dX6_fewest_12 : decode cX6_fewest 12 = .ok (.iconst 0, 1) := by decide +kernel
theorem dX6_fewest_13 : decode cX6_fewest 13 = .ok (.invokevirtual 57, 3) := by decide +kernel
theorem dX6_fewest_16 : decode cX6_fewest 16 = .ok (.ireturn, 1) := by decide +kernel
theorem dX6_fewest_17 : decode cX6_fewest 17 = .ok (.iconst 0, 1) := by decide +kernel
theorem dX6_fewest_18 : decode cX6_fewest 18 = .ok (.istore_n 2, 1) := by decide +kernel
theorem dX6_fewest_19 : decode cX6_fewest 19 = .ok (.iconst 1, 1) := by decide +kernel
theorem dX6_fewest_20 : decode cX6_fewest 20 = .ok (.istore_n 3, 1) := by decide +kernel
theorem dX6_fewest_21 : decode cX6_fewest 21 = .ok (.iload_n 3, 1) := by decide +kernel
theorem dX6_fewest_22 : decode cX6_fewest 22 = .ok (.iconst 1, 1) := by decide +kernel
theorem dX6_fewest_23 : decode cX6_fewest 23 = .ok (.aload_n 0, 1) := by decide +kernel
theorem dX6_fewest_24 : decode cX6_fewest 24 = .ok (.getfield 10, 3) := by decide +kernel
theorem dX6_fewest_27 : decode cX6_fewest 27 = .ok (.getfield 61, 3) := by decide +kernel
theorem dX6_fewest_30 : decode cX6_fewest 30 = .ok (.ishl, 1) := by decide +kernel
theorem dX6_fewest_31 : decode cX6_fewest 31 = .ok (.if_icmp .ge 50, 3) := by decide +kernel
theorem dX6_fewest_34 : decode cX6_fewest 34 = .ok (.iload_n 2, 1) := by decide +kernel
theorem dX6_fewest_35 : decode cX6_fewest 35 = .ok (.ifCond .eq 14, 3) := by decide +kernel
theorem dX6_fewest_38 : decode cX6_fewest 38 = .ok (.iload_n 3, 1) := by decide +kernel
theorem dX6_fewest_39 : decode cX6_fewest 39 = .ok (.invokestatic 161, 3) := by decide +kernel
theorem dX6_fewest_42 : decode cX6_fewest 42 = .ok (.iload_n 2, 1) := by decide +kernel
theorem dX6_fewest_43 : decode cX6_fewest 43 = .ok (.invokestatic 161, 3) := by decide +kernel
theorem dX6_fewest_46 : decode cX6_fewest 46 = .ok (.if_icmp .ge 7, 3) := by decide +kernel
theorem dX6_fewest_49 : decode cX6_fewest 49 = .ok (.iconst 1, 1) := by decide +kernel
theorem dX6_fewest_50 : decode cX6_fewest 50 = .ok (.goto 4, 3) := by decide +kernel
theorem dX6_fewest_53 : decode cX6_fewest 53 = .ok (.iconst 0, 1) := by decide +kernel
theorem dX6_fewest_54 : decode cX6_fewest 54 = .ok (.istore 4, 2) := by decide +kernel
theorem dX6_fewest_56 : decode cX6_fewest 56 = .ok (.iload 4, 2) := by decide +kernel
theorem dX6_fewest_58 : decode cX6_fewest 58 = .ok (.ifCond .eq 17, 3) := by decide +kernel
theorem dX6_fewest_61 : decode cX6_fewest 61 = .ok (.aload_n 0, 1) := by decide +kernel
theorem dX6_fewest_62 : decode cX6_fewest 62 = .ok (.getfield 10, 3) := by decide +kernel
theorem dX6_fewest_65 : decode cX6_fewest 65 = .ok (.iload_n 3, 1) := by decide +kernel
theorem dX6_fewest_66 : decode cX6_fewest 66 = .ok (.invokevirtual 158, 3) := by decide +kernel
theorem dX6_fewest_69 : decode cX6_fewest 69 = .ok (.iload_n 1, 1) := by decide +kernel
theorem dX6_fewest_70 : decode cX6_fewest 70 = .ok (.if_icmp .ne 5, 3) := by decide +kernel
theorem dX6_fewest_73 : decode cX6_fewest 73 = .ok (.iload_n 3, 1) := by decide +kernel
theorem dX6_fewest_74 : decode cX6_fewest 74 = .ok (.istore_n 2, 1) := by decide +kernel
theorem dX6_fewest_75 : decode cX6_fewest 75 = .ok (.iinc 3 1, 3) := by decide +kernel
theorem dX6_fewest_78 : decode cX6_fewest 78 = .ok (.goto (-57), 3) := by decide +kernel
theorem dX6_fewest_81 : decode cX6_fewest 81 = .ok (.iload_n 2, 1) := by decide +kernel
theorem dX6_fewest_82 : decode cX6_fewest 82 = .ok (.ifCond .ne 11, 3) := by decide +kernel
theorem dX6_fewest_85 : decode cX6_fewest 85 = .ok (.aload_n 0, 1) := by decide +kernel
theorem dX6_fewest_86 : decode cX6_fewest 86 = .ok (.iconst 3, 1) := by decide +kernel
theorem dX6_fewest_87 : decode cX6_fewest 87 = .ok (.invokevirtual 57, 3) := by decide +kernel
theorem dX6_fewest_90 : decode cX6_fewest 90 = .ok (.goto 4, 3) := by decide +kernel
theorem dX6_fewest_93 : decode cX6_fewest 93 = .ok (.iload_n 2, 1) := by decide +kernel
theorem dX6_fewest_94 : decode cX6_fewest 94 = .ok (.ireturn, 1) := by decide +kernel
theorem dX6_ahead_0 : decode cX6_ahead 0 = .ok (.iload_n 1, 1) := by decide +kernel
theorem dX6_ahead_1 : decode cX6_ahead 1 = .ok (.iconst 0, 1) := by decide +kernel
theorem dX6_ahead_2 : decode cX6_ahead 2 = .ok (.bipush 100, 2) := by decide +kernel
theorem dX6_ahead_4 : decode cX6_ahead 4 = .ok (.invokestatic 53, 3) := by decide +kernel
theorem dX6_ahead_7 : decode cX6_ahead 7 = .ok (.ifCond .eq 12, 3) := by decide +kernel
theorem dX6_ahead_10 : decode cX6_ahead 10 = .ok (.iload_n 2, 1) := by decide +kernel
theorem dX6_ahead_11 : decode cX6_ahead 11 = .ok (.iconst 0, 1) := by decide +kernel
theorem dX6_ahead_12 : decode cX6_ahead 12 = .ok (.iconst 5, 1) := by decide +kernel
theorem dX6_ahead_13 : decode cX6_ahead 13 = .ok (.invokestatic 53, 3) := by decide +kernel
theorem dX6_ahead_16 : decode cX6_ahead 16 = .ok (.ifCond .ne 9, 3) := by decide +kernel
theorem dX6_ahead_19 : decode cX6_ahead 19 = .ok (.aload_n 0, 1) := by decide +kernel
theorem dX6_ahead_20 : decode cX6_ahead 20 = .ok (.iconst 0, 1) := by decide +kernel
theorem dX6_ahead_21 : decode cX6_ahead 21 = .ok (.invokevirtual 57, 3) := by decide +kernel
theorem dX6_ahead_24 : decode cX6_ahead 24 = .ok (.ireturn, 1) := by decide +kernel
theorem dX6_ahead_25 : decode cX6_ahead 25 = .ok (.aload_n 0, 1) := by decide +kernel
theorem dX6_ahead_26 : decode cX6_ahead 26 = .ok (.iload_n 1, 1) := by decide +kernel
theorem dX6_ahead_27 : decode cX6_ahead 27 = .ok (.invokevirtual 130, 3) := by decide +kernel
theorem dX6_ahead_30 : decode cX6_ahead 30 = .ok (.ifCond .eq 9, 3) := by decide +kernel
theorem dX6_ahead_33 : decode cX6_ahead 33 = .ok (.aload_n 0, 1) := by decide +kernel
theorem dX6_ahead_34 : decode cX6_ahead 34 = .ok (.iconst 4, 1) := by decide +kernel
theorem dX6_ahead_35 : decode cX6_ahead 35 = .ok (.invokevirtual 57, 3) := by decide +kernel
theorem dX6_ahead_38 : decode cX6_ahead 38 = .ok (.ireturn, 1) := by decide +kernel
theorem dX6_ahead_39 : decode cX6_ahead 39 = .ok (.aload_n 0, 1) := by decide +kernel
theorem dX6_ahead_40 : decode cX6_ahead 40 = .ok (.getfield 19, 3) := by decide +kernel
theorem dX6_ahead_43 : decode cX6_ahead 43 = .ok (.aload_n 0, 1) := by decide +kernel
theorem dX6_ahead_44 : decode cX6_ahead 44 = .ok (.getfield 10, 3) := by decide +kernel
theorem dX6_ahead_47 : decode cX6_ahead 47 = .ok (.invokevirtual 166, 3) := by decide +kernel
theorem dX6_ahead_50 : decode cX6_ahead 50 = .ok (.aload_n 0, 1) := by decide +kernel
theorem dX6_ahead_51 : decode cX6_ahead 51 = .ok (.getfield 19, 3) := by decide +kernel
theorem dX6_ahead_54 : decode cX6_ahead 54 = .ok (.iload_n 1, 1) := by decide +kernel
theorem dX6_ahead_55 : decode cX6_ahead 55 = .ok (.invokevirtual 133, 3) := by decide +kernel
theorem dX6_ahead_58 : decode cX6_ahead 58 = .ok (.istore_n 3, 1) := by decide +kernel
theorem dX6_ahead_59 : decode cX6_ahead 59 = .ok (.iload_n 2, 1) := by decide +kernel
theorem dX6_ahead_60 : decode cX6_ahead 60 = .ok (.tableswitch 87 0 4 #[36, 44, 60, 69, 85], 36) := by decide +kernel
theorem dX6_ahead_96 : decode cX6_ahead 96 = .ok (.aload_n 0, 1) := by decide +kernel
theorem dX6_ahead_97 : decode cX6_ahead 97 = .ok (.getfield 19, 3) := by decide +kernel
theorem dX6_ahead_100 : decode cX6_ahead 100 = .ok (.getfield 99, 3) := by decide +kernel
theorem dX6_ahead_103 : decode cX6_ahead 103 = .ok (.ireturn, 1) := by decide +kernel
theorem dX6_ahead_104 : decode cX6_ahead 104 = .ok (.aload_n 0, 1) := by decide +kernel
theorem dX6_ahead_105 : decode cX6_ahead 105 = .ok (.getfield 19, 3) := by decide +kernel
theorem dX6_ahead_108 : decode cX6_ahead 108 = .ok (.getfield 170, 3) := by decide +kernel
theorem dX6_ahead_111 : decode cX6_ahead 111 = .ok (.aload_n 0, 1) := by decide +kernel
theorem dX6_ahead_112 : decode cX6_ahead 112 = .ok (.getfield 10, 3) := by decide +kernel
theorem dX6_ahead_115 : decode cX6_ahead 115 = .ok (.getfield 170, 3) := by decide +kernel
theorem dX6_ahead_118 : decode cX6_ahead 118 = .ok (.isub, 1) := by decide +kernel
theorem dX6_ahead_119 : decode cX6_ahead 119 = .ok (.ireturn, 1) := by decide +kernel
theorem dX6_ahead_120 : decode cX6_ahead 120 = .ok (.aload_n 0, 1) := by decide +kernel
theorem dX6_ahead_121 : decode cX6_ahead 121 = .ok (.getfield 19, 3) := by decide +kernel
theorem dX6_ahead_124 : decode cX6_ahead 124 = .ok (.iconst 4, 1) := by decide +kernel
theorem dX6_ahead_125 : decode cX6_ahead 125 = .ok (.invokevirtual 127, 3) := by decide +kernel
theorem dX6_ahead_128 : decode cX6_ahead 128 = .ok (.ireturn, 1) := by decide +kernel
theorem dX6_ahead_129 : decode cX6_ahead 129 = .ok (.aload_n 0, 1) := by decide +kernel
theorem dX6_ahead_130 : decode cX6_ahead 130 = .ok (.getfield 19, 3) := by decide +kernel
theorem dX6_ahead_133 : decode cX6_ahead 133 = .ok (.getfield 124, 3) := by decide +kernel
theorem dX6_ahead_136 : decode cX6_ahead 136 = .ok (.aload_n 0, 1) := by decide +kernel
theorem dX6_ahead_137 : decode cX6_ahead 137 = .ok (.getfield 10, 3) := by decide +kernel
theorem dX6_ahead_140 : decode cX6_ahead 140 = .ok (.getfield 124, 3) := by decide +kernel
theorem dX6_ahead_143 : decode cX6_ahead 143 = .ok (.isub, 1) := by decide +kernel
theorem dX6_ahead_144 : decode cX6_ahead 144 = .ok (.ireturn, 1) := by decide +kernel
theorem dX6_ahead_145 : decode cX6_ahead 145 = .ok (.iload_n 3, 1) := by decide +kernel
theorem dX6_ahead_146 : decode cX6_ahead 146 = .ok (.ireturn, 1) := by decide +kernel
theorem dX6_ahead_147 : decode cX6_ahead 147 = .ok (.aload_n 0, 1) := by decide +kernel
theorem dX6_ahead_148 : decode cX6_ahead 148 = .ok (.getfield 19, 3) := by decide +kernel
theorem dX6_ahead_151 : decode cX6_ahead 151 = .ok (.getfield 117, 3) := by decide +kernel
theorem dX6_ahead_154 : decode cX6_ahead 154 = .ok (.ireturn, 1) := by decide +kernel
theorem dX6_rests_0 : decode cX6_rests 0 = .ok (.aload_n 0, 1) := by decide +kernel
theorem dX6_rests_1 : decode cX6_rests 1 = .ok (.getfield 10, 3) := by decide +kernel
theorem dX6_rests_4 : decode cX6_rests 4 = .ok (.getfield 111, 3) := by decide +kernel
theorem dX6_rests_7 : decode cX6_rests 7 = .ok (.sipush 9990, 3) := by decide +kernel
theorem dX6_rests_10 : decode cX6_rests 10 = .ok (.if_icmp .le 9, 3) := by decide +kernel
theorem dX6_rests_13 : decode cX6_rests 13 = .ok (.aload_n 0, 1) := by decide +kernel
theorem dX6_rests_14 : decode cX6_rests 14 = .ok (.iconst 4, 1) := by decide +kernel
theorem dX6_rests_15 : decode cX6_rests 15 = .ok (.invokevirtual 57, 3) := by decide +kernel
theorem dX6_rests_18 : decode cX6_rests 18 = .ok (.ireturn, 1) := by decide +kernel
theorem dX6_rests_19 : decode cX6_rests 19 = .ok (.iconst 0, 1) := by decide +kernel
theorem dX6_rests_20 : decode cX6_rests 20 = .ok (.istore_n 1, 1) := by decide +kernel
theorem dX6_rests_21 : decode cX6_rests 21 = .ok (.iconst 0, 1) := by decide +kernel
theorem dX6_rests_22 : decode cX6_rests 22 = .ok (.istore_n 2, 1) := by decide +kernel
theorem dX6_rests_23 : decode cX6_rests 23 = .ok (.iload_n 2, 1) := by decide +kernel
theorem dX6_rests_24 : decode cX6_rests 24 = .ok (.bipush 10, 2) := by decide +kernel
theorem dX6_rests_26 : decode cX6_rests 26 = .ok (.if_icmp .gt 31, 3) := by decide +kernel
theorem dX6_rests_29 : decode cX6_rests 29 = .ok (.aload_n 0, 1) := by decide +kernel
theorem dX6_rests_30 : decode cX6_rests 30 = .ok (.bipush 10, 2) := by decide +kernel
theorem dX6_rests_32 : decode cX6_rests 32 = .ok (.iload_n 2, 1) := by decide +kernel
theorem dX6_rests_33 : decode cX6_rests 33 = .ok (.imul, 1) := by decide +kernel
theorem dX6_rests_34 : decode cX6_rests 34 = .ok (.iconst 1, 1) := by decide +kernel
theorem dX6_rests_35 : decode cX6_rests 35 = .ok (.invokevirtual 173, 3) := by decide +kernel
theorem dX6_rests_38 : decode cX6_rests 38 = .ok (.bipush 10, 2) := by decide +kernel
theorem dX6_rests_40 : decode cX6_rests 40 = .ok (.iload_n 2, 1) := by decide +kernel
theorem dX6_rests_41 : decode cX6_rests 41 = .ok (.imul, 1) := by decide +kernel
theorem dX6_rests_42 : decode cX6_rests 42 = .ok (.if_icmp .ne 9, 3) := by decide +kernel
theorem dX6_rests_45 : decode cX6_rests 45 = .ok (.iload_n 1, 1) := by decide +kernel
theorem dX6_rests_46 : decode cX6_rests 46 = .ok (.iconst 1, 1) := by decide +kernel
theorem dX6_rests_47 : decode cX6_rests 47 = .ok (.iload_n 2, 1) := by decide +kernel
theorem dX6_rests_48 : decode cX6_rests 48 = .ok (.ishl, 1) := by decide +kernel
theorem dX6_rests_49 : decode cX6_rests 49 = .ok (.ior, 1) := by decide +kernel
theorem dX6_rests_50 : decode cX6_rests 50 = .ok (.istore_n 1, 1) := by decide +kernel
theorem dX6_rests_51 : decode cX6_rests 51 = .ok (.iinc 2 1, 3) := by decide +kernel
theorem dX6_rests_54 : decode cX6_rests 54 = .ok (.goto (-31), 3) := by decide +kernel
theorem dX6_rests_57 : decode cX6_rests 57 = .ok (.iload_n 1, 1) := by decide +kernel
theorem dX6_rests_58 : decode cX6_rests 58 = .ok (.ireturn, 1) := by decide +kernel
theorem dX6_tips_0 : decode cX6_tips 0 = .ok (.iload_n 1, 1) := by decide +kernel
theorem dX6_tips_1 : decode cX6_tips 1 = .ok (.iconst 0, 1) := by decide +kernel
theorem dX6_tips_2 : decode cX6_tips 2 = .ok (.sipush 999, 3) := by decide +kernel
theorem dX6_tips_5 : decode cX6_tips 5 = .ok (.invokestatic 53, 3) := by decide +kernel
theorem dX6_tips_8 : decode cX6_tips 8 = .ok (.ifCond .eq 13, 3) := by decide +kernel
theorem dX6_tips_11 : decode cX6_tips 11 = .ok (.iload_n 2, 1) := by decide +kernel
theorem dX6_tips_12 : decode cX6_tips 12 = .ok (.iconst 1, 1) := by decide +kernel
theorem dX6_tips_13 : decode cX6_tips 13 = .ok (.bipush 10, 2) := by decide +kernel
theorem dX6_tips_15 : decode cX6_tips 15 = .ok (.invokestatic 53, 3) := by decide +kernel
theorem dX6_tips_18 : decode cX6_tips 18 = .ok (.ifCond .ne 9, 3) := by decide +kernel
theorem dX6_tips_21 : decode cX6_tips 21 = .ok (.aload_n 0, 1) := by decide +kernel
theorem dX6_tips_22 : decode cX6_tips 22 = .ok (.iconst 0, 1) := by decide +kernel
theorem dX6_tips_23 : decode cX6_tips 23 = .ok (.invokevirtual 57, 3) := by decide +kernel
theorem dX6_tips_26 : decode cX6_tips 26 = .ok (.ireturn, 1) := by decide +kernel
theorem dX6_tips_27 : decode cX6_tips 27 = .ok (.aload_n 0, 1) := by decide +kernel
theorem dX6_tips_28 : decode cX6_tips 28 = .ok (.getfield 10, 3) := by decide +kernel
theorem dX6_tips_31 : decode cX6_tips 31 = .ok (.getfield 111, 3) := by decide +kernel
theorem dX6_tips_34 : decode cX6_tips 34 = .ok (.sipush 9940, 3) := by decide +kernel
theorem dX6_tips_37 : decode cX6_tips 37 = .ok (.if_icmp .le 9, 3) := by decide +kernel
theorem dX6_tips_40 : decode cX6_tips 40 = .ok (.aload_n 0, 1) := by decide +kernel
theorem dX6_tips_41 : decode cX6_tips 41 = .ok (.iconst 4, 1) := by decide +kernel
theorem dX6_tips_42 : decode cX6_tips 42 = .ok (.invokevirtual 57, 3) := by decide +kernel
theorem dX6_tips_45 : decode cX6_tips 45 = .ok (.ireturn, 1) := by decide +kernel
theorem dX6_tips_46 : decode cX6_tips 46 = .ok (.aload_n 0, 1) := by decide +kernel
theorem dX6_tips_47 : decode cX6_tips 47 = .ok (.iload_n 1, 1) := by decide +kernel
theorem dX6_tips_48 : decode cX6_tips 48 = .ok (.iload_n 2, 1) := by decide +kernel
theorem dX6_tips_49 : decode cX6_tips 49 = .ok (.invokevirtual 173, 3) := by decide +kernel
theorem dX6_tips_52 : decode cX6_tips 52 = .ok (.ireturn, 1) := by decide +kernel
theorem dX6_best_0 : decode cX6_best 0 = .ok (.iload_n 1, 1) := by decide +kernel
theorem dX6_best_1 : decode cX6_best 1 = .ok (.iconst 1, 1) := by decide +kernel
theorem dX6_best_2 : decode cX6_best 2 = .ok (.bipush 20, 2) := by decide +kernel
theorem dX6_best_4 : decode cX6_best 4 = .ok (.invokestatic 53, 3) := by decide +kernel
theorem dX6_best_7 : decode cX6_best 7 = .ok (.ifCond .ne 9, 3) := by decide +kernel
theorem dX6_best_10 : decode cX6_best 10 = .ok (.aload_n 0, 1) := by decide +kernel
theorem dX6_best_11 : decode cX6_best 11 = .ok (.iconst 0, 1) := by decide +kernel
theorem dX6_best_12 : decode cX6_best 12 = .ok (.invokevirtual 57, 3) := by decide +kernel
theorem dX6_best_15 : decode cX6_best 15 = .ok (.ireturn, 1) := by decide +kernel
theorem dX6_best_16 : decode cX6_best 16 = .ok (.aload_n 0, 1) := by decide +kernel
theorem dX6_best_17 : decode cX6_best 17 = .ok (.iload_n 1, 1) := by decide +kernel
theorem dX6_best_18 : decode cX6_best 18 = .ok (.invokevirtual 130, 3) := by decide +kernel
theorem dX6_best_21 : decode cX6_best 21 = .ok (.ifCond .eq 9, 3) := by decide +kernel
theorem dX6_best_24 : decode cX6_best 24 = .ok (.aload_n 0, 1) := by decide +kernel
theorem dX6_best_25 : decode cX6_best 25 = .ok (.iconst 4, 1) := by decide +kernel
theorem dX6_best_26 : decode cX6_best 26 = .ok (.invokevirtual 57, 3) := by decide +kernel
theorem dX6_best_29 : decode cX6_best 29 = .ok (.ireturn, 1) := by decide +kernel
theorem dX6_best_30 : decode cX6_best 30 = .ok (.iconst 0, 1) := by decide +kernel
theorem dX6_best_31 : decode cX6_best 31 = .ok (.istore_n 2, 1) := by decide +kernel
theorem dX6_best_32 : decode cX6_best 32 = .ok (.iconst (-1), 1) := by decide +kernel
theorem dX6_best_33 : decode cX6_best 33 = .ok (.istore_n 3, 1) := by decide +kernel
theorem dX6_best_34 : decode cX6_best 34 = .ok (.iconst 0, 1) := by decide +kernel
theorem dX6_best_35 : decode cX6_best 35 = .ok (.istore 4, 2) := by decide +kernel
theorem dX6_best_37 : decode cX6_best 37 = .ok (.iload 4, 2) := by decide +kernel
theorem dX6_best_39 : decode cX6_best 39 = .ok (.bipush 99, 2) := by decide +kernel
theorem dX6_best_41 : decode cX6_best 41 = .ok (.if_icmp .gt 51, 3) := by decide +kernel
theorem dX6_best_44 : decode cX6_best 44 = .ok (.aload_n 0, 1) := by decide +kernel
theorem dX6_best_45 : decode cX6_best 45 = .ok (.getfield 19, 3) := by decide +kernel
theorem dX6_best_48 : decode cX6_best 48 = .ok (.aload_n 0, 1) := by decide +kernel
theorem dX6_best_49 : decode cX6_best 49 = .ok (.getfield 10, 3) := by decide +kernel
theorem dX6_best_52 : decode cX6_best 52 = .ok (.invokevirtual 166, 3) := by decide +kernel
theorem dX6_best_55 : decode cX6_best 55 = .ok (.aload_n 0, 1) := by decide +kernel
theorem dX6_best_56 : decode cX6_best 56 = .ok (.getfield 19, 3) := by decide +kernel
theorem dX6_best_59 : decode cX6_best 59 = .ok (.iload 4, 2) := by decide +kernel
theorem dX6_best_61 : decode cX6_best 61 = .ok (.putfield 176, 3) := by decide +kernel
theorem dX6_best_64 : decode cX6_best 64 = .ok (.aload_n 0, 1) := by decide +kernel
theorem dX6_best_65 : decode cX6_best 65 = .ok (.getfield 19, 3) := by decide +kernel
theorem dX6_best_68 : decode cX6_best 68 = .ok (.iload_n 1, 1) := by decide +kernel
theorem dX6_best_69 : decode cX6_best 69 = .ok (.invokevirtual 133, 3) := by decide +kernel
theorem dX6_best_72 : decode cX6_best 72 = .ok (.istore 5, 2) := by decide +kernel
theorem dX6_best_74 : decode cX6_best 74 = .ok (.iload 5, 2) := by decide +kernel
theorem dX6_best_76 : decode cX6_best 76 = .ok (.iload_n 3, 1) := by decide +kernel
theorem dX6_best_77 : decode cX6_best 77 = .ok (.if_icmp .le 9, 3) := by decide +kernel
theorem dX6_best_80 : decode cX6_best 80 = .ok (.iload 5, 2) := by decide +kernel
theorem dX6_best_82 : decode cX6_best 82 = .ok (.istore_n 3, 1) := by decide +kernel
theorem dX6_best_83 : decode cX6_best 83 = .ok (.iload 4, 2) := by decide +kernel
theorem dX6_best_85 : decode cX6_best 85 = .ok (.istore_n 2, 1) := by decide +kernel
theorem dX6_best_86 : decode cX6_best 86 = .ok (.iinc 4 1, 3) := by decide +kernel
theorem dX6_best_89 : decode cX6_best 89 = .ok (.goto (-52), 3) := by decide +kernel
theorem dX6_best_92 : decode cX6_best 92 = .ok (.iload_n 2, 1) := by decide +kernel
theorem dX6_best_93 : decode cX6_best 93 = .ok (.ireturn, 1) := by decide +kernel
theorem dX6_sign_0 : decode cX6_sign 0 = .ok (.iload_n 1, 1) := by decide +kernel
theorem dX6_sign_1 : decode cX6_sign 1 = .ok (.iconst 1, 1) := by decide +kernel
theorem dX6_sign_2 : decode cX6_sign 2 = .ok (.bipush 50, 2) := by decide +kernel
theorem dX6_sign_4 : decode cX6_sign 4 = .ok (.invokestatic 53, 3) := by decide +kernel
theorem dX6_sign_7 : decode cX6_sign 7 = .ok (.ifCond .ne 9, 3) := by decide +kernel
theorem dX6_sign_10 : decode cX6_sign 10 = .ok (.aload_n 0, 1) := by decide +kernel
theorem dX6_sign_11 : decode cX6_sign 11 = .ok (.iconst 0, 1) := by decide +kernel
theorem dX6_sign_12 : decode cX6_sign 12 = .ok (.invokevirtual 57, 3) := by decide +kernel
theorem dX6_sign_15 : decode cX6_sign 15 = .ok (.ireturn, 1) := by decide +kernel
theorem dX6_sign_16 : decode cX6_sign 16 = .ok (.aload_n 0, 1) := by decide +kernel
theorem dX6_sign_17 : decode cX6_sign 17 = .ok (.iload_n 1, 1) := by decide +kernel
theorem dX6_sign_18 : decode cX6_sign 18 = .ok (.invokevirtual 130, 3) := by decide +kernel
theorem dX6_sign_21 : decode cX6_sign 21 = .ok (.ifCond .eq 9, 3) := by decide +kernel
theorem dX6_sign_24 : decode cX6_sign 24 = .ok (.aload_n 0, 1) := by decide +kernel
theorem dX6_sign_25 : decode cX6_sign 25 = .ok (.iconst 4, 1) := by decide +kernel
theorem dX6_sign_26 : decode cX6_sign 26 = .ok (.invokevirtual 57, 3) := by decide +kernel
theorem dX6_sign_29 : decode cX6_sign 29 = .ok (.ireturn, 1) := by decide +kernel
theorem dX6_sign_30 : decode cX6_sign 30 = .ok (.iconst 0, 1) := by decide +kernel
theorem dX6_sign_31 : decode cX6_sign 31 = .ok (.istore_n 2, 1) := by decide +kernel
theorem dX6_sign_32 : decode cX6_sign 32 = .ok (.iconst (-1), 1) := by decide +kernel
theorem dX6_sign_33 : decode cX6_sign 33 = .ok (.istore_n 3, 1) := by decide +kernel
theorem dX6_sign_34 : decode cX6_sign 34 = .ok (.iconst 0, 1) := by decide +kernel
theorem dX6_sign_35 : decode cX6_sign 35 = .ok (.istore 4, 2) := by decide +kernel
theorem dX6_sign_37 : decode cX6_sign 37 = .ok (.iload 4, 2) := by decide +kernel
theorem dX6_sign_39 : decode cX6_sign 39 = .ok (.iconst 2, 1) := by decide +kernel
theorem dX6_sign_40 : decode cX6_sign 40 = .ok (.if_icmp .gt 51, 3) := by decide +kernel
theorem dX6_sign_43 : decode cX6_sign 43 = .ok (.aload_n 0, 1) := by decide +kernel
theorem dX6_sign_44 : decode cX6_sign 44 = .ok (.getfield 19, 3) := by decide +kernel
theorem dX6_sign_47 : decode cX6_sign 47 = .ok (.aload_n 0, 1) := by decide +kernel
theorem dX6_sign_48 : decode cX6_sign 48 = .ok (.getfield 10, 3) := by decide +kernel
theorem dX6_sign_51 : decode cX6_sign 51 = .ok (.invokevirtual 166, 3) := by decide +kernel
theorem dX6_sign_54 : decode cX6_sign 54 = .ok (.aload_n 0, 1) := by decide +kernel
theorem dX6_sign_55 : decode cX6_sign 55 = .ok (.getfield 19, 3) := by decide +kernel
theorem dX6_sign_58 : decode cX6_sign 58 = .ok (.iload 4, 2) := by decide +kernel
theorem dX6_sign_60 : decode cX6_sign 60 = .ok (.putfield 179, 3) := by decide +kernel
theorem dX6_sign_63 : decode cX6_sign 63 = .ok (.aload_n 0, 1) := by decide +kernel
theorem dX6_sign_64 : decode cX6_sign 64 = .ok (.getfield 19, 3) := by decide +kernel
theorem dX6_sign_67 : decode cX6_sign 67 = .ok (.iload_n 1, 1) := by decide +kernel
theorem dX6_sign_68 : decode cX6_sign 68 = .ok (.invokevirtual 133, 3) := by decide +kernel
theorem dX6_sign_71 : decode cX6_sign 71 = .ok (.istore 5, 2) := by decide +kernel
theorem dX6_sign_73 : decode cX6_sign 73 = .ok (.iload 5, 2) := by decide +kernel
theorem dX6_sign_75 : decode cX6_sign 75 = .ok (.iload_n 3, 1) := by decide +kernel
theorem dX6_sign_76 : decode cX6_sign 76 = .ok (.if_icmp .le 9, 3) := by decide +kernel
theorem dX6_sign_79 : decode cX6_sign 79 = .ok (.iload 5, 2) := by decide +kernel
theorem dX6_sign_81 : decode cX6_sign 81 = .ok (.istore_n 3, 1) := by decide +kernel
theorem dX6_sign_82 : decode cX6_sign 82 = .ok (.iload 4, 2) := by decide +kernel
theorem dX6_sign_84 : decode cX6_sign 84 = .ok (.istore_n 2, 1) := by decide +kernel
theorem dX6_sign_85 : decode cX6_sign 85 = .ok (.iinc 4 1, 3) := by decide +kernel
theorem dX6_sign_88 : decode cX6_sign 88 = .ok (.goto (-51), 3) := by decide +kernel
theorem dX6_sign_91 : decode cX6_sign 91 = .ok (.iload_n 2, 1) := by decide +kernel
theorem dX6_sign_92 : decode cX6_sign 92 = .ok (.ireturn, 1) := by decide +kernel
theorem dX6_potFor_0 : decode cX6_potFor 0 = .ok (.iload_n 1, 1) := by decide +kernel
theorem dX6_potFor_1 : decode cX6_potFor 1 = .ok (.iconst 1, 1) := by decide +kernel
theorem dX6_potFor_2 : decode cX6_potFor 2 = .ok (.bipush 20, 2) := by decide +kernel
theorem dX6_potFor_4 : decode cX6_potFor 4 = .ok (.invokestatic 53, 3) := by decide +kernel
theorem dX6_potFor_7 : decode cX6_potFor 7 = .ok (.ifCond .ne 9, 3) := by decide +kernel
theorem dX6_potFor_10 : decode cX6_potFor 10 = .ok (.aload_n 0, 1) := by decide +kernel
theorem dX6_potFor_11 : decode cX6_potFor 11 = .ok (.iconst 0, 1) := by decide +kernel
theorem dX6_potFor_12 : decode cX6_potFor 12 = .ok (.invokevirtual 57, 3) := by decide +kernel
theorem dX6_potFor_15 : decode cX6_potFor 15 = .ok (.ireturn, 1) := by decide +kernel
theorem dX6_potFor_16 : decode cX6_potFor 16 = .ok (.aload_n 0, 1) := by decide +kernel
theorem dX6_potFor_17 : decode cX6_potFor 17 = .ok (.iload_n 1, 1) := by decide +kernel
theorem dX6_potFor_18 : decode cX6_potFor 18 = .ok (.invokevirtual 130, 3) := by decide +kernel
theorem dX6_potFor_21 : decode cX6_potFor 21 = .ok (.ifCond .eq 9, 3) := by decide +kernel
theorem dX6_potFor_24 : decode cX6_potFor 24 = .ok (.aload_n 0, 1) := by decide +kernel
theorem dX6_potFor_25 : decode cX6_potFor 25 = .ok (.iconst 4, 1) := by decide +kernel
theorem dX6_potFor_26 : decode cX6_potFor 26 = .ok (.invokevirtual 57, 3) := by decide +kernel
theorem dX6_potFor_29 : decode cX6_potFor 29 = .ok (.ireturn, 1) := by decide +kernel
theorem dX6_potFor_30 : decode cX6_potFor 30 = .ok (.iconst 1, 1) := by decide +kernel
theorem dX6_potFor_31 : decode cX6_potFor 31 = .ok (.istore_n 2, 1) := by decide +kernel
theorem dX6_potFor_32 : decode cX6_potFor 32 = .ok (.iload_n 2, 1) := by decide +kernel
theorem dX6_potFor_33 : decode cX6_potFor 33 = .ok (.bipush 99, 2) := by decide +kernel
theorem dX6_potFor_35 : decode cX6_potFor 35 = .ok (.if_icmp .gt 56, 3) := by decide +kernel
theorem dX6_potFor_38 : decode cX6_potFor 38 = .ok (.aload_n 0, 1) := by decide +kernel
theorem dX6_potFor_39 : decode cX6_potFor 39 = .ok (.getfield 19, 3) := by decide +kernel
theorem dX6_potFor_42 : decode cX6_potFor 42 = .ok (.aload_n 0, 1) := by decide +kernel
theorem dX6_potFor_43 : decode cX6_potFor 43 = .ok (.getfield 10, 3) := by decide +kernel
theorem dX6_potFor_46 : decode cX6_potFor 46 = .ok (.invokevirtual 166, 3) := by decide +kernel
theorem dX6_potFor_49 : decode cX6_potFor 49 = .ok (.aload_n 0, 1) := by decide +kernel
theorem dX6_potFor_50 : decode cX6_potFor 50 = .ok (.getfield 19, 3) := by decide +kernel
theorem dX6_potFor_53 : decode cX6_potFor 53 = .ok (.iload_n 2, 1) := by decide +kernel
theorem dX6_potFor_54 : decode cX6_potFor 54 = .ok (.invokevirtual 182, 3) := by decide +kernel
theorem dX6_potFor_57 : decode cX6_potFor 57 = .ok (.aload_n 0, 1) := by decide +kernel
theorem dX6_potFor_58 : decode cX6_potFor 58 = .ok (.getfield 19, 3) := by decide +kernel
theorem dX6_potFor_61 : decode cX6_potFor 61 = .ok (.iload_n 1, 1) := by decide +kernel
theorem dX6_potFor_62 : decode cX6_potFor 62 = .ok (.invokevirtual 133, 3) := by decide +kernel
theorem dX6_potFor_65 : decode cX6_potFor 65 = .ok (.pop, 1) := by decide +kernel
theorem dX6_potFor_66 : decode cX6_potFor 66 = .ok (.aload_n 0, 1) := by decide +kernel
theorem dX6_potFor_67 : decode cX6_potFor 67 = .ok (.getfield 19, 3) := by decide +kernel
theorem dX6_potFor_70 : decode cX6_potFor 70 = .ok (.getfield 124, 3) := by decide +kernel
theorem dX6_potFor_73 : decode cX6_potFor 73 = .ok (.aload_n 0, 1) := by decide +kernel
theorem dX6_potFor_74 : decode cX6_potFor 74 = .ok (.getfield 10, 3) := by decide +kernel
theorem dX6_potFor_77 : decode cX6_potFor 77 = .ok (.getfield 124, 3) := by decide +kernel
theorem dX6_potFor_80 : decode cX6_potFor 80 = .ok (.if_icmp .ne 5, 3) := by decide +kernel
theorem dX6_potFor_83 : decode cX6_potFor 83 = .ok (.iload_n 2, 1) := by decide +kernel
theorem dX6_potFor_84 : decode cX6_potFor 84 = .ok (.ireturn, 1) := by decide +kernel
theorem dX6_potFor_85 : decode cX6_potFor 85 = .ok (.iinc 2 1, 3) := by decide +kernel
theorem dX6_potFor_88 : decode cX6_potFor 88 = .ok (.goto (-56), 3) := by decide +kernel
theorem dX6_potFor_91 : decode cX6_potFor 91 = .ok (.aload_n 0, 1) := by decide +kernel
theorem dX6_potFor_92 : decode cX6_potFor 92 = .ok (.iconst 3, 1) := by decide +kernel
theorem dX6_potFor_93 : decode cX6_potFor 93 = .ok (.invokevirtual 57, 3) := by decide +kernel
theorem dX6_potFor_96 : decode cX6_potFor 96 = .ok (.ireturn, 1) := by decide +kernel
theorem dX6_kindFor_0 : decode cX6_kindFor 0 = .ok (.aload_n 0, 1) := by decide +kernel
theorem dX6_kindFor_1 : decode cX6_kindFor 1 = .ok (.iload_n 1, 1) := by decide +kernel
theorem dX6_kindFor_2 : decode cX6_kindFor 2 = .ok (.invokevirtual 69, 3) := by decide +kernel
theorem dX6_kindFor_5 : decode cX6_kindFor 5 = .ok (.ifCond .eq 13, 3) := by decide +kernel
theorem dX6_kindFor_8 : decode cX6_kindFor 8 = .ok (.iload_n 2, 1) := by decide +kernel
theorem dX6_kindFor_9 : decode cX6_kindFor 9 = .ok (.iconst 1, 1) := by decide +kernel
theorem dX6_kindFor_10 : decode cX6_kindFor 10 = .ok (.bipush 50, 2) := by decide +kernel
theorem dX6_kindFor_12 : decode cX6_kindFor 12 = .ok (.invokestatic 53, 3) := by decide +kernel
theorem dX6_kindFor_15 : decode cX6_kindFor 15 = .ok (.ifCond .ne 9, 3) := by decide +kernel
theorem dX6_kindFor_18 : decode cX6_kindFor 18 = .ok (.aload_n 0, 1) := by decide +kernel
theorem dX6_kindFor_19 : decode cX6_kindFor 19 = .ok (.iconst 0, 1) := by decide +kernel
theorem dX6_kindFor_20 : decode cX6_kindFor 20 = .ok (.invokevirtual 57, 3) := by decide +kernel
theorem dX6_kindFor_23 : decode cX6_kindFor 23 = .ok (.ireturn, 1) := by decide +kernel
theorem dX6_kindFor_24 : decode cX6_kindFor 24 = .ok (.aload_n 0, 1) := by decide +kernel
theorem dX6_kindFor_25 : decode cX6_kindFor 25 = .ok (.iload_n 2, 1) := by decide +kernel
theorem dX6_kindFor_26 : decode cX6_kindFor 26 = .ok (.invokevirtual 130, 3) := by decide +kernel
theorem dX6_kindFor_29 : decode cX6_kindFor 29 = .ok (.ifCond .eq 9, 3) := by decide +kernel
theorem dX6_kindFor_32 : decode cX6_kindFor 32 = .ok (.aload_n 0, 1) := by decide +kernel
theorem dX6_kindFor_33 : decode cX6_kindFor 33 = .ok (.iconst 4, 1) := by decide +kernel
theorem dX6_kindFor_34 : decode cX6_kindFor 34 = .ok (.invokevirtual 57, 3) := by decide +kernel
theorem dX6_kindFor_37 : decode cX6_kindFor 37 = .ok (.ireturn, 1) := by decide +kernel
theorem dX6_kindFor_38 : decode cX6_kindFor 38 = .ok (.iconst 0, 1) := by decide +kernel
theorem dX6_kindFor_39 : decode cX6_kindFor 39 = .ok (.istore_n 3, 1) := by decide +kernel
theorem dX6_kindFor_40 : decode cX6_kindFor 40 = .ok (.iconst 0, 1) := by decide +kernel
theorem dX6_kindFor_41 : decode cX6_kindFor 41 = .ok (.istore 4, 2) := by decide +kernel
theorem dX6_kindFor_43 : decode cX6_kindFor 43 = .ok (.iconst 0, 1) := by decide +kernel
theorem dX6_kindFor_44 : decode cX6_kindFor 44 = .ok (.istore 5, 2) := by decide +kernel
theorem dX6_kindFor_46 : decode cX6_kindFor 46 = .ok (.iload 5, 2) := by decide +kernel
theorem dX6_kindFor_48 : decode cX6_kindFor 48 = .ok (.bipush 7, 2) := by decide +kernel
theorem dX6_kindFor_50 : decode cX6_kindFor 50 = .ok (.if_icmp .ge 79, 3) := by decide +kernel
theorem dX6_kindFor_53 : decode cX6_kindFor 53 = .ok (.aload_n 0, 1) := by decide +kernel
theorem dX6_kindFor_54 : decode cX6_kindFor 54 = .ok (.getfield 19, 3) := by decide +kernel
theorem dX6_kindFor_57 : decode cX6_kindFor 57 = .ok (.aload_n 0, 1) := by decide +kernel
theorem dX6_kindFor_58 : decode cX6_kindFor 58 = .ok (.getfield 10, 3) := by decide +kernel
theorem dX6_kindFor_61 : decode cX6_kindFor 61 = .ok (.invokevirtual 166, 3) := by decide +kernel
theorem dX6_kindFor_64 : decode cX6_kindFor 64 = .ok (.aload_n 0, 1) := by decide +kernel
theorem dX6_kindFor_65 : decode cX6_kindFor 65 = .ok (.getfield 19, 3) := by decide +kernel
theorem dX6_kindFor_68 : decode cX6_kindFor 68 = .ok (.getfield 73, 3) := by decide +kernel
theorem dX6_kindFor_71 : decode cX6_kindFor 71 = .ok (.iload_n 1, 1) := by decide +kernel
theorem dX6_kindFor_72 : decode cX6_kindFor 72 = .ok (.aaload, 1) := by decide +kernel
theorem dX6_kindFor_73 : decode cX6_kindFor 73 = .ok (.astore 6, 2) := by decide +kernel
theorem dX6_kindFor_75 : decode cX6_kindFor 75 = .ok (.aload 6, 2) := by decide +kernel
theorem dX6_kindFor_77 : decode cX6_kindFor 77 = .ok (.iload 5, 2) := by decide +kernel
theorem dX6_kindFor_79 : decode cX6_kindFor 79 = .ok (.putfield 186, 3) := by decide +kernel
theorem dX6_kindFor_82 : decode cX6_kindFor 82 = .ok (.aload_n 0, 1) := by decide +kernel
theorem dX6_kindFor_83 : decode cX6_kindFor 83 = .ok (.getfield 19, 3) := by decide +kernel
theorem dX6_kindFor_86 : decode cX6_kindFor 86 = .ok (.iload_n 2, 1) := by decide +kernel
theorem dX6_kindFor_87 : decode cX6_kindFor 87 = .ok (.invokevirtual 133, 3) := by decide +kernel
theorem dX6_kindFor_90 : decode cX6_kindFor 90 = .ok (.pop, 1) := by decide +kernel
theorem dX6_kindFor_91 : decode cX6_kindFor 91 = .ok (.aload 6, 2) := by decide +kernel
theorem dX6_kindFor_93 : decode cX6_kindFor 93 = .ok (.getfield 189, 3) := by decide +kernel
theorem dX6_kindFor_96 : decode cX6_kindFor 96 = .ok (.aload 6, 2) := by decide +kernel
theorem dX6_kindFor_98 : decode cX6_kindFor 98 = .ok (.getfield 108, 3) := by decide +kernel
theorem dX6_kindFor_101 : decode cX6_kindFor 101 = .ok (.isub, 1) := by decide +kernel
theorem dX6_kindFor_102 : decode cX6_kindFor 102 = .ok (.istore 7, 2) := by decide +kernel
theorem dX6_kindFor_104 : decode cX6_kindFor 104 = .ok (.iload 5, 2) := by decide +kernel
theorem dX6_kindFor_106 : decode cX6_kindFor 106 = .ok (.ifCond .eq 10, 3) := by decide +kernel
theorem dX6_kindFor_109 : decode cX6_kindFor 109 = .ok (.iload 7, 2) := by decide +kernel
theorem dX6_kindFor_111 : decode cX6_kindFor 111 = .ok (.iload 4, 2) := by decide +kernel
theorem dX6_kindFor_113 : decode cX6_kindFor 113 = .ok (.if_icmp .le 10, 3) := by decide +kernel
theorem dX6_kindFor_116 : decode cX6_kindFor 116 = .ok (.iload 7, 2) := by decide +kernel
theorem dX6_kindFor_118 : decode cX6_kindFor 118 = .ok (.istore 4, 2) := by decide +kernel
theorem dX6_kindFor_120 : decode cX6_kindFor 120 = .ok (.iload 5, 2) := by decide +kernel
theorem dX6_kindFor_122 : decode cX6_kindFor 122 = .ok (.istore_n 3, 1) := by decide +kernel
theorem dX6_kindFor_123 : decode cX6_kindFor 123 = .ok (.iinc 5 1, 3) := by decide +kernel
theorem dX6_kindFor_126 : decode cX6_kindFor 126 = .ok (.goto (-80), 3) := by decide +kernel
theorem dX6_kindFor_129 : decode cX6_kindFor 129 = .ok (.iload_n 3, 1) := by decide +kernel
theorem dX6_kindFor_130 : decode cX6_kindFor 130 = .ok (.ireturn, 1) := by decide +kernel
theorem dX6_told_0 : decode cX6_told 0 = .ok (.aload_n 0, 1) := by decide +kernel
theorem dX6_told_1 : decode cX6_told 1 = .ok (.iload_n 1, 1) := by decide +kernel
theorem dX6_told_2 : decode cX6_told 2 = .ok (.invokevirtual 69, 3) := by decide +kernel
theorem dX6_told_5 : decode cX6_told 5 = .ok (.ifCond .eq 13, 3) := by decide +kernel
theorem dX6_told_8 : decode cX6_told 8 = .ok (.iload_n 2, 1) := by decide +kernel
theorem dX6_told_9 : decode cX6_told 9 = .ok (.iconst 1, 1) := by decide +kernel
theorem dX6_told_10 : decode cX6_told 10 = .ok (.bipush 50, 2) := by decide +kernel
theorem dX6_told_12 : decode cX6_told 12 = .ok (.invokestatic 53, 3) := by decide +kernel
theorem dX6_told_15 : decode cX6_told 15 = .ok (.ifCond .ne 9, 3) := by decide +kernel
theorem dX6_told_18 : decode cX6_told 18 = .ok (.aload_n 0, 1) := by decide +kernel
theorem dX6_told_19 : decode cX6_told 19 = .ok (.iconst 0, 1) := by decide +kernel
theorem dX6_told_20 : decode cX6_told 20 = .ok (.invokevirtual 57, 3) := by decide +kernel
theorem dX6_told_23 : decode cX6_told 23 = .ok (.ireturn, 1) := by decide +kernel
theorem dX6_told_24 : decode cX6_told 24 = .ok (.aload_n 0, 1) := by decide +kernel
theorem dX6_told_25 : decode cX6_told 25 = .ok (.iload_n 2, 1) := by decide +kernel
theorem dX6_told_26 : decode cX6_told 26 = .ok (.invokevirtual 130, 3) := by decide +kernel
theorem dX6_told_29 : decode cX6_told 29 = .ok (.ifCond .eq 9, 3) := by decide +kernel
theorem dX6_told_32 : decode cX6_told 32 = .ok (.aload_n 0, 1) := by decide +kernel
theorem dX6_told_33 : decode cX6_told 33 = .ok (.iconst 4, 1) := by decide +kernel
theorem dX6_told_34 : decode cX6_told 34 = .ok (.invokevirtual 57, 3) := by decide +kernel
theorem dX6_told_37 : decode cX6_told 37 = .ok (.ireturn, 1) := by decide +kernel
theorem dX6_told_38 : decode cX6_told 38 = .ok (.aload_n 0, 1) := by decide +kernel
theorem dX6_told_39 : decode cX6_told 39 = .ok (.getfield 19, 3) := by decide +kernel
theorem dX6_told_42 : decode cX6_told 42 = .ok (.aload_n 0, 1) := by decide +kernel
theorem dX6_told_43 : decode cX6_told 43 = .ok (.getfield 10, 3) := by decide +kernel
theorem dX6_told_46 : decode cX6_told 46 = .ok (.invokevirtual 166, 3) := by decide +kernel
theorem dX6_told_49 : decode cX6_told 49 = .ok (.aload_n 0, 1) := by decide +kernel
theorem dX6_told_50 : decode cX6_told 50 = .ok (.getfield 19, 3) := by decide +kernel
theorem dX6_told_53 : decode cX6_told 53 = .ok (.iload_n 2, 1) := by decide +kernel
theorem dX6_told_54 : decode cX6_told 54 = .ok (.invokevirtual 133, 3) := by decide +kernel
theorem dX6_told_57 : decode cX6_told 57 = .ok (.istore_n 3, 1) := by decide +kernel
theorem dX6_told_58 : decode cX6_told 58 = .ok (.aload_n 0, 1) := by decide +kernel
theorem dX6_told_59 : decode cX6_told 59 = .ok (.getfield 19, 3) := by decide +kernel
theorem dX6_told_62 : decode cX6_told 62 = .ok (.aload_n 0, 1) := by decide +kernel
theorem dX6_told_63 : decode cX6_told 63 = .ok (.getfield 10, 3) := by decide +kernel
theorem dX6_told_66 : decode cX6_told 66 = .ok (.invokevirtual 166, 3) := by decide +kernel
theorem dX6_told_69 : decode cX6_told 69 = .ok (.aload_n 0, 1) := by decide +kernel
theorem dX6_told_70 : decode cX6_told 70 = .ok (.getfield 19, 3) := by decide +kernel
theorem dX6_told_73 : decode cX6_told 73 = .ok (.getfield 73, 3) := by decide +kernel
theorem dX6_told_76 : decode cX6_told 76 = .ok (.iload_n 1, 1) := by decide +kernel
theorem dX6_told_77 : decode cX6_told 77 = .ok (.aaload, 1) := by decide +kernel
theorem dX6_told_78 : decode cX6_told 78 = .ok (.iconst 0, 1) := by decide +kernel
theorem dX6_told_79 : decode cX6_told 79 = .ok (.putfield 186, 3) := by decide +kernel
theorem dX6_told_82 : decode cX6_told 82 = .ok (.aload_n 0, 1) := by decide +kernel
theorem dX6_told_83 : decode cX6_told 83 = .ok (.getfield 19, 3) := by decide +kernel
theorem dX6_told_86 : decode cX6_told 86 = .ok (.iload_n 2, 1) := by decide +kernel
theorem dX6_told_87 : decode cX6_told 87 = .ok (.invokevirtual 133, 3) := by decide +kernel
theorem dX6_told_90 : decode cX6_told 90 = .ok (.iload_n 3, 1) := by decide +kernel
theorem dX6_told_91 : decode cX6_told 91 = .ok (.isub, 1) := by decide +kernel
theorem dX6_told_92 : decode cX6_told 92 = .ok (.ireturn, 1) := by decide +kernel
theorem dX6_uneven_0 : decode cX6_uneven 0 = .ok (.iload_n 1, 1) := by decide +kernel
theorem dX6_uneven_1 : decode cX6_uneven 1 = .ok (.iconst 0, 1) := by decide +kernel
theorem dX6_uneven_2 : decode cX6_uneven 2 = .ok (.iconst 2, 1) := by decide +kernel
theorem dX6_uneven_3 : decode cX6_uneven 3 = .ok (.invokestatic 53, 3) := by decide +kernel
theorem dX6_uneven_6 : decode cX6_uneven 6 = .ok (.ifCond .ne 9, 3) := by decide +kernel
theorem dX6_uneven_9 : decode cX6_uneven 9 = .ok (.aload_n 0, 1) := by decide +kernel
theorem dX6_uneven_10 : decode cX6_uneven 10 = .ok (.iconst 0, 1) := by decide +kernel
theorem dX6_uneven_11 : decode cX6_uneven 11 = .ok (.invokevirtual 57, 3) := by decide +kernel
theorem dX6_uneven_14 : decode cX6_uneven 14 = .ok (.ireturn, 1) := by decide +kernel
theorem dX6_uneven_15 : decode cX6_uneven 15 = .ok (.aload_n 0, 1) := by decide +kernel
theorem dX6_uneven_16 : decode cX6_uneven 16 = .ok (.getfield 10, 3) := by decide +kernel
theorem dX6_uneven_19 : decode cX6_uneven 19 = .ok (.invokevirtual 192, 3) := by decide +kernel
theorem dX6_uneven_22 : decode cX6_uneven 22 = .ok (.istore_n 2, 1) := by decide +kernel
theorem dX6_uneven_23 : decode cX6_uneven 23 = .ok (.iload_n 2, 1) := by decide +kernel
theorem dX6_uneven_24 : decode cX6_uneven 24 = .ok (.ifCond .ne 9, 3) := by decide +kernel
theorem dX6_uneven_27 : decode cX6_uneven 27 = .ok (.aload_n 0, 1) := by decide +kernel
theorem dX6_uneven_28 : decode cX6_uneven 28 = .ok (.iconst 3, 1) := by decide +kernel
theorem dX6_uneven_29 : decode cX6_uneven 29 = .ok (.invokevirtual 57, 3) := by decide +kernel
theorem dX6_uneven_32 : decode cX6_uneven 32 = .ok (.ireturn, 1) := by decide +kernel
theorem dX6_uneven_33 : decode cX6_uneven 33 = .ok (.aload_n 0, 1) := by decide +kernel
theorem dX6_uneven_34 : decode cX6_uneven 34 = .ok (.getfield 10, 3) := by decide +kernel
theorem dX6_uneven_37 : decode cX6_uneven 37 = .ok (.invokevirtual 120, 3) := by decide +kernel
theorem dX6_uneven_40 : decode cX6_uneven 40 = .ok (.iload_n 2, 1) := by decide +kernel
theorem dX6_uneven_41 : decode cX6_uneven 41 = .ok (.idiv, 1) := by decide +kernel
theorem dX6_uneven_42 : decode cX6_uneven 42 = .ok (.istore_n 3, 1) := by decide +kernel
theorem dX6_uneven_43 : decode cX6_uneven 43 = .ok (.iconst (-1), 1) := by decide +kernel
theorem dX6_uneven_44 : decode cX6_uneven 44 = .ok (.istore 4, 2) := by decide +kernel
theorem dX6_uneven_46 : decode cX6_uneven 46 = .ok (.iconst (-1), 1) := by decide +kernel
theorem dX6_uneven_47 : decode cX6_uneven 47 = .ok (.istore 5, 2) := by decide +kernel
theorem dX6_uneven_49 : decode cX6_uneven 49 = .ok (.iconst 0, 1) := by decide +kernel
theorem dX6_uneven_50 : decode cX6_uneven 50 = .ok (.istore 6, 2) := by decide +kernel
theorem dX6_uneven_52 : decode cX6_uneven 52 = .ok (.iload 6, 2) := by decide +kernel
theorem dX6_uneven_54 : decode cX6_uneven 54 = .ok (.aload_n 0, 1) := by decide +kernel
theorem dX6_uneven_55 : decode cX6_uneven 55 = .ok (.getfield 10, 3) := by decide +kernel
theorem dX6_uneven_58 : decode cX6_uneven 58 = .ok (.getfield 61, 3) := by decide +kernel
theorem dX6_uneven_61 : decode cX6_uneven 61 = .ok (.if_icmp .ge 76, 3) := by decide +kernel
theorem dX6_uneven_64 : decode cX6_uneven 64 = .ok (.aload_n 0, 1) := by decide +kernel
theorem dX6_uneven_65 : decode cX6_uneven 65 = .ok (.getfield 10, 3) := by decide +kernel
theorem dX6_uneven_68 : decode cX6_uneven 68 = .ok (.getfield 73, 3) := by decide +kernel
theorem dX6_uneven_71 : decode cX6_uneven 71 = .ok (.iload 6, 2) := by decide +kernel
theorem dX6_uneven_73 : decode cX6_uneven 73 = .ok (.aaload, 1) := by decide +kernel
theorem dX6_uneven_74 : decode cX6_uneven 74 = .ok (.astore 7, 2) := by decide +kernel
theorem dX6_uneven_76 : decode cX6_uneven 76 = .ok (.aload 7, 2) := by decide +kernel
theorem dX6_uneven_78 : decode cX6_uneven 78 = .ok (.getfield 195, 3) := by decide +kernel
theorem dX6_uneven_81 : decode cX6_uneven 81 = .ok (.ifCond .le 50, 3) := by decide +kernel
theorem dX6_uneven_84 : decode cX6_uneven 84 = .ok (.aload_n 0, 1) := by decide +kernel
theorem dX6_uneven_85 : decode cX6_uneven 85 = .ok (.aload 7, 2) := by decide +kernel
theorem dX6_uneven_87 : decode cX6_uneven 87 = .ok (.iload_n 1, 1) := by decide +kernel
theorem dX6_uneven_88 : decode cX6_uneven 88 = .ok (.iload_n 3, 1) := by decide +kernel
theorem dX6_uneven_89 : decode cX6_uneven 89 = .ok (.invokevirtual 198, 3) := by decide +kernel
theorem dX6_uneven_92 : decode cX6_uneven 92 = .ok (.bipush 100, 2) := by decide +kernel
theorem dX6_uneven_94 : decode cX6_uneven 94 = .ok (.imul, 1) := by decide +kernel
theorem dX6_uneven_95 : decode cX6_uneven 95 = .ok (.aload 7, 2) := by decide +kernel
theorem dX6_uneven_97 : decode cX6_uneven 97 = .ok (.getfield 195, 3) := by decide +kernel
theorem dX6_uneven_100 : decode cX6_uneven 100 = .ok (.idiv, 1) := by decide +kernel
theorem dX6_uneven_101 : decode cX6_uneven 101 = .ok (.istore 8, 2) := by decide +kernel
theorem dX6_uneven_103 : decode cX6_uneven 103 = .ok (.iload 4, 2) := by decide +kernel
theorem dX6_uneven_105 : decode cX6_uneven 105 = .ok (.iload 8, 2) := by decide +kernel
theorem dX6_uneven_107 : decode cX6_uneven 107 = .ok (.invokestatic 202, 3) := by decide +kernel
theorem dX6_uneven_110 : decode cX6_uneven 110 = .ok (.istore 4, 2) := by decide +kernel
theorem dX6_uneven_112 : decode cX6_uneven 112 = .ok (.iload 5, 2) := by decide +kernel
theorem dX6_uneven_114 : decode cX6_uneven 114 = .ok (.ifCond .ge 8, 3) := by decide +kernel
theorem dX6_uneven_117 : decode cX6_uneven 117 = .ok (.iload 8, 2) := by decide +kernel
theorem dX6_uneven_119 : decode cX6_uneven 119 = .ok (.goto 10, 3) := by decide +kernel
theorem dX6_uneven_122 : decode cX6_uneven 122 = .ok (.iload 5, 2) := by decide +kernel
theorem dX6_uneven_124 : decode cX6_uneven 124 = .ok (.iload 8, 2) := by decide +kernel
theorem dX6_uneven_126 : decode cX6_uneven 126 = .ok (.invokestatic 102, 3) := by decide +kernel
theorem dX6_uneven_129 : decode cX6_uneven 129 = .ok (.istore 5, 2) := by decide +kernel
theorem dX6_uneven_131 : decode cX6_uneven 131 = .ok (.iinc 6 1, 3) := by decide +kernel
theorem dX6_uneven_134 : decode cX6_uneven 134 = .ok (.goto (-82), 3) := by decide +kernel
theorem dX6_uneven_137 : decode cX6_uneven 137 = .ok (.iload 4, 2) := by decide +kernel
theorem dX6_uneven_139 : decode cX6_uneven 139 = .ok (.iload 5, 2) := by decide +kernel
theorem dX6_uneven_141 : decode cX6_uneven 141 = .ok (.isub, 1) := by decide +kernel
theorem dX6_uneven_142 : decode cX6_uneven 142 = .ok (.ireturn, 1) := by decide +kernel
theorem dX6_strokes_0 : decode cX6_strokes 0 = .ok (.aload_n 0, 1) := by decide +kernel
theorem dX6_strokes_1 : decode cX6_strokes 1 = .ok (.getfield 10, 3) := by decide +kernel
theorem dX6_strokes_4 : decode cX6_strokes 4 = .ok (.iconst 5, 1) := by decide +kernel
theorem dX6_strokes_5 : decode cX6_strokes 5 = .ok (.invokevirtual 127, 3) := by decide +kernel
theorem dX6_strokes_8 : decode cX6_strokes 8 = .ok (.istore_n 1, 1) := by decide +kernel
theorem dX6_strokes_9 : decode cX6_strokes 9 = .ok (.iconst 0, 1) := by decide +kernel
theorem dX6_strokes_10 : decode cX6_strokes 10 = .ok (.istore_n 2, 1) := by decide +kernel
theorem dX6_strokes_11 : decode cX6_strokes 11 = .ok (.iconst 0, 1) := by decide +kernel
theorem dX6_strokes_12 : decode cX6_strokes 12 = .ok (.istore_n 3, 1) := by decide +kernel
theorem dX6_strokes_13 : decode cX6_strokes 13 = .ok (.iload_n 3, 1) := by decide +kernel
theorem dX6_strokes_14 : decode cX6_strokes 14 = .ok (.iload_n 1, 1) := by decide +kernel
theorem dX6_strokes_15 : decode cX6_strokes 15 = .ok (.if_icmp .ge 40, 3) := by decide +kernel
theorem dX6_strokes_18 : decode cX6_strokes 18 = .ok (.aload_n 0, 1) := by decide +kernel
theorem dX6_strokes_19 : decode cX6_strokes 19 = .ok (.getfield 10, 3) := by decide +kernel
theorem dX6_strokes_22 : decode cX6_strokes 22 = .ok (.invokevirtual 205, 3) := by decide +kernel
theorem dX6_strokes_25 : decode cX6_strokes 25 = .ok (.bipush 10, 2) := by decide +kernel
theorem dX6_strokes_27 : decode cX6_strokes 27 = .ok (.irem, 1) := by decide +kernel
theorem dX6_strokes_28 : decode cX6_strokes 28 = .ok (.istore 4, 2) := by decide +kernel
theorem dX6_strokes_30 : decode cX6_strokes 30 = .ok (.iload 4, 2) := by decide +kernel
theorem dX6_strokes_32 : decode cX6_strokes 32 = .ok (.ifCond .eq 17, 3) := by decide +kernel
theorem dX6_strokes_35 : decode cX6_strokes 35 = .ok (.iload_n 2, 1) := by decide +kernel
theorem dX6_strokes_36 : decode cX6_strokes 36 = .ok (.iload 4, 2) := by decide +kernel
theorem dX6_strokes_38 : decode cX6_strokes 38 = .ok (.iconst 1, 1) := by decide +kernel
theorem dX6_strokes_39 : decode cX6_strokes 39 = .ok (.if_icmp .ne 7, 3) := by decide +kernel
theorem dX6_strokes_42 : decode cX6_strokes 42 = .ok (.iconst 2, 1) := by decide +kernel
theorem dX6_strokes_43 : decode cX6_strokes 43 = .ok (.goto 4, 3) := by decide +kernel
theorem dX6_strokes_46 : decode cX6_strokes 46 = .ok (.iconst 1, 1) := by decide +kernel
theorem dX6_strokes_47 : decode cX6_strokes 47 = .ok (.iadd, 1) := by decide +kernel
theorem dX6_strokes_48 : decode cX6_strokes 48 = .ok (.istore_n 2, 1) := by decide +kernel
theorem dX6_strokes_49 : decode cX6_strokes 49 = .ok (.iinc 3 1, 3) := by decide +kernel
theorem dX6_strokes_52 : decode cX6_strokes 52 = .ok (.goto (-39), 3) := by decide +kernel
theorem dX6_strokes_55 : decode cX6_strokes 55 = .ok (.iload_n 2, 1) := by decide +kernel
theorem dX6_strokes_56 : decode cX6_strokes 56 = .ok (.ireturn, 1) := by decide +kernel
theorem dX6_lacks_0 : decode cX6_lacks 0 = .ok (.aload_n 0, 1) := by decide +kernel
theorem dX6_lacks_1 : decode cX6_lacks 1 = .ok (.getfield 10, 3) := by decide +kernel
theorem dX6_lacks_4 : decode cX6_lacks 4 = .ok (.invokevirtual 120, 3) := by decide +kernel
theorem dX6_lacks_7 : decode cX6_lacks 7 = .ok (.aload_n 0, 1) := by decide +kernel
theorem dX6_lacks_8 : decode cX6_lacks 8 = .ok (.getfield 10, 3) := by decide +kernel
theorem dX6_lacks_11 : decode cX6_lacks 11 = .ok (.bipush 6, 2) := by decide +kernel
theorem dX6_lacks_13 : decode cX6_lacks 13 = .ok (.invokevirtual 127, 3) := by decide +kernel
theorem dX6_lacks_16 : decode cX6_lacks 16 = .ok (.isub, 1) := by decide +kernel
theorem dX6_lacks_17 : decode cX6_lacks 17 = .ok (.aload_n 0, 1) := by decide +kernel
theorem dX6_lacks_18 : decode cX6_lacks 18 = .ok (.getfield 10, 3) := by decide +kernel
theorem dX6_lacks_21 : decode cX6_lacks 21 = .ok (.iconst 4, 1) := by decide +kernel
theorem dX6_lacks_22 : decode cX6_lacks 22 = .ok (.invokevirtual 127, 3) := by decide +kernel
theorem dX6_lacks_25 : decode cX6_lacks 25 = .ok (.isub, 1) := by decide +kernel
theorem dX6_lacks_26 : decode cX6_lacks 26 = .ok (.ireturn, 1) := by decide +kernel
theorem dX6_owes_0 : decode cX6_owes 0 = .ok (.aload_n 0, 1) := by decide +kernel
theorem dX6_owes_1 : decode cX6_owes 1 = .ok (.getfield 10, 3) := by decide +kernel
theorem dX6_owes_4 : decode cX6_owes 4 = .ok (.getfield 61, 3) := by decide +kernel
theorem dX6_owes_7 : decode cX6_owes 7 = .ok (.ifCond .ne 9, 3) := by decide +kernel
theorem dX6_owes_10 : decode cX6_owes 10 = .ok (.aload_n 0, 1) := by decide +kernel
theorem dX6_owes_11 : decode cX6_owes 11 = .ok (.iconst 3, 1) := by decide +kernel
theorem dX6_owes_12 : decode cX6_owes 12 = .ok (.invokevirtual 57, 3) := by decide +kernel
theorem dX6_owes_15 : decode cX6_owes 15 = .ok (.ireturn, 1) := by decide +kernel
theorem dX6_owes_16 : decode cX6_owes 16 = .ok (.iconst 0, 1) := by decide +kernel
theorem dX6_owes_17 : decode cX6_owes 17 = .ok (.istore_n 1, 1) := by decide +kernel
theorem dX6_owes_18 : decode cX6_owes 18 = .ok (.aload_n 0, 1) := by decide +kernel
theorem dX6_owes_19 : decode cX6_owes 19 = .ok (.getfield 10, 3) := by decide +kernel
theorem dX6_owes_22 : decode cX6_owes 22 = .ok (.iconst 0, 1) := by decide +kernel
theorem dX6_owes_23 : decode cX6_owes 23 = .ok (.invokevirtual 208, 3) := by decide +kernel
theorem dX6_owes_26 : decode cX6_owes 26 = .ok (.istore_n 2, 1) := by decide +kernel
theorem dX6_owes_27 : decode cX6_owes 27 = .ok (.iconst 1, 1) := by decide +kernel
theorem dX6_owes_28 : decode cX6_owes 28 = .ok (.istore_n 3, 1) := by decide +kernel
theorem dX6_owes_29 : decode cX6_owes 29 = .ok (.iload_n 3, 1) := by decide +kernel
theorem dX6_owes_30 : decode cX6_owes 30 = .ok (.aload_n 0, 1) := by decide +kernel
theorem dX6_owes_31 : decode cX6_owes 31 = .ok (.getfield 10, 3) := by decide +kernel
theorem dX6_owes_34 : decode cX6_owes 34 = .ok (.getfield 61, 3) := by decide +kernel
theorem dX6_owes_37 : decode cX6_owes 37 = .ok (.if_icmp .ge 30, 3) := by decide +kernel
theorem dX6_owes_40 : decode cX6_owes 40 = .ok (.aload_n 0, 1) := by decide +kernel
theorem dX6_owes_41 : decode cX6_owes 41 = .ok (.getfield 10, 3) := by decide +kernel
theorem dX6_owes_44 : decode cX6_owes 44 = .ok (.iload_n 3, 1) := by decide +kernel
theorem dX6_owes_45 : decode cX6_owes 45 = .ok (.invokevirtual 208, 3) := by decide +kernel
theorem dX6_owes_48 : decode cX6_owes 48 = .ok (.istore 4, 2) := by decide +kernel
theorem dX6_owes_50 : decode cX6_owes 50 = .ok (.iload 4, 2) := by decide +kernel
theorem dX6_owes_52 : decode cX6_owes 52 = .ok (.iload_n 2, 1) := by decide +kernel
theorem dX6_owes_53 : decode cX6_owes 53 = .ok (.if_icmp .le 8, 3) := by decide +kernel
theorem dX6_owes_56 : decode cX6_owes 56 = .ok (.iload 4, 2) := by decide +kernel
theorem dX6_owes_58 : decode cX6_owes 58 = .ok (.istore_n 2, 1) := by decide +kernel
theorem dX6_owes_59 : decode cX6_owes 59 = .ok (.iload_n 3, 1) := by decide +kernel
theorem dX6_owes_60 : decode cX6_owes 60 = .ok (.istore_n 1, 1) := by decide +kernel
theorem dX6_owes_61 : decode cX6_owes 61 = .ok (.iinc 3 1, 3) := by decide +kernel
theorem dX6_owes_64 : decode cX6_owes 64 = .ok (.goto (-35), 3) := by decide +kernel
theorem dX6_owes_67 : decode cX6_owes 67 = .ok (.iload_n 1, 1) := by decide +kernel
theorem dX6_owes_68 : decode cX6_owes 68 = .ok (.ireturn, 1) := by decide +kernel
theorem dX6_odds_0 : decode cX6_odds 0 = .ok (.iload_n 1, 1) := by decide +kernel
theorem dX6_odds_1 : decode cX6_odds 1 = .ok (.iconst 1, 1) := by decide +kernel
theorem dX6_odds_2 : decode cX6_odds 2 = .ok (.bipush 20, 2) := by decide +kernel
theorem dX6_odds_4 : decode cX6_odds 4 = .ok (.invokestatic 53, 3) := by decide +kernel
theorem dX6_odds_7 : decode cX6_odds 7 = .ok (.ifCond .eq 14, 3) := by decide +kernel
theorem dX6_odds_10 : decode cX6_odds 10 = .ok (.iload_n 2, 1) := by decide +kernel
theorem dX6_odds_11 : decode cX6_odds 11 = .ok (.iconst 0, 1) := by decide +kernel
theorem dX6_odds_12 : decode cX6_odds 12 = .ok (.sipush 9999, 3) := by decide +kernel
theorem dX6_odds_15 : decode cX6_odds 15 = .ok (.invokestatic 53, 3) := by decide +kernel
theorem dX6_odds_18 : decode cX6_odds 18 = .ok (.ifCond .ne 9, 3) := by decide +kernel
theorem dX6_odds_21 : decode cX6_odds 21 = .ok (.aload_n 0, 1) := by decide +kernel
theorem dX6_odds_22 : decode cX6_odds 22 = .ok (.iconst 0, 1) := by decide +kernel
theorem dX6_odds_23 : decode cX6_odds 23 = .ok (.invokevirtual 57, 3) := by decide +kernel
theorem dX6_odds_26 : decode cX6_odds 26 = .ok (.ireturn, 1) := by decide +kernel
theorem dX6_odds_27 : decode cX6_odds 27 = .ok (.aload_n 0, 1) := by decide +kernel
theorem dX6_odds_28 : decode cX6_odds 28 = .ok (.iconst 5, 1) := by decide +kernel
theorem dX6_odds_29 : decode cX6_odds 29 = .ok (.invokevirtual 130, 3) := by decide +kernel
theorem dX6_odds_32 : decode cX6_odds 32 = .ok (.ifCond .eq 9, 3) := by decide +kernel
theorem dX6_odds_35 : decode cX6_odds 35 = .ok (.aload_n 0, 1) := by decide +kernel
theorem dX6_odds_36 : decode cX6_odds 36 = .ok (.iconst 4, 1) := by decide +kernel
theorem dX6_odds_37 : decode cX6_odds 37 = .ok (.invokevirtual 57, 3) := by decide +kernel
theorem dX6_odds_40 : decode cX6_odds 40 = .ok (.ireturn, 1) := by decide +kernel
theorem dX6_odds_41 : decode cX6_odds 41 = .ok (.iconst 0, 1) := by decide +kernel
theorem dX6_odds_42 : decode cX6_odds 42 = .ok (.istore_n 3, 1) := by decide +kernel
theorem dX6_odds_43 : decode cX6_odds 43 = .ok (.iconst 0, 1) := by decide +kernel
theorem dX6_odds_44 : decode cX6_odds 44 = .ok (.istore 4, 2) := by decide +kernel
theorem dX6_odds_46 : decode cX6_odds 46 = .ok (.iload 4, 2) := by decide +kernel
theorem dX6_odds_48 : decode cX6_odds 48 = .ok (.iload_n 1, 1) := by decide +kernel
theorem dX6_odds_49 : decode cX6_odds 49 = .ok (.if_icmp .ge 49, 3) := by decide +kernel
theorem dX6_odds_52 : decode cX6_odds 52 = .ok (.aload_n 0, 1) := by decide +kernel
theorem dX6_odds_53 : decode cX6_odds 53 = .ok (.getfield 19, 3) := by decide +kernel
theorem dX6_odds_56 : decode cX6_odds 56 = .ok (.aload_n 0, 1) := by decide +kernel
theorem dX6_odds_57 : decode cX6_odds 57 = .ok (.getfield 10, 3) := by decide +kernel
theorem dX6_odds_60 : decode cX6_odds 60 = .ok (.invokevirtual 166, 3) := by decide +kernel
theorem dX6_odds_63 : decode cX6_odds 63 = .ok (.aload_n 0, 1) := by decide +kernel
theorem dX6_odds_64 : decode cX6_odds 64 = .ok (.getfield 19, 3) := by decide +kernel
theorem dX6_odds_67 : decode cX6_odds 67 = .ok (.iconst 5, 1) := by decide +kernel
theorem dX6_odds_68 : decode cX6_odds 68 = .ok (.invokevirtual 133, 3) := by decide +kernel
theorem dX6_odds_71 : decode cX6_odds 71 = .ok (.iload_n 2, 1) := by decide +kernel
theorem dX6_odds_72 : decode cX6_odds 72 = .ok (.if_icmp .lt 6, 3) := by decide +kernel
theorem dX6_odds_75 : decode cX6_odds 75 = .ok (.iinc 3 1, 3) := by decide +kernel
theorem dX6_odds_78 : decode cX6_odds 78 = .ok (.aload_n 0, 1) := by decide +kernel
theorem dX6_odds_79 : decode cX6_odds 79 = .ok (.getfield 10, 3) := by decide +kernel
theorem dX6_odds_82 : decode cX6_odds 82 = .ok (.aload_n 0, 1) := by decide +kernel
theorem dX6_odds_83 : decode cX6_odds 83 = .ok (.getfield 19, 3) := by decide +kernel
theorem dX6_odds_86 : decode cX6_odds 86 = .ok (.getfield 211, 3) := by decide +kernel
theorem dX6_odds_89 : decode cX6_odds 89 = .ok (.putfield 211, 3) := by decide +kernel
theorem dX6_odds_92 : decode cX6_odds 92 = .ok (.iinc 4 1, 3) := by decide +kernel
theorem dX6_odds_95 : decode cX6_odds 95 = .ok (.goto (-49), 3) := by decide +kernel
theorem dX6_odds_98 : decode cX6_odds 98 = .ok (.iload_n 3, 1) := by decide +kernel
theorem dX6_odds_99 : decode cX6_odds 99 = .ok (.ireturn, 1) := by decide +kernel
theorem dX6_seed_0 : decode cX6_seed 0 = .ok (.aload_n 0, 1) := by decide +kernel
theorem dX6_seed_1 : decode cX6_seed 1 = .ok (.getfield 10, 3) := by decide +kernel
theorem dX6_seed_4 : decode cX6_seed 4 = .ok (.getfield 211, 3) := by decide +kernel
theorem dX6_seed_7 : decode cX6_seed 7 = .ok (.istore_n 2, 1) := by decide +kernel
theorem dX6_seed_8 : decode cX6_seed 8 = .ok (.aload_n 0, 1) := by decide +kernel
theorem dX6_seed_9 : decode cX6_seed 9 = .ok (.getfield 10, 3) := by decide +kernel
theorem dX6_seed_12 : decode cX6_seed 12 = .ok (.iload_n 1, 1) := by decide +kernel
theorem dX6_seed_13 : decode cX6_seed 13 = .ok (.putfield 211, 3) := by decide +kernel
theorem dX6_seed_16 : decode cX6_seed 16 = .ok (.iload_n 2, 1) := by decide +kernel
theorem dX6_seed_17 : decode cX6_seed 17 = .ok (.ireturn, 1) := by decide +kernel
theorem dX6_feed_0 : decode cX6_feed 0 = .ok (.iload_n 2, 1) := by decide +kernel
theorem dX6_feed_1 : decode cX6_feed 1 = .ok (.iconst 1, 1) := by decide +kernel
theorem dX6_feed_2 : decode cX6_feed 2 = .ok (.iconst 4, 1) := by decide +kernel
theorem dX6_feed_3 : decode cX6_feed 3 = .ok (.invokestatic 53, 3) := by decide +kernel
theorem dX6_feed_6 : decode cX6_feed 6 = .ok (.ifCond .ne 9, 3) := by decide +kernel
theorem dX6_feed_9 : decode cX6_feed 9 = .ok (.aload_n 0, 1) := by decide +kernel
theorem dX6_feed_10 : decode cX6_feed 10 = .ok (.iconst 0, 1) := by decide +kernel
theorem dX6_feed_11 : decode cX6_feed 11 = .ok (.invokevirtual 57, 3) := by decide +kernel
theorem dX6_feed_14 : decode cX6_feed 14 = .ok (.ireturn, 1) := by decide +kernel
theorem dX6_feed_15 : decode cX6_feed 15 = .ok (.aload_n 0, 1) := by decide +kernel
theorem dX6_feed_16 : decode cX6_feed 16 = .ok (.getfield 29, 3) := by decide +kernel
theorem dX6_feed_19 : decode cX6_feed 19 = .ok (.getfield 214, 3) := by decide +kernel
theorem dX6_feed_22 : decode cX6_feed 22 = .ok (.iload_n 2, 1) := by decide +kernel
theorem dX6_feed_23 : decode cX6_feed 23 = .ok (.iadd, 1) := by decide +kernel
theorem dX6_feed_24 : decode cX6_feed 24 = .ok (.bipush 120, 2) := by decide +kernel
theorem dX6_feed_26 : decode cX6_feed 26 = .ok (.if_icmp .le 9, 3) := by decide +kernel
theorem dX6_feed_29 : decode cX6_feed 29 = .ok (.aload_n 0, 1) := by decide +kernel
theorem dX6_feed_30 : decode cX6_feed 30 = .ok (.iconst 1, 1) := by decide +kernel
theorem dX6_feed_31 : decode cX6_feed 31 = .ok (.invokevirtual 57, 3) := by decide +kernel
theorem dX6_feed_34 : decode cX6_feed 34 = .ok (.ireturn, 1) := by decide +kernel
theorem dX6_feed_35 : decode cX6_feed 35 = .ok (.iload_n 2, 1) := by decide +kernel
theorem dX6_feed_36 : decode cX6_feed 36 = .ok (.iconst 1, 1) := by decide +kernel
theorem dX6_feed_37 : decode cX6_feed 37 = .ok (.isub, 1) := by decide +kernel
theorem dX6_feed_38 : decode cX6_feed 38 = .ok (.istore_n 3, 1) := by decide +kernel
theorem dX6_feed_39 : decode cX6_feed 39 = .ok (.iload_n 3, 1) := by decide +kernel
theorem dX6_feed_40 : decode cX6_feed 40 = .ok (.ifCond .lt 26, 3) := by decide +kernel
theorem dX6_feed_43 : decode cX6_feed 43 = .ok (.aload_n 0, 1) := by decide +kernel
theorem dX6_feed_44 : decode cX6_feed 44 = .ok (.getfield 29, 3) := by decide +kernel
theorem dX6_feed_47 : decode cX6_feed 47 = .ok (.iload_n 1, 1) := by decide +kernel
theorem dX6_feed_48 : decode cX6_feed 48 = .ok (.bipush 8, 2) := by decide +kernel
theorem dX6_feed_50 : decode cX6_feed 50 = .ok (.iload_n 3, 1) := by decide +kernel
theorem dX6_feed_51 : decode cX6_feed 51 = .ok (.imul, 1) := by decide +kernel
theorem dX6_feed_52 : decode cX6_feed 52 = .ok (.iushr, 1) := by decide +kernel
theorem dX6_feed_53 : decode cX6_feed 53 = .ok (.sipush 255, 3) := by decide +kernel
theorem dX6_feed_56 : decode cX6_feed 56 = .ok (.iand, 1) := by decide +kernel
theorem dX6_feed_57 : decode cX6_feed 57 = .ok (.invokevirtual 215, 3) := by decide +kernel
theorem dX6_feed_60 : decode cX6_feed 60 = .ok (.iinc 3 (-1), 3) := by decide +kernel
theorem dX6_feed_63 : decode cX6_feed 63 = .ok (.goto (-24), 3) := by decide +kernel
theorem dX6_feed_66 : decode cX6_feed 66 = .ok (.aload_n 0, 1) := by decide +kernel
theorem dX6_feed_67 : decode cX6_feed 67 = .ok (.getfield 29, 3) := by decide +kernel
theorem dX6_feed_70 : decode cX6_feed 70 = .ok (.getfield 214, 3) := by decide +kernel
theorem dX6_feed_73 : decode cX6_feed 73 = .ok (.ireturn, 1) := by decide +kernel
theorem dX6_wipe_0 : decode cX6_wipe 0 = .ok (.aload_n 0, 1) := by decide +kernel
theorem dX6_wipe_1 : decode cX6_wipe 1 = .ok (.getfield 29, 3) := by decide +kernel
theorem dX6_wipe_4 : decode cX6_wipe 4 = .ok (.getfield 214, 3) := by decide +kernel
theorem dX6_wipe_7 : decode cX6_wipe 7 = .ok (.istore_n 1, 1) := by decide +kernel
theorem dX6_wipe_8 : decode cX6_wipe 8 = .ok (.aload_n 0, 1) := by decide +kernel
theorem dX6_wipe_9 : decode cX6_wipe 9 = .ok (.getfield 29, 3) := by decide +kernel
theorem dX6_wipe_12 : decode cX6_wipe 12 = .ok (.iconst 0, 1) := by decide +kernel
theorem dX6_wipe_13 : decode cX6_wipe 13 = .ok (.putfield 214, 3) := by decide +kernel
theorem dX6_wipe_16 : decode cX6_wipe 16 = .ok (.iload_n 1, 1) := by decide +kernel
theorem dX6_wipe_17 : decode cX6_wipe 17 = .ok (.ireturn, 1) := by decide +kernel
theorem dX6_text_0 : decode cX6_text 0 = .ok (.aload_n 0, 1) := by decide +kernel
theorem dX6_text_1 : decode cX6_text 1 = .ok (.getfield 19, 3) := by decide +kernel
theorem dX6_text_4 : decode cX6_text 4 = .ok (.aload_n 0, 1) := by decide +kernel
theorem dX6_text_5 : decode cX6_text 5 = .ok (.getfield 10, 3) := by decide +kernel
theorem dX6_text_8 : decode cX6_text 8 = .ok (.invokevirtual 166, 3) := by decide +kernel
theorem dX6_text_11 : decode cX6_text 11 = .ok (.aload_n 0, 1) := by decide +kernel
theorem dX6_text_12 : decode cX6_text 12 = .ok (.getfield 38, 3) := by decide +kernel
theorem dX6_text_15 : decode cX6_text 15 = .ok (.aload_n 0, 1) := by decide +kernel
theorem dX6_text_16 : decode cX6_text 16 = .ok (.getfield 19, 3) := by decide +kernel
theorem dX6_text_19 : decode cX6_text 19 = .ok (.invokevirtual 218, 3) := by decide +kernel
theorem dX6_text_22 : decode cX6_text 22 = .ok (.istore_n 1, 1) := by decide +kernel
theorem dX6_text_23 : decode cX6_text 23 = .ok (.iload_n 1, 1) := by decide +kernel
theorem dX6_text_24 : decode cX6_text 24 = .ok (.ifCond .lt 14, 3) := by decide +kernel
theorem dX6_text_27 : decode cX6_text 27 = .ok (.aload_n 0, 1) := by decide +kernel
theorem dX6_text_28 : decode cX6_text 28 = .ok (.getfield 10, 3) := by decide +kernel
theorem dX6_text_31 : decode cX6_text 31 = .ok (.aload_n 0, 1) := by decide +kernel
theorem dX6_text_32 : decode cX6_text 32 = .ok (.getfield 19, 3) := by decide +kernel
theorem dX6_text_35 : decode cX6_text 35 = .ok (.invokevirtual 166, 3) := by decide +kernel
theorem dX6_text_38 : decode cX6_text 38 = .ok (.aload_n 0, 1) := by decide +kernel
theorem dX6_text_39 : decode cX6_text 39 = .ok (.getfield 29, 3) := by decide +kernel
theorem dX6_text_42 : decode cX6_text 42 = .ok (.iconst 0, 1) := by decide +kernel
theorem dX6_text_43 : decode cX6_text 43 = .ok (.putfield 214, 3) := by decide +kernel
theorem dX6_text_46 : decode cX6_text 46 = .ok (.iload_n 1, 1) := by decide +kernel
theorem dX6_text_47 : decode cX6_text 47 = .ok (.ireturn, 1) := by decide +kernel
theorem dX6_hold_0 : decode cX6_hold 0 = .ok (.iload_n 1, 1) := by decide +kernel
theorem dX6_hold_1 : decode cX6_hold 1 = .ok (.iconst 0, 1) := by decide +kernel
theorem dX6_hold_2 : decode cX6_hold 2 = .ok (.bipush 9, 2) := by decide +kernel
theorem dX6_hold_4 : decode cX6_hold 4 = .ok (.invokestatic 53, 3) := by decide +kernel
theorem dX6_hold_7 : decode cX6_hold 7 = .ok (.ifCond .eq 16, 3) := by decide +kernel
theorem dX6_hold_10 : decode cX6_hold 10 = .ok (.iload_n 2, 1) := by decide +kernel
theorem dX6_hold_11 : decode cX6_hold 11 = .ok (.iconst (-1), 1) := by decide +kernel
theorem dX6_hold_12 : decode cX6_hold 12 = .ok (.if_icmp .eq 17, 3) := by decide +kernel
theorem dX6_hold_15 : decode cX6_hold 15 = .ok (.aload_n 0, 1) := by decide +kernel

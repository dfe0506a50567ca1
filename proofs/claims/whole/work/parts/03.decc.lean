theorem dX6_hold_16 : decode cX6_hold 16 = .ok (.iload_n 2, 1) := by decide +kernel
theorem dX6_hold_17 : decode cX6_hold 17 = .ok (.invokevirtual 69, 3) := by decide +kernel
theorem dX6_hold_20 : decode cX6_hold 20 = .ok (.ifCond .ne 9, 3) := by decide +kernel
theorem dX6_hold_23 : decode cX6_hold 23 = .ok (.aload_n 0, 1) := by decide +kernel
theorem dX6_hold_24 : decode cX6_hold 24 = .ok (.iconst 0, 1) := by decide +kernel
theorem dX6_hold_25 : decode cX6_hold 25 = .ok (.invokevirtual 57, 3) := by decide +kernel
theorem dX6_hold_28 : decode cX6_hold 28 = .ok (.ireturn, 1) := by decide +kernel
theorem dX6_hold_29 : decode cX6_hold 29 = .ok (.aload_n 0, 1) := by decide +kernel
theorem dX6_hold_30 : decode cX6_hold 30 = .ok (.getfield 10, 3) := by decide +kernel
theorem dX6_hold_33 : decode cX6_hold 33 = .ok (.getfield 222, 3) := by decide +kernel
theorem dX6_hold_36 : decode cX6_hold 36 = .ok (.iload_n 1, 1) := by decide +kernel
theorem dX6_hold_37 : decode cX6_hold 37 = .ok (.iload_n 2, 1) := by decide +kernel
theorem dX6_hold_38 : decode cX6_hold 38 = .ok (.iastore, 1) := by decide +kernel
theorem dX6_hold_39 : decode cX6_hold 39 = .ok (.iconst 1, 1) := by decide +kernel
theorem dX6_hold_40 : decode cX6_hold 40 = .ok (.ireturn, 1) := by decide +kernel
theorem dX6_as_0 : decode cX6_as 0 = .ok (.iload_n 1, 1) := by decide +kernel
theorem dX6_as_1 : decode cX6_as 1 = .ok (.iconst 0, 1) := by decide +kernel
theorem dX6_as_2 : decode cX6_as 2 = .ok (.bipush 9, 2) := by decide +kernel
theorem dX6_as_4 : decode cX6_as 4 = .ok (.invokestatic 53, 3) := by decide +kernel
theorem dX6_as_7 : decode cX6_as 7 = .ok (.ifCond .eq 13, 3) := by decide +kernel
theorem dX6_as_10 : decode cX6_as 10 = .ok (.iload_n 2, 1) := by decide +kernel
theorem dX6_as_11 : decode cX6_as 11 = .ok (.iconst 0, 1) := by decide +kernel
theorem dX6_as_12 : decode cX6_as 12 = .ok (.bipush 6, 2) := by decide +kernel
theorem dX6_as_14 : decode cX6_as 14 = .ok (.invokestatic 53, 3) := by decide +kernel
theorem dX6_as_17 : decode cX6_as 17 = .ok (.ifCond .ne 9, 3) := by decide +kernel
theorem dX6_as_20 : decode cX6_as 20 = .ok (.aload_n 0, 1) := by decide +kernel
theorem dX6_as_21 : decode cX6_as 21 = .ok (.iconst 0, 1) := by decide +kernel
theorem dX6_as_22 : decode cX6_as 22 = .ok (.invokevirtual 57, 3) := by decide +kernel
theorem dX6_as_25 : decode cX6_as 25 = .ok (.ireturn, 1) := by decide +kernel
theorem dX6_as_26 : decode cX6_as 26 = .ok (.aload_n 0, 1) := by decide +kernel
theorem dX6_as_27 : decode cX6_as 27 = .ok (.getfield 10, 3) := by decide +kernel
theorem dX6_as_30 : decode cX6_as 30 = .ok (.getfield 222, 3) := by decide +kernel
theorem dX6_as_33 : decode cX6_as 33 = .ok (.iload_n 1, 1) := by decide +kernel
theorem dX6_as_34 : decode cX6_as 34 = .ok (.iaload, 1) := by decide +kernel
theorem dX6_as_35 : decode cX6_as 35 = .ok (.istore_n 3, 1) := by decide +kernel
theorem dX6_as_36 : decode cX6_as 36 = .ok (.aload_n 0, 1) := by decide +kernel
theorem dX6_as_37 : decode cX6_as 37 = .ok (.iload_n 3, 1) := by decide +kernel
theorem dX6_as_38 : decode cX6_as 38 = .ok (.invokevirtual 69, 3) := by decide +kernel
theorem dX6_as_41 : decode cX6_as 41 = .ok (.ifCond .ne 9, 3) := by decide +kernel
theorem dX6_as_44 : decode cX6_as 44 = .ok (.aload_n 0, 1) := by decide +kernel
theorem dX6_as_45 : decode cX6_as 45 = .ok (.iconst 5, 1) := by decide +kernel
theorem dX6_as_46 : decode cX6_as 46 = .ok (.invokevirtual 57, 3) := by decide +kernel
theorem dX6_as_49 : decode cX6_as 49 = .ok (.ireturn, 1) := by decide +kernel
theorem dX6_as_50 : decode cX6_as 50 = .ok (.aload_n 0, 1) := by decide +kernel
theorem dX6_as_51 : decode cX6_as 51 = .ok (.getfield 10, 3) := by decide +kernel
theorem dX6_as_54 : decode cX6_as 54 = .ok (.getfield 73, 3) := by decide +kernel
theorem dX6_as_57 : decode cX6_as 57 = .ok (.iload_n 3, 1) := by decide +kernel
theorem dX6_as_58 : decode cX6_as 58 = .ok (.aaload, 1) := by decide +kernel
theorem dX6_as_59 : decode cX6_as 59 = .ok (.getfield 186, 3) := by decide +kernel
theorem dX6_as_62 : decode cX6_as 62 = .ok (.iload_n 2, 1) := by decide +kernel
theorem dX6_as_63 : decode cX6_as 63 = .ok (.invokestatic 225, 3) := by decide +kernel
theorem dX6_as_66 : decode cX6_as 66 = .ok (.ifCond .eq 7, 3) := by decide +kernel
theorem dX6_as_69 : decode cX6_as 69 = .ok (.iload_n 3, 1) := by decide +kernel
theorem dX6_as_70 : decode cX6_as 70 = .ok (.goto 8, 3) := by decide +kernel
theorem dX6_as_73 : decode cX6_as 73 = .ok (.aload_n 0, 1) := by decide +kernel
theorem dX6_as_74 : decode cX6_as 74 = .ok (.iconst 2, 1) := by decide +kernel
theorem dX6_as_75 : decode cX6_as 75 = .ok (.invokevirtual 57, 3) := by decide +kernel
theorem dX6_as_78 : decode cX6_as 78 = .ok (.ireturn, 1) := by decide +kernel
theorem dX6_sheet_0 : decode cX6_sheet 0 = .ok (.iload_n 1, 1) := by decide +kernel
theorem dX6_sheet_1 : decode cX6_sheet 1 = .ok (.invokestatic 228, 3) := by decide +kernel
theorem dX6_sheet_4 : decode cX6_sheet 4 = .ok (.ifCond .eq 25, 3) := by decide +kernel
theorem dX6_sheet_7 : decode cX6_sheet 7 = .ok (.iload_n 2, 1) := by decide +kernel
theorem dX6_sheet_8 : decode cX6_sheet 8 = .ok (.ifCond .eq 27, 3) := by decide +kernel
theorem dX6_sheet_11 : decode cX6_sheet 11 = .ok (.iload_n 2, 1) := by decide +kernel
theorem dX6_sheet_12 : decode cX6_sheet 12 = .ok (.bipush 8, 2) := by decide +kernel
theorem dX6_sheet_14 : decode cX6_sheet 14 = .ok (.if_icmp .eq 21, 3) := by decide +kernel
theorem dX6_sheet_17 : decode cX6_sheet 17 = .ok (.iload_n 2, 1) := by decide +kernel
theorem dX6_sheet_18 : decode cX6_sheet 18 = .ok (.bipush 16, 2) := by decide +kernel
theorem dX6_sheet_20 : decode cX6_sheet 20 = .ok (.if_icmp .eq 15, 3) := by decide +kernel
theorem dX6_sheet_23 : decode cX6_sheet 23 = .ok (.iload_n 2, 1) := by decide +kernel
theorem dX6_sheet_24 : decode cX6_sheet 24 = .ok (.bipush 32, 2) := by decide +kernel
theorem dX6_sheet_26 : decode cX6_sheet 26 = .ok (.if_icmp .eq 9, 3) := by decide +kernel
theorem dX6_sheet_29 : decode cX6_sheet 29 = .ok (.aload_n 0, 1) := by decide +kernel
theorem dX6_sheet_30 : decode cX6_sheet 30 = .ok (.iconst 0, 1) := by decide +kernel
theorem dX6_sheet_31 : decode cX6_sheet 31 = .ok (.invokevirtual 57, 3) := by decide +kernel
theorem dX6_sheet_34 : decode cX6_sheet 34 = .ok (.ireturn, 1) := by decide +kernel
theorem dX6_sheet_35 : decode cX6_sheet 35 = .ok (.iload_n 3, 1) := by decide +kernel
theorem dX6_sheet_36 : decode cX6_sheet 36 = .ok (.ifCond .ge 10, 3) := by decide +kernel
theorem dX6_sheet_39 : decode cX6_sheet 39 = .ok (.aload_n 0, 1) := by decide +kernel
theorem dX6_sheet_40 : decode cX6_sheet 40 = .ok (.bipush 6, 2) := by decide +kernel
theorem dX6_sheet_42 : decode cX6_sheet 42 = .ok (.invokevirtual 57, 3) := by decide +kernel
theorem dX6_sheet_45 : decode cX6_sheet 45 = .ok (.ireturn, 1) := by decide +kernel
theorem dX6_sheet_46 : decode cX6_sheet 46 = .ok (.iload_n 3, 1) := by decide +kernel
theorem dX6_sheet_47 : decode cX6_sheet 47 = .ok (.bipush 40, 2) := by decide +kernel
theorem dX6_sheet_49 : decode cX6_sheet 49 = .ok (.if_icmp .le 9, 3) := by decide +kernel
theorem dX6_sheet_52 : decode cX6_sheet 52 = .ok (.aload_n 0, 1) := by decide +kernel
theorem dX6_sheet_53 : decode cX6_sheet 53 = .ok (.iconst 0, 1) := by decide +kernel
theorem dX6_sheet_54 : decode cX6_sheet 54 = .ok (.invokevirtual 57, 3) := by decide +kernel
theorem dX6_sheet_57 : decode cX6_sheet 57 = .ok (.ireturn, 1) := by decide +kernel
theorem dX6_sheet_58 : decode cX6_sheet 58 = .ok (.aload_n 0, 1) := by decide +kernel
theorem dX6_sheet_59 : decode cX6_sheet 59 = .ok (.getfield 44, 3) := by decide +kernel
theorem dX6_sheet_62 : decode cX6_sheet 62 = .ok (.iload_n 1, 1) := by decide +kernel
theorem dX6_sheet_63 : decode cX6_sheet 63 = .ok (.aaload, 1) := by decide +kernel
theorem dX6_sheet_64 : decode cX6_sheet 64 = .ok (.iload_n 2, 1) := by decide +kernel
theorem dX6_sheet_65 : decode cX6_sheet 65 = .ok (.iload_n 2, 1) := by decide +kernel
theorem dX6_sheet_66 : decode cX6_sheet 66 = .ok (.ifCond .ne 7, 3) := by decide +kernel
theorem dX6_sheet_69 : decode cX6_sheet 69 = .ok (.iconst 0, 1) := by decide +kernel
theorem dX6_sheet_70 : decode cX6_sheet 70 = .ok (.goto 4, 3) := by decide +kernel
theorem dX6_sheet_73 : decode cX6_sheet 73 = .ok (.iload_n 3, 1) := by decide +kernel
theorem dX6_sheet_74 : decode cX6_sheet 74 = .ok (.invokevirtual 231, 3) := by decide +kernel
theorem dX6_sheet_77 : decode cX6_sheet 77 = .ok (.aload_n 0, 1) := by decide +kernel
theorem dX6_sheet_78 : decode cX6_sheet 78 = .ok (.getfield 44, 3) := by decide +kernel
theorem dX6_sheet_81 : decode cX6_sheet 81 = .ok (.iload_n 1, 1) := by decide +kernel
theorem dX6_sheet_82 : decode cX6_sheet 82 = .ok (.aaload, 1) := by decide +kernel
theorem dX6_sheet_83 : decode cX6_sheet 83 = .ok (.getfield 234, 3) := by decide +kernel
theorem dX6_sheet_86 : decode cX6_sheet 86 = .ok (.ireturn, 1) := by decide +kernel
theorem dX6_write_0 : decode cX6_write 0 = .ok (.iload_n 1, 1) := by decide +kernel
theorem dX6_write_1 : decode cX6_write 1 = .ok (.invokestatic 228, 3) := by decide +kernel
theorem dX6_write_4 : decode cX6_write 4 = .ok (.ifCond .ne 9, 3) := by decide +kernel
theorem dX6_write_7 : decode cX6_write 7 = .ok (.aload_n 0, 1) := by decide +kernel
theorem dX6_write_8 : decode cX6_write 8 = .ok (.iconst 0, 1) := by decide +kernel
theorem dX6_write_9 : decode cX6_write 9 = .ok (.invokevirtual 57, 3) := by decide +kernel
theorem dX6_write_12 : decode cX6_write 12 = .ok (.ireturn, 1) := by decide +kernel
theorem dX6_write_13 : decode cX6_write 13 = .ok (.aload_n 0, 1) := by decide +kernel
theorem dX6_write_14 : decode cX6_write 14 = .ok (.getfield 44, 3) := by decide +kernel
theorem dX6_write_17 : decode cX6_write 17 = .ok (.iload_n 1, 1) := by decide +kernel
theorem dX6_write_18 : decode cX6_write 18 = .ok (.aaload, 1) := by decide +kernel
theorem dX6_write_19 : decode cX6_write 19 = .ok (.invokevirtual 235, 3) := by decide +kernel
theorem dX6_write_22 : decode cX6_write 22 = .ok (.ifCond .eq 9, 3) := by decide +kernel
theorem dX6_write_25 : decode cX6_write 25 = .ok (.aload_n 0, 1) := by decide +kernel
theorem dX6_write_26 : decode cX6_write 26 = .ok (.iconst 5, 1) := by decide +kernel
theorem dX6_write_27 : decode cX6_write 27 = .ok (.invokevirtual 57, 3) := by decide +kernel
theorem dX6_write_30 : decode cX6_write 30 = .ok (.ireturn, 1) := by decide +kernel
theorem dX6_write_31 : decode cX6_write 31 = .ok (.iload_n 2, 1) := by decide +kernel
theorem dX6_write_32 : decode cX6_write 32 = .ok (.iconst 0, 1) := by decide +kernel
theorem dX6_write_33 : decode cX6_write 33 = .ok (.aload_n 0, 1) := by decide +kernel
theorem dX6_write_34 : decode cX6_write 34 = .ok (.getfield 44, 3) := by decide +kernel
theorem dX6_write_37 : decode cX6_write 37 = .ok (.iload_n 1, 1) := by decide +kernel
theorem dX6_write_38 : decode cX6_write 38 = .ok (.aaload, 1) := by decide +kernel
theorem dX6_write_39 : decode cX6_write 39 = .ok (.getfield 234, 3) := by decide +kernel
theorem dX6_write_42 : decode cX6_write 42 = .ok (.iconst 1, 1) := by decide +kernel
theorem dX6_write_43 : decode cX6_write 43 = .ok (.isub, 1) := by decide +kernel
theorem dX6_write_44 : decode cX6_write 44 = .ok (.invokestatic 53, 3) := by decide +kernel
theorem dX6_write_47 : decode cX6_write 47 = .ok (.ifCond .ne 9, 3) := by decide +kernel
theorem dX6_write_50 : decode cX6_write 50 = .ok (.aload_n 0, 1) := by decide +kernel
theorem dX6_write_51 : decode cX6_write 51 = .ok (.iconst 0, 1) := by decide +kernel
theorem dX6_write_52 : decode cX6_write 52 = .ok (.invokevirtual 57, 3) := by decide +kernel
theorem dX6_write_55 : decode cX6_write 55 = .ok (.ireturn, 1) := by decide +kernel
theorem dX6_write_56 : decode cX6_write 56 = .ok (.aload_n 0, 1) := by decide +kernel
theorem dX6_write_57 : decode cX6_write 57 = .ok (.getfield 44, 3) := by decide +kernel
theorem dX6_write_60 : decode cX6_write 60 = .ok (.iload_n 1, 1) := by decide +kernel
theorem dX6_write_61 : decode cX6_write 61 = .ok (.aaload, 1) := by decide +kernel
theorem dX6_write_62 : decode cX6_write 62 = .ok (.iload_n 2, 1) := by decide +kernel
theorem dX6_write_63 : decode cX6_write 63 = .ok (.iload_n 3, 1) := by decide +kernel
theorem dX6_write_64 : decode cX6_write 64 = .ok (.invokevirtual 239, 3) := by decide +kernel
theorem dX6_write_67 : decode cX6_write 67 = .ok (.iconst 1, 1) := by decide +kernel
theorem dX6_write_68 : decode cX6_write 68 = .ok (.ireturn, 1) := by decide +kernel
theorem dX6_copy_0 : decode cX6_copy 0 = .ok (.iload_n 1, 1) := by decide +kernel
theorem dX6_copy_1 : decode cX6_copy 1 = .ok (.invokestatic 228, 3) := by decide +kernel
theorem dX6_copy_4 : decode cX6_copy 4 = .ok (.ifCond .eq 10, 3) := by decide +kernel
theorem dX6_copy_7 : decode cX6_copy 7 = .ok (.iload_n 3, 1) := by decide +kernel
theorem dX6_copy_8 : decode cX6_copy 8 = .ok (.invokestatic 228, 3) := by decide +kernel
theorem dX6_copy_11 : decode cX6_copy 11 = .ok (.ifCond .ne 9, 3) := by decide +kernel
theorem dX6_copy_14 : decode cX6_copy 14 = .ok (.aload_n 0, 1) := by decide +kernel
theorem dX6_copy_15 : decode cX6_copy 15 = .ok (.iconst 0, 1) := by decide +kernel
theorem dX6_copy_16 : decode cX6_copy 16 = .ok (.invokevirtual 57, 3) := by decide +kernel
theorem dX6_copy_19 : decode cX6_copy 19 = .ok (.ireturn, 1) := by decide +kernel
theorem dX6_copy_20 : decode cX6_copy 20 = .ok (.aload_n 0, 1) := by decide +kernel
theorem dX6_copy_21 : decode cX6_copy 21 = .ok (.getfield 44, 3) := by decide +kernel
theorem dX6_copy_24 : decode cX6_copy 24 = .ok (.iload_n 1, 1) := by decide +kernel
theorem dX6_copy_25 : decode cX6_copy 25 = .ok (.aaload, 1) := by decide +kernel
theorem dX6_copy_26 : decode cX6_copy 26 = .ok (.astore 6, 2) := by decide +kernel
theorem dX6_copy_28 : decode cX6_copy 28 = .ok (.aload_n 0, 1) := by decide +kernel
theorem dX6_copy_29 : decode cX6_copy 29 = .ok (.getfield 44, 3) := by decide +kernel
theorem dX6_copy_32 : decode cX6_copy 32 = .ok (.iload_n 3, 1) := by decide +kernel
theorem dX6_copy_33 : decode cX6_copy 33 = .ok (.aaload, 1) := by decide +kernel
theorem dX6_copy_34 : decode cX6_copy 34 = .ok (.astore 7, 2) := by decide +kernel
theorem dX6_copy_36 : decode cX6_copy 36 = .ok (.aload 6, 2) := by decide +kernel
theorem dX6_copy_38 : decode cX6_copy 38 = .ok (.invokevirtual 235, 3) := by decide +kernel
theorem dX6_copy_41 : decode cX6_copy 41 = .ok (.ifCond .ne 11, 3) := by decide +kernel
theorem dX6_copy_44 : decode cX6_copy 44 = .ok (.aload 7, 2) := by decide +kernel
theorem dX6_copy_46 : decode cX6_copy 46 = .ok (.invokevirtual 235, 3) := by decide +kernel
theorem dX6_copy_49 : decode cX6_copy 49 = .ok (.ifCond .eq 9, 3) := by decide +kernel
theorem dX6_copy_52 : decode cX6_copy 52 = .ok (.aload_n 0, 1) := by decide +kernel
theorem dX6_copy_53 : decode cX6_copy 53 = .ok (.iconst 5, 1) := by decide +kernel
theorem dX6_copy_54 : decode cX6_copy 54 = .ok (.invokevirtual 57, 3) := by decide +kernel
theorem dX6_copy_57 : decode cX6_copy 57 = .ok (.ireturn, 1) := by decide +kernel
theorem dX6_copy_58 : decode cX6_copy 58 = .ok (.aload 6, 2) := by decide +kernel
theorem dX6_copy_60 : decode cX6_copy 60 = .ok (.getfield 241, 3) := by decide +kernel
theorem dX6_copy_63 : decode cX6_copy 63 = .ok (.aload 7, 2) := by decide +kernel
theorem dX6_copy_65 : decode cX6_copy 65 = .ok (.getfield 241, 3) := by decide +kernel
theorem dX6_copy_68 : decode cX6_copy 68 = .ok (.if_icmp .eq 9, 3) := by decide +kernel
theorem dX6_copy_71 : decode cX6_copy 71 = .ok (.aload_n 0, 1) := by decide +kernel
theorem dX6_copy_72 : decode cX6_copy 72 = .ok (.iconst 2, 1) := by decide +kernel
theorem dX6_copy_73 : decode cX6_copy 73 = .ok (.invokevirtual 57, 3) := by decide +kernel
theorem dX6_copy_76 : decode cX6_copy 76 = .ok (.ireturn, 1) := by decide +kernel
theorem dX6_copy_77 : decode cX6_copy 77 = .ok (.aload 6, 2) := by decide +kernel
theorem dX6_copy_79 : decode cX6_copy 79 = .ok (.iload_n 2, 1) := by decide +kernel
theorem dX6_copy_80 : decode cX6_copy 80 = .ok (.iload 5, 2) := by decide +kernel
theorem dX6_copy_82 : decode cX6_copy 82 = .ok (.invokevirtual 244, 3) := by decide +kernel
theorem dX6_copy_85 : decode cX6_copy 85 = .ok (.ifCond .eq 15, 3) := by decide +kernel
theorem dX6_copy_88 : decode cX6_copy 88 = .ok (.aload 7, 2) := by decide +kernel
theorem dX6_copy_90 : decode cX6_copy 90 = .ok (.iload 4, 2) := by decide +kernel
theorem dX6_copy_92 : decode cX6_copy 92 = .ok (.iload 5, 2) := by decide +kernel
theorem dX6_copy_94 : decode cX6_copy 94 = .ok (.invokevirtual 244, 3) := by decide +kernel
theorem dX6_copy_97 : decode cX6_copy 97 = .ok (.ifCond .ne 9, 3) := by decide +kernel
theorem dX6_copy_100 : decode cX6_copy 100 = .ok (.aload_n 0, 1) := by decide +kernel
theorem dX6_copy_101 : decode cX6_copy 101 = .ok (.iconst 0, 1) := by decide +kernel
theorem dX6_copy_102 : decode cX6_copy 102 = .ok (.invokevirtual 57, 3) := by decide +kernel
theorem dX6_copy_105 : decode cX6_copy 105 = .ok (.ireturn, 1) := by decide +kernel
theorem dX6_copy_106 : decode cX6_copy 106 = .ok (.aload 6, 2) := by decide +kernel
theorem dX6_copy_108 : decode cX6_copy 108 = .ok (.getfield 247, 3) := by decide +kernel
theorem dX6_copy_111 : decode cX6_copy 111 = .ok (.iload_n 2, 1) := by decide +kernel
theorem dX6_copy_112 : decode cX6_copy 112 = .ok (.aload 7, 2) := by decide +kernel
theorem dX6_copy_114 : decode cX6_copy 114 = .ok (.getfield 247, 3) := by decide +kernel
theorem dX6_copy_117 : decode cX6_copy 117 = .ok (.iload 4, 2) := by decide +kernel
theorem dX6_copy_119 : decode cX6_copy 119 = .ok (.iload 5, 2) := by decide +kernel
theorem dX6_copy_121 : decode cX6_copy 121 = .ok (.invokestatic 250, 3) := by decide +kernel
theorem dX6_copy_124 : decode cX6_copy 124 = .ok (.iload 5, 2) := by decide +kernel
theorem dX6_copy_126 : decode cX6_copy 126 = .ok (.ireturn, 1) := by decide +kernel
theorem dX6_load_0 : decode cX6_load 0 = .ok (.iload_n 1, 1) := by decide +kernel
theorem dX6_load_1 : decode cX6_load 1 = .ok (.invokestatic 228, 3) := by decide +kernel
theorem dX6_load_4 : decode cX6_load 4 = .ok (.ifCond .ne 9, 3) := by decide +kernel
theorem dX6_load_7 : decode cX6_load 7 = .ok (.aload_n 0, 1) := by decide +kernel
theorem dX6_load_8 : decode cX6_load 8 = .ok (.iconst 0, 1) := by decide +kernel
theorem dX6_load_9 : decode cX6_load 9 = .ok (.invokevirtual 57, 3) := by decide +kernel
theorem dX6_load_12 : decode cX6_load 12 = .ok (.ireturn, 1) := by decide +kernel
theorem dX6_load_13 : decode cX6_load 13 = .ok (.aload_n 0, 1) := by decide +kernel
theorem dX6_load_14 : decode cX6_load 14 = .ok (.getfield 44, 3) := by decide +kernel
theorem dX6_load_17 : decode cX6_load 17 = .ok (.iload_n 1, 1) := by decide +kernel
theorem dX6_load_18 : decode cX6_load 18 = .ok (.aaload, 1) := by decide +kernel
theorem dX6_load_19 : decode cX6_load 19 = .ok (.astore_n 2, 1) := by decide +kernel
theorem dX6_load_20 : decode cX6_load 20 = .ok (.aload_n 2, 1) := by decide +kernel
theorem dX6_load_21 : decode cX6_load 21 = .ok (.invokevirtual 235, 3) := by decide +kernel
theorem dX6_load_24 : decode cX6_load 24 = .ok (.ifCond .eq 9, 3) := by decide +kernel
theorem dX6_load_27 : decode cX6_load 27 = .ok (.aload_n 0, 1) := by decide +kernel
theorem dX6_load_28 : decode cX6_load 28 = .ok (.iconst 5, 1) := by decide +kernel
theorem dX6_load_29 : decode cX6_load 29 = .ok (.invokevirtual 57, 3) := by decide +kernel
theorem dX6_load_32 : decode cX6_load 32 = .ok (.ireturn, 1) := by decide +kernel
theorem dX6_load_33 : decode cX6_load 33 = .ok (.aload_n 2, 1) := by decide +kernel
theorem dX6_load_34 : decode cX6_load 34 = .ok (.getfield 234, 3) := by decide +kernel
theorem dX6_load_37 : decode cX6_load 37 = .ok (.aload_n 0, 1) := by decide +kernel
theorem dX6_load_38 : decode cX6_load 38 = .ok (.getfield 10, 3) := by decide +kernel
theorem dX6_load_41 : decode cX6_load 41 = .ok (.getfield 61, 3) := by decide +kernel
theorem dX6_load_44 : decode cX6_load 44 = .ok (.invokestatic 102, 3) := by decide +kernel
theorem dX6_load_47 : decode cX6_load 47 = .ok (.istore_n 3, 1) := by decide +kernel
theorem dX6_load_48 : decode cX6_load 48 = .ok (.iconst 0, 1) := by decide +kernel
theorem dX6_load_49 : decode cX6_load 49 = .ok (.istore 4, 2) := by decide +kernel
theorem dX6_load_51 : decode cX6_load 51 = .ok (.iload 4, 2) := by decide +kernel
theorem dX6_load_53 : decode cX6_load 53 = .ok (.iload_n 3, 1) := by decide +kernel
theorem dX6_load_54 : decode cX6_load 54 = .ok (.if_icmp .ge 46, 3) := by decide +kernel
theorem dX6_load_57 : decode cX6_load 57 = .ok (.aload_n 2, 1) := by decide +kernel
theorem dX6_load_58 : decode cX6_load 58 = .ok (.getfield 247, 3) := by decide +kernel
theorem dX6_load_61 : decode cX6_load 61 = .ok (.iload 4, 2) := by decide +kernel
theorem dX6_load_63 : decode cX6_load 63 = .ok (.iaload, 1) := by decide +kernel
theorem dX6_load_64 : decode cX6_load 64 = .ok (.iconst 0, 1) := by decide +kernel
theorem dX6_load_65 : decode cX6_load 65 = .ok (.sipush 9999, 3) := by decide +kernel
theorem dX6_load_68 : decode cX6_load 68 = .ok (.invokestatic 53, 3) := by decide +kernel
theorem dX6_load_71 : decode cX6_load 71 = .ok (.ifCond .eq 29, 3) := by decide +kernel
theorem dX6_load_74 : decode cX6_load 74 = .ok (.aload_n 0, 1) := by decide +kernel
theorem dX6_load_75 : decode cX6_load 75 = .ok (.getfield 10, 3) := by decide +kernel
theorem dX6_load_78 : decode cX6_load 78 = .ok (.getfield 73, 3) := by decide +kernel
theorem dX6_load_81 : decode cX6_load 81 = .ok (.iload 4, 2) := by decide +kernel
theorem dX6_load_83 : decode cX6_load 83 = .ok (.aaload, 1) := by decide +kernel
theorem dX6_load_84 : decode cX6_load 84 = .ok (.aload_n 2, 1) := by decide +kernel
theorem dX6_load_85 : decode cX6_load 85 = .ok (.getfield 247, 3) := by decide +kernel
theorem dX6_load_88 : decode cX6_load 88 = .ok (.iload 4, 2) := by decide +kernel
theorem dX6_load_90 : decode cX6_load 90 = .ok (.iaload, 1) := by decide +kernel
theorem dX6_load_91 : decode cX6_load 91 = .ok (.putfield 189, 3) := by decide +kernel
theorem dX6_load_94 : decode cX6_load 94 = .ok (.iinc 4 1, 3) := by decide +kernel
theorem dX6_load_97 : decode cX6_load 97 = .ok (.goto (-46), 3) := by decide +kernel
theorem dX6_load_100 : decode cX6_load 100 = .ok (.iload 4, 2) := by decide +kernel
theorem dX6_load_102 : decode cX6_load 102 = .ok (.ireturn, 1) := by decide +kernel
theorem dX6_judge_0 : decode cX6_judge 0 = .ok (.iload_n 1, 1) := by decide +kernel
theorem dX6_judge_1 : decode cX6_judge 1 = .ok (.invokestatic 228, 3) := by decide +kernel
theorem dX6_judge_4 : decode cX6_judge 4 = .ok (.ifCond .ne 9, 3) := by decide +kernel
theorem dX6_judge_7 : decode cX6_judge 7 = .ok (.aload_n 0, 1) := by decide +kernel
theorem dX6_judge_8 : decode cX6_judge 8 = .ok (.iconst 0, 1) := by decide +kernel
theorem dX6_judge_9 : decode cX6_judge 9 = .ok (.invokevirtual 57, 3) := by decide +kernel
theorem dX6_judge_12 : decode cX6_judge 12 = .ok (.ireturn, 1) := by decide +kernel
theorem dX6_judge_13 : decode cX6_judge 13 = .ok (.aload_n 0, 1) := by decide +kernel
theorem dX6_judge_14 : decode cX6_judge 14 = .ok (.getfield 44, 3) := by decide +kernel
theorem dX6_judge_17 : decode cX6_judge 17 = .ok (.iload_n 1, 1) := by decide +kernel
theorem dX6_judge_18 : decode cX6_judge 18 = .ok (.aaload, 1) := by decide +kernel
theorem dX6_judge_19 : decode cX6_judge 19 = .ok (.astore_n 2, 1) := by decide +kernel
theorem dX6_judge_20 : decode cX6_judge 20 = .ok (.aload_n 2, 1) := by decide +kernel
theorem dX6_judge_21 : decode cX6_judge 21 = .ok (.invokevirtual 235, 3) := by decide +kernel
theorem dX6_judge_24 : decode cX6_judge 24 = .ok (.ifCond .eq 9, 3) := by decide +kernel
theorem dX6_judge_27 : decode cX6_judge 27 = .ok (.aload_n 0, 1) := by decide +kernel
theorem dX6_judge_28 : decode cX6_judge 28 = .ok (.iconst 5, 1) := by decide +kernel
theorem dX6_judge_29 : decode cX6_judge 29 = .ok (.invokevirtual 57, 3) := by decide +kernel
theorem dX6_judge_32 : decode cX6_judge 32 = .ok (.ireturn, 1) := by decide +kernel
theorem dX6_judge_33 : decode cX6_judge 33 = .ok (.aload_n 0, 1) := by decide +kernel
theorem dX6_judge_34 : decode cX6_judge 34 = .ok (.aload_n 2, 1) := by decide +kernel
theorem dX6_judge_35 : decode cX6_judge 35 = .ok (.getfield 234, 3) := by decide +kernel
theorem dX6_judge_38 : decode cX6_judge 38 = .ok (.invokevirtual 130, 3) := by decide +kernel
theorem dX6_judge_41 : decode cX6_judge 41 = .ok (.ifCond .eq 9, 3) := by decide +kernel
theorem dX6_judge_44 : decode cX6_judge 44 = .ok (.aload_n 0, 1) := by decide +kernel
theorem dX6_judge_45 : decode cX6_judge 45 = .ok (.iconst 4, 1) := by decide +kernel
theorem dX6_judge_46 : decode cX6_judge 46 = .ok (.invokevirtual 57, 3) := by decide +kernel
theorem dX6_judge_49 : decode cX6_judge 49 = .ok (.ireturn, 1) := by decide +kernel
theorem dX6_judge_50 : decode cX6_judge 50 = .ok (.aload_n 0, 1) := by decide +kernel
theorem dX6_judge_51 : decode cX6_judge 51 = .ok (.getfield 19, 3) := by decide +kernel
theorem dX6_judge_54 : decode cX6_judge 54 = .ok (.aload_n 0, 1) := by decide +kernel
theorem dX6_judge_55 : decode cX6_judge 55 = .ok (.getfield 10, 3) := by decide +kernel
theorem dX6_judge_58 : decode cX6_judge 58 = .ok (.invokevirtual 166, 3) := by decide +kernel
theorem dX6_judge_61 : decode cX6_judge 61 = .ok (.iconst 0, 1) := by decide +kernel
theorem dX6_judge_62 : decode cX6_judge 62 = .ok (.istore_n 3, 1) := by decide +kernel
theorem dX6_judge_63 : decode cX6_judge 63 = .ok (.iload_n 3, 1) := by decide +kernel
theorem dX6_judge_64 : decode cX6_judge 64 = .ok (.aload_n 2, 1) := by decide +kernel
theorem dX6_judge_65 : decode cX6_judge 65 = .ok (.getfield 234, 3) := by decide +kernel
theorem dX6_judge_68 : decode cX6_judge 68 = .ok (.if_icmp .ge 30, 3) := by decide +kernel
theorem dX6_judge_71 : decode cX6_judge 71 = .ok (.aload_n 0, 1) := by decide +kernel
theorem dX6_judge_72 : decode cX6_judge 72 = .ok (.getfield 19, 3) := by decide +kernel
theorem dX6_judge_75 : decode cX6_judge 75 = .ok (.iconst 1, 1) := by decide +kernel
theorem dX6_judge_76 : decode cX6_judge 76 = .ok (.invokevirtual 133, 3) := by decide +kernel
theorem dX6_judge_79 : decode cX6_judge 79 = .ok (.aload_n 2, 1) := by decide +kernel
theorem dX6_judge_80 : decode cX6_judge 80 = .ok (.getfield 247, 3) := by decide +kernel
theorem dX6_judge_83 : decode cX6_judge 83 = .ok (.iload_n 3, 1) := by decide +kernel
theorem dX6_judge_84 : decode cX6_judge 84 = .ok (.iaload, 1) := by decide +kernel
theorem dX6_judge_85 : decode cX6_judge 85 = .ok (.if_icmp .eq 7, 3) := by decide +kernel
theorem dX6_judge_88 : decode cX6_judge 88 = .ok (.iconst 1, 1) := by decide +kernel
theorem dX6_judge_89 : decode cX6_judge 89 = .ok (.iload_n 3, 1) := by decide +kernel
theorem dX6_judge_90 : decode cX6_judge 90 = .ok (.iadd, 1) := by decide +kernel
theorem dX6_judge_91 : decode cX6_judge 91 = .ok (.ireturn, 1) := by decide +kernel
theorem dX6_judge_92 : decode cX6_judge 92 = .ok (.iinc 3 1, 3) := by decide +kernel
theorem dX6_judge_95 : decode cX6_judge 95 = .ok (.goto (-32), 3) := by decide +kernel
theorem dX6_judge_98 : decode cX6_judge 98 = .ok (.iconst 0, 1) := by decide +kernel
theorem dX6_judge_99 : decode cX6_judge 99 = .ok (.ireturn, 1) := by decide +kernel
theorem dX6_image_0 : decode cX6_image 0 = .ok (.aload_n 0, 1) := by decide +kernel
theorem dX6_image_1 : decode cX6_image 1 = .ok (.getfield 16, 3) := by decide +kernel
theorem dX6_image_4 : decode cX6_image 4 = .ok (.aload_n 0, 1) := by decide +kernel
theorem dX6_image_5 : decode cX6_image 5 = .ok (.getfield 10, 3) := by decide +kernel
theorem dX6_image_8 : decode cX6_image 8 = .ok (.invokevirtual 256, 3) := by decide +kernel
theorem dX6_image_11 : decode cX6_image 11 = .ok (.aload_n 0, 1) := by decide +kernel
theorem dX6_image_12 : decode cX6_image 12 = .ok (.iconst 1, 1) := by decide +kernel
theorem dX6_image_13 : decode cX6_image 13 = .ok (.putfield 22, 3) := by decide +kernel
theorem dX6_image_16 : decode cX6_image 16 = .ok (.iconst 1, 1) := by decide +kernel
theorem dX6_image_17 : decode cX6_image 17 = .ok (.ireturn, 1) := by decide +kernel
theorem dX6_undo_0 : decode cX6_undo 0 = .ok (.aload_n 0, 1) := by decide +kernel
theorem dX6_undo_1 : decode cX6_undo 1 = .ok (.getfield 22, 3) := by decide +kernel
theorem dX6_undo_4 : decode cX6_undo 4 = .ok (.ifCond .ne 9, 3) := by decide +kernel
theorem dX6_undo_7 : decode cX6_undo 7 = .ok (.aload_n 0, 1) := by decide +kernel
theorem dX6_undo_8 : decode cX6_undo 8 = .ok (.iconst 3, 1) := by decide +kernel
theorem dX6_undo_9 : decode cX6_undo 9 = .ok (.invokevirtual 57, 3) := by decide +kernel
theorem dX6_undo_12 : decode cX6_undo 12 = .ok (.ireturn, 1) := by decide +kernel
theorem dX6_undo_13 : decode cX6_undo 13 = .ok (.aload_n 0, 1) := by decide +kernel
theorem dX6_undo_14 : decode cX6_undo 14 = .ok (.getfield 10, 3) := by decide +kernel
theorem dX6_undo_17 : decode cX6_undo 17 = .ok (.aload_n 0, 1) := by decide +kernel
theorem dX6_undo_18 : decode cX6_undo 18 = .ok (.getfield 16, 3) := by decide +kernel
theorem dX6_undo_21 : decode cX6_undo 21 = .ok (.invokevirtual 256, 3) := by decide +kernel
theorem dX6_undo_24 : decode cX6_undo 24 = .ok (.aload_n 0, 1) := by decide +kernel
theorem dX6_undo_25 : decode cX6_undo 25 = .ok (.getfield 10, 3) := by decide +kernel
theorem dX6_undo_28 : decode cX6_undo 28 = .ok (.getfield 111, 3) := by decide +kernel
theorem dX6_undo_31 : decode cX6_undo 31 = .ok (.ireturn, 1) := by decide +kernel
theorem dX6_tear_0 : decode cX6_tear 0 = .ok (.aload_n 0, 1) := by decide +kernel
theorem dX6_tear_1 : decode cX6_tear 1 = .ok (.getfield 22, 3) := by decide +kernel
theorem dX6_tear_4 : decode cX6_tear 4 = .ok (.ifCond .eq 7, 3) := by decide +kernel
theorem dX6_tear_7 : decode cX6_tear 7 = .ok (.iconst 1, 1) := by decide +kernel
theorem dX6_tear_8 : decode cX6_tear 8 = .ok (.goto 4, 3) := by decide +kernel
theorem dX6_tear_11 : decode cX6_tear 11 = .ok (.iconst 0, 1) := by decide +kernel
theorem dX6_tear_12 : decode cX6_tear 12 = .ok (.istore_n 1, 1) := by decide +kernel
theorem dX6_tear_13 : decode cX6_tear 13 = .ok (.aload_n 0, 1) := by decide +kernel
theorem dX6_tear_14 : decode cX6_tear 14 = .ok (.iconst 0, 1) := by decide +kernel
theorem dX6_tear_15 : decode cX6_tear 15 = .ok (.putfield 22, 3) := by decide +kernel
theorem dX6_tear_18 : decode cX6_tear 18 = .ok (.iload_n 1, 1) := by decide +kernel
theorem dX6_tear_19 : decode cX6_tear 19 = .ok (.ireturn, 1) := by decide +kernel
theorem dX6_count_0 : decode cX6_count 0 = .ok (.iload_n 1, 1) := by decide +kernel
theorem dX6_count_1 : decode cX6_count 1 = .ok (.tableswitch 114 0 7 #[47, 55, 66, 74, 82, 90, 98, 106], 47) := by decide +kernel
theorem dX6_count_48 : decode cX6_count 48 = .ok (.aload_n 0, 1) := by decide +kernel
theorem dX6_count_49 : decode cX6_count 49 = .ok (.getfield 10, 3) := by decide +kernel
theorem dX6_count_52 : decode cX6_count 52 = .ok (.getfield 61, 3) := by decide +kernel
theorem dX6_count_55 : decode cX6_count 55 = .ok (.ireturn, 1) := by decide +kernel
theorem dX6_count_56 : decode cX6_count 56 = .ok (.aload_n 0, 1) := by decide +kernel
theorem dX6_count_57 : decode cX6_count 57 = .ok (.getfield 10, 3) := by decide +kernel
theorem dX6_count_60 : decode cX6_count 60 = .ok (.getfield 136, 3) := by decide +kernel
theorem dX6_count_63 : decode cX6_count 63 = .ok (.getfield 140, 3) := by decide +kernel
theorem dX6_count_66 : decode cX6_count 66 = .ok (.ireturn, 1) := by decide +kernel
theorem dX6_count_67 : decode cX6_count 67 = .ok (.aload_n 0, 1) := by decide +kernel
theorem dX6_count_68 : decode cX6_count 68 = .ok (.getfield 10, 3) := by decide +kernel
theorem dX6_count_71 : decode cX6_count 71 = .ok (.getfield 176, 3) := by decide +kernel
theorem dX6_count_74 : decode cX6_count 74 = .ok (.ireturn, 1) := by decide +kernel
theorem dX6_count_75 : decode cX6_count 75 = .ok (.aload_n 0, 1) := by decide +kernel
theorem dX6_count_76 : decode cX6_count 76 = .ok (.getfield 10, 3) := by decide +kernel
theorem dX6_count_79 : decode cX6_count 79 = .ok (.getfield 259, 3) := by decide +kernel
theorem dX6_count_82 : decode cX6_count 82 = .ok (.ireturn, 1) := by decide +kernel
theorem dX6_count_83 : decode cX6_count 83 = .ok (.aload_n 0, 1) := by decide +kernel
theorem dX6_count_84 : decode cX6_count 84 = .ok (.getfield 10, 3) := by decide +kernel
theorem dX6_count_87 : decode cX6_count 87 = .ok (.getfield 179, 3) := by decide +kernel
theorem dX6_count_90 : decode cX6_count 90 = .ok (.ireturn, 1) := by decide +kernel
theorem dX6_count_91 : decode cX6_count 91 = .ok (.aload_n 0, 1) := by decide +kernel
theorem dX6_count_92 : decode cX6_count 92 = .ok (.getfield 29, 3) := by decide +kernel
theorem dX6_count_95 : decode cX6_count 95 = .ok (.getfield 214, 3) := by decide +kernel
theorem dX6_count_98 : decode cX6_count 98 = .ok (.ireturn, 1) := by decide +kernel
theorem dX6_count_99 : decode cX6_count 99 = .ok (.aload_n 0, 1) := by decide +kernel
theorem dX6_count_100 : decode cX6_count 100 = .ok (.getfield 10, 3) := by decide +kernel
theorem dX6_count_103 : decode cX6_count 103 = .ok (.getfield 211, 3) := by decide +kernel
theorem dX6_count_106 : decode cX6_count 106 = .ok (.ireturn, 1) := by decide +kernel
theorem dX6_count_107 : decode cX6_count 107 = .ok (.aload_n 0, 1) := by decide +kernel
theorem dX6_count_108 : decode cX6_count 108 = .ok (.getfield 10, 3) := by decide +kernel
theorem dX6_count_111 : decode cX6_count 111 = .ok (.invokevirtual 262, 3) := by decide +kernel
theorem dX6_count_114 : decode cX6_count 114 = .ok (.ireturn, 1) := by decide +kernel
theorem dX6_count_115 : decode cX6_count 115 = .ok (.aload_n 0, 1) := by decide +kernel
theorem dX6_count_116 : decode cX6_count 116 = .ok (.iconst 0, 1) := by decide +kernel
theorem dX6_count_117 : decode cX6_count 117 = .ok (.invokevirtual 57, 3) := by decide +kernel
theorem dX6_count_120 : decode cX6_count 120 = .ok (.ireturn, 1) := by decide +kernel
theorem dX6_status_0 : decode cX6_status 0 = .ok (.iload_n 1, 1) := by decide +kernel
theorem dX6_status_1 : decode cX6_status 1 = .ok (.iconst (-1), 1) := by decide +kernel
theorem dX6_status_2 : decode cX6_status 2 = .ok (.bipush 6, 2) := by decide +kernel
theorem dX6_status_4 : decode cX6_status 4 = .ok (.invokestatic 53, 3) := by decide +kernel
theorem dX6_status_7 : decode cX6_status 7 = .ok (.ifCond .ne 9, 3) := by decide +kernel
theorem dX6_status_10 : decode cX6_status 10 = .ok (.aload_n 0, 1) := by decide +kernel
theorem dX6_status_11 : decode cX6_status 11 = .ok (.iconst 0, 1) := by decide +kernel
theorem dX6_status_12 : decode cX6_status 12 = .ok (.invokevirtual 57, 3) := by decide +kernel
theorem dX6_status_15 : decode cX6_status 15 = .ok (.ireturn, 1) := by decide +kernel
theorem dX6_status_16 : decode cX6_status 16 = .ok (.iload_n 1, 1) := by decide +kernel
theorem dX6_status_17 : decode cX6_status 17 = .ok (.ifCond .lt 10, 3) := by decide +kernel
theorem dX6_status_20 : decode cX6_status 20 = .ok (.aload_n 0, 1) := by decide +kernel
theorem dX6_status_21 : decode cX6_status 21 = .ok (.getfield 48, 3) := by decide +kernel
theorem dX6_status_24 : decode cX6_status 24 = .ok (.iload_n 1, 1) := by decide +kernel
theorem dX6_status_25 : decode cX6_status 25 = .ok (.iaload, 1) := by decide +kernel
theorem dX6_status_26 : decode cX6_status 26 = .ok (.ireturn, 1) := by decide +kernel
theorem dX6_status_27 : decode cX6_status 27 = .ok (.iconst 0, 1) := by decide +kernel
theorem dX6_status_28 : decode cX6_status 28 = .ok (.istore_n 2, 1) := by decide +kernel
theorem dX6_status_29 : decode cX6_status 29 = .ok (.iconst 0, 1) := by decide +kernel
theorem dX6_status_30 : decode cX6_status 30 = .ok (.istore_n 3, 1) := by decide +kernel
theorem dX6_status_31 : decode cX6_status 31 = .ok (.iload_n 3, 1) := by decide +kernel
theorem dX6_status_32 : decode cX6_status 32 = .ok (.bipush 7, 2) := by decide +kernel
theorem dX6_status_34 : decode cX6_status 34 = .ok (.if_icmp .ge 18, 3) := by decide +kernel
theorem dX6_status_37 : decode cX6_status 37 = .ok (.iload_n 2, 1) := by decide +kernel
theorem dX6_status_38 : decode cX6_status 38 = .ok (.aload_n 0, 1) := by decide +kernel
theorem dX6_status_39 : decode cX6_status 39 = .ok (.getfield 48, 3) := by decide +kernel
theorem dX6_status_42 : decode cX6_status 42 = .ok (.iload_n 3, 1) := by decide +kernel
theorem dX6_status_43 : decode cX6_status 43 = .ok (.iaload, 1) := by decide +kernel
theorem dX6_status_44 : decode cX6_status 44 = .ok (.iadd, 1) := by decide +kernel
theorem dX6_status_45 : decode cX6_status 45 = .ok (.istore_n 2, 1) := by decide +kernel
theorem dX6_status_46 : decode cX6_status 46 = .ok (.iinc 3 1, 3) := by decide +kernel
theorem dX6_status_49 : decode cX6_status 49 = .ok (.goto (-18), 3) := by decide +kernel
theorem dX6_status_52 : decode cX6_status 52 = .ok (.iload_n 2, 1) := by decide +kernel
theorem dX6_status_53 : decode cX6_status 53 = .ok (.ireturn, 1) := by decide +kernel
theorem dX6_tell_0 : decode cX6_tell 0 = .ok (.aload_n 0, 1) := by decide +kernel
theorem dX6_tell_1 : decode cX6_tell 1 = .ok (.getfield 48, 3) := by decide +kernel
theorem dX6_tell_4 : decode cX6_tell 4 = .ok (.iload_n 1, 1) := by decide +kernel
theorem dX6_tell_5 : decode cX6_tell 5 = .ok (.dup2, 1) := by decide +kernel
theorem dX6_tell_6 : decode cX6_tell 6 = .ok (.iaload, 1) := by decide +kernel
theorem dX6_tell_7 : decode cX6_tell 7 = .ok (.iconst 1, 1) := by decide +kernel
theorem dX6_tell_8 : decode cX6_tell 8 = .ok (.iadd, 1) := by decide +kernel
theorem dX6_tell_9 : decode cX6_tell 9 = .ok (.iastore, 1) := by decide +kernel
theorem dX6_tell_10 : decode cX6_tell 10 = .ok (.ldc_w 265, 3) := by decide +kernel
theorem dX6_tell_13 : decode cX6_tell 13 = .ok (.iload_n 1, 1) := by decide +kernel
theorem dX6_tell_14 : decode cX6_tell 14 = .ok (.isub, 1) := by decide +kernel
theorem dX6_tell_15 : decode cX6_tell 15 = .ok (.ireturn, 1) := by decide +kernel
theorem dX6_isDrinker_0 : decode cX6_isDrinker 0 = .ok (.iload_n 1, 1) := by decide +kernel
theorem dX6_isDrinker_1 : decode cX6_isDrinker 1 = .ok (.iconst 0, 1) := by decide +kernel
theorem dX6_isDrinker_2 : decode cX6_isDrinker 2 = .ok (.aload_n 0, 1) := by decide +kernel
theorem dX6_isDrinker_3 : decode cX6_isDrinker 3 = .ok (.getfield 10, 3) := by decide +kernel
theorem dX6_isDrinker_6 : decode cX6_isDrinker 6 = .ok (.getfield 61, 3) := by decide +kernel
theorem dX6_isDrinker_9 : decode cX6_isDrinker 9 = .ok (.iconst 1, 1) := by decide +kernel
theorem dX6_isDrinker_10 : decode cX6_isDrinker 10 = .ok (.isub, 1) := by decide +kernel
theorem dX6_isDrinker_11 : decode cX6_isDrinker 11 = .ok (.invokestatic 53, 3) := by decide +kernel
theorem dX6_isDrinker_14 : decode cX6_isDrinker 14 = .ok (.ireturn, 1) := by decide +kernel
theorem dX6_isTooLate_0 : decode cX6_isTooLate 0 = .ok (.aload_n 0, 1) := by decide +kernel
theorem dX6_isTooLate_1 : decode cX6_isTooLate 1 = .ok (.getfield 10, 3) := by decide +kernel
theorem dX6_isTooLate_4 : decode cX6_isTooLate 4 = .ok (.getfield 111, 3) := by decide +kernel
theorem dX6_isTooLate_7 : decode cX6_isTooLate 7 = .ok (.iload_n 1, 1) := by decide +kernel
theorem dX6_isTooLate_8 : decode cX6_isTooLate 8 = .ok (.iadd, 1) := by decide +kernel
theorem dX6_isTooLate_9 : decode cX6_isTooLate 9 = .ok (.sipush 9999, 3) := by decide +kernel
theorem dX6_isTooLate_12 : decode cX6_isTooLate 12 = .ok (.if_icmp .le 7, 3) := by decide +kernel
theorem dX6_isTooLate_15 : decode cX6_isTooLate 15 = .ok (.iconst 1, 1) := by decide +kernel
theorem dX6_isTooLate_16 : decode cX6_isTooLate 16 = .ok (.goto 4, 3) := by decide +kernel
theorem dX6_isTooLate_19 : decode cX6_isTooLate 19 = .ok (.iconst 0, 1) := by decide +kernel
theorem dX6_isTooLate_20 : decode cX6_isTooLate 20 = .ok (.ireturn, 1) := by decide +kernel
theorem dX6_changePrice_0 : decode cX6_changePrice 0 = .ok (.iload_n 1, 1) := by decide +kernel
theorem dX6_changePrice_1 : decode cX6_changePrice 1 = .ok (.iconst 0, 1) := by decide +kernel
theorem dX6_changePrice_2 : decode cX6_changePrice 2 = .ok (.bipush 99, 2) := by decide +kernel
theorem dX6_changePrice_4 : decode cX6_changePrice 4 = .ok (.invokestatic 53, 3) := by decide +kernel
theorem dX6_changePrice_7 : decode cX6_changePrice 7 = .ok (.ifCond .ne 9, 3) := by decide +kernel
theorem dX6_changePrice_10 : decode cX6_changePrice 10 = .ok (.aload_n 0, 1) := by decide +kernel
theorem dX6_changePrice_11 : decode cX6_changePrice 11 = .ok (.iconst 0, 1) := by decide +kernel
theorem dX6_changePrice_12 : decode cX6_changePrice 12 = .ok (.invokevirtual 57, 3) := by decide +kernel
theorem dX6_changePrice_15 : decode cX6_changePrice 15 = .ok (.ireturn, 1) := by decide +kernel
theorem dX6_changePrice_16 : decode cX6_changePrice 16 = .ok (.aload_n 0, 1) := by decide +kernel
theorem dX6_changePrice_17 : decode cX6_changePrice 17 = .ok (.getfield 10, 3) := by decide +kernel
theorem dX6_changePrice_20 : decode cX6_changePrice 20 = .ok (.getfield 176, 3) := by decide +kernel
theorem dX6_changePrice_23 : decode cX6_changePrice 23 = .ok (.istore_n 2, 1) := by decide +kernel
theorem dX6_changePrice_24 : decode cX6_changePrice 24 = .ok (.aload_n 0, 1) := by decide +kernel
theorem dX6_changePrice_25 : decode cX6_changePrice 25 = .ok (.getfield 10, 3) := by decide +kernel
theorem dX6_changePrice_28 : decode cX6_changePrice 28 = .ok (.iload_n 1, 1) := by decide +kernel
theorem dX6_changePrice_29 : decode cX6_changePrice 29 = .ok (.putfield 176, 3) := by decide +kernel
theorem dX6_changePrice_32 : decode cX6_changePrice 32 = .ok (.iload_n 2, 1) := by decide +kernel
theorem dX6_changePrice_33 : decode cX6_changePrice 33 = .ok (.ireturn, 1) := by decide +kernel
theorem dX6_changePot_0 : decode cX6_changePot 0 = .ok (.iload_n 1, 1) := by decide +kernel
theorem dX6_changePot_1 : decode cX6_changePot 1 = .ok (.iconst 1, 1) := by decide +kernel
theorem dX6_changePot_2 : decode cX6_changePot 2 = .ok (.bipush 99, 2) := by decide +kernel
theorem dX6_changePot_4 : decode cX6_changePot 4 = .ok (.invokestatic 53, 3) := by decide +kernel
theorem dX6_changePot_7 : decode cX6_changePot 7 = .ok (.ifCond .ne 9, 3) := by decide +kernel
theorem dX6_changePot_10 : decode cX6_changePot 10 = .ok (.aload_n 0, 1) := by decide +kernel
theorem dX6_changePot_11 : decode cX6_changePot 11 = .ok (.iconst 0, 1) := by decide +kernel
theorem dX6_changePot_12 : decode cX6_changePot 12 = .ok (.invokevirtual 57, 3) := by decide +kernel
theorem dX6_changePot_15 : decode cX6_changePot 15 = .ok (.ireturn, 1) := by decide +kernel
theorem dX6_changePot_16 : decode cX6_changePot 16 = .ok (.aload_n 0, 1) := by decide +kernel
theorem dX6_changePot_17 : decode cX6_changePot 17 = .ok (.getfield 10, 3) := by decide +kernel
theorem dX6_changePot_20 : decode cX6_changePot 20 = .ok (.getfield 259, 3) := by decide +kernel
theorem dX6_changePot_23 : decode cX6_changePot 23 = .ok (.istore_n 2, 1) := by decide +kernel
theorem dX6_changePot_24 : decode cX6_changePot 24 = .ok (.aload_n 0, 1) := by decide +kernel
theorem dX6_changePot_25 : decode cX6_changePot 25 = .ok (.getfield 10, 3) := by decide +kernel
theorem dX6_changePot_28 : decode cX6_changePot 28 = .ok (.iload_n 1, 1) := by decide +kernel
theorem dX6_changePot_29 : decode cX6_changePot 29 = .ok (.invokevirtual 182, 3) := by decide +kernel
theorem dX6_changePot_32 : decode cX6_changePot 32 = .ok (.iload_n 2, 1) := by decide +kernel
theorem dX6_changePot_33 : decode cX6_changePot 33 = .ok (.ireturn, 1) := by decide +kernel
theorem dX6_changeSign_0 : decode cX6_changeSign 0 = .ok (.iload_n 1, 1) := by decide +kernel
theorem dX6_changeSign_1 : decode cX6_changeSign 1 = .ok (.iconst 0, 1) := by decide +kernel
theorem dX6_changeSign_2 : decode cX6_changeSign 2 = .ok (.iconst 2, 1) := by decide +kernel
theorem dX6_changeSign_3 : decode cX6_changeSign 3 = .ok (.invokestatic 53, 3) := by decide +kernel
theorem dX6_changeSign_6 : decode cX6_changeSign 6 = .ok (.ifCond .ne 9, 3) := by decide +kernel
theorem dX6_changeSign_9 : decode cX6_changeSign 9 = .ok (.aload_n 0, 1) := by decide +kernel
theorem dX6_changeSign_10 : decode cX6_changeSign 10 = .ok (.iconst 0, 1) := by decide +kernel
theorem dX6_changeSign_11 : decode cX6_changeSign 11 = .ok (.invokevirtual 57, 3) := by decide +kernel
theorem dX6_changeSign_14 : decode cX6_changeSign 14 = .ok (.ireturn, 1) := by decide +kernel
theorem dX6_changeSign_15 : decode cX6_changeSign 15 = .ok (.aload_n 0, 1) := by decide +kernel
theorem dX6_changeSign_16 : decode cX6_changeSign 16 = .ok (.getfield 10, 3) := by decide +kernel
theorem dX6_changeSign_19 : decode cX6_changeSign 19 = .ok (.getfield 179, 3) := by decide +kernel
theorem dX6_changeSign_22 : decode cX6_changeSign 22 = .ok (.istore_n 2, 1) := by decide +kernel
theorem dX6_changeSign_23 : decode cX6_changeSign 23 = .ok (.aload_n 0, 1) := by decide +kernel
theorem dX6_changeSign_24 : decode cX6_changeSign 24 = .ok (.getfield 10, 3) := by decide +kernel
theorem dX6_changeSign_27 : decode cX6_changeSign 27 = .ok (.iload_n 1, 1) := by decide +kernel
theorem dX6_changeSign_28 : decode cX6_changeSign 28 = .ok (.putfield 179, 3) := by decide +kernel
theorem dX6_changeSign_31 : decode cX6_changeSign 31 = .ok (.iload_n 2, 1) := by decide +kernel
theorem dX6_changeSign_32 : decode cX6_changeSign 32 = .ok (.ireturn, 1) := by decide +kernel
theorem dX6_lastBehindWeeks_0 : decode cX6_lastBehindWeeks 0 = .ok (.aload_n 0, 1) := by decide +kernel
theorem dX6_lastBehindWeeks_1 : decode cX6_lastBehindWeeks 1 = .ok (.getfield 19, 3) := by decide +kernel
theorem dX6_lastBehindWeeks_4 : decode cX6_lastBehindWeeks 4 = .ok (.aload_n 0, 1) := by decide +kernel
theorem dX6_lastBehindWeeks_5 : decode cX6_lastBehindWeeks 5 = .ok (.getfield 10, 3) := by decide +kernel
theorem dX6_lastBehindWeeks_8 : decode cX6_lastBehindWeeks 8 = .ok (.invokevirtual 166, 3) := by decide +kernel
theorem dX6_lastBehindWeeks_11 : decode cX6_lastBehindWeeks 11 = .ok (.aload_n 0, 1) := by decide +kernel
theorem dX6_lastBehindWeeks_12 : decode cX6_lastBehindWeeks 12 = .ok (.getfield 19, 3) := by decide +kernel
theorem dX6_lastBehindWeeks_15 : decode cX6_lastBehindWeeks 15 = .ok (.invokevirtual 266, 3) := by decide +kernel
theorem dX6_lastBehindWeeks_18 : decode cX6_lastBehindWeeks 18 = .ok (.aload_n 0, 1) := by decide +kernel
theorem dX6_lastBehindWeeks_19 : decode cX6_lastBehindWeeks 19 = .ok (.getfield 19, 3) := by decide +kernel
theorem dX6_lastBehindWeeks_22 : decode cX6_lastBehindWeeks 22 = .ok (.iload_n 1, 1) := by decide +kernel
theorem dX6_lastBehindWeeks_23 : decode cX6_lastBehindWeeks 23 = .ok (.putfield 117, 3) := by decide +kernel
theorem dX6_lastBehindWeeks_26 : decode cX6_lastBehindWeeks 26 = .ok (.aload_n 0, 1) := by decide +kernel
theorem dX6_lastBehindWeeks_27 : decode cX6_lastBehindWeeks 27 = .ok (.getfield 19, 3) := by decide +kernel
theorem dX6_lastBehindWeeks_30 : decode cX6_lastBehindWeeks 30 = .ok (.iload_n 2, 1) := by decide +kernel
theorem dX6_lastBehindWeeks_31 : decode cX6_lastBehindWeeks 31 = .ok (.iconst 5, 1) := by decide +kernel
theorem dX6_lastBehindWeeks_32 : decode cX6_lastBehindWeeks 32 = .ok (.imul, 1) := by decide +kernel
theorem dX6_lastBehindWeeks_33 : decode cX6_lastBehindWeeks 33 = .ok (.invokevirtual 133, 3) := by decide +kernel
theorem dX6_lastBehindWeeks_36 : decode cX6_lastBehindWeeks 36 = .ok (.pop, 1) := by decide +kernel
theorem dX6_lastBehindWeeks_37 : decode cX6_lastBehindWeeks 37 = .ok (.aload_n 0, 1) := by decide +kernel
theorem dX6_lastBehindWeeks_38 : decode cX6_lastBehindWeeks 38 = .ok (.getfield 19, 3) := by decide +kernel
theorem dX6_lastBehindWeeks_41 : decode cX6_lastBehindWeeks 41 = .ok (.getfield 117, 3) := by decide +kernel
theorem dX6_lastBehindWeeks_44 : decode cX6_lastBehindWeeks 44 = .ok (.ireturn, 1) := by decide +kernel
theorem dX6_coinsByWay_0 : decode cX6_coinsByWay 0 = .ok (.iload_n 2, 1) := by decide +kernel
theorem dX6_coinsByWay_1 : decode cX6_coinsByWay 1 = .ok (.lookupswitch 45 #[(0, 27), (1, 32)], 27) := by decide +kernel
theorem dX6_coinsByWay_28 : decode cX6_coinsByWay 28 = .ok (.aload_n 1, 1) := by decide +kernel
theorem dX6_coinsByWay_29 : decode cX6_coinsByWay 29 = .ok (.getfield 269, 3) := by decide +kernel
theorem dX6_coinsByWay_32 : decode cX6_coinsByWay 32 = .ok (.ireturn, 1) := by decide +kernel
theorem dX6_coinsByWay_33 : decode cX6_coinsByWay 33 = .ok (.aload_n 0, 1) := by decide +kernel
theorem dX6_coinsByWay_34 : decode cX6_coinsByWay 34 = .ok (.getfield 10, 3) := by decide +kernel
theorem dX6_coinsByWay_37 : decode cX6_coinsByWay 37 = .ok (.getfield 176, 3) := by decide +kernel
theorem dX6_coinsByWay_40 : decode cX6_coinsByWay 40 = .ok (.aload_n 1, 1) := by decide +kernel
theorem dX6_coinsByWay_41 : decode cX6_coinsByWay 41 = .ok (.getfield 195, 3) := by decide +kernel
theorem dX6_coinsByWay_44 : decode cX6_coinsByWay 44 = .ok (.imul, 1) := by decide +kernel
theorem dX6_coinsByWay_45 : decode cX6_coinsByWay 45 = .ok (.ireturn, 1) := by decide +kernel
theorem dX6_coinsByWay_46 : decode cX6_coinsByWay 46 = .ok (.iload_n 3, 1) := by decide +kernel
theorem dX6_coinsByWay_47 : decode cX6_coinsByWay 47 = .ok (.ireturn, 1) := by decide +kernel
theorem dX6_within_0 : decode cX6_within 0 = .ok (.iload_n 0, 1) := by decide +kernel
theorem dX6_within_1 : decode cX6_within 1 = .ok (.iload_n 1, 1) := by decide +kernel
theorem dX6_within_2 : decode cX6_within 2 = .ok (.if_icmp .lt 12, 3) := by decide +kernel
theorem dX6_within_5 : decode cX6_within 5 = .ok (.iload_n 0, 1) := by decide +kernel
theorem dX6_within_6 : decode cX6_within 6 = .ok (.iload_n 2, 1) := by decide +kernel
theorem dX6_within_7 : decode cX6_within 7 = .ok (.if_icmp .gt 7, 3) := by decide +kernel
theorem dX6_within_10 : decode cX6_within 10 = .ok (.iconst 1, 1) := by decide +kernel
theorem dX6_within_11 : decode cX6_within 11 = .ok (.goto 4, 3) := by decide +kernel
theorem dX6_within_14 : decode cX6_within 14 = .ok (.iconst 0, 1) := by decide +kernel
theorem dX6_within_15 : decode cX6_within 15 = .ok (.ireturn, 1) := by decide +kernel
theorem dX6_isSheet_0 : decode cX6_isSheet 0 = .ok (.iload_n 0, 1) := by decide +kernel
theorem dX6_isSheet_1 : decode cX6_isSheet 1 = .ok (.iconst 0, 1) := by decide +kernel
theorem dX6_isSheet_2 : decode cX6_isSheet 2 = .ok (.iconst 3, 1) := by decide +kernel
theorem dX6_isSheet_3 : decode cX6_isSheet 3 = .ok (.invokestatic 53, 3) := by decide +kernel
theorem dX6_isSheet_6 : decode cX6_isSheet 6 = .ok (.ireturn, 1) := by decide +kernel
theorem dX6_canBecome_0 : decode cX6_canBecome 0 = .ok (.iload_n 0, 1) := by decide +kernel
theorem dX6_canBecome_1 : decode cX6_canBecome 1 = .ok (.tableswitch 64 0 3 #[31, 39, 47, 56], 31) := by decide +kernel
theorem dX6_canBecome_32 : decode cX6_canBecome 32 = .ok (.iload_n 1, 1) := by decide +kernel
theorem dX6_canBecome_33 : decode cX6_canBecome 33 = .ok (.iconst 0, 1) := by decide +kernel
theorem dX6_canBecome_34 : decode cX6_canBecome 34 = .ok (.bipush 6, 2) := by decide +kernel
theorem dX6_canBecome_36 : decode cX6_canBecome 36 = .ok (.invokestatic 53, 3) := by decide +kernel
theorem dX6_canBecome_39 : decode cX6_canBecome 39 = .ok (.ireturn, 1) := by decide +kernel
theorem dX6_canBecome_40 : decode cX6_canBecome 40 = .ok (.iload_n 1, 1) := by decide +kernel
theorem dX6_canBecome_41 : decode cX6_canBecome 41 = .ok (.iconst 1, 1) := by decide +kernel
theorem dX6_canBecome_42 : decode cX6_canBecome 42 = .ok (.bipush 9, 2) := by decide +kernel
theorem dX6_canBecome_44 : decode cX6_canBecome 44 = .ok (.invokestatic 53, 3) := by decide +kernel
theorem dX6_canBecome_47 : decode cX6_canBecome 47 = .ok (.ireturn, 1) := by decide +kernel
theorem dX6_canBecome_48 : decode cX6_canBecome 48 = .ok (.iload_n 1, 1) := by decide +kernel
theorem dX6_canBecome_49 : decode cX6_canBecome 49 = .ok (.iconst 0, 1) := by decide +kernel
theorem dX6_canBecome_50 : decode cX6_canBecome 50 = .ok (.sipush 9999, 3) := by decide +kernel
theorem dX6_canBecome_53 : decode cX6_canBecome 53 = .ok (.invokestatic 53, 3) := by decide +kernel
theorem dX6_canBecome_56 : decode cX6_canBecome 56 = .ok (.ireturn, 1) := by decide +kernel
theorem dX6_canBecome_57 : decode cX6_canBecome 57 = .ok (.iload_n 1, 1) := by decide +kernel
theorem dX6_canBecome_58 : decode cX6_canBecome 58 = .ok (.iconst 0, 1) := by decide +kernel
theorem dX6_canBecome_59 : decode cX6_canBecome 59 = .ok (.bipush 99, 2) := by decide +kernel
theorem dX6_canBecome_61 : decode cX6_canBecome 61 = .ok (.invokestatic 53, 3) := by decide +kernel
theorem dX6_canBecome_64 : decode cX6_canBecome 64 = .ok (.ireturn, 1) := by decide +kernel
theorem dX6_canBecome_65 : decode cX6_canBecome 65 = .ok (.iconst 0, 1) := by decide +kernel
theorem dX6_canBecome_66 : decode cX6_canBecome 66 = .ok (.ireturn, 1) := by decide +kernel
theorem dX6_isUnder_0 : decode cX6_isUnder 0 = .ok (.iload_n 0, 1) := by decide +kernel
theorem dX6_isUnder_1 : decode cX6_isUnder 1 = .ok (.istore_n 2, 1) := by decide +kernel
theorem dX6_isUnder_2 : decode cX6_isUnder 2 = .ok (.iconst 0, 1) := by decide +kernel
theorem dX6_isUnder_3 : decode cX6_isUnder 3 = .ok (.istore_n 3, 1) := by decide +kernel
theorem dX6_isUnder_4 : decode cX6_isUnder 4 = .ok (.iload_n 3, 1) := by decide +kernel
theorem dX6_isUnder_5 : decode cX6_isUnder 5 = .ok (.bipush 7, 2) := by decide +kernel
theorem dX6_isUnder_7 : decode cX6_isUnder 7 = .ok (.if_icmp .ge 32, 3) := by decide +kernel
theorem dX6_isUnder_10 : decode cX6_isUnder 10 = .ok (.iload_n 2, 1) := by decide +kernel
theorem dX6_isUnder_11 : decode cX6_isUnder 11 = .ok (.iconst 0, 1) := by decide +kernel
theorem dX6_isUnder_12 : decode cX6_isUnder 12 = .ok (.bipush 6, 2) := by decide +kernel
theorem dX6_isUnder_14 : decode cX6_isUnder 14 = .ok (.invokestatic 53, 3) := by decide +kernel
theorem dX6_isUnder_17 : decode cX6_isUnder 17 = .ok (.ifCond .eq 22, 3) := by decide +kernel
theorem dX6_isUnder_20 : decode cX6_isUnder 20 = .ok (.iload_n 2, 1) := by decide +kernel
theorem dX6_isUnder_21 : decode cX6_isUnder 21 = .ok (.iload_n 1, 1) := by decide +kernel
theorem dX6_isUnder_22 : decode cX6_isUnder 22 = .ok (.if_icmp .ne 5, 3) := by decide +kernel
theorem dX6_isUnder_25 : decode cX6_isUnder 25 = .ok (.iconst 1, 1) := by decide +kernel
theorem dX6_isUnder_26 : decode cX6_isUnder 26 = .ok (.ireturn, 1) := by decide +kernel
theorem dX6_isUnder_27 : decode cX6_isUnder 27 = .ok (.getstatic 272, 3) := by decide +kernel
theorem dX6_isUnder_30 : decode cX6_isUnder 30 = .ok (.iload_n 2, 1) := by decide +kernel
theorem dX6_isUnder_31 : decode cX6_isUnder 31 = .ok (.iaload, 1) := by decide +kernel
theorem dX6_isUnder_32 : decode cX6_isUnder 32 = .ok (.istore_n 2, 1) := by decide +kernel
theorem dX6_isUnder_33 : decode cX6_isUnder 33 = .ok (.iinc 3 1, 3) := by decide +kernel
theorem dX6_isUnder_36 : decode cX6_isUnder 36 = .ok (.goto (-32), 3) := by decide +kernel
theorem dX6_isUnder_39 : decode cX6_isUnder 39 = .ok (.iconst 0, 1) := by decide +kernel
theorem dX6_isUnder_40 : decode cX6_isUnder 40 = .ok (.ireturn, 1) := by decide +kernel
theorem dX6_commonDivisor_0 : decode cX6_commonDivisor 0 = .ok (.iload_n 0, 1) := by decide +kernel
theorem dX6_commonDivisor_1 : decode cX6_commonDivisor 1 = .ok (.invokestatic 275, 3) := by decide +kernel
theorem dX6_commonDivisor_4 : decode cX6_commonDivisor 4 = .ok (.istore_n 2, 1) := by decide +kernel
theorem dX6_commonDivisor_5 : decode cX6_commonDivisor 5 = .ok (.iload_n 1, 1) := by decide +kernel
theorem dX6_commonDivisor_6 : decode cX6_commonDivisor 6 = .ok (.invokestatic 275, 3) := by decide +kernel
theorem dX6_commonDivisor_9 : decode cX6_commonDivisor 9 = .ok (.istore_n 3, 1) := by decide +kernel
theorem dX6_commonDivisor_10 : decode cX6_commonDivisor 10 = .ok (.iconst 0, 1) := by decide +kernel
theorem dX6_commonDivisor_11 : decode cX6_commonDivisor 11 = .ok (.istore 4, 2) := by decide +kernel
theorem dX6_commonDivisor_13 : decode cX6_commonDivisor 13 = .ok (.iload 4, 2) := by decide +kernel
theorem dX6_commonDivisor_15 : decode cX6_commonDivisor 15 = .ok (.bipush 100, 2) := by decide +kernel
theorem dX6_commonDivisor_17 : decode cX6_commonDivisor 17 = .ok (.if_icmp .ge 23, 3) := by decide +kernel
theorem dX6_commonDivisor_20 : decode cX6_commonDivisor 20 = .ok (.iload_n 3, 1) := by decide +kernel
theorem dX6_commonDivisor_21 : decode cX6_commonDivisor 21 = .ok (.ifCond .le 19, 3) := by decide +kernel
theorem dX6_commonDivisor_24 : decode cX6_commonDivisor 24 = .ok (.iload_n 2, 1) := by decide +kernel
theorem dX6_commonDivisor_25 : decode cX6_commonDivisor 25 = .ok (.iload_n 3, 1) := by decide +kernel
theorem dX6_commonDivisor_26 : decode cX6_commonDivisor 26 = .ok (.irem, 1) := by decide +kernel
theorem dX6_commonDivisor_27 : decode cX6_commonDivisor 27 = .ok (.istore 5, 2) := by decide +kernel
theorem dX6_commonDivisor_29 : decode cX6_commonDivisor 29 = .ok (.iload_n 3, 1) := by decide +kernel
theorem dX6_commonDivisor_30 : decode cX6_commonDivisor 30 = .ok (.istore_n 2, 1) := by decide +kernel
theorem dX6_commonDivisor_31 : decode cX6_commonDivisor 31 = .ok (.iload 5, 2) := by decide +kernel
theorem dX6_commonDivisor_33 : decode cX6_commonDivisor 33 = .ok (.istore_n 3, 1) := by decide +kernel
theorem dX6_commonDivisor_34 : decode cX6_commonDivisor 34 = .ok (.iinc 4 1, 3) := by decide +kernel
theorem dX6_commonDivisor_37 : decode cX6_commonDivisor 37 = .ok (.goto (-24), 3) := by decide +kernel
theorem dX6_commonDivisor_40 : decode cX6_commonDivisor 40 = .ok (.iload_n 2, 1) := by decide +kernel
theorem dX6_commonDivisor_41 : decode cX6_commonDivisor 41 = .ok (.iconst 1, 1) := by decide +kernel
theorem dX6_commonDivisor_42 : decode cX6_commonDivisor 42 = .ok (.invokestatic 202, 3) := by decide +kernel
theorem dX6_commonDivisor_45 : decode cX6_commonDivisor 45 = .ok (.ireturn, 1) := by decide +kernel
theorem dX7_init_0 : decode cX7_init 0 = .ok (.aload_n 0, 1) := by decide +kernel
theorem dX7_init_1 : decode cX7_init 1 = .ok (.invokespecial 1, 3) := by decide +kernel
theorem dX7_init_4 : decode cX7_init 4 = .ok (.aload_n 0, 1) := by decide +kernel
theorem dX7_init_5 : decode cX7_init 5 = .ok (.sipush 132, 3) := by decide +kernel
theorem dX7_init_8 : decode cX7_init 8 = .ok (.newarray .int, 2) := by decide +kernel
theorem dX7_init_10 : decode cX7_init 10 = .ok (.putfield 7, 3) := by decide +kernel
theorem dX7_init_13 : decode cX7_init 13 = .ok (.aload_n 0, 1) := by decide +kernel
theorem dX7_init_14 : decode cX7_init 14 = .ok (.sipush 132, 3) := by decide +kernel
theorem dX7_init_17 : decode cX7_init 17 = .ok (.newarray .int, 2) := by decide +kernel
theorem dX7_init_19 : decode cX7_init 19 = .ok (.putfield 13, 3) := by decide +kernel
theorem dX7_init_22 : decode cX7_init 22 = .ok (.aload_n 0, 1) := by decide +kernel
theorem dX7_init_23 : decode cX7_init 23 = .ok (.sipush 132, 3) := by decide +kernel
theorem dX7_init_26 : decode cX7_init 26 = .ok (.newarray .int, 2) := by decide +kernel
theorem dX7_init_28 : decode cX7_init 28 = .ok (.putfield 16, 3) := by decide +kernel
theorem dX7_init_31 : decode cX7_init 31 = .ok (.aload_n 0, 1) := by decide +kernel
theorem dX7_init_32 : decode cX7_init 32 = .ok (.bipush 7, 2) := by decide +kernel
theorem dX7_init_34 : decode cX7_init 34 = .ok (.newarray .int, 2) := by decide +kernel
theorem dX7_init_36 : decode cX7_init 36 = .ok (.putfield 19, 3) := by decide +kernel
theorem dX7_init_39 : decode cX7_init 39 = .ok (.aload_n 0, 1) := by decide +kernel
theorem dX7_init_40 : decode cX7_init 40 = .ok (.bipush 120, 2) := by decide +kernel
theorem dX7_init_42 : decode cX7_init 42 = .ok (.newarray .byte, 2) := by decide +kernel
theorem dX7_init_44 : decode cX7_init 44 = .ok (.putfield 22, 3) := by decide +kernel
theorem dX7_init_47 : decode cX7_init 47 = .ok (.aload_n 0, 1) := by decide +kernel
theorem dX7_init_48 : decode cX7_init 48 = .ok (.iconst 4, 1) := by decide +kernel
theorem dX7_init_49 : decode cX7_init 49 = .ok (.newarray .int, 2) := by decide +kernel
theorem dX7_init_51 : decode cX7_init 51 = .ok (.putfield 26, 3) := by decide +kernel
theorem dX7_init_54 : decode cX7_init 54 = .ok (.aload_n 0, 1) := by decide +kernel
theorem dX7_init_55 : decode cX7_init 55 = .ok (.iconst 4, 1) := by decide +kernel
theorem dX7_init_56 : decode cX7_init 56 = .ok (.newarray .int, 2) := by decide +kernel
theorem dX7_init_58 : decode cX7_init 58 = .ok (.putfield 29, 3) := by decide +kernel
theorem dX7_init_61 : decode cX7_init 61 = .ok (.aload_n 0, 1) := by decide +kernel
theorem dX7_init_62 : decode cX7_init 62 = .ok (.sipush 160, 3) := by decide +kernel
theorem dX7_init_65 : decode cX7_init 65 = .ok (.newarray .int, 2) := by decide +kernel
theorem dX7_init_67 : decode cX7_init 67 = .ok (.putfield 32, 3) := by decide +kernel
theorem dX7_init_70 : decode cX7_init 70 = .ok (.aload_n 0, 1) := by decide +kernel
theorem dX7_init_71 : decode cX7_init 71 = .ok (.bipush 40, 2) := by decide +kernel
theorem dX7_init_73 : decode cX7_init 73 = .ok (.newarray .int, 2) := by decide +kernel
theorem dX7_init_75 : decode cX7_init 75 = .ok (.putfield 35, 3) := by decide +kernel
theorem dX7_init_78 : decode cX7_init 78 = .ok (.aload_n 0, 1) := by decide +kernel
theorem dX7_init_79 : decode cX7_init 79 = .ok (.getfield 7, 3) := by decide +kernel
theorem dX7_init_82 : decode cX7_init 82 = .ok (.iconst 1, 1) := by decide +kernel
theorem dX7_init_83 : decode cX7_init 83 = .ok (.iconst 5, 1) := by decide +kernel
theorem dX7_init_84 : decode cX7_init 84 = .ok (.iastore, 1) := by decide +kernel
theorem dX7_init_85 : decode cX7_init 85 = .ok (.aload_n 0, 1) := by decide +kernel
theorem dX7_init_86 : decode cX7_init 86 = .ok (.getfield 7, 3) := by decide +kernel
theorem dX7_init_89 : decode cX7_init 89 = .ok (.iconst 2, 1) := by decide +kernel
theorem dX7_init_90 : decode cX7_init 90 = .ok (.bipush 12, 2) := by decide +kernel
theorem dX7_init_92 : decode cX7_init 92 = .ok (.iastore, 1) := by decide +kernel
theorem dX7_init_93 : decode cX7_init 93 = .ok (.aload_n 0, 1) := by decide +kernel
theorem dX7_init_94 : decode cX7_init 94 = .ok (.getfield 7, 3) := by decide +kernel
theorem dX7_init_97 : decode cX7_init 97 = .ok (.iconst 3, 1) := by decide +kernel
theorem dX7_init_98 : decode cX7_init 98 = .ok (.bipush 12, 2) := by decide +kernel
theorem dX7_init_100 : decode cX7_init 100 = .ok (.iastore, 1) := by decide +kernel
theorem dX7_init_101 : decode cX7_init 101 = .ok (.aload_n 0, 1) := by decide +kernel
theorem dX7_init_102 : decode cX7_init 102 = .ok (.getfield 7, 3) := by decide +kernel
theorem dX7_init_105 : decode cX7_init 105 = .ok (.bipush 6, 2) := by decide +kernel
theorem dX7_init_107 : decode cX7_init 107 = .ok (.bipush 100, 2) := by decide +kernel
theorem dX7_init_109 : decode cX7_init 109 = .ok (.iastore, 1) := by decide +kernel
theorem dX7_init_110 : decode cX7_init 110 = .ok (.aload_n 0, 1) := by decide +kernel
theorem dX7_init_111 : decode cX7_init 111 = .ok (.getfield 7, 3) := by decide +kernel
theorem dX7_init_114 : decode cX7_init 114 = .ok (.bipush 10, 2) := by decide +kernel
theorem dX7_init_116 : decode cX7_init 116 = .ok (.iconst 1, 1) := by decide +kernel
theorem dX7_init_117 : decode cX7_init 117 = .ok (.iastore, 1) := by decide +kernel
theorem dX7_init_118 : decode cX7_init 118 = .ok (.iconst 0, 1) := by decide +kernel
theorem dX7_init_119 : decode cX7_init 119 = .ok (.istore_n 1, 1) := by decide +kernel
theorem dX7_init_120 : decode cX7_init 120 = .ok (.iload_n 1, 1) := by decide +kernel
theorem dX7_init_121 : decode cX7_init 121 = .ok (.bipush 10, 2) := by decide +kernel
theorem dX7_init_123 : decode cX7_init 123 = .ok (.if_icmp .ge 19, 3) := by decide +kernel
theorem dX7_init_126 : decode cX7_init 126 = .ok (.aload_n 0, 1) := by decide +kernel
theorem dX7_init_127 : decode cX7_init 127 = .ok (.getfield 7, 3) := by decide +kernel
theorem dX7_init_130 : decode cX7_init 130 = .ok (.bipush 122, 2) := by decide +kernel
theorem dX7_init_132 : decode cX7_init 132 = .ok (.iload_n 1, 1) := by decide +kernel
theorem dX7_init_133 : decode cX7_init 133 = .ok (.iadd, 1) := by decide +kernel
theorem dX7_init_134 : decode cX7_init 134 = .ok (.iconst (-1), 1) := by decide +kernel
theorem dX7_init_135 : decode cX7_init 135 = .ok (.iastore, 1) := by decide +kernel
theorem dX7_init_136 : decode cX7_init 136 = .ok (.iinc 1 1, 3) := by decide +kernel
theorem dX7_init_139 : decode cX7_init 139 = .ok (.goto (-19), 3) := by decide +kernel
theorem dX7_init_142 : decode cX7_init 142 = .ok (.return_, 1) := by decide +kernel
theorem dX7_finds_0 : decode cX7_finds 0 = .ok (.aload_n 0, 1) := by decide +kernel
theorem dX7_finds_1 : decode cX7_finds 1 = .ok (.getfield 19, 3) := by decide +kernel
theorem dX7_finds_4 : decode cX7_finds 4 = .ok (.iload_n 1, 1) := by decide +kernel
theorem dX7_finds_5 : decode cX7_finds 5 = .ok (.dup2, 1) := by decide +kernel
theorem dX7_finds_6 : decode cX7_finds 6 = .ok (.iaload, 1) := by decide +kernel
theorem dX7_finds_7 : decode cX7_finds 7 = .ok (.iconst 1, 1) := by decide +kernel
theorem dX7_finds_8 : decode cX7_finds 8 = .ok (.iadd, 1) := by decide +kernel
theorem dX7_finds_9 : decode cX7_finds 9 = .ok (.iastore, 1) := by decide +kernel
theorem dX7_finds_10 : decode cX7_finds 10 = .ok (.ldc 38, 2) := by decide +kernel
theorem dX7_finds_12 : decode cX7_finds 12 = .ok (.iload_n 1, 1) := by decide +kernel
theorem dX7_finds_13 : decode cX7_finds 13 = .ok (.isub, 1) := by decide +kernel
theorem dX7_finds_14 : decode cX7_finds 14 = .ok (.ireturn, 1) := by decide +kernel
theorem dX7_in_0 : decode cX7_in 0 = .ok (.lload_n 0, 1) := by decide +kernel
theorem dX7_in_1 : decode cX7_in 1 = .ok (.lload_n 2, 1) := by decide +kernel
theorem dX7_in_2 : decode cX7_in 2 = .ok (.lcmp, 1) := by decide +kernel
theorem dX7_in_3 : decode cX7_in 3 = .ok (.ifCond .lt 14, 3) := by decide +kernel
theorem dX7_in_6 : decode cX7_in 6 = .ok (.lload_n 0, 1) := by decide +kernel
theorem dX7_in_7 : decode cX7_in 7 = .ok (.lload 4, 2) := by decide +kernel
theorem dX7_in_9 : decode cX7_in 9 = .ok (.lcmp, 1) := by decide +kernel
theorem dX7_in_10 : decode cX7_in 10 = .ok (.ifCond .gt 7, 3) := by decide +kernel
theorem dX7_in_13 : decode cX7_in 13 = .ok (.iconst 1, 1) := by decide +kernel
theorem dX7_in_14 : decode cX7_in 14 = .ok (.goto 4, 3) := by decide +kernel
theorem dX7_in_17 : decode cX7_in 17 = .ok (.iconst 0, 1) := by decide +kernel
theorem dX7_in_18 : decode cX7_in 18 = .ok (.ireturn, 1) := by decide +kernel
theorem dX7_least_0 : decode cX7_least 0 = .ok (.iload_n 0, 1) := by decide +kernel
theorem dX7_least_1 : decode cX7_least 1 = .ok (.iload_n 1, 1) := by decide +kernel
theorem dX7_least_2 : decode cX7_least 2 = .ok (.if_icmp .ge 7, 3) := by decide +kernel
theorem dX7_least_5 : decode cX7_least 5 = .ok (.iload_n 0, 1) := by decide +kernel
theorem dX7_least_6 : decode cX7_least 6 = .ok (.goto 4, 3) := by decide +kernel
theorem dX7_least_9 : decode cX7_least 9 = .ok (.iload_n 1, 1) := by decide +kernel
theorem dX7_least_10 : decode cX7_least 10 = .ok (.ireturn, 1) := by decide +kernel
theorem dX7_copies_0 : decode cX7_copies 0 = .ok (.iconst 0, 1) := by decide +kernel
theorem dX7_copies_1 : decode cX7_copies 1 = .ok (.istore_n 2, 1) := by decide +kernel
theorem dX7_copies_2 : decode cX7_copies 2 = .ok (.iload_n 2, 1) := by decide +kernel
theorem dX7_copies_3 : decode cX7_copies 3 = .ok (.sipush 132, 3) := by decide +kernel
theorem dX7_copies_6 : decode cX7_copies 6 = .ok (.if_icmp .ge 15, 3) := by decide +kernel
theorem dX7_copies_9 : decode cX7_copies 9 = .ok (.aload_n 1, 1) := by decide +kernel
theorem dX7_copies_10 : decode cX7_copies 10 = .ok (.iload_n 2, 1) := by decide +kernel
theorem dX7_copies_11 : decode cX7_copies 11 = .ok (.aload_n 0, 1) := by decide +kernel
theorem dX7_copies_12 : decode cX7_copies 12 = .ok (.iload_n 2, 1) := by decide +kernel
theorem dX7_copies_13 : decode cX7_copies 13 = .ok (.iaload, 1) := by decide +kernel
theorem dX7_copies_14 : decode cX7_copies 14 = .ok (.iastore, 1) := by decide +kernel
theorem dX7_copies_15 : decode cX7_copies 15 = .ok (.iinc 2 1, 3) := by decide +kernel
theorem dX7_copies_18 : decode cX7_copies 18 = .ok (.goto (-16), 3) := by decide +kernel
theorem dX7_copies_21 : decode cX7_copies 21 = .ok (.return_, 1) := by decide +kernel
theorem dX7_isDrinker_0 : decode cX7_isDrinker 0 = .ok (.iload_n 1, 1) := by decide +kernel
theorem dX7_isDrinker_1 : decode cX7_isDrinker 1 = .ok (.i2l, 1) := by decide +kernel
theorem dX7_isDrinker_2 : decode cX7_isDrinker 2 = .ok (.lconst 0, 1) := by decide +kernel
theorem dX7_isDrinker_3 : decode cX7_isDrinker 3 = .ok (.aload_n 0, 1) := by decide +kernel
theorem dX7_isDrinker_4 : decode cX7_isDrinker 4 = .ok (.getfield 7, 3) := by decide +kernel
theorem dX7_isDrinker_7 : decode cX7_isDrinker 7 = .ok (.iconst 0, 1) := by decide +kernel
theorem dX7_isDrinker_8 : decode cX7_isDrinker 8 = .ok (.iaload, 1) := by decide +kernel
theorem dX7_isDrinker_9 : decode cX7_isDrinker 9 = .ok (.iconst 1, 1) := by decide +kernel
theorem dX7_isDrinker_10 : decode cX7_isDrinker 10 = .ok (.isub, 1) := by decide +kernel
theorem dX7_isDrinker_11 : decode cX7_isDrinker 11 = .ok (.i2l, 1) := by decide +kernel
theorem dX7_isDrinker_12 : decode cX7_isDrinker 12 = .ok (.invokestatic 39, 3) := by decide +kernel
theorem dX7_isDrinker_15 : decode cX7_isDrinker 15 = .ok (.ireturn, 1) := by decide +kernel
theorem dX7_its_0 : decode cX7_its 0 = .ok (.aload_n 0, 1) := by decide +kernel
theorem dX7_its_1 : decode cX7_its 1 = .ok (.getfield 7, 3) := by decide +kernel
theorem dX7_its_4 : decode cX7_its 4 = .ok (.bipush 12, 2) := by decide +kernel
theorem dX7_its_6 : decode cX7_its 6 = .ok (.bipush 7, 2) := by decide +kernel
theorem dX7_its_8 : decode cX7_its 8 = .ok (.iload_n 1, 1) := by decide +kernel
theorem dX7_its_9 : decode cX7_its 9 = .ok (.imul, 1) := by decide +kernel
theorem dX7_its_10 : decode cX7_its 10 = .ok (.iadd, 1) := by decide +kernel
theorem dX7_its_11 : decode cX7_its 11 = .ok (.iload_n 2, 1) := by decide +kernel
theorem dX7_its_12 : decode cX7_its 12 = .ok (.iadd, 1) := by decide +kernel
theorem dX7_its_13 : decode cX7_its 13 = .ok (.iaload, 1) := by decide +kernel
theorem dX7_its_14 : decode cX7_its 14 = .ok (.ireturn, 1) := by decide +kernel
theorem dX7_becomes_0 : decode cX7_becomes 0 = .ok (.aload_n 0, 1) := by decide +kernel
theorem dX7_becomes_1 : decode cX7_becomes 1 = .ok (.getfield 7, 3) := by decide +kernel
theorem dX7_becomes_4 : decode cX7_becomes 4 = .ok (.bipush 12, 2) := by decide +kernel
theorem dX7_becomes_6 : decode cX7_becomes 6 = .ok (.bipush 7, 2) := by decide +kernel
theorem dX7_becomes_8 : decode cX7_becomes 8 = .ok (.iload_n 1, 1) := by decide +kernel
theorem dX7_becomes_9 : decode cX7_becomes 9 = .ok (.imul, 1) := by decide +kernel
theorem dX7_becomes_10 : decode cX7_becomes 10 = .ok (.iadd, 1) := by decide +kernel
theorem dX7_becomes_11 : decode cX7_becomes 11 = .ok (.iload_n 2, 1) := by decide +kernel
theorem dX7_becomes_12 : decode cX7_becomes 12 = .ok (.iadd, 1) := by decide +kernel
theorem dX7_becomes_13 : decode cX7_becomes 13 = .ok (.iload_n 3, 1) := by decide +kernel
theorem dX7_becomes_14 : decode cX7_becomes 14 = .ok (.iastore, 1) := by decide +kernel
theorem dX7_becomes_15 : decode cX7_becomes 15 = .ok (.return_, 1) := by decide +kernel
theorem dX7_comes_0 : decode cX7_comes 0 = .ok (.aload_n 0, 1) := by decide +kernel
theorem dX7_comes_1 : decode cX7_comes 1 = .ok (.getfield 7, 3) := by decide +kernel
theorem dX7_comes_4 : decode cX7_comes 4 = .ok (.iconst 0, 1) := by decide +kernel
theorem dX7_comes_5 : decode cX7_comes 5 = .ok (.iaload, 1) := by decide +kernel
theorem dX7_comes_6 : decode cX7_comes 6 = .ok (.istore 5, 2) := by decide +kernel
theorem dX7_comes_8 : decode cX7_comes 8 = .ok (.aload_n 0, 1) := by decide +kernel
theorem dX7_comes_9 : decode cX7_comes 9 = .ok (.iload 5, 2) := by decide +kernel
theorem dX7_comes_11 : decode cX7_comes 11 = .ok (.iconst 0, 1) := by decide +kernel
theorem dX7_comes_12 : decode cX7_comes 12 = .ok (.iload_n 1, 1) := by decide +kernel
theorem dX7_comes_13 : decode cX7_comes 13 = .ok (.invokevirtual 43, 3) := by decide +kernel
theorem dX7_comes_16 : decode cX7_comes 16 = .ok (.aload_n 0, 1) := by decide +kernel
theorem dX7_comes_17 : decode cX7_comes 17 = .ok (.iload 5, 2) := by decide +kernel
theorem dX7_comes_19 : decode cX7_comes 19 = .ok (.iconst 1, 1) := by decide +kernel
theorem dX7_comes_20 : decode cX7_comes 20 = .ok (.iload_n 2, 1) := by decide +kernel
theorem dX7_comes_21 : decode cX7_comes 21 = .ok (.invokevirtual 43, 3) := by decide +kernel
theorem dX7_comes_24 : decode cX7_comes 24 = .ok (.aload_n 0, 1) := by decide +kernel
theorem dX7_comes_25 : decode cX7_comes 25 = .ok (.iload 5, 2) := by decide +kernel
theorem dX7_comes_27 : decode cX7_comes 27 = .ok (.iconst 2, 1) := by decide +kernel
theorem dX7_comes_28 : decode cX7_comes 28 = .ok (.iload_n 3, 1) := by decide +kernel
theorem dX7_comes_29 : decode cX7_comes 29 = .ok (.invokevirtual 43, 3) := by decide +kernel
theorem dX7_comes_32 : decode cX7_comes 32 = .ok (.aload_n 0, 1) := by decide +kernel
theorem dX7_comes_33 : decode cX7_comes 33 = .ok (.iload 5, 2) := by decide +kernel
theorem dX7_comes_35 : decode cX7_comes 35 = .ok (.iconst 3, 1) := by decide +kernel
theorem dX7_comes_36 : decode cX7_comes 36 = .ok (.iload 4, 2) := by decide +kernel
theorem dX7_comes_38 : decode cX7_comes 38 = .ok (.invokevirtual 43, 3) := by decide +kernel
theorem dX7_comes_41 : decode cX7_comes 41 = .ok (.aload_n 0, 1) := by decide +kernel
theorem dX7_comes_42 : decode cX7_comes 42 = .ok (.iload 5, 2) := by decide +kernel
theorem dX7_comes_44 : decode cX7_comes 44 = .ok (.iconst 4, 1) := by decide +kernel
theorem dX7_comes_45 : decode cX7_comes 45 = .ok (.iconst 0, 1) := by decide +kernel
theorem dX7_comes_46 : decode cX7_comes 46 = .ok (.invokevirtual 43, 3) := by decide +kernel
theorem dX7_comes_49 : decode cX7_comes 49 = .ok (.aload_n 0, 1) := by decide +kernel
theorem dX7_comes_50 : decode cX7_comes 50 = .ok (.iload 5, 2) := by decide +kernel
theorem dX7_comes_52 : decode cX7_comes 52 = .ok (.iconst 5, 1) := by decide +kernel
theorem dX7_comes_53 : decode cX7_comes 53 = .ok (.iconst 0, 1) := by decide +kernel
theorem dX7_comes_54 : decode cX7_comes 54 = .ok (.invokevirtual 43, 3) := by decide +kernel
theorem dX7_comes_57 : decode cX7_comes 57 = .ok (.aload_n 0, 1) := by decide +kernel
theorem dX7_comes_58 : decode cX7_comes 58 = .ok (.iload 5, 2) := by decide +kernel
theorem dX7_comes_60 : decode cX7_comes 60 = .ok (.bipush 6, 2) := by decide +kernel
theorem dX7_comes_62 : decode cX7_comes 62 = .ok (.iconst 0, 1) := by decide +kernel
theorem dX7_comes_63 : decode cX7_comes 63 = .ok (.invokevirtual 43, 3) := by decide +kernel
theorem dX7_comes_66 : decode cX7_comes 66 = .ok (.aload_n 0, 1) := by decide +kernel
theorem dX7_comes_67 : decode cX7_comes 67 = .ok (.getfield 7, 3) := by decide +kernel
theorem dX7_comes_70 : decode cX7_comes 70 = .ok (.iconst 0, 1) := by decide +kernel
theorem dX7_comes_71 : decode cX7_comes 71 = .ok (.dup2, 1) := by decide +kernel
theorem dX7_comes_72 : decode cX7_comes 72 = .ok (.iaload, 1) := by decide +kernel
theorem dX7_comes_73 : decode cX7_comes 73 = .ok (.iconst 1, 1) := by decide +kernel
theorem dX7_comes_74 : decode cX7_comes 74 = .ok (.iadd, 1) := by decide +kernel
theorem dX7_comes_75 : decode cX7_comes 75 = .ok (.iastore, 1) := by decide +kernel
theorem dX7_comes_76 : decode cX7_comes 76 = .ok (.iload 5, 2) := by decide +kernel
theorem dX7_comes_78 : decode cX7_comes 78 = .ok (.ireturn, 1) := by decide +kernel
theorem dX7_drinker_0 : decode cX7_drinker 0 = .ok (.iload_n 1, 1) := by decide +kernel
theorem dX7_drinker_1 : decode cX7_drinker 1 = .ok (.i2l, 1) := by decide +kernel
theorem dX7_drinker_2 : decode cX7_drinker 2 = .ok (.lconst 0, 1) := by decide +kernel
theorem dX7_drinker_3 : decode cX7_drinker 3 = .ok (.ldc2_w 47, 3) := by decide +kernel
theorem dX7_drinker_6 : decode cX7_drinker 6 = .ok (.invokestatic 39, 3) := by decide +kernel
theorem dX7_drinker_9 : decode cX7_drinker 9 = .ok (.ifCond .eq 15, 3) := by decide +kernel
theorem dX7_drinker_12 : decode cX7_drinker 12 = .ok (.iload_n 2, 1) := by decide +kernel
theorem dX7_drinker_13 : decode cX7_drinker 13 = .ok (.i2l, 1) := by decide +kernel
theorem dX7_drinker_14 : decode cX7_drinker 14 = .ok (.lconst 1, 1) := by decide +kernel
theorem dX7_drinker_15 : decode cX7_drinker 15 = .ok (.ldc2_w 49, 3) := by decide +kernel
theorem dX7_drinker_18 : decode cX7_drinker 18 = .ok (.invokestatic 39, 3) := by decide +kernel
theorem dX7_drinker_21 : decode cX7_drinker 21 = .ok (.ifCond .ne 9, 3) := by decide +kernel
theorem dX7_drinker_24 : decode cX7_drinker 24 = .ok (.aload_n 0, 1) := by decide +kernel
theorem dX7_drinker_25 : decode cX7_drinker 25 = .ok (.iconst 0, 1) := by decide +kernel
theorem dX7_drinker_26 : decode cX7_drinker 26 = .ok (.invokevirtual 51, 3) := by decide +kernel
theorem dX7_drinker_29 : decode cX7_drinker 29 = .ok (.ireturn, 1) := by decide +kernel
theorem dX7_drinker_30 : decode cX7_drinker 30 = .ok (.aload_n 0, 1) := by decide +kernel
theorem dX7_drinker_31 : decode cX7_drinker 31 = .ok (.getfield 7, 3) := by decide +kernel
theorem dX7_drinker_34 : decode cX7_drinker 34 = .ok (.iconst 0, 1) := by decide +kernel
theorem dX7_drinker_35 : decode cX7_drinker 35 = .ok (.iaload, 1) := by decide +kernel
theorem dX7_drinker_36 : decode cX7_drinker 36 = .ok (.bipush 10, 2) := by decide +kernel
theorem dX7_drinker_38 : decode cX7_drinker 38 = .ok (.if_icmp .ne 11, 3) := by decide +kernel
theorem dX7_drinker_41 : decode cX7_drinker 41 = .ok (.aload_n 0, 1) := by decide +kernel
theorem dX7_drinker_42 : decode cX7_drinker 42 = .ok (.iconst 1, 1) := by decide +kernel
theorem dX7_drinker_43 : decode cX7_drinker 43 = .ok (.invokevirtual 51, 3) := by decide +kernel
theorem dX7_drinker_46 : decode cX7_drinker 46 = .ok (.goto 14, 3) := by decide +kernel
theorem dX7_drinker_49 : decode cX7_drinker 49 = .ok (.aload_n 0, 1) := by decide +kernel
theorem dX7_drinker_50 : decode cX7_drinker 50 = .ok (.iload_n 1, 1) := by decide +kernel
theorem dX7_drinker_51 : decode cX7_drinker 51 = .ok (.iload_n 2, 1) := by decide +kernel
theorem dX7_drinker_52 : decode cX7_drinker 52 = .ok (.sipush 200, 3) := by decide +kernel
theorem dX7_drinker_55 : decode cX7_drinker 55 = .ok (.bipush 20, 2) := by decide +kernel
theorem dX7_drinker_57 : decode cX7_drinker 57 = .ok (.invokevirtual 55, 3) := by decide +kernel
theorem dX7_drinker_60 : decode cX7_drinker 60 = .ok (.ireturn, 1) := by decide +kernel
theorem dX7_of_0 : decode cX7_of 0 = .ok (.aload_n 0, 1) := by decide +kernel
theorem dX7_of_1 : decode cX7_of 1 = .ok (.iload_n 1, 1) := by decide +kernel
theorem dX7_of_2 : decode cX7_of 2 = .ok (.invokevirtual 59, 3) := by decide +kernel
theorem dX7_of_5 : decode cX7_of 5 = .ok (.ifCond .eq 24, 3) := by decide +kernel
theorem dX7_of_8 : decode cX7_of 8 = .ok (.iload_n 2, 1) := by decide +kernel
theorem dX7_of_9 : decode cX7_of 9 = .ok (.i2l, 1) := by decide +kernel
theorem dX7_of_10 : decode cX7_of 10 = .ok (.lconst 0, 1) := by decide +kernel
theorem dX7_of_11 : decode cX7_of 11 = .ok (.ldc2_w 47, 3) := by decide +kernel
theorem dX7_of_14 : decode cX7_of 14 = .ok (.invokestatic 39, 3) := by decide +kernel
theorem dX7_of_17 : decode cX7_of 17 = .ok (.ifCond .eq 12, 3) := by decide +kernel
theorem dX7_of_20 : decode cX7_of 20 = .ok (.aload_n 0, 1) := by decide +kernel
theorem dX7_of_21 : decode cX7_of 21 = .ok (.iload_n 1, 1) := by decide +kernel
theorem dX7_of_22 : decode cX7_of 22 = .ok (.iload_n 2, 1) := by decide +kernel
theorem dX7_of_23 : decode cX7_of 23 = .ok (.invokevirtual 63, 3) := by decide +kernel
theorem dX7_of_26 : decode cX7_of 26 = .ok (.goto 8, 3) := by decide +kernel
theorem dX7_of_29 : decode cX7_of 29 = .ok (.aload_n 0, 1) := by decide +kernel
theorem dX7_of_30 : decode cX7_of 30 = .ok (.iconst 0, 1) := by decide +kernel
theorem dX7_of_31 : decode cX7_of 31 = .ok (.invokevirtual 51, 3) := by decide +kernel
theorem dX7_of_34 : decode cX7_of 34 = .ok (.ireturn, 1) := by decide +kernel
theorem dX7_change_0 : decode cX7_change 0 = .ok (.iload_n 2, 1) := by decide +kernel
theorem dX7_change_1 : decode cX7_change 1 = .ok (.ifCond .ne 15, 3) := by decide +kernel
theorem dX7_change_4 : decode cX7_change 4 = .ok (.iload_n 3, 1) := by decide +kernel
theorem dX7_change_5 : decode cX7_change 5 = .ok (.i2l, 1) := by decide +kernel
theorem dX7_change_6 : decode cX7_change 6 = .ok (.lconst 0, 1) := by decide +kernel
theorem dX7_change_7 : decode cX7_change 7 = .ok (.ldc2_w 47, 3) := by decide +kernel
theorem dX7_change_10 : decode cX7_change 10 = .ok (.invokestatic 39, 3) := by decide +kernel
theorem dX7_change_13 : decode cX7_change 13 = .ok (.goto 59, 3) := by decide +kernel
theorem dX7_change_16 : decode cX7_change 16 = .ok (.iload_n 2, 1) := by decide +kernel
theorem dX7_change_17 : decode cX7_change 17 = .ok (.iconst 1, 1) := by decide +kernel
theorem dX7_change_18 : decode cX7_change 18 = .ok (.if_icmp .ne 15, 3) := by decide +kernel
theorem dX7_change_21 : decode cX7_change 21 = .ok (.iload_n 3, 1) := by decide +kernel
theorem dX7_change_22 : decode cX7_change 22 = .ok (.i2l, 1) := by decide +kernel
theorem dX7_change_23 : decode cX7_change 23 = .ok (.lconst 1, 1) := by decide +kernel
theorem dX7_change_24 : decode cX7_change 24 = .ok (.ldc2_w 49, 3) := by decide +kernel
theorem dX7_change_27 : decode cX7_change 27 = .ok (.invokestatic 39, 3) := by decide +kernel
theorem dX7_change_30 : decode cX7_change 30 = .ok (.goto 42, 3) := by decide +kernel
theorem dX7_change_33 : decode cX7_change 33 = .ok (.iload_n 2, 1) := by decide +kernel
theorem dX7_change_34 : decode cX7_change 34 = .ok (.iconst 2, 1) := by decide +kernel
theorem dX7_change_35 : decode cX7_change 35 = .ok (.if_icmp .ne 15, 3) := by decide +kernel
theorem dX7_change_38 : decode cX7_change 38 = .ok (.iload_n 3, 1) := by decide +kernel
theorem dX7_change_39 : decode cX7_change 39 = .ok (.i2l, 1) := by decide +kernel
theorem dX7_change_40 : decode cX7_change 40 = .ok (.lconst 0, 1) := by decide +kernel
theorem dX7_change_41 : decode cX7_change 41 = .ok (.ldc2_w 67, 3) := by decide +kernel
theorem dX7_change_44 : decode cX7_change 44 = .ok (.invokestatic 39, 3) := by decide +kernel
theorem dX7_change_47 : decode cX7_change 47 = .ok (.goto 25, 3) := by decide +kernel
theorem dX7_change_50 : decode cX7_change 50 = .ok (.iload_n 2, 1) := by decide +kernel
theorem dX7_change_51 : decode cX7_change 51 = .ok (.iconst 3, 1) := by decide +kernel
theorem dX7_change_52 : decode cX7_change 52 = .ok (.if_icmp .ne 19, 3) := by decide +kernel
theorem dX7_change_55 : decode cX7_change 55 = .ok (.iload_n 3, 1) := by decide +kernel
theorem dX7_change_56 : decode cX7_change 56 = .ok (.i2l, 1) := by decide +kernel
theorem dX7_change_57 : decode cX7_change 57 = .ok (.lconst 0, 1) := by decide +kernel
theorem dX7_change_58 : decode cX7_change 58 = .ok (.ldc2_w 69, 3) := by decide +kernel
theorem dX7_change_61 : decode cX7_change 61 = .ok (.invokestatic 39, 3) := by decide +kernel
theorem dX7_change_64 : decode cX7_change 64 = .ok (.ifCond .eq 7, 3) := by decide +kernel
theorem dX7_change_67 : decode cX7_change 67 = .ok (.iconst 1, 1) := by decide +kernel
theorem dX7_change_68 : decode cX7_change 68 = .ok (.goto 4, 3) := by decide +kernel
theorem dX7_change_71 : decode cX7_change 71 = .ok (.iconst 0, 1) := by decide +kernel
theorem dX7_change_72 : decode cX7_change 72 = .ok (.istore 4, 2) := by decide +kernel
theorem dX7_change_74 : decode cX7_change 74 = .ok (.aload_n 0, 1) := by decide +kernel
theorem dX7_change_75 : decode cX7_change 75 = .ok (.iload_n 1, 1) := by decide +kernel
theorem dX7_change_76 : decode cX7_change 76 = .ok (.invokevirtual 59, 3) := by decide +kernel
theorem dX7_change_79 : decode cX7_change 79 = .ok (.ifCond .eq 8, 3) := by decide +kernel
theorem dX7_change_82 : decode cX7_change 82 = .ok (.iload 4, 2) := by decide +kernel
theorem dX7_change_84 : decode cX7_change 84 = .ok (.ifCond .ne 9, 3) := by decide +kernel
theorem dX7_change_87 : decode cX7_change 87 = .ok (.aload_n 0, 1) := by decide +kernel
theorem dX7_change_88 : decode cX7_change 88 = .ok (.iconst 0, 1) := by decide +kernel
theorem dX7_change_89 : decode cX7_change 89 = .ok (.invokevirtual 51, 3) := by decide +kernel
theorem dX7_change_92 : decode cX7_change 92 = .ok (.ireturn, 1) := by decide +kernel
theorem dX7_change_93 : decode cX7_change 93 = .ok (.aload_n 0, 1) := by decide +kernel
theorem dX7_change_94 : decode cX7_change 94 = .ok (.iload_n 1, 1) := by decide +kernel
theorem dX7_change_95 : decode cX7_change 95 = .ok (.iload_n 2, 1) := by decide +kernel
theorem dX7_change_96 : decode cX7_change 96 = .ok (.invokevirtual 63, 3) := by decide +kernel
theorem dX7_change_99 : decode cX7_change 99 = .ok (.istore 5, 2) := by decide +kernel
theorem dX7_change_101 : decode cX7_change 101 = .ok (.aload_n 0, 1) := by decide +kernel
theorem dX7_change_102 : decode cX7_change 102 = .ok (.iload_n 1, 1) := by decide +kernel
theorem dX7_change_103 : decode cX7_change 103 = .ok (.iload_n 2, 1) := by decide +kernel
theorem dX7_change_104 : decode cX7_change 104 = .ok (.iload_n 3, 1) := by decide +kernel
theorem dX7_change_105 : decode cX7_change 105 = .ok (.invokevirtual 43, 3) := by decide +kernel
theorem dX7_change_108 : decode cX7_change 108 = .ok (.iload 5, 2) := by decide +kernel
theorem dX7_change_110 : decode cX7_change 110 = .ok (.ireturn, 1) := by decide +kernel
theorem dX7_room_0 : decode cX7_room 0 = .ok (.iload_n 1, 1) := by decide +kernel
theorem dX7_room_1 : decode cX7_room 1 = .ok (.ifCond .ne 15, 3) := by decide +kernel
theorem dX7_room_4 : decode cX7_room 4 = .ok (.iload_n 2, 1) := by decide +kernel
theorem dX7_room_5 : decode cX7_room 5 = .ok (.i2l, 1) := by decide +kernel
theorem dX7_room_6 : decode cX7_room 6 = .ok (.lconst 0, 1) := by decide +kernel
theorem dX7_room_7 : decode cX7_room 7 = .ok (.ldc2_w 69, 3) := by decide +kernel
theorem dX7_room_10 : decode cX7_room 10 = .ok (.invokestatic 39, 3) := by decide +kernel
theorem dX7_room_13 : decode cX7_room 13 = .ok (.goto 42, 3) := by decide +kernel
theorem dX7_room_16 : decode cX7_room 16 = .ok (.iload_n 1, 1) := by decide +kernel
theorem dX7_room_17 : decode cX7_room 17 = .ok (.iconst 1, 1) := by decide +kernel
theorem dX7_room_18 : decode cX7_room 18 = .ok (.if_icmp .ne 15, 3) := by decide +kernel
theorem dX7_room_21 : decode cX7_room 21 = .ok (.iload_n 2, 1) := by decide +kernel
theorem dX7_room_22 : decode cX7_room 22 = .ok (.i2l, 1) := by decide +kernel
theorem dX7_room_23 : decode cX7_room 23 = .ok (.lconst 1, 1) := by decide +kernel
theorem dX7_room_24 : decode cX7_room 24 = .ok (.ldc2_w 69, 3) := by decide +kernel
theorem dX7_room_27 : decode cX7_room 27 = .ok (.invokestatic 39, 3) := by decide +kernel
theorem dX7_room_30 : decode cX7_room 30 = .ok (.goto 25, 3) := by decide +kernel
theorem dX7_room_33 : decode cX7_room 33 = .ok (.iload_n 1, 1) := by decide +kernel
theorem dX7_room_34 : decode cX7_room 34 = .ok (.iconst 2, 1) := by decide +kernel
theorem dX7_room_35 : decode cX7_room 35 = .ok (.if_icmp .ne 19, 3) := by decide +kernel
theorem dX7_room_38 : decode cX7_room 38 = .ok (.iload_n 2, 1) := by decide +kernel
theorem dX7_room_39 : decode cX7_room 39 = .ok (.i2l, 1) := by decide +kernel
theorem dX7_room_40 : decode cX7_room 40 = .ok (.lconst 0, 1) := by decide +kernel
theorem dX7_room_41 : decode cX7_room 41 = .ok (.ldc2_w 71, 3) := by decide +kernel
theorem dX7_room_44 : decode cX7_room 44 = .ok (.invokestatic 39, 3) := by decide +kernel
theorem dX7_room_47 : decode cX7_room 47 = .ok (.ifCond .eq 7, 3) := by decide +kernel
theorem dX7_room_50 : decode cX7_room 50 = .ok (.iconst 1, 1) := by decide +kernel
theorem dX7_room_51 : decode cX7_room 51 = .ok (.goto 4, 3) := by decide +kernel
theorem dX7_room_54 : decode cX7_room 54 = .ok (.iconst 0, 1) := by decide +kernel
theorem dX7_room_55 : decode cX7_room 55 = .ok (.istore_n 3, 1) := by decide +kernel
theorem dX7_room_56 : decode cX7_room 56 = .ok (.iload_n 3, 1) := by decide +kernel
theorem dX7_room_57 : decode cX7_room 57 = .ok (.ifCond .ne 9, 3) := by decide +kernel
theorem dX7_room_60 : decode cX7_room 60 = .ok (.aload_n 0, 1) := by decide +kernel
theorem dX7_room_61 : decode cX7_room 61 = .ok (.iconst 0, 1) := by decide +kernel
theorem dX7_room_62 : decode cX7_room 62 = .ok (.invokevirtual 51, 3) := by decide +kernel
theorem dX7_room_65 : decode cX7_room 65 = .ok (.ireturn, 1) := by decide +kernel
theorem dX7_room_66 : decode cX7_room 66 = .ok (.iload_n 1, 1) := by decide +kernel
theorem dX7_room_67 : decode cX7_room 67 = .ok (.ifCond .ne 7, 3) := by decide +kernel
theorem dX7_room_70 : decode cX7_room 70 = .ok (.iconst 1, 1) := by decide +kernel
theorem dX7_room_71 : decode cX7_room 71 = .ok (.goto 13, 3) := by decide +kernel
theorem dX7_room_74 : decode cX7_room 74 = .ok (.iload_n 1, 1) := by decide +kernel
theorem dX7_room_75 : decode cX7_room 75 = .ok (.iconst 1, 1) := by decide +kernel
theorem dX7_room_76 : decode cX7_room 76 = .ok (.if_icmp .ne 7, 3) := by decide +kernel
theorem dX7_room_79 : decode cX7_room 79 = .ok (.iconst 2, 1) := by decide +kernel
theorem dX7_room_80 : decode cX7_room 80 = .ok (.goto 4, 3) := by decide +kernel
theorem dX7_room_83 : decode cX7_room 83 = .ok (.iconst 5, 1) := by decide +kernel
theorem dX7_room_84 : decode cX7_room 84 = .ok (.istore 4, 2) := by decide +kernel
theorem dX7_room_86 : decode cX7_room 86 = .ok (.aload_n 0, 1) := by decide +kernel
theorem dX7_room_87 : decode cX7_room 87 = .ok (.getfield 7, 3) := by decide +kernel
theorem dX7_room_90 : decode cX7_room 90 = .ok (.iload 4, 2) := by decide +kernel
theorem dX7_room_92 : decode cX7_room 92 = .ok (.iaload, 1) := by decide +kernel
theorem dX7_room_93 : decode cX7_room 93 = .ok (.istore 5, 2) := by decide +kernel
theorem dX7_room_95 : decode cX7_room 95 = .ok (.aload_n 0, 1) := by decide +kernel
theorem dX7_room_96 : decode cX7_room 96 = .ok (.getfield 7, 3) := by decide +kernel
theorem dX7_room_99 : decode cX7_room 99 = .ok (.iload 4, 2) := by decide +kernel
theorem dX7_room_101 : decode cX7_room 101 = .ok (.iload_n 2, 1) := by decide +kernel
theorem dX7_room_102 : decode cX7_room 102 = .ok (.iastore, 1) := by decide +kernel
theorem dX7_room_103 : decode cX7_room 103 = .ok (.aload_n 0, 1) := by decide +kernel
theorem dX7_room_104 : decode cX7_room 104 = .ok (.getfield 7, 3) := by decide +kernel
theorem dX7_room_107 : decode cX7_room 107 = .ok (.iconst 3, 1) := by decide +kernel
theorem dX7_room_108 : decode cX7_room 108 = .ok (.iload_n 1, 1) := by decide +kernel
theorem dX7_room_109 : decode cX7_room 109 = .ok (.iconst 1, 1) := by decide +kernel
theorem dX7_room_110 : decode cX7_room 110 = .ok (.if_icmp .ne 7, 3) := by decide +kernel
theorem dX7_room_113 : decode cX7_room 113 = .ok (.iload_n 2, 1) := by decide +kernel
theorem dX7_room_114 : decode cX7_room 114 = .ok (.goto 9, 3) := by decide +kernel
theorem dX7_room_117 : decode cX7_room 117 = .ok (.aload_n 0, 1) := by decide +kernel
theorem dX7_room_118 : decode cX7_room 118 = .ok (.getfield 7, 3) := by decide +kernel
theorem dX7_room_121 : decode cX7_room 121 = .ok (.iconst 3, 1) := by decide +kernel
theorem dX7_room_122 : decode cX7_room 122 = .ok (.iaload, 1) := by decide +kernel
theorem dX7_room_123 : decode cX7_room 123 = .ok (.iastore, 1) := by decide +kernel
theorem dX7_room_124 : decode cX7_room 124 = .ok (.iload 5, 2) := by decide +kernel
theorem dX7_room_126 : decode cX7_room 126 = .ok (.ireturn, 1) := by decide +kernel
theorem dX7_empty_0 : decode cX7_empty 0 = .ok (.aload_n 0, 1) := by decide +kernel
theorem dX7_empty_1 : decode cX7_empty 1 = .ok (.getfield 7, 3) := by decide +kernel
theorem dX7_empty_4 : decode cX7_empty 4 = .ok (.iconst 4, 1) := by decide +kernel
theorem dX7_empty_5 : decode cX7_empty 5 = .ok (.iaload, 1) := by decide +kernel
theorem dX7_empty_6 : decode cX7_empty 6 = .ok (.istore_n 1, 1) := by decide +kernel
theorem dX7_empty_7 : decode cX7_empty 7 = .ok (.aload_n 0, 1) := by decide +kernel
theorem dX7_empty_8 : decode cX7_empty 8 = .ok (.getfield 7, 3) := by decide +kernel
theorem dX7_empty_11 : decode cX7_empty 11 = .ok (.iconst 4, 1) := by decide +kernel
theorem dX7_empty_12 : decode cX7_empty 12 = .ok (.iconst 0, 1) := by decide +kernel
theorem dX7_empty_13 : decode cX7_empty 13 = .ok (.iastore, 1) := by decide +kernel
theorem dX7_empty_14 : decode cX7_empty 14 = .ok (.iload_n 1, 1) := by decide +kernel
theorem dX7_empty_15 : decode cX7_empty 15 = .ok (.ireturn, 1) := by decide +kernel
theorem dX7_taken_0 : decode cX7_taken 0 = .ok (.iload_n 1, 1) := by decide +kernel
theorem dX7_taken_1 : decode cX7_taken 1 = .ok (.i2l, 1) := by decide +kernel
theorem dX7_taken_2 : decode cX7_taken 2 = .ok (.lconst 1, 1) := by decide +kernel
theorem dX7_taken_3 : decode cX7_taken 3 = .ok (.ldc2_w 73, 3) := by decide +kernel
theorem dX7_taken_6 : decode cX7_taken 6 = .ok (.invokestatic 39, 3) := by decide +kernel
theorem dX7_taken_9 : decode cX7_taken 9 = .ok (.ifCond .ne 9, 3) := by decide +kernel
theorem dX7_taken_12 : decode cX7_taken 12 = .ok (.aload_n 0, 1) := by decide +kernel
theorem dX7_taken_13 : decode cX7_taken 13 = .ok (.iconst 0, 1) := by decide +kernel
theorem dX7_taken_14 : decode cX7_taken 14 = .ok (.invokevirtual 51, 3) := by decide +kernel
theorem dX7_taken_17 : decode cX7_taken 17 = .ok (.ireturn, 1) := by decide +kernel
theorem dX7_taken_18 : decode cX7_taken 18 = .ok (.iload_n 1, 1) := by decide +kernel
theorem dX7_taken_19 : decode cX7_taken 19 = .ok (.aload_n 0, 1) := by decide +kernel
theorem dX7_taken_20 : decode cX7_taken 20 = .ok (.getfield 7, 3) := by decide +kernel
theorem dX7_taken_23 : decode cX7_taken 23 = .ok (.iconst 4, 1) := by decide +kernel
theorem dX7_taken_24 : decode cX7_taken 24 = .ok (.iaload, 1) := by decide +kernel
theorem dX7_taken_25 : decode cX7_taken 25 = .ok (.invokestatic 75, 3) := by decide +kernel
theorem dX7_taken_28 : decode cX7_taken 28 = .ok (.istore_n 2, 1) := by decide +kernel
theorem dX7_taken_29 : decode cX7_taken 29 = .ok (.aload_n 0, 1) := by decide +kernel
theorem dX7_taken_30 : decode cX7_taken 30 = .ok (.getfield 7, 3) := by decide +kernel
theorem dX7_taken_33 : decode cX7_taken 33 = .ok (.iconst 4, 1) := by decide +kernel
theorem dX7_taken_34 : decode cX7_taken 34 = .ok (.dup2, 1) := by decide +kernel
theorem dX7_taken_35 : decode cX7_taken 35 = .ok (.iaload, 1) := by decide +kernel
theorem dX7_taken_36 : decode cX7_taken 36 = .ok (.iload_n 2, 1) := by decide +kernel
theorem dX7_taken_37 : decode cX7_taken 37 = .ok (.isub, 1) := by decide +kernel
theorem dX7_taken_38 : decode cX7_taken 38 = .ok (.iastore, 1) := by decide +kernel
theorem dX7_taken_39 : decode cX7_taken 39 = .ok (.iload_n 2, 1) := by decide +kernel
theorem dX7_taken_40 : decode cX7_taken 40 = .ok (.ireturn, 1) := by decide +kernel
theorem dX7_forgive_0 : decode cX7_forgive 0 = .ok (.aload_n 0, 1) := by decide +kernel
theorem dX7_forgive_1 : decode cX7_forgive 1 = .ok (.iload_n 1, 1) := by decide +kernel
theorem dX7_forgive_2 : decode cX7_forgive 2 = .ok (.invokevirtual 59, 3) := by decide +kernel
theorem dX7_forgive_5 : decode cX7_forgive 5 = .ok (.ifCond .ne 9, 3) := by decide +kernel
theorem dX7_forgive_8 : decode cX7_forgive 8 = .ok (.aload_n 0, 1) := by decide +kernel
theorem dX7_forgive_9 : decode cX7_forgive 9 = .ok (.iconst 0, 1) := by decide +kernel
theorem dX7_forgive_10 : decode cX7_forgive 10 = .ok (.invokevirtual 51, 3) := by decide +kernel
theorem dX7_forgive_13 : decode cX7_forgive 13 = .ok (.ireturn, 1) := by decide +kernel
theorem dX7_forgive_14 : decode cX7_forgive 14 = .ok (.aload_n 0, 1) := by decide +kernel
theorem dX7_forgive_15 : decode cX7_forgive 15 = .ok (.iload_n 1, 1) := by decide +kernel
theorem dX7_forgive_16 : decode cX7_forgive 16 = .ok (.iconst 4, 1) := by decide +kernel
theorem dX7_forgive_17 : decode cX7_forgive 17 = .ok (.invokevirtual 63, 3) := by decide +kernel
theorem dX7_forgive_20 : decode cX7_forgive 20 = .ok (.istore_n 2, 1) := by decide +kernel
theorem dX7_forgive_21 : decode cX7_forgive 21 = .ok (.aload_n 0, 1) := by decide +kernel
theorem dX7_forgive_22 : decode cX7_forgive 22 = .ok (.iload_n 1, 1) := by decide +kernel
theorem dX7_forgive_23 : decode cX7_forgive 23 = .ok (.iconst 4, 1) := by decide +kernel
theorem dX7_forgive_24 : decode cX7_forgive 24 = .ok (.iconst 0, 1) := by decide +kernel
theorem dX7_forgive_25 : decode cX7_forgive 25 = .ok (.invokevirtual 43, 3) := by decide +kernel
theorem dX7_forgive_28 : decode cX7_forgive 28 = .ok (.iload_n 2, 1) := by decide +kernel
theorem dX7_forgive_29 : decode cX7_forgive 29 = .ok (.ireturn, 1) := by decide +kernel
theorem dX7_sumOf_0 : decode cX7_sumOf 0 = .ok (.iconst 0, 1) := by decide +kernel
theorem dX7_sumOf_1 : decode cX7_sumOf 1 = .ok (.istore_n 2, 1) := by decide +kernel
theorem dX7_sumOf_2 : decode cX7_sumOf 2 = .ok (.iconst 0, 1) := by decide +kernel
theorem dX7_sumOf_3 : decode cX7_sumOf 3 = .ok (.istore_n 3, 1) := by decide +kernel
theorem dX7_sumOf_4 : decode cX7_sumOf 4 = .ok (.iload_n 3, 1) := by decide +kernel
theorem dX7_sumOf_5 : decode cX7_sumOf 5 = .ok (.aload_n 0, 1) := by decide +kernel
theorem dX7_sumOf_6 : decode cX7_sumOf 6 = .ok (.getfield 7, 3) := by decide +kernel
theorem dX7_sumOf_9 : decode cX7_sumOf 9 = .ok (.iconst 0, 1) := by decide +kernel
theorem dX7_sumOf_10 : decode cX7_sumOf 10 = .ok (.iaload, 1) := by decide +kernel
theorem dX7_sumOf_11 : decode cX7_sumOf 11 = .ok (.if_icmp .ge 18, 3) := by decide +kernel
theorem dX7_sumOf_14 : decode cX7_sumOf 14 = .ok (.iload_n 2, 1) := by decide +kernel
theorem dX7_sumOf_15 : decode cX7_sumOf 15 = .ok (.aload_n 0, 1) := by decide +kernel
theorem dX7_sumOf_16 : decode cX7_sumOf 16 = .ok (.iload_n 3, 1) := by decide +kernel
theorem dX7_sumOf_17 : decode cX7_sumOf 17 = .ok (.iload_n 1, 1) := by decide +kernel
theorem dX7_sumOf_18 : decode cX7_sumOf 18 = .ok (.invokevirtual 63, 3) := by decide +kernel
theorem dX7_sumOf_21 : decode cX7_sumOf 21 = .ok (.iadd, 1) := by decide +kernel
theorem dX7_sumOf_22 : decode cX7_sumOf 22 = .ok (.istore_n 2, 1) := by decide +kernel
theorem dX7_sumOf_23 : decode cX7_sumOf 23 = .ok (.iinc 3 1, 3) := by decide +kernel
theorem dX7_sumOf_26 : decode cX7_sumOf 26 = .ok (.goto (-22), 3) := by decide +kernel
theorem dX7_sumOf_29 : decode cX7_sumOf 29 = .ok (.iload_n 2, 1) := by decide +kernel
theorem dX7_sumOf_30 : decode cX7_sumOf 30 = .ok (.ireturn, 1) := by decide +kernel
theorem dX7_now_0 : decode cX7_now 0 = .ok (.iload_n 1, 1) := by decide +kernel
theorem dX7_now_1 : decode cX7_now 1 = .ok (.tableswitch 131 0 9 #[55, 63, 70, 77, 85, 98, 106, 112, 118, 124], 55) := by decide +kernel
theorem dX7_now_56 : decode cX7_now 56 = .ok (.aload_n 0, 1) := by decide +kernel
theorem dX7_now_57 : decode cX7_now 57 = .ok (.getfield 7, 3) := by decide +kernel
theorem dX7_now_60 : decode cX7_now 60 = .ok (.bipush 7, 2) := by decide +kernel
theorem dX7_now_62 : decode cX7_now 62 = .ok (.iaload, 1) := by decide +kernel
theorem dX7_now_63 : decode cX7_now 63 = .ok (.ireturn, 1) := by decide +kernel
theorem dX7_now_64 : decode cX7_now 64 = .ok (.aload_n 0, 1) := by decide +kernel
theorem dX7_now_65 : decode cX7_now 65 = .ok (.getfield 7, 3) := by decide +kernel
theorem dX7_now_68 : decode cX7_now 68 = .ok (.iconst 4, 1) := by decide +kernel
theorem dX7_now_69 : decode cX7_now 69 = .ok (.iaload, 1) := by decide +kernel
theorem dX7_now_70 : decode cX7_now 70 = .ok (.ireturn, 1) := by decide +kernel
theorem dX7_now_71 : decode cX7_now 71 = .ok (.aload_n 0, 1) := by decide +kernel
theorem dX7_now_72 : decode cX7_now 72 = .ok (.getfield 7, 3) := by decide +kernel
theorem dX7_now_75 : decode cX7_now 75 = .ok (.iconst 3, 1) := by decide +kernel
theorem dX7_now_76 : decode cX7_now 76 = .ok (.iaload, 1) := by decide +kernel
theorem dX7_now_77 : decode cX7_now 77 = .ok (.ireturn, 1) := by decide +kernel
theorem dX7_now_78 : decode cX7_now 78 = .ok (.aload_n 0, 1) := by decide +kernel
theorem dX7_now_79 : decode cX7_now 79 = .ok (.getfield 7, 3) := by decide +kernel
theorem dX7_now_82 : decode cX7_now 82 = .ok (.bipush 6, 2) := by decide +kernel
theorem dX7_now_84 : decode cX7_now 84 = .ok (.iaload, 1) := by decide +kernel
theorem dX7_now_85 : decode cX7_now 85 = .ok (.ireturn, 1) := by decide +kernel
theorem dX7_now_86 : decode cX7_now 86 = .ok (.aload_n 0, 1) := by decide +kernel
theorem dX7_now_87 : decode cX7_now 87 = .ok (.getfield 7, 3) := by decide +kernel
theorem dX7_now_90 : decode cX7_now 90 = .ok (.iconst 1, 1) := by decide +kernel
theorem dX7_now_91 : decode cX7_now 91 = .ok (.iaload, 1) := by decide +kernel
theorem dX7_now_92 : decode cX7_now 92 = .ok (.aload_n 0, 1) := by decide +kernel
theorem dX7_now_93 : decode cX7_now 93 = .ok (.iconst 5, 1) := by decide +kernel
theorem dX7_now_94 : decode cX7_now 94 = .ok (.invokevirtual 78, 3) := by decide +kernel
theorem dX7_now_97 : decode cX7_now 97 = .ok (.imul, 1) := by decide +kernel
theorem dX7_now_98 : decode cX7_now 98 = .ok (.ireturn, 1) := by decide +kernel
theorem dX7_now_99 : decode cX7_now 99 = .ok (.aload_n 0, 1) := by decide +kernel
theorem dX7_now_100 : decode cX7_now 100 = .ok (.getfield 7, 3) := by decide +kernel
theorem dX7_now_103 : decode cX7_now 103 = .ok (.bipush 8, 2) := by decide +kernel
theorem dX7_now_105 : decode cX7_now 105 = .ok (.iaload, 1) := by decide +kernel
theorem dX7_now_106 : decode cX7_now 106 = .ok (.ireturn, 1) := by decide +kernel
theorem dX7_now_107 : decode cX7_now 107 = .ok (.aload_n 0, 1) := by decide +kernel
theorem dX7_now_108 : decode cX7_now 108 = .ok (.iconst 4, 1) := by decide +kernel
theorem dX7_now_109 : decode cX7_now 109 = .ok (.invokevirtual 78, 3) := by decide +kernel
theorem dX7_now_112 : decode cX7_now 112 = .ok (.ireturn, 1) := by decide +kernel
theorem dX7_now_113 : decode cX7_now 113 = .ok (.aload_n 0, 1) := by decide +kernel
theorem dX7_now_114 : decode cX7_now 114 = .ok (.iconst 2, 1) := by decide +kernel
theorem dX7_now_115 : decode cX7_now 115 = .ok (.invokevirtual 78, 3) := by decide +kernel
theorem dX7_now_118 : decode cX7_now 118 = .ok (.ireturn, 1) := by decide +kernel
theorem dX7_now_119 : decode cX7_now 119 = .ok (.aload_n 0, 1) := by decide +kernel
theorem dX7_now_120 : decode cX7_now 120 = .ok (.iconst 5, 1) := by decide +kernel
theorem dX7_now_121 : decode cX7_now 121 = .ok (.invokevirtual 78, 3) := by decide +kernel
theorem dX7_now_124 : decode cX7_now 124 = .ok (.ireturn, 1) := by decide +kernel
theorem dX7_now_125 : decode cX7_now 125 = .ok (.aload_n 0, 1) := by decide +kernel
theorem dX7_now_126 : decode cX7_now 126 = .ok (.bipush 6, 2) := by decide +kernel
theorem dX7_now_128 : decode cX7_now 128 = .ok (.invokevirtual 78, 3) := by decide +kernel
theorem dX7_now_131 : decode cX7_now 131 = .ok (.ireturn, 1) := by decide +kernel
theorem dX7_now_132 : decode cX7_now 132 = .ok (.aload_n 0, 1) := by decide +kernel
theorem dX7_now_133 : decode cX7_now 133 = .ok (.iconst 0, 1) := by decide +kernel
theorem dX7_now_134 : decode cX7_now 134 = .ok (.invokevirtual 51, 3) := by decide +kernel
theorem dX7_now_137 : decode cX7_now 137 = .ok (.ireturn, 1) := by decide +kernel
theorem dX7_drawn_0 : decode cX7_drawn 0 = .ok (.aload_n 0, 1) := by decide +kernel
theorem dX7_drawn_1 : decode cX7_drawn 1 = .ok (.getfield 7, 3) := by decide +kernel
theorem dX7_drawn_4 : decode cX7_drawn 4 = .ok (.bipush 10, 2) := by decide +kernel
theorem dX7_drawn_6 : decode cX7_drawn 6 = .ok (.aload_n 0, 1) := by decide +kernel
theorem dX7_drawn_7 : decode cX7_drawn 7 = .ok (.getfield 7, 3) := by decide +kernel
theorem dX7_drawn_10 : decode cX7_drawn 10 = .ok (.bipush 10, 2) := by decide +kernel
theorem dX7_drawn_12 : decode cX7_drawn 12 = .ok (.iaload, 1) := by decide +kernel
theorem dX7_drawn_13 : decode cX7_drawn 13 = .ok (.ldc 81, 2) := by decide +kernel
theorem dX7_drawn_15 : decode cX7_drawn 15 = .ok (.imul, 1) := by decide +kernel
theorem dX7_drawn_16 : decode cX7_drawn 16 = .ok (.sipush 12345, 3) := by decide +kernel
theorem dX7_drawn_19 : decode cX7_drawn 19 = .ok (.iadd, 1) := by decide +kernel
theorem dX7_drawn_20 : decode cX7_drawn 20 = .ok (.iastore, 1) := by decide +kernel
theorem dX7_drawn_21 : decode cX7_drawn 21 = .ok (.aload_n 0, 1) := by decide +kernel
theorem dX7_drawn_22 : decode cX7_drawn 22 = .ok (.getfield 7, 3) := by decide +kernel
theorem dX7_drawn_25 : decode cX7_drawn 25 = .ok (.bipush 10, 2) := by decide +kernel
theorem dX7_drawn_27 : decode cX7_drawn 27 = .ok (.iaload, 1) := by decide +kernel
theorem dX7_drawn_28 : decode cX7_drawn 28 = .ok (.bipush 8, 2) := by decide +kernel
theorem dX7_drawn_30 : decode cX7_drawn 30 = .ok (.iushr, 1) := by decide +kernel
theorem dX7_drawn_31 : decode cX7_drawn 31 = .ok (.ireturn, 1) := by decide +kernel
theorem dX7_pays_0 : decode cX7_pays 0 = .ok (.iload_n 2, 1) := by decide +kernel
theorem dX7_pays_1 : decode cX7_pays 1 = .ok (.aload_n 0, 1) := by decide +kernel
theorem dX7_pays_2 : decode cX7_pays 2 = .ok (.iload_n 1, 1) := by decide +kernel
theorem dX7_pays_3 : decode cX7_pays 3 = .ok (.iconst 2, 1) := by decide +kernel
theorem dX7_pays_4 : decode cX7_pays 4 = .ok (.invokevirtual 63, 3) := by decide +kernel
theorem dX7_pays_7 : decode cX7_pays 7 = .ok (.invokestatic 75, 3) := by decide +kernel
theorem dX7_pays_10 : decode cX7_pays 10 = .ok (.istore_n 3, 1) := by decide +kernel
theorem dX7_pays_11 : decode cX7_pays 11 = .ok (.aload_n 0, 1) := by decide +kernel
theorem dX7_pays_12 : decode cX7_pays 12 = .ok (.iload_n 1, 1) := by decide +kernel
theorem dX7_pays_13 : decode cX7_pays 13 = .ok (.iconst 2, 1) := by decide +kernel
theorem dX7_pays_14 : decode cX7_pays 14 = .ok (.aload_n 0, 1) := by decide +kernel
theorem dX7_pays_15 : decode cX7_pays 15 = .ok (.iload_n 1, 1) := by decide +kernel
theorem dX7_pays_16 : decode cX7_pays 16 = .ok (.iconst 2, 1) := by decide +kernel
theorem dX7_pays_17 : decode cX7_pays 17 = .ok (.invokevirtual 63, 3) := by decide +kernel
theorem dX7_pays_20 : decode cX7_pays 20 = .ok (.iload_n 3, 1) := by decide +kernel
theorem dX7_pays_21 : decode cX7_pays 21 = .ok (.isub, 1) := by decide +kernel
theorem dX7_pays_22 : decode cX7_pays 22 = .ok (.invokevirtual 43, 3) := by decide +kernel
theorem dX7_pays_25 : decode cX7_pays 25 = .ok (.aload_n 0, 1) := by decide +kernel
theorem dX7_pays_26 : decode cX7_pays 26 = .ok (.iload_n 1, 1) := by decide +kernel
theorem dX7_pays_27 : decode cX7_pays 27 = .ok (.bipush 6, 2) := by decide +kernel
theorem dX7_pays_29 : decode cX7_pays 29 = .ok (.aload_n 0, 1) := by decide +kernel
theorem dX7_pays_30 : decode cX7_pays 30 = .ok (.iload_n 1, 1) := by decide +kernel
theorem dX7_pays_31 : decode cX7_pays 31 = .ok (.bipush 6, 2) := by decide +kernel
theorem dX7_pays_33 : decode cX7_pays 33 = .ok (.invokevirtual 63, 3) := by decide +kernel
theorem dX7_pays_36 : decode cX7_pays 36 = .ok (.iload_n 3, 1) := by decide +kernel
theorem dX7_pays_37 : decode cX7_pays 37 = .ok (.iadd, 1) := by decide +kernel
theorem dX7_pays_38 : decode cX7_pays 38 = .ok (.invokevirtual 43, 3) := by decide +kernel
theorem dX7_pays_41 : decode cX7_pays 41 = .ok (.aload_n 0, 1) := by decide +kernel
theorem dX7_pays_42 : decode cX7_pays 42 = .ok (.getfield 7, 3) := by decide +kernel
theorem dX7_pays_45 : decode cX7_pays 45 = .ok (.iconst 4, 1) := by decide +kernel
theorem dX7_pays_46 : decode cX7_pays 46 = .ok (.dup2, 1) := by decide +kernel
theorem dX7_pays_47 : decode cX7_pays 47 = .ok (.iaload, 1) := by decide +kernel
theorem dX7_pays_48 : decode cX7_pays 48 = .ok (.iload_n 3, 1) := by decide +kernel
theorem dX7_pays_49 : decode cX7_pays 49 = .ok (.iadd, 1) := by decide +kernel
theorem dX7_pays_50 : decode cX7_pays 50 = .ok (.iastore, 1) := by decide +kernel
theorem dX7_pays_51 : decode cX7_pays 51 = .ok (.aload_n 0, 1) := by decide +kernel
theorem dX7_pays_52 : decode cX7_pays 52 = .ok (.getfield 7, 3) := by decide +kernel
theorem dX7_pays_55 : decode cX7_pays 55 = .ok (.bipush 9, 2) := by decide +kernel
theorem dX7_pays_57 : decode cX7_pays 57 = .ok (.dup2, 1) := by decide +kernel
theorem dX7_pays_58 : decode cX7_pays 58 = .ok (.iaload, 1) := by decide +kernel
theorem dX7_pays_59 : decode cX7_pays 59 = .ok (.iload_n 3, 1) := by decide +kernel
theorem dX7_pays_60 : decode cX7_pays 60 = .ok (.iadd, 1) := by decide +kernel
theorem dX7_pays_61 : decode cX7_pays 61 = .ok (.iastore, 1) := by decide +kernel
theorem dX7_pays_62 : decode cX7_pays 62 = .ok (.aload_n 0, 1) := by decide +kernel
theorem dX7_pays_63 : decode cX7_pays 63 = .ok (.dup, 1) := by decide +kernel
theorem dX7_pays_64 : decode cX7_pays 64 = .ok (.getfield 82, 3) := by decide +kernel
theorem dX7_pays_67 : decode cX7_pays 67 = .ok (.iload_n 3, 1) := by decide +kernel
theorem dX7_pays_68 : decode cX7_pays 68 = .ok (.iadd, 1) := by decide +kernel
theorem dX7_pays_69 : decode cX7_pays 69 = .ok (.putfield 82, 3) := by decide +kernel
theorem dX7_pays_72 : decode cX7_pays 72 = .ok (.return_, 1) := by decide +kernel
theorem dX7_forgets_0 : decode cX7_forgets 0 = .ok (.aload_n 0, 1) := by decide +kernel
theorem dX7_forgets_1 : decode cX7_forgets 1 = .ok (.invokevirtual 86, 3) := by decide +kernel
theorem dX7_forgets_4 : decode cX7_forgets 4 = .ok (.bipush 10, 2) := by decide +kernel
theorem dX7_forgets_6 : decode cX7_forgets 6 = .ok (.irem, 1) := by decide +kernel
theorem dX7_forgets_7 : decode cX7_forgets 7 = .ok (.iconst 4, 1) := by decide +kernel
theorem dX7_forgets_8 : decode cX7_forgets 8 = .ok (.iconst 2, 1) := by decide +kernel
theorem dX7_forgets_9 : decode cX7_forgets 9 = .ok (.aload_n 0, 1) := by decide +kernel
theorem dX7_forgets_10 : decode cX7_forgets 10 = .ok (.getfield 7, 3) := by decide +kernel
theorem dX7_forgets_13 : decode cX7_forgets 13 = .ok (.iconst 5, 1) := by decide +kernel
theorem dX7_forgets_14 : decode cX7_forgets 14 = .ok (.iaload, 1) := by decide +kernel
theorem dX7_forgets_15 : decode cX7_forgets 15 = .ok (.imul, 1) := by decide +kernel
theorem dX7_forgets_16 : decode cX7_forgets 16 = .ok (.isub, 1) := by decide +kernel
theorem dX7_forgets_17 : decode cX7_forgets 17 = .ok (.if_icmp .lt 14, 3) := by decide +kernel
theorem dX7_forgets_20 : decode cX7_forgets 20 = .ok (.aload_n 0, 1) := by decide +kernel
theorem dX7_forgets_21 : decode cX7_forgets 21 = .ok (.iload_n 1, 1) := by decide +kernel
theorem dX7_forgets_22 : decode cX7_forgets 22 = .ok (.aload_n 0, 1) := by decide +kernel
theorem dX7_forgets_23 : decode cX7_forgets 23 = .ok (.getfield 7, 3) := by decide +kernel
theorem dX7_forgets_26 : decode cX7_forgets 26 = .ok (.iconst 1, 1) := by decide +kernel
theorem dX7_forgets_27 : decode cX7_forgets 27 = .ok (.iaload, 1) := by decide +kernel
theorem dX7_forgets_28 : decode cX7_forgets 28 = .ok (.invokevirtual 90, 3) := by decide +kernel
theorem dX7_forgets_31 : decode cX7_forgets 31 = .ok (.return_, 1) := by decide +kernel
theorem dX7_paysFor_0 : decode cX7_paysFor 0 = .ok (.aload_n 0, 1) := by decide +kernel
theorem dX7_paysFor_1 : decode cX7_paysFor 1 = .ok (.iload_n 1, 1) := by decide +kernel
theorem dX7_paysFor_2 : decode cX7_paysFor 2 = .ok (.iconst 0, 1) := by decide +kernel
theorem dX7_paysFor_3 : decode cX7_paysFor 3 = .ok (.invokevirtual 63, 3) := by decide +kernel
theorem dX7_paysFor_6 : decode cX7_paysFor 6 = .ok (.tableswitch 160 1 6 #[38, 60, 68, 100, 120, 136], 38) := by decide +kernel
theorem dX7_paysFor_44 : decode cX7_paysFor 44 = .ok (.aload_n 0, 1) := by decide +kernel
theorem dX7_paysFor_45 : decode cX7_paysFor 45 = .ok (.iload_n 1, 1) := by decide +kernel
theorem dX7_paysFor_46 : decode cX7_paysFor 46 = .ok (.iconst 4, 1) := by decide +kernel
theorem dX7_paysFor_47 : decode cX7_paysFor 47 = .ok (.aload_n 0, 1) := by decide +kernel
theorem dX7_paysFor_48 : decode cX7_paysFor 48 = .ok (.iload_n 1, 1) := by decide +kernel
theorem dX7_paysFor_49 : decode cX7_paysFor 49 = .ok (.iconst 4, 1) := by decide +kernel
theorem dX7_paysFor_50 : decode cX7_paysFor 50 = .ok (.invokevirtual 63, 3) := by decide +kernel
theorem dX7_paysFor_53 : decode cX7_paysFor 53 = .ok (.aload_n 0, 1) := by decide +kernel
theorem dX7_paysFor_54 : decode cX7_paysFor 54 = .ok (.getfield 7, 3) := by decide +kernel
theorem dX7_paysFor_57 : decode cX7_paysFor 57 = .ok (.iconst 1, 1) := by decide +kernel
theorem dX7_paysFor_58 : decode cX7_paysFor 58 = .ok (.iaload, 1) := by decide +kernel
theorem dX7_paysFor_59 : decode cX7_paysFor 59 = .ok (.iadd, 1) := by decide +kernel
theorem dX7_paysFor_60 : decode cX7_paysFor 60 = .ok (.invokevirtual 43, 3) := by decide +kernel
theorem dX7_paysFor_63 : decode cX7_paysFor 63 = .ok (.goto 114, 3) := by decide +kernel
theorem dX7_paysFor_66 : decode cX7_paysFor 66 = .ok (.aload_n 0, 1) := by decide +kernel
theorem dX7_paysFor_67 : decode cX7_paysFor 67 = .ok (.iload_n 1, 1) := by decide +kernel
theorem dX7_paysFor_68 : decode cX7_paysFor 68 = .ok (.invokevirtual 94, 3) := by decide +kernel
theorem dX7_paysFor_71 : decode cX7_paysFor 71 = .ok (.goto 106, 3) := by decide +kernel
theorem dX7_paysFor_74 : decode cX7_paysFor 74 = .ok (.aload_n 0, 1) := by decide +kernel
theorem dX7_paysFor_75 : decode cX7_paysFor 75 = .ok (.iload_n 1, 1) := by decide +kernel
theorem dX7_paysFor_76 : decode cX7_paysFor 76 = .ok (.aload_n 0, 1) := by decide +kernel
theorem dX7_paysFor_77 : decode cX7_paysFor 77 = .ok (.getfield 7, 3) := by decide +kernel
theorem dX7_paysFor_80 : decode cX7_paysFor 80 = .ok (.iconst 5, 1) := by decide +kernel
theorem dX7_paysFor_81 : decode cX7_paysFor 81 = .ok (.iaload, 1) := by decide +kernel
theorem dX7_paysFor_82 : decode cX7_paysFor 82 = .ok (.iconst 2, 1) := by decide +kernel
theorem dX7_paysFor_83 : decode cX7_paysFor 83 = .ok (.if_icmp .ne 16, 3) := by decide +kernel
theorem dX7_paysFor_86 : decode cX7_paysFor 86 = .ok (.iload_n 2, 1) := by decide +kernel
theorem dX7_paysFor_87 : decode cX7_paysFor 87 = .ok (.ifCond .eq 12, 3) := by decide +kernel
theorem dX7_paysFor_90 : decode cX7_paysFor 90 = .ok (.aload_n 0, 1) := by decide +kernel

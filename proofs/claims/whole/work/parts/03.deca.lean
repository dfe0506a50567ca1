theorem dX0_init_0 : decode cX0_init 0 = .ok (.aload_n 0, 1) := by decide +kernel
theorem dX0_init_1 : decode cX0_init 1 = .ok (.invokespecial 3, 3) := by decide +kernel
theorem dX0_init_4 : decode cX0_init 4 = .ok (.aload_n 0, 1) := by decide +kernel
theorem dX0_init_5 : decode cX0_init 5 = .ok (.bipush 20, 2) := by decide +kernel
theorem dX0_init_7 : decode cX0_init 7 = .ok (.newarray .int, 2) := by decide +kernel
theorem dX0_init_9 : decode cX0_init 9 = .ok (.putfield 9, 3) := by decide +kernel
theorem dX0_init_12 : decode cX0_init 12 = .ok (.aload_n 0, 1) := by decide +kernel
theorem dX0_init_13 : decode cX0_init 13 = .ok (.bipush 20, 2) := by decide +kernel
theorem dX0_init_15 : decode cX0_init 15 = .ok (.newarray .int, 2) := by decide +kernel
theorem dX0_init_17 : decode cX0_init 17 = .ok (.putfield 15, 3) := by decide +kernel
theorem dX0_init_20 : decode cX0_init 20 = .ok (.aload_n 0, 1) := by decide +kernel
theorem dX0_init_21 : decode cX0_init 21 = .ok (.iconst 0, 1) := by decide +kernel
theorem dX0_init_22 : decode cX0_init 22 = .ok (.putfield 18, 3) := by decide +kernel
theorem dX0_init_25 : decode cX0_init 25 = .ok (.return_, 1) := by decide +kernel
theorem dX0_put_0 : decode cX0_put 0 = .ok (.aload_n 0, 1) := by decide +kernel
theorem dX0_put_1 : decode cX0_put 1 = .ok (.getfield 9, 3) := by decide +kernel
theorem dX0_put_4 : decode cX0_put 4 = .ok (.iconst 0, 1) := by decide +kernel
theorem dX0_put_5 : decode cX0_put 5 = .ok (.aload_n 0, 1) := by decide +kernel
theorem dX0_put_6 : decode cX0_put 6 = .ok (.getfield 9, 3) := by decide +kernel
theorem dX0_put_9 : decode cX0_put 9 = .ok (.iconst 1, 1) := by decide +kernel
theorem dX0_put_10 : decode cX0_put 10 = .ok (.bipush 19, 2) := by decide +kernel
theorem dX0_put_12 : decode cX0_put 12 = .ok (.invokestatic 22, 3) := by decide +kernel
theorem dX0_put_15 : decode cX0_put 15 = .ok (.aload_n 0, 1) := by decide +kernel
theorem dX0_put_16 : decode cX0_put 16 = .ok (.getfield 15, 3) := by decide +kernel
theorem dX0_put_19 : decode cX0_put 19 = .ok (.iconst 0, 1) := by decide +kernel
theorem dX0_put_20 : decode cX0_put 20 = .ok (.aload_n 0, 1) := by decide +kernel
theorem dX0_put_21 : decode cX0_put 21 = .ok (.getfield 15, 3) := by decide +kernel
theorem dX0_put_24 : decode cX0_put 24 = .ok (.iconst 1, 1) := by decide +kernel
theorem dX0_put_25 : decode cX0_put 25 = .ok (.bipush 19, 2) := by decide +kernel
theorem dX0_put_27 : decode cX0_put 27 = .ok (.invokestatic 22, 3) := by decide +kernel
theorem dX0_put_30 : decode cX0_put 30 = .ok (.aload_n 0, 1) := by decide +kernel
theorem dX0_put_31 : decode cX0_put 31 = .ok (.getfield 9, 3) := by decide +kernel
theorem dX0_put_34 : decode cX0_put 34 = .ok (.iconst 0, 1) := by decide +kernel
theorem dX0_put_35 : decode cX0_put 35 = .ok (.iload_n 1, 1) := by decide +kernel
theorem dX0_put_36 : decode cX0_put 36 = .ok (.iastore, 1) := by decide +kernel
theorem dX0_put_37 : decode cX0_put 37 = .ok (.aload_n 0, 1) := by decide +kernel
theorem dX0_put_38 : decode cX0_put 38 = .ok (.getfield 15, 3) := by decide +kernel
theorem dX0_put_41 : decode cX0_put 41 = .ok (.iconst 0, 1) := by decide +kernel
theorem dX0_put_42 : decode cX0_put 42 = .ok (.iload_n 2, 1) := by decide +kernel
theorem dX0_put_43 : decode cX0_put 43 = .ok (.iastore, 1) := by decide +kernel
theorem dX0_put_44 : decode cX0_put 44 = .ok (.aload_n 0, 1) := by decide +kernel
theorem dX0_put_45 : decode cX0_put 45 = .ok (.aload_n 0, 1) := by decide +kernel
theorem dX0_put_46 : decode cX0_put 46 = .ok (.getfield 18, 3) := by decide +kernel
theorem dX0_put_49 : decode cX0_put 49 = .ok (.iconst 1, 1) := by decide +kernel
theorem dX0_put_50 : decode cX0_put 50 = .ok (.iadd, 1) := by decide +kernel
theorem dX0_put_51 : decode cX0_put 51 = .ok (.bipush 20, 2) := by decide +kernel
theorem dX0_put_53 : decode cX0_put 53 = .ok (.invokestatic 28, 3) := by decide +kernel
theorem dX0_put_56 : decode cX0_put 56 = .ok (.putfield 18, 3) := by decide +kernel
theorem dX0_put_59 : decode cX0_put 59 = .ok (.return_, 1) := by decide +kernel
theorem dX0_take_0 : decode cX0_take 0 = .ok (.aload_n 1, 1) := by decide +kernel
theorem dX0_take_1 : decode cX0_take 1 = .ok (.getfield 9, 3) := by decide +kernel
theorem dX0_take_4 : decode cX0_take 4 = .ok (.iconst 0, 1) := by decide +kernel
theorem dX0_take_5 : decode cX0_take 5 = .ok (.aload_n 0, 1) := by decide +kernel
theorem dX0_take_6 : decode cX0_take 6 = .ok (.getfield 9, 3) := by decide +kernel
theorem dX0_take_9 : decode cX0_take 9 = .ok (.iconst 0, 1) := by decide +kernel
theorem dX0_take_10 : decode cX0_take 10 = .ok (.bipush 20, 2) := by decide +kernel
theorem dX0_take_12 : decode cX0_take 12 = .ok (.invokestatic 22, 3) := by decide +kernel
theorem dX0_take_15 : decode cX0_take 15 = .ok (.aload_n 1, 1) := by decide +kernel
theorem dX0_take_16 : decode cX0_take 16 = .ok (.getfield 15, 3) := by decide +kernel
theorem dX0_take_19 : decode cX0_take 19 = .ok (.iconst 0, 1) := by decide +kernel
theorem dX0_take_20 : decode cX0_take 20 = .ok (.aload_n 0, 1) := by decide +kernel
theorem dX0_take_21 : decode cX0_take 21 = .ok (.getfield 15, 3) := by decide +kernel
theorem dX0_take_24 : decode cX0_take 24 = .ok (.iconst 0, 1) := by decide +kernel
theorem dX0_take_25 : decode cX0_take 25 = .ok (.bipush 20, 2) := by decide +kernel
theorem dX0_take_27 : decode cX0_take 27 = .ok (.invokestatic 22, 3) := by decide +kernel
theorem dX0_take_30 : decode cX0_take 30 = .ok (.aload_n 0, 1) := by decide +kernel
theorem dX0_take_31 : decode cX0_take 31 = .ok (.aload_n 1, 1) := by decide +kernel
theorem dX0_take_32 : decode cX0_take 32 = .ok (.getfield 18, 3) := by decide +kernel
theorem dX0_take_35 : decode cX0_take 35 = .ok (.putfield 18, 3) := by decide +kernel
theorem dX0_take_38 : decode cX0_take 38 = .ok (.return_, 1) := by decide +kernel
theorem dX0_allCups_0 : decode cX0_allCups 0 = .ok (.aload_n 0, 1) := by decide +kernel
theorem dX0_allCups_1 : decode cX0_allCups 1 = .ok (.getfield 9, 3) := by decide +kernel
theorem dX0_allCups_4 : decode cX0_allCups 4 = .ok (.aload_n 0, 1) := by decide +kernel
theorem dX0_allCups_5 : decode cX0_allCups 5 = .ok (.getfield 18, 3) := by decide +kernel
theorem dX0_allCups_8 : decode cX0_allCups 8 = .ok (.invokestatic 34, 3) := by decide +kernel
theorem dX0_allCups_11 : decode cX0_allCups 11 = .ok (.ireturn, 1) := by decide +kernel
theorem dX0_allCoins_0 : decode cX0_allCoins 0 = .ok (.aload_n 0, 1) := by decide +kernel
theorem dX0_allCoins_1 : decode cX0_allCoins 1 = .ok (.getfield 15, 3) := by decide +kernel
theorem dX0_allCoins_4 : decode cX0_allCoins 4 = .ok (.aload_n 0, 1) := by decide +kernel
theorem dX0_allCoins_5 : decode cX0_allCoins 5 = .ok (.getfield 18, 3) := by decide +kernel
theorem dX0_allCoins_8 : decode cX0_allCoins 8 = .ok (.invokestatic 34, 3) := by decide +kernel
theorem dX0_allCoins_11 : decode cX0_allCoins 11 = .ok (.ireturn, 1) := by decide +kernel
theorem dX0_sumOfFirst_0 : decode cX0_sumOfFirst 0 = .ok (.iconst 0, 1) := by decide +kernel
theorem dX0_sumOfFirst_1 : decode cX0_sumOfFirst 1 = .ok (.istore_n 2, 1) := by decide +kernel
theorem dX0_sumOfFirst_2 : decode cX0_sumOfFirst 2 = .ok (.iconst 0, 1) := by decide +kernel
theorem dX0_sumOfFirst_3 : decode cX0_sumOfFirst 3 = .ok (.istore_n 3, 1) := by decide +kernel
theorem dX0_sumOfFirst_4 : decode cX0_sumOfFirst 4 = .ok (.iload_n 3, 1) := by decide +kernel
theorem dX0_sumOfFirst_5 : decode cX0_sumOfFirst 5 = .ok (.iload_n 1, 1) := by decide +kernel
theorem dX0_sumOfFirst_6 : decode cX0_sumOfFirst 6 = .ok (.if_icmp .ge 21, 3) := by decide +kernel
theorem dX0_sumOfFirst_9 : decode cX0_sumOfFirst 9 = .ok (.iload_n 3, 1) := by decide +kernel
theorem dX0_sumOfFirst_10 : decode cX0_sumOfFirst 10 = .ok (.aload_n 0, 1) := by decide +kernel
theorem dX0_sumOfFirst_11 : decode cX0_sumOfFirst 11 = .ok (.arraylength, 1) := by decide +kernel
theorem dX0_sumOfFirst_12 : decode cX0_sumOfFirst 12 = .ok (.if_icmp .ge 15, 3) := by decide +kernel
theorem dX0_sumOfFirst_15 : decode cX0_sumOfFirst 15 = .ok (.iload_n 2, 1) := by decide +kernel
theorem dX0_sumOfFirst_16 : decode cX0_sumOfFirst 16 = .ok (.aload_n 0, 1) := by decide +kernel
theorem dX0_sumOfFirst_17 : decode cX0_sumOfFirst 17 = .ok (.iload_n 3, 1) := by decide +kernel
theorem dX0_sumOfFirst_18 : decode cX0_sumOfFirst 18 = .ok (.iaload, 1) := by decide +kernel
theorem dX0_sumOfFirst_19 : decode cX0_sumOfFirst 19 = .ok (.iadd, 1) := by decide +kernel
theorem dX0_sumOfFirst_20 : decode cX0_sumOfFirst 20 = .ok (.istore_n 2, 1) := by decide +kernel
theorem dX0_sumOfFirst_21 : decode cX0_sumOfFirst 21 = .ok (.iinc 3 1, 3) := by decide +kernel
theorem dX0_sumOfFirst_24 : decode cX0_sumOfFirst 24 = .ok (.goto (-20), 3) := by decide +kernel
theorem dX0_sumOfFirst_27 : decode cX0_sumOfFirst 27 = .ok (.iload_n 2, 1) := by decide +kernel
theorem dX0_sumOfFirst_28 : decode cX0_sumOfFirst 28 = .ok (.ireturn, 1) := by decide +kernel
theorem dX1_init_0 : decode cX1_init 0 = .ok (.aload_n 0, 1) := by decide +kernel
theorem dX1_init_1 : decode cX1_init 1 = .ok (.invokespecial 3, 3) := by decide +kernel
theorem dX1_init_4 : decode cX1_init 4 = .ok (.return_, 1) := by decide +kernel
theorem dX1_begin_0 : decode cX1_begin 0 = .ok (.aload_n 0, 1) := by decide +kernel
theorem dX1_begin_1 : decode cX1_begin 1 = .ok (.iload_n 1, 1) := by decide +kernel
theorem dX1_begin_2 : decode cX1_begin 2 = .ok (.putfield 9, 3) := by decide +kernel
theorem dX1_begin_5 : decode cX1_begin 5 = .ok (.aload_n 0, 1) := by decide +kernel
theorem dX1_begin_6 : decode cX1_begin 6 = .ok (.iload_n 2, 1) := by decide +kernel
theorem dX1_begin_7 : decode cX1_begin 7 = .ok (.putfield 15, 3) := by decide +kernel
theorem dX1_begin_10 : decode cX1_begin 10 = .ok (.aload_n 0, 1) := by decide +kernel
theorem dX1_begin_11 : decode cX1_begin 11 = .ok (.sipush 200, 3) := by decide +kernel
theorem dX1_begin_14 : decode cX1_begin 14 = .ok (.putfield 18, 3) := by decide +kernel
theorem dX1_begin_17 : decode cX1_begin 17 = .ok (.aload_n 0, 1) := by decide +kernel
theorem dX1_begin_18 : decode cX1_begin 18 = .ok (.bipush 20, 2) := by decide +kernel
theorem dX1_begin_20 : decode cX1_begin 20 = .ok (.putfield 21, 3) := by decide +kernel
theorem dX1_begin_23 : decode cX1_begin 23 = .ok (.aload_n 0, 1) := by decide +kernel
theorem dX1_begin_24 : decode cX1_begin 24 = .ok (.iconst 0, 1) := by decide +kernel
theorem dX1_begin_25 : decode cX1_begin 25 = .ok (.putfield 24, 3) := by decide +kernel
theorem dX1_begin_28 : decode cX1_begin 28 = .ok (.aload_n 0, 1) := by decide +kernel
theorem dX1_begin_29 : decode cX1_begin 29 = .ok (.iconst 0, 1) := by decide +kernel
theorem dX1_begin_30 : decode cX1_begin 30 = .ok (.putfield 27, 3) := by decide +kernel
theorem dX1_begin_33 : decode cX1_begin 33 = .ok (.aload_n 0, 1) := by decide +kernel
theorem dX1_begin_34 : decode cX1_begin 34 = .ok (.iconst 0, 1) := by decide +kernel
theorem dX1_begin_35 : decode cX1_begin 35 = .ok (.putfield 30, 3) := by decide +kernel
theorem dX1_begin_38 : decode cX1_begin 38 = .ok (.return_, 1) := by decide +kernel
theorem dX1_take_0 : decode cX1_take 0 = .ok (.aload_n 0, 1) := by decide +kernel
theorem dX1_take_1 : decode cX1_take 1 = .ok (.aload_n 1, 1) := by decide +kernel
theorem dX1_take_2 : decode cX1_take 2 = .ok (.getfield 9, 3) := by decide +kernel
theorem dX1_take_5 : decode cX1_take 5 = .ok (.putfield 9, 3) := by decide +kernel
theorem dX1_take_8 : decode cX1_take 8 = .ok (.aload_n 0, 1) := by decide +kernel
theorem dX1_take_9 : decode cX1_take 9 = .ok (.aload_n 1, 1) := by decide +kernel
theorem dX1_take_10 : decode cX1_take 10 = .ok (.getfield 15, 3) := by decide +kernel
theorem dX1_take_13 : decode cX1_take 13 = .ok (.putfield 15, 3) := by decide +kernel
theorem dX1_take_16 : decode cX1_take 16 = .ok (.aload_n 0, 1) := by decide +kernel
theorem dX1_take_17 : decode cX1_take 17 = .ok (.aload_n 1, 1) := by decide +kernel
theorem dX1_take_18 : decode cX1_take 18 = .ok (.getfield 18, 3) := by decide +kernel
theorem dX1_take_21 : decode cX1_take 21 = .ok (.putfield 18, 3) := by decide +kernel
theorem dX1_take_24 : decode cX1_take 24 = .ok (.aload_n 0, 1) := by decide +kernel
theorem dX1_take_25 : decode cX1_take 25 = .ok (.aload_n 1, 1) := by decide +kernel
theorem dX1_take_26 : decode cX1_take 26 = .ok (.getfield 21, 3) := by decide +kernel
theorem dX1_take_29 : decode cX1_take 29 = .ok (.putfield 21, 3) := by decide +kernel
theorem dX1_take_32 : decode cX1_take 32 = .ok (.aload_n 0, 1) := by decide +kernel
theorem dX1_take_33 : decode cX1_take 33 = .ok (.aload_n 1, 1) := by decide +kernel
theorem dX1_take_34 : decode cX1_take 34 = .ok (.getfield 24, 3) := by decide +kernel
theorem dX1_take_37 : decode cX1_take 37 = .ok (.putfield 24, 3) := by decide +kernel
theorem dX1_take_40 : decode cX1_take 40 = .ok (.aload_n 0, 1) := by decide +kernel
theorem dX1_take_41 : decode cX1_take 41 = .ok (.aload_n 1, 1) := by decide +kernel
theorem dX1_take_42 : decode cX1_take 42 = .ok (.getfield 27, 3) := by decide +kernel
theorem dX1_take_45 : decode cX1_take 45 = .ok (.putfield 27, 3) := by decide +kernel
theorem dX1_take_48 : decode cX1_take 48 = .ok (.aload_n 0, 1) := by decide +kernel
theorem dX1_take_49 : decode cX1_take 49 = .ok (.aload_n 1, 1) := by decide +kernel
theorem dX1_take_50 : decode cX1_take 50 = .ok (.getfield 30, 3) := by decide +kernel
theorem dX1_take_53 : decode cX1_take 53 = .ok (.putfield 30, 3) := by decide +kernel
theorem dX1_take_56 : decode cX1_take 56 = .ok (.return_, 1) := by decide +kernel
theorem dX1_get_0 : decode cX1_get 0 = .ok (.iload_n 1, 1) := by decide +kernel
theorem dX1_get_1 : decode cX1_get 1 = .ok (.tableswitch 69 0 5 #[39, 44, 49, 54, 59, 64], 39) := by decide +kernel
theorem dX1_get_40 : decode cX1_get 40 = .ok (.aload_n 0, 1) := by decide +kernel
theorem dX1_get_41 : decode cX1_get 41 = .ok (.getfield 9, 3) := by decide +kernel
theorem dX1_get_44 : decode cX1_get 44 = .ok (.ireturn, 1) := by decide +kernel
theorem dX1_get_45 : decode cX1_get 45 = .ok (.aload_n 0, 1) := by decide +kernel
theorem dX1_get_46 : decode cX1_get 46 = .ok (.getfield 15, 3) := by decide +kernel
theorem dX1_get_49 : decode cX1_get 49 = .ok (.ireturn, 1) := by decide +kernel
theorem dX1_get_50 : decode cX1_get 50 = .ok (.aload_n 0, 1) := by decide +kernel
theorem dX1_get_51 : decode cX1_get 51 = .ok (.getfield 18, 3) := by decide +kernel
theorem dX1_get_54 : decode cX1_get 54 = .ok (.ireturn, 1) := by decide +kernel
theorem dX1_get_55 : decode cX1_get 55 = .ok (.aload_n 0, 1) := by decide +kernel
theorem dX1_get_56 : decode cX1_get 56 = .ok (.getfield 21, 3) := by decide +kernel
theorem dX1_get_59 : decode cX1_get 59 = .ok (.ireturn, 1) := by decide +kernel
theorem dX1_get_60 : decode cX1_get 60 = .ok (.aload_n 0, 1) := by decide +kernel
theorem dX1_get_61 : decode cX1_get 61 = .ok (.getfield 24, 3) := by decide +kernel
theorem dX1_get_64 : decode cX1_get 64 = .ok (.ireturn, 1) := by decide +kernel
theorem dX1_get_65 : decode cX1_get 65 = .ok (.aload_n 0, 1) := by decide +kernel
theorem dX1_get_66 : decode cX1_get 66 = .ok (.getfield 27, 3) := by decide +kernel
theorem dX1_get_69 : decode cX1_get 69 = .ok (.ireturn, 1) := by decide +kernel
theorem dX1_get_70 : decode cX1_get 70 = .ok (.aload_n 0, 1) := by decide +kernel
theorem dX1_get_71 : decode cX1_get 71 = .ok (.getfield 30, 3) := by decide +kernel
theorem dX1_get_74 : decode cX1_get 74 = .ok (.ireturn, 1) := by decide +kernel
theorem dX1_set_0 : decode cX1_set 0 = .ok (.iload_n 1, 1) := by decide +kernel
theorem dX1_set_1 : decode cX1_set 1 = .ok (.tableswitch 51 0 2 #[27, 35, 43], 27) := by decide +kernel
theorem dX1_set_28 : decode cX1_set 28 = .ok (.aload_n 0, 1) := by decide +kernel
theorem dX1_set_29 : decode cX1_set 29 = .ok (.iload_n 2, 1) := by decide +kernel
theorem dX1_set_30 : decode cX1_set 30 = .ok (.putfield 9, 3) := by decide +kernel
theorem dX1_set_33 : decode cX1_set 33 = .ok (.goto 24, 3) := by decide +kernel
theorem dX1_set_36 : decode cX1_set 36 = .ok (.aload_n 0, 1) := by decide +kernel
theorem dX1_set_37 : decode cX1_set 37 = .ok (.iload_n 2, 1) := by decide +kernel
theorem dX1_set_38 : decode cX1_set 38 = .ok (.putfield 15, 3) := by decide +kernel
theorem dX1_set_41 : decode cX1_set 41 = .ok (.goto 16, 3) := by decide +kernel
theorem dX1_set_44 : decode cX1_set 44 = .ok (.aload_n 0, 1) := by decide +kernel
theorem dX1_set_45 : decode cX1_set 45 = .ok (.iload_n 2, 1) := by decide +kernel
theorem dX1_set_46 : decode cX1_set 46 = .ok (.putfield 18, 3) := by decide +kernel
theorem dX1_set_49 : decode cX1_set 49 = .ok (.goto 8, 3) := by decide +kernel
theorem dX1_set_52 : decode cX1_set 52 = .ok (.aload_n 0, 1) := by decide +kernel
theorem dX1_set_53 : decode cX1_set 53 = .ok (.iload_n 2, 1) := by decide +kernel
theorem dX1_set_54 : decode cX1_set 54 = .ok (.putfield 21, 3) := by decide +kernel
theorem dX1_set_57 : decode cX1_set 57 = .ok (.return_, 1) := by decide +kernel
theorem dX2_init_0 : decode cX2_init 0 = .ok (.aload_n 0, 1) := by decide +kernel
theorem dX2_init_1 : decode cX2_init 1 = .ok (.invokespecial 3, 3) := by decide +kernel
theorem dX2_init_4 : decode cX2_init 4 = .ok (.aload_n 0, 1) := by decide +kernel
theorem dX2_init_5 : decode cX2_init 5 = .ok (.bipush 10, 2) := by decide +kernel
theorem dX2_init_7 : decode cX2_init 7 = .ok (.anewarray 9, 3) := by decide +kernel
theorem dX2_init_10 : decode cX2_init 10 = .ok (.putfield 11, 3) := by decide +kernel
theorem dX2_init_13 : decode cX2_init 13 = .ok (.aload_n 0, 1) := by decide +kernel
theorem dX2_init_14 : decode cX2_init 14 = .ok (.iconst 0, 1) := by decide +kernel
theorem dX2_init_15 : decode cX2_init 15 = .ok (.putfield 17, 3) := by decide +kernel
theorem dX2_init_18 : decode cX2_init 18 = .ok (.aload_n 0, 1) := by decide +kernel
theorem dX2_init_19 : decode cX2_init 19 = .ok (.iconst 5, 1) := by decide +kernel
theorem dX2_init_20 : decode cX2_init 20 = .ok (.putfield 21, 3) := by decide +kernel
theorem dX2_init_23 : decode cX2_init 23 = .ok (.aload_n 0, 1) := by decide +kernel
theorem dX2_init_24 : decode cX2_init 24 = .ok (.bipush 12, 2) := by decide +kernel
theorem dX2_init_26 : decode cX2_init 26 = .ok (.putfield 24, 3) := by decide +kernel
theorem dX2_init_29 : decode cX2_init 29 = .ok (.aload_n 0, 1) := by decide +kernel
theorem dX2_init_30 : decode cX2_init 30 = .ok (.bipush 12, 2) := by decide +kernel
theorem dX2_init_32 : decode cX2_init 32 = .ok (.putfield 27, 3) := by decide +kernel
theorem dX2_init_35 : decode cX2_init 35 = .ok (.aload_n 0, 1) := by decide +kernel
theorem dX2_init_36 : decode cX2_init 36 = .ok (.iconst 0, 1) := by decide +kernel
theorem dX2_init_37 : decode cX2_init 37 = .ok (.putfield 30, 3) := by decide +kernel
theorem dX2_init_40 : decode cX2_init 40 = .ok (.aload_n 0, 1) := by decide +kernel
theorem dX2_init_41 : decode cX2_init 41 = .ok (.iconst 0, 1) := by decide +kernel
theorem dX2_init_42 : decode cX2_init 42 = .ok (.putfield 33, 3) := by decide +kernel
theorem dX2_init_45 : decode cX2_init 45 = .ok (.aload_n 0, 1) := by decide +kernel
theorem dX2_init_46 : decode cX2_init 46 = .ok (.bipush 100, 2) := by decide +kernel
theorem dX2_init_48 : decode cX2_init 48 = .ok (.putfield 36, 3) := by decide +kernel
theorem dX2_init_51 : decode cX2_init 51 = .ok (.aload_n 0, 1) := by decide +kernel
theorem dX2_init_52 : decode cX2_init 52 = .ok (.iconst 0, 1) := by decide +kernel
theorem dX2_init_53 : decode cX2_init 53 = .ok (.putfield 39, 3) := by decide +kernel
theorem dX2_init_56 : decode cX2_init 56 = .ok (.aload_n 0, 1) := by decide +kernel
theorem dX2_init_57 : decode cX2_init 57 = .ok (.iconst 0, 1) := by decide +kernel
theorem dX2_init_58 : decode cX2_init 58 = .ok (.putfield 42, 3) := by decide +kernel
theorem dX2_init_61 : decode cX2_init 61 = .ok (.aload_n 0, 1) := by decide +kernel
theorem dX2_init_62 : decode cX2_init 62 = .ok (.iconst 0, 1) := by decide +kernel
theorem dX2_init_63 : decode cX2_init 63 = .ok (.putfield 45, 3) := by decide +kernel
theorem dX2_init_66 : decode cX2_init 66 = .ok (.aload_n 0, 1) := by decide +kernel
theorem dX2_init_67 : decode cX2_init 67 = .ok (.iconst 1, 1) := by decide +kernel
theorem dX2_init_68 : decode cX2_init 68 = .ok (.putfield 48, 3) := by decide +kernel
theorem dX2_init_71 : decode cX2_init 71 = .ok (.aload_n 0, 1) := by decide +kernel
theorem dX2_init_72 : decode cX2_init 72 = .ok (.new 51, 3) := by decide +kernel
theorem dX2_init_75 : decode cX2_init 75 = .ok (.dup, 1) := by decide +kernel
theorem dX2_init_76 : decode cX2_init 76 = .ok (.invokespecial 53, 3) := by decide +kernel
theorem dX2_init_79 : decode cX2_init 79 = .ok (.putfield 54, 3) := by decide +kernel
theorem dX2_init_82 : decode cX2_init 82 = .ok (.aload_n 0, 1) := by decide +kernel
theorem dX2_init_83 : decode cX2_init 83 = .ok (.bipush 10, 2) := by decide +kernel
theorem dX2_init_85 : decode cX2_init 85 = .ok (.newarray .int, 2) := by decide +kernel
theorem dX2_init_87 : decode cX2_init 87 = .ok (.putfield 58, 3) := by decide +kernel
theorem dX2_init_90 : decode cX2_init 90 = .ok (.iconst 0, 1) := by decide +kernel
theorem dX2_init_91 : decode cX2_init 91 = .ok (.istore_n 1, 1) := by decide +kernel
theorem dX2_init_92 : decode cX2_init 92 = .ok (.iload_n 1, 1) := by decide +kernel
theorem dX2_init_93 : decode cX2_init 93 = .ok (.bipush 10, 2) := by decide +kernel
theorem dX2_init_95 : decode cX2_init 95 = .ok (.if_icmp .ge 22, 3) := by decide +kernel
theorem dX2_init_98 : decode cX2_init 98 = .ok (.aload_n 0, 1) := by decide +kernel
theorem dX2_init_99 : decode cX2_init 99 = .ok (.getfield 11, 3) := by decide +kernel
theorem dX2_init_102 : decode cX2_init 102 = .ok (.iload_n 1, 1) := by decide +kernel
theorem dX2_init_103 : decode cX2_init 103 = .ok (.new 9, 3) := by decide +kernel
theorem dX2_init_106 : decode cX2_init 106 = .ok (.dup, 1) := by decide +kernel
theorem dX2_init_107 : decode cX2_init 107 = .ok (.invokespecial 62, 3) := by decide +kernel
theorem dX2_init_110 : decode cX2_init 110 = .ok (.aastore, 1) := by decide +kernel
theorem dX2_init_111 : decode cX2_init 111 = .ok (.iinc 1 1, 3) := by decide +kernel
theorem dX2_init_114 : decode cX2_init 114 = .ok (.goto (-22), 3) := by decide +kernel
theorem dX2_init_117 : decode cX2_init 117 = .ok (.iconst 0, 1) := by decide +kernel
theorem dX2_init_118 : decode cX2_init 118 = .ok (.istore_n 1, 1) := by decide +kernel
theorem dX2_init_119 : decode cX2_init 119 = .ok (.iload_n 1, 1) := by decide +kernel
theorem dX2_init_120 : decode cX2_init 120 = .ok (.bipush 10, 2) := by decide +kernel
theorem dX2_init_122 : decode cX2_init 122 = .ok (.if_icmp .ge 16, 3) := by decide +kernel
theorem dX2_init_125 : decode cX2_init 125 = .ok (.aload_n 0, 1) := by decide +kernel
theorem dX2_init_126 : decode cX2_init 126 = .ok (.getfield 58, 3) := by decide +kernel
theorem dX2_init_129 : decode cX2_init 129 = .ok (.iload_n 1, 1) := by decide +kernel
theorem dX2_init_130 : decode cX2_init 130 = .ok (.iconst (-1), 1) := by decide +kernel
theorem dX2_init_131 : decode cX2_init 131 = .ok (.iastore, 1) := by decide +kernel
theorem dX2_init_132 : decode cX2_init 132 = .ok (.iinc 1 1, 3) := by decide +kernel
theorem dX2_init_135 : decode cX2_init 135 = .ok (.goto (-16), 3) := by decide +kernel
theorem dX2_init_138 : decode cX2_init 138 = .ok (.return_, 1) := by decide +kernel
theorem dX2_takeRoom_0 : decode cX2_takeRoom 0 = .ok (.iconst 0, 1) := by decide +kernel
theorem dX2_takeRoom_1 : decode cX2_takeRoom 1 = .ok (.istore_n 2, 1) := by decide +kernel
theorem dX2_takeRoom_2 : decode cX2_takeRoom 2 = .ok (.iload_n 2, 1) := by decide +kernel
theorem dX2_takeRoom_3 : decode cX2_takeRoom 3 = .ok (.aload_n 1, 1) := by decide +kernel
theorem dX2_takeRoom_4 : decode cX2_takeRoom 4 = .ok (.getfield 17, 3) := by decide +kernel
theorem dX2_takeRoom_7 : decode cX2_takeRoom 7 = .ok (.if_icmp .ge 24, 3) := by decide +kernel
theorem dX2_takeRoom_10 : decode cX2_takeRoom 10 = .ok (.aload_n 0, 1) := by decide +kernel
theorem dX2_takeRoom_11 : decode cX2_takeRoom 11 = .ok (.getfield 11, 3) := by decide +kernel
theorem dX2_takeRoom_14 : decode cX2_takeRoom 14 = .ok (.iload_n 2, 1) := by decide +kernel
theorem dX2_takeRoom_15 : decode cX2_takeRoom 15 = .ok (.aaload, 1) := by decide +kernel
theorem dX2_takeRoom_16 : decode cX2_takeRoom 16 = .ok (.aload_n 1, 1) := by decide +kernel
theorem dX2_takeRoom_17 : decode cX2_takeRoom 17 = .ok (.getfield 11, 3) := by decide +kernel
theorem dX2_takeRoom_20 : decode cX2_takeRoom 20 = .ok (.iload_n 2, 1) := by decide +kernel
theorem dX2_takeRoom_21 : decode cX2_takeRoom 21 = .ok (.aaload, 1) := by decide +kernel
theorem dX2_takeRoom_22 : decode cX2_takeRoom 22 = .ok (.invokevirtual 63, 3) := by decide +kernel
theorem dX2_takeRoom_25 : decode cX2_takeRoom 25 = .ok (.iinc 2 1, 3) := by decide +kernel
theorem dX2_takeRoom_28 : decode cX2_takeRoom 28 = .ok (.goto (-26), 3) := by decide +kernel
theorem dX2_takeRoom_31 : decode cX2_takeRoom 31 = .ok (.aload_n 0, 1) := by decide +kernel
theorem dX2_takeRoom_32 : decode cX2_takeRoom 32 = .ok (.aload_n 1, 1) := by decide +kernel
theorem dX2_takeRoom_33 : decode cX2_takeRoom 33 = .ok (.getfield 17, 3) := by decide +kernel
theorem dX2_takeRoom_36 : decode cX2_takeRoom 36 = .ok (.putfield 17, 3) := by decide +kernel
theorem dX2_takeRoom_39 : decode cX2_takeRoom 39 = .ok (.aload_n 0, 1) := by decide +kernel
theorem dX2_takeRoom_40 : decode cX2_takeRoom 40 = .ok (.aload_n 1, 1) := by decide +kernel
theorem dX2_takeRoom_41 : decode cX2_takeRoom 41 = .ok (.getfield 21, 3) := by decide +kernel
theorem dX2_takeRoom_44 : decode cX2_takeRoom 44 = .ok (.putfield 21, 3) := by decide +kernel
theorem dX2_takeRoom_47 : decode cX2_takeRoom 47 = .ok (.aload_n 0, 1) := by decide +kernel
theorem dX2_takeRoom_48 : decode cX2_takeRoom 48 = .ok (.aload_n 1, 1) := by decide +kernel
theorem dX2_takeRoom_49 : decode cX2_takeRoom 49 = .ok (.getfield 24, 3) := by decide +kernel
theorem dX2_takeRoom_52 : decode cX2_takeRoom 52 = .ok (.putfield 24, 3) := by decide +kernel
theorem dX2_takeRoom_55 : decode cX2_takeRoom 55 = .ok (.aload_n 0, 1) := by decide +kernel
theorem dX2_takeRoom_56 : decode cX2_takeRoom 56 = .ok (.aload_n 1, 1) := by decide +kernel
theorem dX2_takeRoom_57 : decode cX2_takeRoom 57 = .ok (.getfield 27, 3) := by decide +kernel
theorem dX2_takeRoom_60 : decode cX2_takeRoom 60 = .ok (.putfield 27, 3) := by decide +kernel
theorem dX2_takeRoom_63 : decode cX2_takeRoom 63 = .ok (.aload_n 0, 1) := by decide +kernel
theorem dX2_takeRoom_64 : decode cX2_takeRoom 64 = .ok (.aload_n 1, 1) := by decide +kernel
theorem dX2_takeRoom_65 : decode cX2_takeRoom 65 = .ok (.getfield 30, 3) := by decide +kernel
theorem dX2_takeRoom_68 : decode cX2_takeRoom 68 = .ok (.putfield 30, 3) := by decide +kernel
theorem dX2_takeRoom_71 : decode cX2_takeRoom 71 = .ok (.aload_n 0, 1) := by decide +kernel
theorem dX2_takeRoom_72 : decode cX2_takeRoom 72 = .ok (.aload_n 1, 1) := by decide +kernel
theorem dX2_takeRoom_73 : decode cX2_takeRoom 73 = .ok (.getfield 33, 3) := by decide +kernel
theorem dX2_takeRoom_76 : decode cX2_takeRoom 76 = .ok (.putfield 33, 3) := by decide +kernel
theorem dX2_takeRoom_79 : decode cX2_takeRoom 79 = .ok (.aload_n 0, 1) := by decide +kernel
theorem dX2_takeRoom_80 : decode cX2_takeRoom 80 = .ok (.aload_n 1, 1) := by decide +kernel
theorem dX2_takeRoom_81 : decode cX2_takeRoom 81 = .ok (.getfield 36, 3) := by decide +kernel
theorem dX2_takeRoom_84 : decode cX2_takeRoom 84 = .ok (.putfield 36, 3) := by decide +kernel
theorem dX2_takeRoom_87 : decode cX2_takeRoom 87 = .ok (.aload_n 0, 1) := by decide +kernel
theorem dX2_takeRoom_88 : decode cX2_takeRoom 88 = .ok (.aload_n 1, 1) := by decide +kernel
theorem dX2_takeRoom_89 : decode cX2_takeRoom 89 = .ok (.getfield 39, 3) := by decide +kernel
theorem dX2_takeRoom_92 : decode cX2_takeRoom 92 = .ok (.putfield 39, 3) := by decide +kernel
theorem dX2_takeRoom_95 : decode cX2_takeRoom 95 = .ok (.aload_n 0, 1) := by decide +kernel
theorem dX2_takeRoom_96 : decode cX2_takeRoom 96 = .ok (.aload_n 1, 1) := by decide +kernel
theorem dX2_takeRoom_97 : decode cX2_takeRoom 97 = .ok (.getfield 42, 3) := by decide +kernel
theorem dX2_takeRoom_100 : decode cX2_takeRoom 100 = .ok (.putfield 42, 3) := by decide +kernel
theorem dX2_takeRoom_103 : decode cX2_takeRoom 103 = .ok (.aload_n 0, 1) := by decide +kernel
theorem dX2_takeRoom_104 : decode cX2_takeRoom 104 = .ok (.aload_n 1, 1) := by decide +kernel
theorem dX2_takeRoom_105 : decode cX2_takeRoom 105 = .ok (.getfield 45, 3) := by decide +kernel
theorem dX2_takeRoom_108 : decode cX2_takeRoom 108 = .ok (.putfield 45, 3) := by decide +kernel
theorem dX2_takeRoom_111 : decode cX2_takeRoom 111 = .ok (.aload_n 0, 1) := by decide +kernel
theorem dX2_takeRoom_112 : decode cX2_takeRoom 112 = .ok (.aload_n 1, 1) := by decide +kernel
theorem dX2_takeRoom_113 : decode cX2_takeRoom 113 = .ok (.getfield 48, 3) := by decide +kernel
theorem dX2_takeRoom_116 : decode cX2_takeRoom 116 = .ok (.putfield 48, 3) := by decide +kernel
theorem dX2_takeRoom_119 : decode cX2_takeRoom 119 = .ok (.return_, 1) := by decide +kernel
theorem dX2_takeAll_0 : decode cX2_takeAll 0 = .ok (.aload_n 0, 1) := by decide +kernel
theorem dX2_takeAll_1 : decode cX2_takeAll 1 = .ok (.aload_n 1, 1) := by decide +kernel
theorem dX2_takeAll_2 : decode cX2_takeAll 2 = .ok (.invokevirtual 67, 3) := by decide +kernel
theorem dX2_takeAll_5 : decode cX2_takeAll 5 = .ok (.aload_n 0, 1) := by decide +kernel
theorem dX2_takeAll_6 : decode cX2_takeAll 6 = .ok (.getfield 54, 3) := by decide +kernel
theorem dX2_takeAll_9 : decode cX2_takeAll 9 = .ok (.aload_n 1, 1) := by decide +kernel
theorem dX2_takeAll_10 : decode cX2_takeAll 10 = .ok (.getfield 54, 3) := by decide +kernel
theorem dX2_takeAll_13 : decode cX2_takeAll 13 = .ok (.invokevirtual 71, 3) := by decide +kernel
theorem dX2_takeAll_16 : decode cX2_takeAll 16 = .ok (.aload_n 1, 1) := by decide +kernel
theorem dX2_takeAll_17 : decode cX2_takeAll 17 = .ok (.getfield 58, 3) := by decide +kernel
theorem dX2_takeAll_20 : decode cX2_takeAll 20 = .ok (.iconst 0, 1) := by decide +kernel
theorem dX2_takeAll_21 : decode cX2_takeAll 21 = .ok (.aload_n 0, 1) := by decide +kernel
theorem dX2_takeAll_22 : decode cX2_takeAll 22 = .ok (.getfield 58, 3) := by decide +kernel
theorem dX2_takeAll_25 : decode cX2_takeAll 25 = .ok (.iconst 0, 1) := by decide +kernel
theorem dX2_takeAll_26 : decode cX2_takeAll 26 = .ok (.bipush 10, 2) := by decide +kernel
theorem dX2_takeAll_28 : decode cX2_takeAll 28 = .ok (.invokestatic 74, 3) := by decide +kernel
theorem dX2_takeAll_31 : decode cX2_takeAll 31 = .ok (.return_, 1) := by decide +kernel
theorem dX2_addDrinker_0 : decode cX2_addDrinker 0 = .ok (.aload_n 0, 1) := by decide +kernel
theorem dX2_addDrinker_1 : decode cX2_addDrinker 1 = .ok (.getfield 11, 3) := by decide +kernel
theorem dX2_addDrinker_4 : decode cX2_addDrinker 4 = .ok (.aload_n 0, 1) := by decide +kernel
theorem dX2_addDrinker_5 : decode cX2_addDrinker 5 = .ok (.getfield 17, 3) := by decide +kernel
theorem dX2_addDrinker_8 : decode cX2_addDrinker 8 = .ok (.bipush 9, 2) := by decide +kernel
theorem dX2_addDrinker_10 : decode cX2_addDrinker 10 = .ok (.invokestatic 80, 3) := by decide +kernel
theorem dX2_addDrinker_13 : decode cX2_addDrinker 13 = .ok (.aaload, 1) := by decide +kernel
theorem dX2_addDrinker_14 : decode cX2_addDrinker 14 = .ok (.astore_n 3, 1) := by decide +kernel
theorem dX2_addDrinker_15 : decode cX2_addDrinker 15 = .ok (.aload_n 3, 1) := by decide +kernel
theorem dX2_addDrinker_16 : decode cX2_addDrinker 16 = .ok (.iload_n 1, 1) := by decide +kernel
theorem dX2_addDrinker_17 : decode cX2_addDrinker 17 = .ok (.iload_n 2, 1) := by decide +kernel
theorem dX2_addDrinker_18 : decode cX2_addDrinker 18 = .ok (.invokevirtual 86, 3) := by decide +kernel
theorem dX2_addDrinker_21 : decode cX2_addDrinker 21 = .ok (.aload_n 0, 1) := by decide +kernel
theorem dX2_addDrinker_22 : decode cX2_addDrinker 22 = .ok (.aload_n 0, 1) := by decide +kernel
theorem dX2_addDrinker_23 : decode cX2_addDrinker 23 = .ok (.getfield 17, 3) := by decide +kernel
theorem dX2_addDrinker_26 : decode cX2_addDrinker 26 = .ok (.iconst 1, 1) := by decide +kernel
theorem dX2_addDrinker_27 : decode cX2_addDrinker 27 = .ok (.iadd, 1) := by decide +kernel
theorem dX2_addDrinker_28 : decode cX2_addDrinker 28 = .ok (.bipush 10, 2) := by decide +kernel
theorem dX2_addDrinker_30 : decode cX2_addDrinker 30 = .ok (.invokestatic 80, 3) := by decide +kernel
theorem dX2_addDrinker_33 : decode cX2_addDrinker 33 = .ok (.putfield 17, 3) := by decide +kernel
theorem dX2_addDrinker_36 : decode cX2_addDrinker 36 = .ok (.aload_n 3, 1) := by decide +kernel
theorem dX2_addDrinker_37 : decode cX2_addDrinker 37 = .ok (.areturn, 1) := by decide +kernel
theorem dX2_setPot_0 : decode cX2_setPot 0 = .ok (.aload_n 0, 1) := by decide +kernel
theorem dX2_setPot_1 : decode cX2_setPot 1 = .ok (.iload_n 1, 1) := by decide +kernel
theorem dX2_setPot_2 : decode cX2_setPot 2 = .ok (.putfield 24, 3) := by decide +kernel
theorem dX2_setPot_5 : decode cX2_setPot 5 = .ok (.aload_n 0, 1) := by decide +kernel
theorem dX2_setPot_6 : decode cX2_setPot 6 = .ok (.iload_n 1, 1) := by decide +kernel
theorem dX2_setPot_7 : decode cX2_setPot 7 = .ok (.putfield 27, 3) := by decide +kernel
theorem dX2_setPot_10 : decode cX2_setPot 10 = .ok (.return_, 1) := by decide +kernel
theorem dX2_beginMonday_0 : decode cX2_beginMonday 0 = .ok (.aload_n 0, 1) := by decide +kernel
theorem dX2_beginMonday_1 : decode cX2_beginMonday 1 = .ok (.iconst 0, 1) := by decide +kernel
theorem dX2_beginMonday_2 : decode cX2_beginMonday 2 = .ok (.putfield 39, 3) := by decide +kernel
theorem dX2_beginMonday_5 : decode cX2_beginMonday 5 = .ok (.aload_n 0, 1) := by decide +kernel
theorem dX2_beginMonday_6 : decode cX2_beginMonday 6 = .ok (.invokevirtual 90, 3) := by decide +kernel
theorem dX2_beginMonday_9 : decode cX2_beginMonday 9 = .ok (.return_, 1) := by decide +kernel
theorem dX2_draw_0 : decode cX2_draw 0 = .ok (.aload_n 0, 1) := by decide +kernel
theorem dX2_draw_1 : decode cX2_draw 1 = .ok (.aload_n 0, 1) := by decide +kernel
theorem dX2_draw_2 : decode cX2_draw 2 = .ok (.getfield 48, 3) := by decide +kernel
theorem dX2_draw_5 : decode cX2_draw 5 = .ok (.ldc 93, 2) := by decide +kernel
theorem dX2_draw_7 : decode cX2_draw 7 = .ok (.imul, 1) := by decide +kernel
theorem dX2_draw_8 : decode cX2_draw 8 = .ok (.sipush 12345, 3) := by decide +kernel
theorem dX2_draw_11 : decode cX2_draw 11 = .ok (.iadd, 1) := by decide +kernel
theorem dX2_draw_12 : decode cX2_draw 12 = .ok (.putfield 48, 3) := by decide +kernel
theorem dX2_draw_15 : decode cX2_draw 15 = .ok (.aload_n 0, 1) := by decide +kernel
theorem dX2_draw_16 : decode cX2_draw 16 = .ok (.getfield 48, 3) := by decide +kernel
theorem dX2_draw_19 : decode cX2_draw 19 = .ok (.bipush 8, 2) := by decide +kernel
theorem dX2_draw_21 : decode cX2_draw 21 = .ok (.iushr, 1) := by decide +kernel
theorem dX2_draw_22 : decode cX2_draw 22 = .ok (.ireturn, 1) := by decide +kernel
theorem dX2_sumOf_0 : decode cX2_sumOf 0 = .ok (.iconst 0, 1) := by decide +kernel
theorem dX2_sumOf_1 : decode cX2_sumOf 1 = .ok (.istore_n 2, 1) := by decide +kernel
theorem dX2_sumOf_2 : decode cX2_sumOf 2 = .ok (.iconst 0, 1) := by decide +kernel
theorem dX2_sumOf_3 : decode cX2_sumOf 3 = .ok (.istore_n 3, 1) := by decide +kernel
theorem dX2_sumOf_4 : decode cX2_sumOf 4 = .ok (.iload_n 3, 1) := by decide +kernel
theorem dX2_sumOf_5 : decode cX2_sumOf 5 = .ok (.aload_n 0, 1) := by decide +kernel
theorem dX2_sumOf_6 : decode cX2_sumOf 6 = .ok (.getfield 17, 3) := by decide +kernel
theorem dX2_sumOf_9 : decode cX2_sumOf 9 = .ok (.if_icmp .ge 22, 3) := by decide +kernel
theorem dX2_sumOf_12 : decode cX2_sumOf 12 = .ok (.iload_n 2, 1) := by decide +kernel
theorem dX2_sumOf_13 : decode cX2_sumOf 13 = .ok (.aload_n 0, 1) := by decide +kernel
theorem dX2_sumOf_14 : decode cX2_sumOf 14 = .ok (.getfield 11, 3) := by decide +kernel
theorem dX2_sumOf_17 : decode cX2_sumOf 17 = .ok (.iload_n 3, 1) := by decide +kernel
theorem dX2_sumOf_18 : decode cX2_sumOf 18 = .ok (.aaload, 1) := by decide +kernel
theorem dX2_sumOf_19 : decode cX2_sumOf 19 = .ok (.iload_n 1, 1) := by decide +kernel
theorem dX2_sumOf_20 : decode cX2_sumOf 20 = .ok (.invokevirtual 94, 3) := by decide +kernel
theorem dX2_sumOf_23 : decode cX2_sumOf 23 = .ok (.iadd, 1) := by decide +kernel
theorem dX2_sumOf_24 : decode cX2_sumOf 24 = .ok (.istore_n 2, 1) := by decide +kernel
theorem dX2_sumOf_25 : decode cX2_sumOf 25 = .ok (.iinc 3 1, 3) := by decide +kernel
theorem dX2_sumOf_28 : decode cX2_sumOf 28 = .ok (.goto (-24), 3) := by decide +kernel
theorem dX2_sumOf_31 : decode cX2_sumOf 31 = .ok (.iload_n 2, 1) := by decide +kernel
theorem dX2_sumOf_32 : decode cX2_sumOf 32 = .ok (.ireturn, 1) := by decide +kernel
theorem dX2_due_0 : decode cX2_due 0 = .ok (.aload_n 0, 1) := by decide +kernel
theorem dX2_due_1 : decode cX2_due 1 = .ok (.getfield 21, 3) := by decide +kernel
theorem dX2_due_4 : decode cX2_due 4 = .ok (.aload_n 0, 1) := by decide +kernel
theorem dX2_due_5 : decode cX2_due 5 = .ok (.iconst 5, 1) := by decide +kernel
theorem dX2_due_6 : decode cX2_due 6 = .ok (.invokevirtual 98, 3) := by decide +kernel
theorem dX2_due_9 : decode cX2_due 9 = .ok (.imul, 1) := by decide +kernel
theorem dX2_due_10 : decode cX2_due 10 = .ok (.ireturn, 1) := by decide +kernel
theorem dX2_dueOf_0 : decode cX2_dueOf 0 = .ok (.iconst 0, 1) := by decide +kernel
theorem dX2_dueOf_1 : decode cX2_dueOf 1 = .ok (.istore_n 2, 1) := by decide +kernel
theorem dX2_dueOf_2 : decode cX2_dueOf 2 = .ok (.iconst 0, 1) := by decide +kernel
theorem dX2_dueOf_3 : decode cX2_dueOf 3 = .ok (.istore_n 3, 1) := by decide +kernel
theorem dX2_dueOf_4 : decode cX2_dueOf 4 = .ok (.iload_n 3, 1) := by decide +kernel
theorem dX2_dueOf_5 : decode cX2_dueOf 5 = .ok (.aload_n 0, 1) := by decide +kernel
theorem dX2_dueOf_6 : decode cX2_dueOf 6 = .ok (.getfield 17, 3) := by decide +kernel
theorem dX2_dueOf_9 : decode cX2_dueOf 9 = .ok (.if_icmp .ge 30, 3) := by decide +kernel
theorem dX2_dueOf_12 : decode cX2_dueOf 12 = .ok (.iload_n 1, 1) := by decide +kernel
theorem dX2_dueOf_13 : decode cX2_dueOf 13 = .ok (.iload_n 3, 1) := by decide +kernel
theorem dX2_dueOf_14 : decode cX2_dueOf 14 = .ok (.ishr, 1) := by decide +kernel
theorem dX2_dueOf_15 : decode cX2_dueOf 15 = .ok (.iconst 1, 1) := by decide +kernel
theorem dX2_dueOf_16 : decode cX2_dueOf 16 = .ok (.iand, 1) := by decide +kernel
theorem dX2_dueOf_17 : decode cX2_dueOf 17 = .ok (.iconst 1, 1) := by decide +kernel
theorem dX2_dueOf_18 : decode cX2_dueOf 18 = .ok (.if_icmp .ne 15, 3) := by decide +kernel
theorem dX2_dueOf_21 : decode cX2_dueOf 21 = .ok (.iload_n 2, 1) := by decide +kernel
theorem dX2_dueOf_22 : decode cX2_dueOf 22 = .ok (.aload_n 0, 1) := by decide +kernel
theorem dX2_dueOf_23 : decode cX2_dueOf 23 = .ok (.getfield 11, 3) := by decide +kernel
theorem dX2_dueOf_26 : decode cX2_dueOf 26 = .ok (.iload_n 3, 1) := by decide +kernel
theorem dX2_dueOf_27 : decode cX2_dueOf 27 = .ok (.aaload, 1) := by decide +kernel
theorem dX2_dueOf_28 : decode cX2_dueOf 28 = .ok (.getfield 101, 3) := by decide +kernel
theorem dX2_dueOf_31 : decode cX2_dueOf 31 = .ok (.iadd, 1) := by decide +kernel
theorem dX2_dueOf_32 : decode cX2_dueOf 32 = .ok (.istore_n 2, 1) := by decide +kernel
theorem dX2_dueOf_33 : decode cX2_dueOf 33 = .ok (.iinc 3 1, 3) := by decide +kernel
theorem dX2_dueOf_36 : decode cX2_dueOf 36 = .ok (.goto (-32), 3) := by decide +kernel
theorem dX2_dueOf_39 : decode cX2_dueOf 39 = .ok (.aload_n 0, 1) := by decide +kernel
theorem dX2_dueOf_40 : decode cX2_dueOf 40 = .ok (.getfield 21, 3) := by decide +kernel
theorem dX2_dueOf_43 : decode cX2_dueOf 43 = .ok (.iload_n 2, 1) := by decide +kernel
theorem dX2_dueOf_44 : decode cX2_dueOf 44 = .ok (.imul, 1) := by decide +kernel
theorem dX2_dueOf_45 : decode cX2_dueOf 45 = .ok (.ireturn, 1) := by decide +kernel
theorem dX2_owedBy_0 : decode cX2_owedBy 0 = .ok (.aload_n 0, 1) := by decide +kernel
theorem dX2_owedBy_1 : decode cX2_owedBy 1 = .ok (.getfield 21, 3) := by decide +kernel
theorem dX2_owedBy_4 : decode cX2_owedBy 4 = .ok (.aload_n 0, 1) := by decide +kernel
theorem dX2_owedBy_5 : decode cX2_owedBy 5 = .ok (.getfield 11, 3) := by decide +kernel
theorem dX2_owedBy_8 : decode cX2_owedBy 8 = .ok (.iload_n 1, 1) := by decide +kernel
theorem dX2_owedBy_9 : decode cX2_owedBy 9 = .ok (.aaload, 1) := by decide +kernel
theorem dX2_owedBy_10 : decode cX2_owedBy 10 = .ok (.getfield 101, 3) := by decide +kernel
theorem dX2_owedBy_13 : decode cX2_owedBy 13 = .ok (.imul, 1) := by decide +kernel
theorem dX2_owedBy_14 : decode cX2_owedBy 14 = .ok (.aload_n 0, 1) := by decide +kernel
theorem dX2_owedBy_15 : decode cX2_owedBy 15 = .ok (.getfield 11, 3) := by decide +kernel
theorem dX2_owedBy_18 : decode cX2_owedBy 18 = .ok (.iload_n 1, 1) := by decide +kernel
theorem dX2_owedBy_19 : decode cX2_owedBy 19 = .ok (.aaload, 1) := by decide +kernel
theorem dX2_owedBy_20 : decode cX2_owedBy 20 = .ok (.getfield 104, 3) := by decide +kernel
theorem dX2_owedBy_23 : decode cX2_owedBy 23 = .ok (.isub, 1) := by decide +kernel
theorem dX2_owedBy_24 : decode cX2_owedBy 24 = .ok (.ireturn, 1) := by decide +kernel
theorem dX2_drinkersWhoDrank_0 : decode cX2_drinkersWhoDrank 0 = .ok (.iconst 0, 1) := by decide +kernel
theorem dX2_drinkersWhoDrank_1 : decode cX2_drinkersWhoDrank 1 = .ok (.istore_n 1, 1) := by decide +kernel
theorem dX2_drinkersWhoDrank_2 : decode cX2_drinkersWhoDrank 2 = .ok (.iconst 0, 1) := by decide +kernel
theorem dX2_drinkersWhoDrank_3 : decode cX2_drinkersWhoDrank 3 = .ok (.istore_n 2, 1) := by decide +kernel
theorem dX2_drinkersWhoDrank_4 : decode cX2_drinkersWhoDrank 4 = .ok (.iload_n 2, 1) := by decide +kernel
theorem dX2_drinkersWhoDrank_5 : decode cX2_drinkersWhoDrank 5 = .ok (.aload_n 0, 1) := by decide +kernel
theorem dX2_drinkersWhoDrank_6 : decode cX2_drinkersWhoDrank 6 = .ok (.getfield 17, 3) := by decide +kernel
theorem dX2_drinkersWhoDrank_9 : decode cX2_drinkersWhoDrank 9 = .ok (.if_icmp .ge 24, 3) := by decide +kernel
theorem dX2_drinkersWhoDrank_12 : decode cX2_drinkersWhoDrank 12 = .ok (.aload_n 0, 1) := by decide +kernel
theorem dX2_drinkersWhoDrank_13 : decode cX2_drinkersWhoDrank 13 = .ok (.getfield 11, 3) := by decide +kernel
theorem dX2_drinkersWhoDrank_16 : decode cX2_drinkersWhoDrank 16 = .ok (.iload_n 2, 1) := by decide +kernel
theorem dX2_drinkersWhoDrank_17 : decode cX2_drinkersWhoDrank 17 = .ok (.aaload, 1) := by decide +kernel
theorem dX2_drinkersWhoDrank_18 : decode cX2_drinkersWhoDrank 18 = .ok (.getfield 101, 3) := by decide +kernel
theorem dX2_drinkersWhoDrank_21 : decode cX2_drinkersWhoDrank 21 = .ok (.ifCond .le 6, 3) := by decide +kernel
theorem dX2_drinkersWhoDrank_24 : decode cX2_drinkersWhoDrank 24 = .ok (.iinc 1 1, 3) := by decide +kernel
theorem dX2_drinkersWhoDrank_27 : decode cX2_drinkersWhoDrank 27 = .ok (.iinc 2 1, 3) := by decide +kernel
theorem dX2_drinkersWhoDrank_30 : decode cX2_drinkersWhoDrank 30 = .ok (.goto (-26), 3) := by decide +kernel
theorem dX2_drinkersWhoDrank_33 : decode cX2_drinkersWhoDrank 33 = .ok (.iload_n 1, 1) := by decide +kernel
theorem dX2_drinkersWhoDrank_34 : decode cX2_drinkersWhoDrank 34 = .ok (.ireturn, 1) := by decide +kernel
theorem dX2_heldSpots_0 : decode cX2_heldSpots 0 = .ok (.iconst 0, 1) := by decide +kernel
theorem dX2_heldSpots_1 : decode cX2_heldSpots 1 = .ok (.istore_n 1, 1) := by decide +kernel
theorem dX2_heldSpots_2 : decode cX2_heldSpots 2 = .ok (.iconst 0, 1) := by decide +kernel
theorem dX2_heldSpots_3 : decode cX2_heldSpots 3 = .ok (.istore_n 2, 1) := by decide +kernel
theorem dX2_heldSpots_4 : decode cX2_heldSpots 4 = .ok (.iload_n 2, 1) := by decide +kernel
theorem dX2_heldSpots_5 : decode cX2_heldSpots 5 = .ok (.bipush 10, 2) := by decide +kernel
theorem dX2_heldSpots_7 : decode cX2_heldSpots 7 = .ok (.if_icmp .ge 22, 3) := by decide +kernel
theorem dX2_heldSpots_10 : decode cX2_heldSpots 10 = .ok (.aload_n 0, 1) := by decide +kernel
theorem dX2_heldSpots_11 : decode cX2_heldSpots 11 = .ok (.getfield 58, 3) := by decide +kernel
theorem dX2_heldSpots_14 : decode cX2_heldSpots 14 = .ok (.iload_n 2, 1) := by decide +kernel
theorem dX2_heldSpots_15 : decode cX2_heldSpots 15 = .ok (.iaload, 1) := by decide +kernel
theorem dX2_heldSpots_16 : decode cX2_heldSpots 16 = .ok (.iconst (-1), 1) := by decide +kernel
theorem dX2_heldSpots_17 : decode cX2_heldSpots 17 = .ok (.if_icmp .eq 6, 3) := by decide +kernel
theorem dX2_heldSpots_20 : decode cX2_heldSpots 20 = .ok (.iinc 1 1, 3) := by decide +kernel
theorem dX2_heldSpots_23 : decode cX2_heldSpots 23 = .ok (.iinc 2 1, 3) := by decide +kernel
theorem dX2_heldSpots_26 : decode cX2_heldSpots 26 = .ok (.goto (-22), 3) := by decide +kernel
theorem dX2_heldSpots_29 : decode cX2_heldSpots 29 = .ok (.iload_n 1, 1) := by decide +kernel
theorem dX2_heldSpots_30 : decode cX2_heldSpots 30 = .ok (.ireturn, 1) := by decide +kernel
theorem dX2_goDays_0 : decode cX2_goDays 0 = .ok (.aload_n 0, 1) := by decide +kernel
theorem dX2_goDays_1 : decode cX2_goDays 1 = .ok (.getfield 30, 3) := by decide +kernel
theorem dX2_goDays_4 : decode cX2_goDays 4 = .ok (.istore_n 2, 1) := by decide +kernel
theorem dX2_goDays_5 : decode cX2_goDays 5 = .ok (.iconst 0, 1) := by decide +kernel
theorem dX2_goDays_6 : decode cX2_goDays 6 = .ok (.istore_n 3, 1) := by decide +kernel
theorem dX2_goDays_7 : decode cX2_goDays 7 = .ok (.iload_n 3, 1) := by decide +kernel
theorem dX2_goDays_8 : decode cX2_goDays 8 = .ok (.iload_n 1, 1) := by decide +kernel
theorem dX2_goDays_9 : decode cX2_goDays 9 = .ok (.if_icmp .ge 13, 3) := by decide +kernel
theorem dX2_goDays_12 : decode cX2_goDays 12 = .ok (.aload_n 0, 1) := by decide +kernel
theorem dX2_goDays_13 : decode cX2_goDays 13 = .ok (.invokevirtual 107, 3) := by decide +kernel
theorem dX2_goDays_16 : decode cX2_goDays 16 = .ok (.iinc 3 1, 3) := by decide +kernel
theorem dX2_goDays_19 : decode cX2_goDays 19 = .ok (.goto (-12), 3) := by decide +kernel
theorem dX2_goDays_22 : decode cX2_goDays 22 = .ok (.aload_n 0, 1) := by decide +kernel
theorem dX2_goDays_23 : decode cX2_goDays 23 = .ok (.getfield 30, 3) := by decide +kernel
theorem dX2_goDays_26 : decode cX2_goDays 26 = .ok (.iload_n 2, 1) := by decide +kernel
theorem dX2_goDays_27 : decode cX2_goDays 27 = .ok (.isub, 1) := by decide +kernel
theorem dX2_goDays_28 : decode cX2_goDays 28 = .ok (.ireturn, 1) := by decide +kernel
theorem dX2_goDay_0 : decode cX2_goDay 0 = .ok (.iconst 0, 1) := by decide +kernel
theorem dX2_goDay_1 : decode cX2_goDay 1 = .ok (.istore_n 1, 1) := by decide +kernel
theorem dX2_goDay_2 : decode cX2_goDay 2 = .ok (.iload_n 1, 1) := by decide +kernel
theorem dX2_goDay_3 : decode cX2_goDay 3 = .ok (.aload_n 0, 1) := by decide +kernel
theorem dX2_goDay_4 : decode cX2_goDay 4 = .ok (.getfield 17, 3) := by decide +kernel
theorem dX2_goDay_7 : decode cX2_goDay 7 = .ok (.if_icmp .ge 35, 3) := by decide +kernel
theorem dX2_goDay_10 : decode cX2_goDay 10 = .ok (.aload_n 0, 1) := by decide +kernel
theorem dX2_goDay_11 : decode cX2_goDay 11 = .ok (.getfield 11, 3) := by decide +kernel
theorem dX2_goDay_14 : decode cX2_goDay 14 = .ok (.iload_n 1, 1) := by decide +kernel
theorem dX2_goDay_15 : decode cX2_goDay 15 = .ok (.aaload, 1) := by decide +kernel
theorem dX2_goDay_16 : decode cX2_goDay 16 = .ok (.getfield 110, 3) := by decide +kernel
theorem dX2_goDay_19 : decode cX2_goDay 19 = .ok (.aload_n 0, 1) := by decide +kernel
theorem dX2_goDay_20 : decode cX2_goDay 20 = .ok (.getfield 21, 3) := by decide +kernel
theorem dX2_goDay_23 : decode cX2_goDay 23 = .ok (.if_icmp .lt 13, 3) := by decide +kernel
theorem dX2_goDay_26 : decode cX2_goDay 26 = .ok (.aload_n 0, 1) := by decide +kernel
theorem dX2_goDay_27 : decode cX2_goDay 27 = .ok (.aload_n 0, 1) := by decide +kernel
theorem dX2_goDay_28 : decode cX2_goDay 28 = .ok (.getfield 11, 3) := by decide +kernel
theorem dX2_goDay_31 : decode cX2_goDay 31 = .ok (.iload_n 1, 1) := by decide +kernel
theorem dX2_goDay_32 : decode cX2_goDay 32 = .ok (.aaload, 1) := by decide +kernel
theorem dX2_goDay_33 : decode cX2_goDay 33 = .ok (.invokevirtual 113, 3) := by decide +kernel
theorem dX2_goDay_36 : decode cX2_goDay 36 = .ok (.iinc 1 1, 3) := by decide +kernel
theorem dX2_goDay_39 : decode cX2_goDay 39 = .ok (.goto (-37), 3) := by decide +kernel
theorem dX2_goDay_42 : decode cX2_goDay 42 = .ok (.aload_n 0, 1) := by decide +kernel
theorem dX2_goDay_43 : decode cX2_goDay 43 = .ok (.aload_n 0, 1) := by decide +kernel
theorem dX2_goDay_44 : decode cX2_goDay 44 = .ok (.getfield 24, 3) := by decide +kernel
theorem dX2_goDay_47 : decode cX2_goDay 47 = .ok (.putfield 27, 3) := by decide +kernel
theorem dX2_goDay_50 : decode cX2_goDay 50 = .ok (.aload_n 0, 1) := by decide +kernel
theorem dX2_goDay_51 : decode cX2_goDay 51 = .ok (.getfield 39, 3) := by decide +kernel
theorem dX2_goDay_54 : decode cX2_goDay 54 = .ok (.iconst 5, 1) := by decide +kernel
theorem dX2_goDay_55 : decode cX2_goDay 55 = .ok (.irem, 1) := by decide +kernel
theorem dX2_goDay_56 : decode cX2_goDay 56 = .ok (.iconst 4, 1) := by decide +kernel
theorem dX2_goDay_57 : decode cX2_goDay 57 = .ok (.if_icmp .ne 7, 3) := by decide +kernel
theorem dX2_goDay_60 : decode cX2_goDay 60 = .ok (.aload_n 0, 1) := by decide +kernel
theorem dX2_goDay_61 : decode cX2_goDay 61 = .ok (.invokevirtual 116, 3) := by decide +kernel
theorem dX2_goDay_64 : decode cX2_goDay 64 = .ok (.aload_n 0, 1) := by decide +kernel
theorem dX2_goDay_65 : decode cX2_goDay 65 = .ok (.dup, 1) := by decide +kernel
theorem dX2_goDay_66 : decode cX2_goDay 66 = .ok (.getfield 39, 3) := by decide +kernel
theorem dX2_goDay_69 : decode cX2_goDay 69 = .ok (.iconst 1, 1) := by decide +kernel
theorem dX2_goDay_70 : decode cX2_goDay 70 = .ok (.iadd, 1) := by decide +kernel
theorem dX2_goDay_71 : decode cX2_goDay 71 = .ok (.putfield 39, 3) := by decide +kernel
theorem dX2_goDay_74 : decode cX2_goDay 74 = .ok (.return_, 1) := by decide +kernel
theorem dX2_serve_0 : decode cX2_serve 0 = .ok (.iconst 0, 1) := by decide +kernel
theorem dX2_serve_1 : decode cX2_serve 1 = .ok (.istore_n 2, 1) := by decide +kernel
theorem dX2_serve_2 : decode cX2_serve 2 = .ok (.iload_n 2, 1) := by decide +kernel
theorem dX2_serve_3 : decode cX2_serve 3 = .ok (.aload_n 1, 1) := by decide +kernel
theorem dX2_serve_4 : decode cX2_serve 4 = .ok (.getfield 119, 3) := by decide +kernel
theorem dX2_serve_7 : decode cX2_serve 7 = .ok (.if_icmp .ge 71, 3) := by decide +kernel
theorem dX2_serve_10 : decode cX2_serve 10 = .ok (.aload_n 0, 1) := by decide +kernel
theorem dX2_serve_11 : decode cX2_serve 11 = .ok (.getfield 27, 3) := by decide +kernel
theorem dX2_serve_14 : decode cX2_serve 14 = .ok (.ifCond .ne 22, 3) := by decide +kernel
theorem dX2_serve_17 : decode cX2_serve 17 = .ok (.aload_n 0, 1) := by decide +kernel
theorem dX2_serve_18 : decode cX2_serve 18 = .ok (.aload_n 1, 1) := by decide +kernel
theorem dX2_serve_19 : decode cX2_serve 19 = .ok (.invokevirtual 122, 3) := by decide +kernel
theorem dX2_serve_22 : decode cX2_serve 22 = .ok (.ifCond .ne 14, 3) := by decide +kernel
theorem dX2_serve_25 : decode cX2_serve 25 = .ok (.aload_n 0, 1) := by decide +kernel
theorem dX2_serve_26 : decode cX2_serve 26 = .ok (.dup, 1) := by decide +kernel
theorem dX2_serve_27 : decode cX2_serve 27 = .ok (.getfield 42, 3) := by decide +kernel
theorem dX2_serve_30 : decode cX2_serve 30 = .ok (.iconst 1, 1) := by decide +kernel
theorem dX2_serve_31 : decode cX2_serve 31 = .ok (.iadd, 1) := by decide +kernel
theorem dX2_serve_32 : decode cX2_serve 32 = .ok (.putfield 42, 3) := by decide +kernel
theorem dX2_serve_35 : decode cX2_serve 35 = .ok (.return_, 1) := by decide +kernel
theorem dX2_serve_36 : decode cX2_serve 36 = .ok (.aload_n 0, 1) := by decide +kernel
theorem dX2_serve_37 : decode cX2_serve 37 = .ok (.dup, 1) := by decide +kernel
theorem dX2_serve_38 : decode cX2_serve 38 = .ok (.getfield 27, 3) := by decide +kernel
theorem dX2_serve_41 : decode cX2_serve 41 = .ok (.iconst 1, 1) := by decide +kernel
theorem dX2_serve_42 : decode cX2_serve 42 = .ok (.isub, 1) := by decide +kernel
theorem dX2_serve_43 : decode cX2_serve 43 = .ok (.putfield 27, 3) := by decide +kernel
theorem dX2_serve_46 : decode cX2_serve 46 = .ok (.aload_n 0, 1) := by decide +kernel
theorem dX2_serve_47 : decode cX2_serve 47 = .ok (.dup, 1) := by decide +kernel
theorem dX2_serve_48 : decode cX2_serve 48 = .ok (.getfield 45, 3) := by decide +kernel
theorem dX2_serve_51 : decode cX2_serve 51 = .ok (.iconst 1, 1) := by decide +kernel
theorem dX2_serve_52 : decode cX2_serve 52 = .ok (.iadd, 1) := by decide +kernel
theorem dX2_serve_53 : decode cX2_serve 53 = .ok (.putfield 45, 3) := by decide +kernel
theorem dX2_serve_56 : decode cX2_serve 56 = .ok (.aload_n 1, 1) := by decide +kernel
theorem dX2_serve_57 : decode cX2_serve 57 = .ok (.dup, 1) := by decide +kernel
theorem dX2_serve_58 : decode cX2_serve 58 = .ok (.getfield 101, 3) := by decide +kernel
theorem dX2_serve_61 : decode cX2_serve 61 = .ok (.iconst 1, 1) := by decide +kernel
theorem dX2_serve_62 : decode cX2_serve 62 = .ok (.iadd, 1) := by decide +kernel
theorem dX2_serve_63 : decode cX2_serve 63 = .ok (.putfield 101, 3) := by decide +kernel
theorem dX2_serve_66 : decode cX2_serve 66 = .ok (.aload_n 0, 1) := by decide +kernel
theorem dX2_serve_67 : decode cX2_serve 67 = .ok (.aload_n 1, 1) := by decide +kernel
theorem dX2_serve_68 : decode cX2_serve 68 = .ok (.iload_n 2, 1) := by decide +kernel
theorem dX2_serve_69 : decode cX2_serve 69 = .ok (.invokevirtual 126, 3) := by decide +kernel
theorem dX2_serve_72 : decode cX2_serve 72 = .ok (.iinc 2 1, 3) := by decide +kernel
theorem dX2_serve_75 : decode cX2_serve 75 = .ok (.goto (-73), 3) := by decide +kernel
theorem dX2_serve_78 : decode cX2_serve 78 = .ok (.return_, 1) := by decide +kernel
theorem dX2_isPotMade_0 : decode cX2_isPotMade 0 = .ok (.aload_n 1, 1) := by decide +kernel
theorem dX2_isPotMade_1 : decode cX2_isPotMade 1 = .ok (.getfield 130, 3) := by decide +kernel
theorem dX2_isPotMade_4 : decode cX2_isPotMade 4 = .ok (.bipush 6, 2) := by decide +kernel
theorem dX2_isPotMade_6 : decode cX2_isPotMade 6 = .ok (.if_icmp .eq 16, 3) := by decide +kernel
theorem dX2_isPotMade_9 : decode cX2_isPotMade 9 = .ok (.aload_n 0, 1) := by decide +kernel
theorem dX2_isPotMade_10 : decode cX2_isPotMade 10 = .ok (.invokevirtual 133, 3) := by decide +kernel
theorem dX2_isPotMade_13 : decode cX2_isPotMade 13 = .ok (.bipush 10, 2) := by decide +kernel
theorem dX2_isPotMade_15 : decode cX2_isPotMade 15 = .ok (.irem, 1) := by decide +kernel
theorem dX2_isPotMade_16 : decode cX2_isPotMade 16 = .ok (.iconst 3, 1) := by decide +kernel
theorem dX2_isPotMade_17 : decode cX2_isPotMade 17 = .ok (.if_icmp .lt 5, 3) := by decide +kernel
theorem dX2_isPotMade_20 : decode cX2_isPotMade 20 = .ok (.iconst 0, 1) := by decide +kernel
theorem dX2_isPotMade_21 : decode cX2_isPotMade 21 = .ok (.ireturn, 1) := by decide +kernel
theorem dX2_isPotMade_22 : decode cX2_isPotMade 22 = .ok (.aload_n 0, 1) := by decide +kernel
theorem dX2_isPotMade_23 : decode cX2_isPotMade 23 = .ok (.aload_n 0, 1) := by decide +kernel
theorem dX2_isPotMade_24 : decode cX2_isPotMade 24 = .ok (.getfield 24, 3) := by decide +kernel
theorem dX2_isPotMade_27 : decode cX2_isPotMade 27 = .ok (.putfield 27, 3) := by decide +kernel
theorem dX2_isPotMade_30 : decode cX2_isPotMade 30 = .ok (.iconst 1, 1) := by decide +kernel
theorem dX2_isPotMade_31 : decode cX2_isPotMade 31 = .ok (.ireturn, 1) := by decide +kernel
theorem dX2_payCup_0 : decode cX2_payCup 0 = .ok (.aload_n 0, 1) := by decide +kernel
theorem dX2_payCup_1 : decode cX2_payCup 1 = .ok (.getfield 21, 3) := by decide +kernel
theorem dX2_payCup_4 : decode cX2_payCup 4 = .ok (.istore_n 3, 1) := by decide +kernel
theorem dX2_payCup_5 : decode cX2_payCup 5 = .ok (.aload_n 1, 1) := by decide +kernel
theorem dX2_payCup_6 : decode cX2_payCup 6 = .ok (.getfield 130, 3) := by decide +kernel
theorem dX2_payCup_9 : decode cX2_payCup 9 = .ok (.tableswitch 158 1 6 #[39, 101, 77, 120, 148, 57], 39) := by decide +kernel
theorem dX2_payCup_48 : decode cX2_payCup 48 = .ok (.aload_n 1, 1) := by decide +kernel
theorem dX2_payCup_49 : decode cX2_payCup 49 = .ok (.dup, 1) := by decide +kernel
theorem dX2_payCup_50 : decode cX2_payCup 50 = .ok (.getfield 137, 3) := by decide +kernel
theorem dX2_payCup_53 : decode cX2_payCup 53 = .ok (.aload_n 0, 1) := by decide +kernel
theorem dX2_payCup_54 : decode cX2_payCup 54 = .ok (.getfield 21, 3) := by decide +kernel
theorem dX2_payCup_57 : decode cX2_payCup 57 = .ok (.iadd, 1) := by decide +kernel
theorem dX2_payCup_58 : decode cX2_payCup 58 = .ok (.putfield 137, 3) := by decide +kernel
theorem dX2_payCup_61 : decode cX2_payCup 61 = .ok (.iconst 0, 1) := by decide +kernel
theorem dX2_payCup_62 : decode cX2_payCup 62 = .ok (.istore_n 3, 1) := by decide +kernel
theorem dX2_payCup_63 : decode cX2_payCup 63 = .ok (.goto 104, 3) := by decide +kernel
theorem dX2_payCup_66 : decode cX2_payCup 66 = .ok (.aload_n 1, 1) := by decide +kernel
theorem dX2_payCup_67 : decode cX2_payCup 67 = .ok (.dup, 1) := by decide +kernel
theorem dX2_payCup_68 : decode cX2_payCup 68 = .ok (.getfield 137, 3) := by decide +kernel
theorem dX2_payCup_71 : decode cX2_payCup 71 = .ok (.aload_n 0, 1) := by decide +kernel
theorem dX2_payCup_72 : decode cX2_payCup 72 = .ok (.getfield 21, 3) := by decide +kernel
theorem dX2_payCup_75 : decode cX2_payCup 75 = .ok (.iconst 2, 1) := by decide +kernel
theorem dX2_payCup_76 : decode cX2_payCup 76 = .ok (.idiv, 1) := by decide +kernel
theorem dX2_payCup_77 : decode cX2_payCup 77 = .ok (.iadd, 1) := by decide +kernel
theorem dX2_payCup_78 : decode cX2_payCup 78 = .ok (.putfield 137, 3) := by decide +kernel
theorem dX2_payCup_81 : decode cX2_payCup 81 = .ok (.iconst 0, 1) := by decide +kernel
theorem dX2_payCup_82 : decode cX2_payCup 82 = .ok (.istore_n 3, 1) := by decide +kernel
theorem dX2_payCup_83 : decode cX2_payCup 83 = .ok (.goto 84, 3) := by decide +kernel
theorem dX2_payCup_86 : decode cX2_payCup 86 = .ok (.aload_n 0, 1) := by decide +kernel
theorem dX2_payCup_87 : decode cX2_payCup 87 = .ok (.getfield 33, 3) := by decide +kernel
theorem dX2_payCup_90 : decode cX2_payCup 90 = .ok (.iconst 2, 1) := by decide +kernel
theorem dX2_payCup_91 : decode cX2_payCup 91 = .ok (.if_icmp .ne 14, 3) := by decide +kernel
theorem dX2_payCup_94 : decode cX2_payCup 94 = .ok (.iload_n 2, 1) := by decide +kernel
theorem dX2_payCup_95 : decode cX2_payCup 95 = .ok (.ifCond .ne 10, 3) := by decide +kernel
theorem dX2_payCup_98 : decode cX2_payCup 98 = .ok (.aload_n 0, 1) := by decide +kernel
theorem dX2_payCup_99 : decode cX2_payCup 99 = .ok (.getfield 21, 3) := by decide +kernel
theorem dX2_payCup_102 : decode cX2_payCup 102 = .ok (.goto 4, 3) := by decide +kernel
theorem dX2_payCup_105 : decode cX2_payCup 105 = .ok (.iconst 0, 1) := by decide +kernel
theorem dX2_payCup_106 : decode cX2_payCup 106 = .ok (.istore_n 3, 1) := by decide +kernel
theorem dX2_payCup_107 : decode cX2_payCup 107 = .ok (.goto 60, 3) := by decide +kernel
theorem dX2_payCup_110 : decode cX2_payCup 110 = .ok (.aload_n 0, 1) := by decide +kernel
theorem dX2_payCup_111 : decode cX2_payCup 111 = .ok (.invokevirtual 140, 3) := by decide +kernel
theorem dX2_payCup_114 : decode cX2_payCup 114 = .ok (.ifCond .eq 7, 3) := by decide +kernel
theorem dX2_payCup_117 : decode cX2_payCup 117 = .ok (.iconst 0, 1) := by decide +kernel
theorem dX2_payCup_118 : decode cX2_payCup 118 = .ok (.goto 7, 3) := by decide +kernel
theorem dX2_payCup_121 : decode cX2_payCup 121 = .ok (.aload_n 0, 1) := by decide +kernel
theorem dX2_payCup_122 : decode cX2_payCup 122 = .ok (.getfield 21, 3) := by decide +kernel
theorem dX2_payCup_125 : decode cX2_payCup 125 = .ok (.istore_n 3, 1) := by decide +kernel
theorem dX2_payCup_126 : decode cX2_payCup 126 = .ok (.goto 41, 3) := by decide +kernel
theorem dX2_payCup_129 : decode cX2_payCup 129 = .ok (.aload_n 0, 1) := by decide +kernel
theorem dX2_payCup_130 : decode cX2_payCup 130 = .ok (.getfield 36, 3) := by decide +kernel
theorem dX2_payCup_133 : decode cX2_payCup 133 = .ok (.bipush 50, 2) := by decide +kernel
theorem dX2_payCup_135 : decode cX2_payCup 135 = .ok (.if_icmp .lt 10, 3) := by decide +kernel
theorem dX2_payCup_138 : decode cX2_payCup 138 = .ok (.aload_n 0, 1) := by decide +kernel
theorem dX2_payCup_139 : decode cX2_payCup 139 = .ok (.invokevirtual 140, 3) := by decide +kernel
theorem dX2_payCup_142 : decode cX2_payCup 142 = .ok (.ifCond .eq 7, 3) := by decide +kernel
theorem dX2_payCup_145 : decode cX2_payCup 145 = .ok (.iconst 0, 1) := by decide +kernel
theorem dX2_payCup_146 : decode cX2_payCup 146 = .ok (.goto 7, 3) := by decide +kernel
theorem dX2_payCup_149 : decode cX2_payCup 149 = .ok (.aload_n 0, 1) := by decide +kernel
theorem dX2_payCup_150 : decode cX2_payCup 150 = .ok (.getfield 21, 3) := by decide +kernel
theorem dX2_payCup_153 : decode cX2_payCup 153 = .ok (.istore_n 3, 1) := by decide +kernel
theorem dX2_payCup_154 : decode cX2_payCup 154 = .ok (.goto 13, 3) := by decide +kernel
theorem dX2_payCup_157 : decode cX2_payCup 157 = .ok (.iconst 2, 1) := by decide +kernel
theorem dX2_payCup_158 : decode cX2_payCup 158 = .ok (.aload_n 0, 1) := by decide +kernel
theorem dX2_payCup_159 : decode cX2_payCup 159 = .ok (.getfield 21, 3) := by decide +kernel
theorem dX2_payCup_162 : decode cX2_payCup 162 = .ok (.imul, 1) := by decide +kernel
theorem dX2_payCup_163 : decode cX2_payCup 163 = .ok (.istore_n 3, 1) := by decide +kernel
theorem dX2_payCup_164 : decode cX2_payCup 164 = .ok (.goto 3, 3) := by decide +kernel
theorem dX2_payCup_167 : decode cX2_payCup 167 = .ok (.aload_n 0, 1) := by decide +kernel
theorem dX2_payCup_168 : decode cX2_payCup 168 = .ok (.aload_n 1, 1) := by decide +kernel
theorem dX2_payCup_169 : decode cX2_payCup 169 = .ok (.iload_n 3, 1) := by decide +kernel
theorem dX2_payCup_170 : decode cX2_payCup 170 = .ok (.invokevirtual 144, 3) := by decide +kernel
theorem dX2_payCup_173 : decode cX2_payCup 173 = .ok (.pop, 1) := by decide +kernel
theorem dX2_payCup_174 : decode cX2_payCup 174 = .ok (.return_, 1) := by decide +kernel
theorem dX2_isForgotten_0 : decode cX2_isForgotten 0 = .ok (.aload_n 0, 1) := by decide +kernel
theorem dX2_isForgotten_1 : decode cX2_isForgotten 1 = .ok (.invokevirtual 133, 3) := by decide +kernel
theorem dX2_isForgotten_4 : decode cX2_isForgotten 4 = .ok (.bipush 10, 2) := by decide +kernel
theorem dX2_isForgotten_6 : decode cX2_isForgotten 6 = .ok (.irem, 1) := by decide +kernel
theorem dX2_isForgotten_7 : decode cX2_isForgotten 7 = .ok (.iconst 4, 1) := by decide +kernel
theorem dX2_isForgotten_8 : decode cX2_isForgotten 8 = .ok (.iconst 2, 1) := by decide +kernel
theorem dX2_isForgotten_9 : decode cX2_isForgotten 9 = .ok (.aload_n 0, 1) := by decide +kernel
theorem dX2_isForgotten_10 : decode cX2_isForgotten 10 = .ok (.getfield 33, 3) := by decide +kernel
theorem dX2_isForgotten_13 : decode cX2_isForgotten 13 = .ok (.imul, 1) := by decide +kernel
theorem dX2_isForgotten_14 : decode cX2_isForgotten 14 = .ok (.isub, 1) := by decide +kernel
theorem dX2_isForgotten_15 : decode cX2_isForgotten 15 = .ok (.if_icmp .ge 7, 3) := by decide +kernel
theorem dX2_isForgotten_18 : decode cX2_isForgotten 18 = .ok (.iconst 1, 1) := by decide +kernel
theorem dX2_isForgotten_19 : decode cX2_isForgotten 19 = .ok (.goto 4, 3) := by decide +kernel
theorem dX2_isForgotten_22 : decode cX2_isForgotten 22 = .ok (.iconst 0, 1) := by decide +kernel
theorem dX2_isForgotten_23 : decode cX2_isForgotten 23 = .ok (.ireturn, 1) := by decide +kernel
theorem dX2_pay_0 : decode cX2_pay 0 = .ok (.iload_n 2, 1) := by decide +kernel
theorem dX2_pay_1 : decode cX2_pay 1 = .ok (.aload_n 1, 1) := by decide +kernel
theorem dX2_pay_2 : decode cX2_pay 2 = .ok (.getfield 148, 3) := by decide +kernel
theorem dX2_pay_5 : decode cX2_pay 5 = .ok (.invokestatic 80, 3) := by decide +kernel
theorem dX2_pay_8 : decode cX2_pay 8 = .ok (.istore_n 3, 1) := by decide +kernel
theorem dX2_pay_9 : decode cX2_pay 9 = .ok (.aload_n 1, 1) := by decide +kernel
theorem dX2_pay_10 : decode cX2_pay 10 = .ok (.dup, 1) := by decide +kernel
theorem dX2_pay_11 : decode cX2_pay 11 = .ok (.getfield 148, 3) := by decide +kernel
theorem dX2_pay_14 : decode cX2_pay 14 = .ok (.iload_n 3, 1) := by decide +kernel
theorem dX2_pay_15 : decode cX2_pay 15 = .ok (.isub, 1) := by decide +kernel
theorem dX2_pay_16 : decode cX2_pay 16 = .ok (.putfield 148, 3) := by decide +kernel
theorem dX2_pay_19 : decode cX2_pay 19 = .ok (.aload_n 1, 1) := by decide +kernel
theorem dX2_pay_20 : decode cX2_pay 20 = .ok (.dup, 1) := by decide +kernel
theorem dX2_pay_21 : decode cX2_pay 21 = .ok (.getfield 104, 3) := by decide +kernel
theorem dX2_pay_24 : decode cX2_pay 24 = .ok (.iload_n 3, 1) := by decide +kernel
theorem dX2_pay_25 : decode cX2_pay 25 = .ok (.iadd, 1) := by decide +kernel
theorem dX2_pay_26 : decode cX2_pay 26 = .ok (.putfield 104, 3) := by decide +kernel
theorem dX2_pay_29 : decode cX2_pay 29 = .ok (.aload_n 0, 1) := by decide +kernel
theorem dX2_pay_30 : decode cX2_pay 30 = .ok (.dup, 1) := by decide +kernel
theorem dX2_pay_31 : decode cX2_pay 31 = .ok (.getfield 30, 3) := by decide +kernel
theorem dX2_pay_34 : decode cX2_pay 34 = .ok (.iload_n 3, 1) := by decide +kernel
theorem dX2_pay_35 : decode cX2_pay 35 = .ok (.iadd, 1) := by decide +kernel
theorem dX2_pay_36 : decode cX2_pay 36 = .ok (.putfield 30, 3) := by decide +kernel
theorem dX2_pay_39 : decode cX2_pay 39 = .ok (.iload_n 3, 1) := by decide +kernel
theorem dX2_pay_40 : decode cX2_pay 40 = .ok (.ireturn, 1) := by decide +kernel
theorem dX2_endWeek_0 : decode cX2_endWeek 0 = .ok (.iconst 0, 1) := by decide +kernel
theorem dX2_endWeek_1 : decode cX2_endWeek 1 = .ok (.istore_n 1, 1) := by decide +kernel
theorem dX2_endWeek_2 : decode cX2_endWeek 2 = .ok (.iload_n 1, 1) := by decide +kernel
theorem dX2_endWeek_3 : decode cX2_endWeek 3 = .ok (.aload_n 0, 1) := by decide +kernel
theorem dX2_endWeek_4 : decode cX2_endWeek 4 = .ok (.getfield 17, 3) := by decide +kernel
theorem dX2_endWeek_7 : decode cX2_endWeek 7 = .ok (.if_icmp .ge 51, 3) := by decide +kernel
theorem dX2_endWeek_10 : decode cX2_endWeek 10 = .ok (.aload_n 0, 1) := by decide +kernel
theorem dX2_endWeek_11 : decode cX2_endWeek 11 = .ok (.getfield 11, 3) := by decide +kernel
theorem dX2_endWeek_14 : decode cX2_endWeek 14 = .ok (.iload_n 1, 1) := by decide +kernel
theorem dX2_endWeek_15 : decode cX2_endWeek 15 = .ok (.aaload, 1) := by decide +kernel
theorem dX2_endWeek_16 : decode cX2_endWeek 16 = .ok (.astore_n 2, 1) := by decide +kernel
theorem dX2_endWeek_17 : decode cX2_endWeek 17 = .ok (.aload_n 2, 1) := by decide +kernel
theorem dX2_endWeek_18 : decode cX2_endWeek 18 = .ok (.getfield 130, 3) := by decide +kernel
theorem dX2_endWeek_21 : decode cX2_endWeek 21 = .ok (.iconst 1, 1) := by decide +kernel
theorem dX2_endWeek_22 : decode cX2_endWeek 22 = .ok (.if_icmp .eq 12, 3) := by decide +kernel
theorem dX2_endWeek_25 : decode cX2_endWeek 25 = .ok (.aload_n 2, 1) := by decide +kernel
theorem dX2_endWeek_26 : decode cX2_endWeek 26 = .ok (.getfield 130, 3) := by decide +kernel
theorem dX2_endWeek_29 : decode cX2_endWeek 29 = .ok (.bipush 6, 2) := by decide +kernel
theorem dX2_endWeek_31 : decode cX2_endWeek 31 = .ok (.if_icmp .ne 21, 3) := by decide +kernel
theorem dX2_endWeek_34 : decode cX2_endWeek 34 = .ok (.aload_n 2, 1) := by decide +kernel
theorem dX2_endWeek_35 : decode cX2_endWeek 35 = .ok (.dup, 1) := by decide +kernel
theorem dX2_endWeek_36 : decode cX2_endWeek 36 = .ok (.getfield 137, 3) := by decide +kernel
theorem dX2_endWeek_39 : decode cX2_endWeek 39 = .ok (.aload_n 0, 1) := by decide +kernel
theorem dX2_endWeek_40 : decode cX2_endWeek 40 = .ok (.aload_n 2, 1) := by decide +kernel
theorem dX2_endWeek_41 : decode cX2_endWeek 41 = .ok (.aload_n 2, 1) := by decide +kernel
theorem dX2_endWeek_42 : decode cX2_endWeek 42 = .ok (.getfield 137, 3) := by decide +kernel
theorem dX2_endWeek_45 : decode cX2_endWeek 45 = .ok (.invokevirtual 144, 3) := by decide +kernel
theorem dX2_endWeek_48 : decode cX2_endWeek 48 = .ok (.isub, 1) := by decide +kernel
theorem dX2_endWeek_49 : decode cX2_endWeek 49 = .ok (.putfield 137, 3) := by decide +kernel
theorem dX2_endWeek_52 : decode cX2_endWeek 52 = .ok (.iinc 1 1, 3) := by decide +kernel
theorem dX2_endWeek_55 : decode cX2_endWeek 55 = .ok (.goto (-53), 3) := by decide +kernel
theorem dX2_endWeek_58 : decode cX2_endWeek 58 = .ok (.aload_n 0, 1) := by decide +kernel
theorem dX2_endWeek_59 : decode cX2_endWeek 59 = .ok (.bipush 6, 2) := by decide +kernel
theorem dX2_endWeek_61 : decode cX2_endWeek 61 = .ok (.invokevirtual 98, 3) := by decide +kernel
theorem dX2_endWeek_64 : decode cX2_endWeek 64 = .ok (.istore_n 1, 1) := by decide +kernel
theorem dX2_endWeek_65 : decode cX2_endWeek 65 = .ok (.aload_n 0, 1) := by decide +kernel
theorem dX2_endWeek_66 : decode cX2_endWeek 66 = .ok (.getfield 54, 3) := by decide +kernel
theorem dX2_endWeek_69 : decode cX2_endWeek 69 = .ok (.aload_n 0, 1) := by decide +kernel
theorem dX2_endWeek_70 : decode cX2_endWeek 70 = .ok (.iconst 5, 1) := by decide +kernel
theorem dX2_endWeek_71 : decode cX2_endWeek 71 = .ok (.invokevirtual 98, 3) := by decide +kernel
theorem dX2_endWeek_74 : decode cX2_endWeek 74 = .ok (.iload_n 1, 1) := by decide +kernel
theorem dX2_endWeek_75 : decode cX2_endWeek 75 = .ok (.invokevirtual 151, 3) := by decide +kernel
theorem dX2_endWeek_78 : decode cX2_endWeek 78 = .ok (.aload_n 0, 1) := by decide +kernel
theorem dX2_endWeek_79 : decode cX2_endWeek 79 = .ok (.invokevirtual 154, 3) := by decide +kernel
theorem dX2_endWeek_82 : decode cX2_endWeek 82 = .ok (.istore_n 2, 1) := by decide +kernel
theorem dX2_endWeek_83 : decode cX2_endWeek 83 = .ok (.aload_n 0, 1) := by decide +kernel
theorem dX2_endWeek_84 : decode cX2_endWeek 84 = .ok (.iload_n 2, 1) := by decide +kernel
theorem dX2_endWeek_85 : decode cX2_endWeek 85 = .ok (.ifCond .le 18, 3) := by decide +kernel
theorem dX2_endWeek_88 : decode cX2_endWeek 88 = .ok (.iload_n 1, 1) := by decide +kernel
theorem dX2_endWeek_89 : decode cX2_endWeek 89 = .ok (.bipush 100, 2) := by decide +kernel
theorem dX2_endWeek_91 : decode cX2_endWeek 91 = .ok (.imul, 1) := by decide +kernel
theorem dX2_endWeek_92 : decode cX2_endWeek 92 = .ok (.iload_n 2, 1) := by decide +kernel
theorem dX2_endWeek_93 : decode cX2_endWeek 93 = .ok (.idiv, 1) := by decide +kernel
theorem dX2_endWeek_94 : decode cX2_endWeek 94 = .ok (.sipush 999, 3) := by decide +kernel
theorem dX2_endWeek_97 : decode cX2_endWeek 97 = .ok (.invokestatic 80, 3) := by decide +kernel
theorem dX2_endWeek_100 : decode cX2_endWeek 100 = .ok (.goto 5, 3) := by decide +kernel
theorem dX2_endWeek_103 : decode cX2_endWeek 103 = .ok (.bipush 100, 2) := by decide +kernel
theorem dX2_endWeek_105 : decode cX2_endWeek 105 = .ok (.putfield 36, 3) := by decide +kernel
theorem dX2_endWeek_108 : decode cX2_endWeek 108 = .ok (.aload_n 0, 1) := by decide +kernel
theorem dX2_endWeek_109 : decode cX2_endWeek 109 = .ok (.invokevirtual 90, 3) := by decide +kernel
theorem dX2_endWeek_112 : decode cX2_endWeek 112 = .ok (.return_, 1) := by decide +kernel
theorem dX2_beginWeek_0 : decode cX2_beginWeek 0 = .ok (.iconst 0, 1) := by decide +kernel
theorem dX2_beginWeek_1 : decode cX2_beginWeek 1 = .ok (.istore_n 1, 1) := by decide +kernel
theorem dX2_beginWeek_2 : decode cX2_beginWeek 2 = .ok (.iload_n 1, 1) := by decide +kernel
theorem dX2_beginWeek_3 : decode cX2_beginWeek 3 = .ok (.aload_n 0, 1) := by decide +kernel
theorem dX2_beginWeek_4 : decode cX2_beginWeek 4 = .ok (.getfield 17, 3) := by decide +kernel
theorem dX2_beginWeek_7 : decode cX2_beginWeek 7 = .ok (.if_icmp .ge 29, 3) := by decide +kernel
theorem dX2_beginWeek_10 : decode cX2_beginWeek 10 = .ok (.aload_n 0, 1) := by decide +kernel
theorem dX2_beginWeek_11 : decode cX2_beginWeek 11 = .ok (.getfield 11, 3) := by decide +kernel
theorem dX2_beginWeek_14 : decode cX2_beginWeek 14 = .ok (.iload_n 1, 1) := by decide +kernel
theorem dX2_beginWeek_15 : decode cX2_beginWeek 15 = .ok (.aaload, 1) := by decide +kernel
theorem dX2_beginWeek_16 : decode cX2_beginWeek 16 = .ok (.iconst 0, 1) := by decide +kernel
theorem dX2_beginWeek_17 : decode cX2_beginWeek 17 = .ok (.putfield 101, 3) := by decide +kernel
theorem dX2_beginWeek_20 : decode cX2_beginWeek 20 = .ok (.aload_n 0, 1) := by decide +kernel
theorem dX2_beginWeek_21 : decode cX2_beginWeek 21 = .ok (.getfield 11, 3) := by decide +kernel
theorem dX2_beginWeek_24 : decode cX2_beginWeek 24 = .ok (.iload_n 1, 1) := by decide +kernel
theorem dX2_beginWeek_25 : decode cX2_beginWeek 25 = .ok (.aaload, 1) := by decide +kernel
theorem dX2_beginWeek_26 : decode cX2_beginWeek 26 = .ok (.iconst 0, 1) := by decide +kernel
theorem dX2_beginWeek_27 : decode cX2_beginWeek 27 = .ok (.putfield 104, 3) := by decide +kernel
theorem dX2_beginWeek_30 : decode cX2_beginWeek 30 = .ok (.iinc 1 1, 3) := by decide +kernel
theorem dX2_beginWeek_33 : decode cX2_beginWeek 33 = .ok (.goto (-31), 3) := by decide +kernel
theorem dX2_beginWeek_36 : decode cX2_beginWeek 36 = .ok (.return_, 1) := by decide +kernel
theorem dX3_init_0 : decode cX3_init 0 = .ok (.aload_n 0, 1) := by decide +kernel
theorem dX3_init_1 : decode cX3_init 1 = .ok (.invokespecial 3, 3) := by decide +kernel
theorem dX3_init_4 : decode cX3_init 4 = .ok (.aload_n 0, 1) := by decide +kernel
theorem dX3_init_5 : decode cX3_init 5 = .ok (.bipush 40, 2) := by decide +kernel
theorem dX3_init_7 : decode cX3_init 7 = .ok (.newarray .int, 2) := by decide +kernel
theorem dX3_init_9 : decode cX3_init 9 = .ok (.putfield 9, 3) := by decide +kernel
theorem dX3_init_12 : decode cX3_init 12 = .ok (.aload_n 0, 1) := by decide +kernel
theorem dX3_init_13 : decode cX3_init 13 = .ok (.iconst 0, 1) := by decide +kernel
theorem dX3_init_14 : decode cX3_init 14 = .ok (.putfield 15, 3) := by decide +kernel
theorem dX3_init_17 : decode cX3_init 17 = .ok (.aload_n 0, 1) := by decide +kernel
theorem dX3_init_18 : decode cX3_init 18 = .ok (.iconst 0, 1) := by decide +kernel
theorem dX3_init_19 : decode cX3_init 19 = .ok (.putfield 19, 3) := by decide +kernel
theorem dX3_init_22 : decode cX3_init 22 = .ok (.return_, 1) := by decide +kernel
theorem dX3_isMissing_0 : decode cX3_isMissing 0 = .ok (.aload_n 0, 1) := by decide +kernel
theorem dX3_isMissing_1 : decode cX3_isMissing 1 = .ok (.getfield 15, 3) := by decide +kernel
theorem dX3_isMissing_4 : decode cX3_isMissing 4 = .ok (.ifCond .ne 7, 3) := by decide +kernel
theorem dX3_isMissing_7 : decode cX3_isMissing 7 = .ok (.iconst 1, 1) := by decide +kernel
theorem dX3_isMissing_8 : decode cX3_isMissing 8 = .ok (.goto 4, 3) := by decide +kernel
theorem dX3_isMissing_11 : decode cX3_isMissing 11 = .ok (.iconst 0, 1) := by decide +kernel
theorem dX3_isMissing_12 : decode cX3_isMissing 12 = .ok (.ireturn, 1) := by decide +kernel
theorem dX3_begin_0 : decode cX3_begin 0 = .ok (.aload_n 0, 1) := by decide +kernel
theorem dX3_begin_1 : decode cX3_begin 1 = .ok (.iload_n 1, 1) := by decide +kernel
theorem dX3_begin_2 : decode cX3_begin 2 = .ok (.putfield 15, 3) := by decide +kernel
theorem dX3_begin_5 : decode cX3_begin 5 = .ok (.aload_n 0, 1) := by decide +kernel
theorem dX3_begin_6 : decode cX3_begin 6 = .ok (.iload_n 2, 1) := by decide +kernel
theorem dX3_begin_7 : decode cX3_begin 7 = .ok (.putfield 19, 3) := by decide +kernel
theorem dX3_begin_10 : decode cX3_begin 10 = .ok (.iconst 0, 1) := by decide +kernel
theorem dX3_begin_11 : decode cX3_begin 11 = .ok (.istore_n 3, 1) := by decide +kernel
theorem dX3_begin_12 : decode cX3_begin 12 = .ok (.iload_n 3, 1) := by decide +kernel
theorem dX3_begin_13 : decode cX3_begin 13 = .ok (.bipush 40, 2) := by decide +kernel
theorem dX3_begin_15 : decode cX3_begin 15 = .ok (.if_icmp .ge 16, 3) := by decide +kernel
theorem dX3_begin_18 : decode cX3_begin 18 = .ok (.aload_n 0, 1) := by decide +kernel
theorem dX3_begin_19 : decode cX3_begin 19 = .ok (.getfield 9, 3) := by decide +kernel
theorem dX3_begin_22 : decode cX3_begin 22 = .ok (.iload_n 3, 1) := by decide +kernel
theorem dX3_begin_23 : decode cX3_begin 23 = .ok (.iconst 0, 1) := by decide +kernel
theorem dX3_begin_24 : decode cX3_begin 24 = .ok (.iastore, 1) := by decide +kernel
theorem dX3_begin_25 : decode cX3_begin 25 = .ok (.iinc 3 1, 3) := by decide +kernel
theorem dX3_begin_28 : decode cX3_begin 28 = .ok (.goto (-16), 3) := by decide +kernel
theorem dX3_begin_31 : decode cX3_begin 31 = .ok (.return_, 1) := by decide +kernel
theorem dX3_put_0 : decode cX3_put 0 = .ok (.bipush 32, 2) := by decide +kernel
theorem dX3_put_2 : decode cX3_put 2 = .ok (.aload_n 0, 1) := by decide +kernel
theorem dX3_put_3 : decode cX3_put 3 = .ok (.getfield 15, 3) := by decide +kernel
theorem dX3_put_6 : decode cX3_put 6 = .ok (.isub, 1) := by decide +kernel
theorem dX3_put_7 : decode cX3_put 7 = .ok (.istore_n 3, 1) := by decide +kernel
theorem dX3_put_8 : decode cX3_put 8 = .ok (.aload_n 0, 1) := by decide +kernel
theorem dX3_put_9 : decode cX3_put 9 = .ok (.getfield 9, 3) := by decide +kernel
theorem dX3_put_12 : decode cX3_put 12 = .ok (.iload_n 1, 1) := by decide +kernel
theorem dX3_put_13 : decode cX3_put 13 = .ok (.iload_n 2, 1) := by decide +kernel
theorem dX3_put_14 : decode cX3_put 14 = .ok (.iload_n 3, 1) := by decide +kernel
theorem dX3_put_15 : decode cX3_put 15 = .ok (.ishl, 1) := by decide +kernel
theorem dX3_put_16 : decode cX3_put 16 = .ok (.iload_n 3, 1) := by decide +kernel
theorem dX3_put_17 : decode cX3_put 17 = .ok (.ishr, 1) := by decide +kernel
theorem dX3_put_18 : decode cX3_put 18 = .ok (.iastore, 1) := by decide +kernel
theorem dX3_put_19 : decode cX3_put 19 = .ok (.return_, 1) := by decide +kernel
theorem dX3_has_0 : decode cX3_has 0 = .ok (.iload_n 1, 1) := by decide +kernel
theorem dX3_has_1 : decode cX3_has 1 = .ok (.ifCond .lt 29, 3) := by decide +kernel
theorem dX3_has_4 : decode cX3_has 4 = .ok (.iload_n 2, 1) := by decide +kernel
theorem dX3_has_5 : decode cX3_has 5 = .ok (.ifCond .lt 25, 3) := by decide +kernel
theorem dX3_has_8 : decode cX3_has 8 = .ok (.iload_n 1, 1) := by decide +kernel
theorem dX3_has_9 : decode cX3_has 9 = .ok (.aload_n 0, 1) := by decide +kernel
theorem dX3_has_10 : decode cX3_has 10 = .ok (.getfield 19, 3) := by decide +kernel
theorem dX3_has_13 : decode cX3_has 13 = .ok (.if_icmp .gt 17, 3) := by decide +kernel
theorem dX3_has_16 : decode cX3_has 16 = .ok (.iload_n 2, 1) := by decide +kernel
theorem dX3_has_17 : decode cX3_has 17 = .ok (.aload_n 0, 1) := by decide +kernel
theorem dX3_has_18 : decode cX3_has 18 = .ok (.getfield 19, 3) := by decide +kernel
theorem dX3_has_21 : decode cX3_has 21 = .ok (.iload_n 1, 1) := by decide +kernel
theorem dX3_has_22 : decode cX3_has 22 = .ok (.isub, 1) := by decide +kernel
theorem dX3_has_23 : decode cX3_has 23 = .ok (.if_icmp .gt 7, 3) := by decide +kernel
theorem dX3_has_26 : decode cX3_has 26 = .ok (.iconst 1, 1) := by decide +kernel
theorem dX3_has_27 : decode cX3_has 27 = .ok (.goto 4, 3) := by decide +kernel
theorem dX3_has_30 : decode cX3_has 30 = .ok (.iconst 0, 1) := by decide +kernel
theorem dX3_has_31 : decode cX3_has 31 = .ok (.ireturn, 1) := by decide +kernel
theorem dX4_init_0 : decode cX4_init 0 = .ok (.aload_n 0, 1) := by decide +kernel
theorem dX4_init_1 : decode cX4_init 1 = .ok (.invokespecial 3, 3) := by decide +kernel
theorem dX4_init_4 : decode cX4_init 4 = .ok (.aload_n 0, 1) := by decide +kernel
theorem dX4_init_5 : decode cX4_init 5 = .ok (.bipush 120, 2) := by decide +kernel
theorem dX4_init_7 : decode cX4_init 7 = .ok (.newarray .int, 2) := by decide +kernel
theorem dX4_init_9 : decode cX4_init 9 = .ok (.putfield 9, 3) := by decide +kernel
theorem dX4_init_12 : decode cX4_init 12 = .ok (.aload_n 0, 1) := by decide +kernel
theorem dX4_init_13 : decode cX4_init 13 = .ok (.iconst 0, 1) := by decide +kernel
theorem dX4_init_14 : decode cX4_init 14 = .ok (.putfield 15, 3) := by decide +kernel
theorem dX4_init_17 : decode cX4_init 17 = .ok (.return_, 1) := by decide +kernel
theorem dX4_put_0 : decode cX4_put 0 = .ok (.aload_n 0, 1) := by decide +kernel
theorem dX4_put_1 : decode cX4_put 1 = .ok (.getfield 15, 3) := by decide +kernel
theorem dX4_put_4 : decode cX4_put 4 = .ok (.bipush 120, 2) := by decide +kernel
theorem dX4_put_6 : decode cX4_put 6 = .ok (.if_icmp .ge 23, 3) := by decide +kernel
theorem dX4_put_9 : decode cX4_put 9 = .ok (.aload_n 0, 1) := by decide +kernel
theorem dX4_put_10 : decode cX4_put 10 = .ok (.getfield 9, 3) := by decide +kernel
theorem dX4_put_13 : decode cX4_put 13 = .ok (.aload_n 0, 1) := by decide +kernel
theorem dX4_put_14 : decode cX4_put 14 = .ok (.getfield 15, 3) := by decide +kernel
theorem dX4_put_17 : decode cX4_put 17 = .ok (.iload_n 1, 1) := by decide +kernel
theorem dX4_put_18 : decode cX4_put 18 = .ok (.iastore, 1) := by decide +kernel
theorem dX4_put_19 : decode cX4_put 19 = .ok (.aload_n 0, 1) := by decide +kernel
theorem dX4_put_20 : decode cX4_put 20 = .ok (.dup, 1) := by decide +kernel
theorem dX4_put_21 : decode cX4_put 21 = .ok (.getfield 15, 3) := by decide +kernel
theorem dX4_put_24 : decode cX4_put 24 = .ok (.iconst 1, 1) := by decide +kernel
theorem dX4_put_25 : decode cX4_put 25 = .ok (.iadd, 1) := by decide +kernel
theorem dX4_put_26 : decode cX4_put 26 = .ok (.putfield 15, 3) := by decide +kernel
theorem dX4_put_29 : decode cX4_put 29 = .ok (.return_, 1) := by decide +kernel
theorem dX5_init_0 : decode cX5_init 0 = .ok (.aload_n 0, 1) := by decide +kernel
theorem dX5_init_1 : decode cX5_init 1 = .ok (.invokespecial 3, 3) := by decide +kernel
theorem dX5_init_4 : decode cX5_init 4 = .ok (.aload_n 0, 1) := by decide +kernel
theorem dX5_init_5 : decode cX5_init 5 = .ok (.iconst 0, 1) := by decide +kernel
theorem dX5_init_6 : decode cX5_init 6 = .ok (.putfield 11, 3) := by decide +kernel
theorem dX5_init_9 : decode cX5_init 9 = .ok (.aload_n 0, 1) := by decide +kernel
theorem dX5_init_10 : decode cX5_init 10 = .ok (.iconst 0, 1) := by decide +kernel
theorem dX5_init_11 : decode cX5_init 11 = .ok (.putfield 15, 3) := by decide +kernel
theorem dX5_init_14 : decode cX5_init 14 = .ok (.aload_n 0, 1) := by decide +kernel
theorem dX5_init_15 : decode cX5_init 15 = .ok (.iconst 0, 1) := by decide +kernel
theorem dX5_init_16 : decode cX5_init 16 = .ok (.putfield 18, 3) := by decide +kernel
theorem dX5_init_19 : decode cX5_init 19 = .ok (.aload_n 0, 1) := by decide +kernel
theorem dX5_init_20 : decode cX5_init 20 = .ok (.iconst 0, 1) := by decide +kernel
theorem dX5_init_21 : decode cX5_init 21 = .ok (.putfield 21, 3) := by decide +kernel
theorem dX5_init_24 : decode cX5_init 24 = .ok (.aload_n 0, 1) := by decide +kernel
theorem dX5_init_25 : decode cX5_init 25 = .ok (.iconst 0, 1) := by decide +kernel
theorem dX5_init_26 : decode cX5_init 26 = .ok (.putfield 24, 3) := by decide +kernel
theorem dX5_init_29 : decode cX5_init 29 = .ok (.aload_n 0, 1) := by decide +kernel
theorem dX5_init_30 : decode cX5_init 30 = .ok (.aload_n 1, 1) := by decide +kernel
theorem dX5_init_31 : decode cX5_init 31 = .ok (.putfield 27, 3) := by decide +kernel
theorem dX5_init_34 : decode cX5_init 34 = .ok (.return_, 1) := by decide +kernel
theorem dX5_read_0 : decode cX5_read 0 = .ok (.aload_n 0, 1) := by decide +kernel
theorem dX5_read_1 : decode cX5_read 1 = .ok (.iconst 0, 1) := by decide +kernel
theorem dX5_read_2 : decode cX5_read 2 = .ok (.putfield 18, 3) := by decide +kernel
theorem dX5_read_5 : decode cX5_read 5 = .ok (.iconst 1, 1) := by decide +kernel
theorem dX5_read_6 : decode cX5_read 6 = .ok (.istore_n 2, 1) := by decide +kernel
theorem dX5_read_7 : decode cX5_read 7 = .ok (.iload_n 2, 1) := by decide +kernel
theorem dX5_read_8 : decode cX5_read 8 = .ok (.bipush 120, 2) := by decide +kernel
theorem dX5_read_10 : decode cX5_read 10 = .ok (.if_icmp .gt 52, 3) := by decide +kernel
theorem dX5_read_13 : decode cX5_read 13 = .ok (.aload_n 0, 1) := by decide +kernel
theorem dX5_read_14 : decode cX5_read 14 = .ok (.invokevirtual 31, 3) := by decide +kernel
theorem dX5_read_17 : decode cX5_read 17 = .ok (.aload_n 0, 1) := by decide +kernel
theorem dX5_read_18 : decode cX5_read 18 = .ok (.aload_n 1, 1) := by decide +kernel
theorem dX5_read_19 : decode cX5_read 19 = .ok (.invokevirtual 34, 3) := by decide +kernel
theorem dX5_read_22 : decode cX5_read 22 = .ok (.ifCond .ne 10, 3) := by decide +kernel
theorem dX5_read_25 : decode cX5_read 25 = .ok (.iconst (-1), 1) := by decide +kernel
theorem dX5_read_26 : decode cX5_read 26 = .ok (.aload_n 0, 1) := by decide +kernel
theorem dX5_read_27 : decode cX5_read 27 = .ok (.getfield 15, 3) := by decide +kernel
theorem dX5_read_30 : decode cX5_read 30 = .ok (.isub, 1) := by decide +kernel
theorem dX5_read_31 : decode cX5_read 31 = .ok (.ireturn, 1) := by decide +kernel
theorem dX5_read_32 : decode cX5_read 32 = .ok (.aload_n 0, 1) := by decide +kernel
theorem dX5_read_33 : decode cX5_read 33 = .ok (.getfield 11, 3) := by decide +kernel
theorem dX5_read_36 : decode cX5_read 36 = .ok (.ifCond .ne 5, 3) := by decide +kernel
theorem dX5_read_39 : decode cX5_read 39 = .ok (.iload_n 2, 1) := by decide +kernel
theorem dX5_read_40 : decode cX5_read 40 = .ok (.ireturn, 1) := by decide +kernel
theorem dX5_read_41 : decode cX5_read 41 = .ok (.aload_n 0, 1) := by decide +kernel
theorem dX5_read_42 : decode cX5_read 42 = .ok (.getfield 11, 3) := by decide +kernel
theorem dX5_read_45 : decode cX5_read 45 = .ok (.iconst 3, 1) := by decide +kernel
theorem dX5_read_46 : decode cX5_read 46 = .ok (.if_icmp .eq 10, 3) := by decide +kernel
theorem dX5_read_49 : decode cX5_read 49 = .ok (.iconst (-1), 1) := by decide +kernel
theorem dX5_read_50 : decode cX5_read 50 = .ok (.aload_n 0, 1) := by decide +kernel
theorem dX5_read_51 : decode cX5_read 51 = .ok (.getfield 15, 3) := by decide +kernel
theorem dX5_read_54 : decode cX5_read 54 = .ok (.isub, 1) := by decide +kernel
theorem dX5_read_55 : decode cX5_read 55 = .ok (.ireturn, 1) := by decide +kernel
theorem dX5_read_56 : decode cX5_read 56 = .ok (.iinc 2 1, 3) := by decide +kernel
theorem dX5_read_59 : decode cX5_read 59 = .ok (.goto (-52), 3) := by decide +kernel
theorem dX5_read_62 : decode cX5_read 62 = .ok (.iconst (-1), 1) := by decide +kernel
theorem dX5_read_63 : decode cX5_read 63 = .ok (.aload_n 0, 1) := by decide +kernel
theorem dX5_read_64 : decode cX5_read 64 = .ok (.getfield 15, 3) := by decide +kernel
theorem dX5_read_67 : decode cX5_read 67 = .ok (.isub, 1) := by decide +kernel
theorem dX5_read_68 : decode cX5_read 68 = .ok (.ireturn, 1) := by decide +kernel
theorem dX5_readItem_0 : decode cX5_readItem 0 = .ok (.aload_n 0, 1) := by decide +kernel
theorem dX5_readItem_1 : decode cX5_readItem 1 = .ok (.invokevirtual 38, 3) := by decide +kernel
theorem dX5_readItem_4 : decode cX5_readItem 4 = .ok (.istore_n 2, 1) := by decide +kernel
theorem dX5_readItem_5 : decode cX5_readItem 5 = .ok (.iload_n 2, 1) := by decide +kernel
theorem dX5_readItem_6 : decode cX5_readItem 6 = .ok (.ifCond .lt 27, 3) := by decide +kernel
theorem dX5_readItem_9 : decode cX5_readItem 9 = .ok (.aload_n 1, 1) := by decide +kernel
theorem dX5_readItem_10 : decode cX5_readItem 10 = .ok (.getfield 42, 3) := by decide +kernel
theorem dX5_readItem_13 : decode cX5_readItem 13 = .ok (.bipush 10, 2) := by decide +kernel
theorem dX5_readItem_15 : decode cX5_readItem 15 = .ok (.if_icmp .ge 16, 3) := by decide +kernel
theorem dX5_readItem_18 : decode cX5_readItem 18 = .ok (.aload_n 0, 1) := by decide +kernel
theorem dX5_readItem_19 : decode cX5_readItem 19 = .ok (.aload_n 1, 1) := by decide +kernel
theorem dX5_readItem_20 : decode cX5_readItem 20 = .ok (.iload_n 2, 1) := by decide +kernel
theorem dX5_readItem_21 : decode cX5_readItem 21 = .ok (.invokevirtual 47, 3) := by decide +kernel
theorem dX5_readItem_24 : decode cX5_readItem 24 = .ok (.ifCond .eq 7, 3) := by decide +kernel
theorem dX5_readItem_27 : decode cX5_readItem 27 = .ok (.iconst 1, 1) := by decide +kernel
theorem dX5_readItem_28 : decode cX5_readItem 28 = .ok (.goto 4, 3) := by decide +kernel
theorem dX5_readItem_31 : decode cX5_readItem 31 = .ok (.iconst 0, 1) := by decide +kernel
theorem dX5_readItem_32 : decode cX5_readItem 32 = .ok (.ireturn, 1) := by decide +kernel
theorem dX5_readItem_33 : decode cX5_readItem 33 = .ok (.aload_n 0, 1) := by decide +kernel
theorem dX5_readItem_34 : decode cX5_readItem 34 = .ok (.ldc 51, 2) := by decide +kernel
theorem dX5_readItem_36 : decode cX5_readItem 36 = .ok (.invokevirtual 53, 3) := by decide +kernel
theorem dX5_readItem_39 : decode cX5_readItem 39 = .ok (.ifCond .eq 9, 3) := by decide +kernel
theorem dX5_readItem_42 : decode cX5_readItem 42 = .ok (.aload_n 0, 1) := by decide +kernel
theorem dX5_readItem_43 : decode cX5_readItem 43 = .ok (.aload_n 1, 1) := by decide +kernel
theorem dX5_readItem_44 : decode cX5_readItem 44 = .ok (.invokevirtual 57, 3) := by decide +kernel
theorem dX5_readItem_47 : decode cX5_readItem 47 = .ok (.ireturn, 1) := by decide +kernel
theorem dX5_readItem_48 : decode cX5_readItem 48 = .ok (.aload_n 0, 1) := by decide +kernel
theorem dX5_readItem_49 : decode cX5_readItem 49 = .ok (.ldc 60, 2) := by decide +kernel
theorem dX5_readItem_51 : decode cX5_readItem 51 = .ok (.invokevirtual 53, 3) := by decide +kernel
theorem dX5_readItem_54 : decode cX5_readItem 54 = .ok (.ifCond .eq 9, 3) := by decide +kernel
theorem dX5_readItem_57 : decode cX5_readItem 57 = .ok (.aload_n 0, 1) := by decide +kernel
theorem dX5_readItem_58 : decode cX5_readItem 58 = .ok (.aload_n 1, 1) := by decide +kernel
theorem dX5_readItem_59 : decode cX5_readItem 59 = .ok (.invokevirtual 62, 3) := by decide +kernel
theorem dX5_readItem_62 : decode cX5_readItem 62 = .ok (.ireturn, 1) := by decide +kernel
theorem dX5_readItem_63 : decode cX5_readItem 63 = .ok (.aload_n 0, 1) := by decide +kernel
theorem dX5_readItem_64 : decode cX5_readItem 64 = .ok (.ldc 65, 2) := by decide +kernel
theorem dX5_readItem_66 : decode cX5_readItem 66 = .ok (.invokevirtual 53, 3) := by decide +kernel
theorem dX5_readItem_69 : decode cX5_readItem 69 = .ok (.ifCond .eq 15, 3) := by decide +kernel
theorem dX5_readItem_72 : decode cX5_readItem 72 = .ok (.aload_n 0, 1) := by decide +kernel
theorem dX5_readItem_73 : decode cX5_readItem 73 = .ok (.aload_n 1, 1) := by decide +kernel
theorem dX5_readItem_74 : decode cX5_readItem 74 = .ok (.invokevirtual 67, 3) := by decide +kernel
theorem dX5_readItem_77 : decode cX5_readItem 77 = .ok (.ifCond .eq 7, 3) := by decide +kernel
theorem dX5_readItem_80 : decode cX5_readItem 80 = .ok (.iconst 1, 1) := by decide +kernel
theorem dX5_readItem_81 : decode cX5_readItem 81 = .ok (.goto 4, 3) := by decide +kernel
theorem dX5_readItem_84 : decode cX5_readItem 84 = .ok (.iconst 0, 1) := by decide +kernel
theorem dX5_readItem_85 : decode cX5_readItem 85 = .ok (.ireturn, 1) := by decide +kernel
theorem dX5_readDrinker_0 : decode cX5_readDrinker 0 = .ok (.aload_n 0, 1) := by decide +kernel
theorem dX5_readDrinker_1 : decode cX5_readDrinker 1 = .ok (.invokevirtual 31, 3) := by decide +kernel
theorem dX5_readDrinker_4 : decode cX5_readDrinker 4 = .ok (.aload_n 0, 1) := by decide +kernel
theorem dX5_readDrinker_5 : decode cX5_readDrinker 5 = .ok (.iconst 1, 1) := by decide +kernel
theorem dX5_readDrinker_6 : decode cX5_readDrinker 6 = .ok (.bipush 9, 2) := by decide +kernel
theorem dX5_readDrinker_8 : decode cX5_readDrinker 8 = .ok (.invokevirtual 70, 3) := by decide +kernel
theorem dX5_readDrinker_11 : decode cX5_readDrinker 11 = .ok (.ifCond .ne 5, 3) := by decide +kernel
theorem dX5_readDrinker_14 : decode cX5_readDrinker 14 = .ok (.iconst 0, 1) := by decide +kernel
theorem dX5_readDrinker_15 : decode cX5_readDrinker 15 = .ok (.ireturn, 1) := by decide +kernel
theorem dX5_readDrinker_16 : decode cX5_readDrinker 16 = .ok (.aload_n 1, 1) := by decide +kernel
theorem dX5_readDrinker_17 : decode cX5_readDrinker 17 = .ok (.iload_n 2, 1) := by decide +kernel
theorem dX5_readDrinker_18 : decode cX5_readDrinker 18 = .ok (.aload_n 0, 1) := by decide +kernel
theorem dX5_readDrinker_19 : decode cX5_readDrinker 19 = .ok (.getfield 24, 3) := by decide +kernel
theorem dX5_readDrinker_22 : decode cX5_readDrinker 22 = .ok (.invokevirtual 74, 3) := by decide +kernel
theorem dX5_readDrinker_25 : decode cX5_readDrinker 25 = .ok (.astore_n 3, 1) := by decide +kernel
theorem dX5_readDrinker_26 : decode cX5_readDrinker 26 = .ok (.aload_n 0, 1) := by decide +kernel
theorem dX5_readDrinker_27 : decode cX5_readDrinker 27 = .ok (.ldc 78, 2) := by decide +kernel
theorem dX5_readDrinker_29 : decode cX5_readDrinker 29 = .ok (.invokevirtual 53, 3) := by decide +kernel
theorem dX5_readDrinker_32 : decode cX5_readDrinker 32 = .ok (.ifCond .eq 24, 3) := by decide +kernel
theorem dX5_readDrinker_35 : decode cX5_readDrinker 35 = .ok (.aload_n 0, 1) := by decide +kernel
theorem dX5_readDrinker_36 : decode cX5_readDrinker 36 = .ok (.iconst 0, 1) := by decide +kernel
theorem dX5_readDrinker_37 : decode cX5_readDrinker 37 = .ok (.sipush 9999, 3) := by decide +kernel
theorem dX5_readDrinker_40 : decode cX5_readDrinker 40 = .ok (.invokevirtual 70, 3) := by decide +kernel
theorem dX5_readDrinker_43 : decode cX5_readDrinker 43 = .ok (.ifCond .ne 5, 3) := by decide +kernel
theorem dX5_readDrinker_46 : decode cX5_readDrinker 46 = .ok (.iconst 0, 1) := by decide +kernel
theorem dX5_readDrinker_47 : decode cX5_readDrinker 47 = .ok (.ireturn, 1) := by decide +kernel
theorem dX5_readDrinker_48 : decode cX5_readDrinker 48 = .ok (.aload_n 3, 1) := by decide +kernel
theorem dX5_readDrinker_49 : decode cX5_readDrinker 49 = .ok (.aload_n 0, 1) := by decide +kernel
theorem dX5_readDrinker_50 : decode cX5_readDrinker 50 = .ok (.getfield 24, 3) := by decide +kernel
theorem dX5_readDrinker_53 : decode cX5_readDrinker 53 = .ok (.putfield 80, 3) := by decide +kernel
theorem dX5_readDrinker_56 : decode cX5_readDrinker 56 = .ok (.aload_n 0, 1) := by decide +kernel
theorem dX5_readDrinker_57 : decode cX5_readDrinker 57 = .ok (.ldc 84, 2) := by decide +kernel
theorem dX5_readDrinker_59 : decode cX5_readDrinker 59 = .ok (.invokevirtual 53, 3) := by decide +kernel
theorem dX5_readDrinker_62 : decode cX5_readDrinker 62 = .ok (.ifCond .eq 23, 3) := by decide +kernel
theorem dX5_readDrinker_65 : decode cX5_readDrinker 65 = .ok (.aload_n 0, 1) := by decide +kernel
theorem dX5_readDrinker_66 : decode cX5_readDrinker 66 = .ok (.iconst 0, 1) := by decide +kernel
theorem dX5_readDrinker_67 : decode cX5_readDrinker 67 = .ok (.bipush 99, 2) := by decide +kernel
theorem dX5_readDrinker_69 : decode cX5_readDrinker 69 = .ok (.invokevirtual 70, 3) := by decide +kernel
theorem dX5_readDrinker_72 : decode cX5_readDrinker 72 = .ok (.ifCond .ne 5, 3) := by decide +kernel
theorem dX5_readDrinker_75 : decode cX5_readDrinker 75 = .ok (.iconst 0, 1) := by decide +kernel
theorem dX5_readDrinker_76 : decode cX5_readDrinker 76 = .ok (.ireturn, 1) := by decide +kernel
theorem dX5_readDrinker_77 : decode cX5_readDrinker 77 = .ok (.aload_n 3, 1) := by decide +kernel
theorem dX5_readDrinker_78 : decode cX5_readDrinker 78 = .ok (.aload_n 0, 1) := by decide +kernel
theorem dX5_readDrinker_79 : decode cX5_readDrinker 79 = .ok (.getfield 24, 3) := by decide +kernel
theorem dX5_readDrinker_82 : decode cX5_readDrinker 82 = .ok (.putfield 86, 3) := by decide +kernel
theorem dX5_readDrinker_85 : decode cX5_readDrinker 85 = .ok (.iconst 1, 1) := by decide +kernel
theorem dX5_readDrinker_86 : decode cX5_readDrinker 86 = .ok (.ireturn, 1) := by decide +kernel
theorem dX5_readPrice_0 : decode cX5_readPrice 0 = .ok (.aload_n 0, 1) := by decide +kernel
theorem dX5_readPrice_1 : decode cX5_readPrice 1 = .ok (.iconst 0, 1) := by decide +kernel
theorem dX5_readPrice_2 : decode cX5_readPrice 2 = .ok (.bipush 99, 2) := by decide +kernel
theorem dX5_readPrice_4 : decode cX5_readPrice 4 = .ok (.invokevirtual 70, 3) := by decide +kernel
theorem dX5_readPrice_7 : decode cX5_readPrice 7 = .ok (.ifCond .ne 5, 3) := by decide +kernel
theorem dX5_readPrice_10 : decode cX5_readPrice 10 = .ok (.iconst 0, 1) := by decide +kernel
theorem dX5_readPrice_11 : decode cX5_readPrice 11 = .ok (.ireturn, 1) := by decide +kernel
theorem dX5_readPrice_12 : decode cX5_readPrice 12 = .ok (.aload_n 1, 1) := by decide +kernel
theorem dX5_readPrice_13 : decode cX5_readPrice 13 = .ok (.aload_n 0, 1) := by decide +kernel
theorem dX5_readPrice_14 : decode cX5_readPrice 14 = .ok (.getfield 24, 3) := by decide +kernel
theorem dX5_readPrice_17 : decode cX5_readPrice 17 = .ok (.putfield 88, 3) := by decide +kernel
theorem dX5_readPrice_20 : decode cX5_readPrice 20 = .ok (.iconst 1, 1) := by decide +kernel
theorem dX5_readPrice_21 : decode cX5_readPrice 21 = .ok (.ireturn, 1) := by decide +kernel
theorem dX5_readPot_0 : decode cX5_readPot 0 = .ok (.aload_n 0, 1) := by decide +kernel
theorem dX5_readPot_1 : decode cX5_readPot 1 = .ok (.iconst 1, 1) := by decide +kernel
theorem dX5_readPot_2 : decode cX5_readPot 2 = .ok (.bipush 99, 2) := by decide +kernel
theorem dX5_readPot_4 : decode cX5_readPot 4 = .ok (.invokevirtual 70, 3) := by decide +kernel
theorem dX5_readPot_7 : decode cX5_readPot 7 = .ok (.ifCond .ne 5, 3) := by decide +kernel
theorem dX5_readPot_10 : decode cX5_readPot 10 = .ok (.iconst 0, 1) := by decide +kernel
theorem dX5_readPot_11 : decode cX5_readPot 11 = .ok (.ireturn, 1) := by decide +kernel
theorem dX5_readPot_12 : decode cX5_readPot 12 = .ok (.aload_n 1, 1) := by decide +kernel
theorem dX5_readPot_13 : decode cX5_readPot 13 = .ok (.aload_n 0, 1) := by decide +kernel
theorem dX5_readPot_14 : decode cX5_readPot 14 = .ok (.getfield 24, 3) := by decide +kernel
theorem dX5_readPot_17 : decode cX5_readPot 17 = .ok (.invokevirtual 90, 3) := by decide +kernel
theorem dX5_readPot_20 : decode cX5_readPot 20 = .ok (.iconst 1, 1) := by decide +kernel
theorem dX5_readPot_21 : decode cX5_readPot 21 = .ok (.ireturn, 1) := by decide +kernel
theorem dX5_readSign_0 : decode cX5_readSign 0 = .ok (.iconst 0, 1) := by decide +kernel
theorem dX5_readSign_1 : decode cX5_readSign 1 = .ok (.istore_n 2, 1) := by decide +kernel
theorem dX5_readSign_2 : decode cX5_readSign 2 = .ok (.iload_n 2, 1) := by decide +kernel
theorem dX5_readSign_3 : decode cX5_readSign 3 = .ok (.iconst 2, 1) := by decide +kernel
theorem dX5_readSign_4 : decode cX5_readSign 4 = .ok (.if_icmp .gt 27, 3) := by decide +kernel
theorem dX5_readSign_7 : decode cX5_readSign 7 = .ok (.aload_n 0, 1) := by decide +kernel
theorem dX5_readSign_8 : decode cX5_readSign 8 = .ok (.iload_n 2, 1) := by decide +kernel
theorem dX5_readSign_9 : decode cX5_readSign 9 = .ok (.invokestatic 94, 3) := by decide +kernel
theorem dX5_readSign_12 : decode cX5_readSign 12 = .ok (.invokevirtual 53, 3) := by decide +kernel
theorem dX5_readSign_15 : decode cX5_readSign 15 = .ok (.ifCond .eq 10, 3) := by decide +kernel
theorem dX5_readSign_18 : decode cX5_readSign 18 = .ok (.aload_n 1, 1) := by decide +kernel
theorem dX5_readSign_19 : decode cX5_readSign 19 = .ok (.iload_n 2, 1) := by decide +kernel
theorem dX5_readSign_20 : decode cX5_readSign 20 = .ok (.putfield 98, 3) := by decide +kernel
theorem dX5_readSign_23 : decode cX5_readSign 23 = .ok (.iconst 1, 1) := by decide +kernel
theorem dX5_readSign_24 : decode cX5_readSign 24 = .ok (.ireturn, 1) := by decide +kernel
theorem dX5_readSign_25 : decode cX5_readSign 25 = .ok (.iinc 2 1, 3) := by decide +kernel
theorem dX5_readSign_28 : decode cX5_readSign 28 = .ok (.goto (-26), 3) := by decide +kernel
theorem dX5_readSign_31 : decode cX5_readSign 31 = .ok (.iconst 0, 1) := by decide +kernel
theorem dX5_readSign_32 : decode cX5_readSign 32 = .ok (.ireturn, 1) := by decide +kernel
theorem dX5_kindOfWord_0 : decode cX5_kindOfWord 0 = .ok (.iconst 0, 1) := by decide +kernel
theorem dX5_kindOfWord_1 : decode cX5_kindOfWord 1 = .ok (.istore_n 1, 1) := by decide +kernel
theorem dX5_kindOfWord_2 : decode cX5_kindOfWord 2 = .ok (.iload_n 1, 1) := by decide +kernel
theorem dX5_kindOfWord_3 : decode cX5_kindOfWord 3 = .ok (.bipush 7, 2) := by decide +kernel
theorem dX5_kindOfWord_5 : decode cX5_kindOfWord 5 = .ok (.if_icmp .ge 22, 3) := by decide +kernel
theorem dX5_kindOfWord_8 : decode cX5_kindOfWord 8 = .ok (.aload_n 0, 1) := by decide +kernel
theorem dX5_kindOfWord_9 : decode cX5_kindOfWord 9 = .ok (.iload_n 1, 1) := by decide +kernel
theorem dX5_kindOfWord_10 : decode cX5_kindOfWord 10 = .ok (.invokestatic 100, 3) := by decide +kernel
theorem dX5_kindOfWord_13 : decode cX5_kindOfWord 13 = .ok (.invokevirtual 103, 3) := by decide +kernel
theorem dX5_kindOfWord_16 : decode cX5_kindOfWord 16 = .ok (.ifCond .eq 5, 3) := by decide +kernel
theorem dX5_kindOfWord_19 : decode cX5_kindOfWord 19 = .ok (.iload_n 1, 1) := by decide +kernel
theorem dX5_kindOfWord_20 : decode cX5_kindOfWord 20 = .ok (.ireturn, 1) := by decide +kernel
theorem dX5_kindOfWord_21 : decode cX5_kindOfWord 21 = .ok (.iinc 1 1, 3) := by decide +kernel
theorem dX5_kindOfWord_24 : decode cX5_kindOfWord 24 = .ok (.goto (-22), 3) := by decide +kernel
theorem dX5_kindOfWord_27 : decode cX5_kindOfWord 27 = .ok (.iconst (-1), 1) := by decide +kernel
theorem dX5_kindOfWord_28 : decode cX5_kindOfWord 28 = .ok (.ireturn, 1) := by decide +kernel
theorem dX5_takeNumber_0 : decode cX5_takeNumber 0 = .ok (.aload_n 0, 1) := by decide +kernel
theorem dX5_takeNumber_1 : decode cX5_takeNumber 1 = .ok (.getfield 11, 3) := by decide +kernel
theorem dX5_takeNumber_4 : decode cX5_takeNumber 4 = .ok (.iconst 2, 1) := by decide +kernel
theorem dX5_takeNumber_5 : decode cX5_takeNumber 5 = .ok (.if_icmp .ne 15, 3) := by decide +kernel
theorem dX5_takeNumber_8 : decode cX5_takeNumber 8 = .ok (.aload_n 0, 1) := by decide +kernel
theorem dX5_takeNumber_9 : decode cX5_takeNumber 9 = .ok (.getfield 21, 3) := by decide +kernel
theorem dX5_takeNumber_12 : decode cX5_takeNumber 12 = .ok (.iload_n 1, 1) := by decide +kernel
theorem dX5_takeNumber_13 : decode cX5_takeNumber 13 = .ok (.iload_n 2, 1) := by decide +kernel
theorem dX5_takeNumber_14 : decode cX5_takeNumber 14 = .ok (.invokestatic 106, 3) := by decide +kernel
theorem dX5_takeNumber_17 : decode cX5_takeNumber 17 = .ok (.ifCond .ne 5, 3) := by decide +kernel
theorem dX5_takeNumber_20 : decode cX5_takeNumber 20 = .ok (.iconst 0, 1) := by decide +kernel
theorem dX5_takeNumber_21 : decode cX5_takeNumber 21 = .ok (.ireturn, 1) := by decide +kernel
theorem dX5_takeNumber_22 : decode cX5_takeNumber 22 = .ok (.aload_n 0, 1) := by decide +kernel
theorem dX5_takeNumber_23 : decode cX5_takeNumber 23 = .ok (.aload_n 0, 1) := by decide +kernel
theorem dX5_takeNumber_24 : decode cX5_takeNumber 24 = .ok (.getfield 21, 3) := by decide +kernel
theorem dX5_takeNumber_27 : decode cX5_takeNumber 27 = .ok (.putfield 24, 3) := by decide +kernel
theorem dX5_takeNumber_30 : decode cX5_takeNumber 30 = .ok (.aload_n 0, 1) := by decide +kernel
theorem dX5_takeNumber_31 : decode cX5_takeNumber 31 = .ok (.invokevirtual 31, 3) := by decide +kernel
theorem dX5_takeNumber_34 : decode cX5_takeNumber 34 = .ok (.iconst 1, 1) := by decide +kernel
theorem dX5_takeNumber_35 : decode cX5_takeNumber 35 = .ok (.ireturn, 1) := by decide +kernel
theorem dX5_takeWord_0 : decode cX5_takeWord 0 = .ok (.aload_n 0, 1) := by decide +kernel
theorem dX5_takeWord_1 : decode cX5_takeWord 1 = .ok (.aload_n 1, 1) := by decide +kernel
theorem dX5_takeWord_2 : decode cX5_takeWord 2 = .ok (.invokevirtual 103, 3) := by decide +kernel
theorem dX5_takeWord_5 : decode cX5_takeWord 5 = .ok (.ifCond .ne 5, 3) := by decide +kernel
theorem dX5_takeWord_8 : decode cX5_takeWord 8 = .ok (.iconst 0, 1) := by decide +kernel
theorem dX5_takeWord_9 : decode cX5_takeWord 9 = .ok (.ireturn, 1) := by decide +kernel
theorem dX5_takeWord_10 : decode cX5_takeWord 10 = .ok (.aload_n 0, 1) := by decide +kernel
theorem dX5_takeWord_11 : decode cX5_takeWord 11 = .ok (.invokevirtual 31, 3) := by decide +kernel
theorem dX5_takeWord_14 : decode cX5_takeWord 14 = .ok (.iconst 1, 1) := by decide +kernel
theorem dX5_takeWord_15 : decode cX5_takeWord 15 = .ok (.ireturn, 1) := by decide +kernel
theorem dX5_isWord_0 : decode cX5_isWord 0 = .ok (.aload_n 0, 1) := by decide +kernel
theorem dX5_isWord_1 : decode cX5_isWord 1 = .ok (.getfield 11, 3) := by decide +kernel
theorem dX5_isWord_4 : decode cX5_isWord 4 = .ok (.iconst 1, 1) := by decide +kernel
theorem dX5_isWord_5 : decode cX5_isWord 5 = .ok (.if_icmp .ne 19, 3) := by decide +kernel
theorem dX5_isWord_8 : decode cX5_isWord 8 = .ok (.aload_n 0, 1) := by decide +kernel
theorem dX5_isWord_9 : decode cX5_isWord 9 = .ok (.getfield 18, 3) := by decide +kernel
theorem dX5_isWord_12 : decode cX5_isWord 12 = .ok (.aload_n 0, 1) := by decide +kernel
theorem dX5_isWord_13 : decode cX5_isWord 13 = .ok (.getfield 15, 3) := by decide +kernel
theorem dX5_isWord_16 : decode cX5_isWord 16 = .ok (.isub, 1) := by decide +kernel
theorem dX5_isWord_17 : decode cX5_isWord 17 = .ok (.aload_n 1, 1) := by decide +kernel
theorem dX5_isWord_18 : decode cX5_isWord 18 = .ok (.invokevirtual 110, 3) := by decide +kernel
theorem dX5_isWord_21 : decode cX5_isWord 21 = .ok (.if_icmp .eq 5, 3) := by decide +kernel
theorem dX5_isWord_24 : decode cX5_isWord 24 = .ok (.iconst 0, 1) := by decide +kernel
theorem dX5_isWord_25 : decode cX5_isWord 25 = .ok (.ireturn, 1) := by decide +kernel
theorem dX5_isWord_26 : decode cX5_isWord 26 = .ok (.iconst 0, 1) := by decide +kernel
theorem dX5_isWord_27 : decode cX5_isWord 27 = .ok (.istore_n 2, 1) := by decide +kernel
theorem dX5_isWord_28 : decode cX5_isWord 28 = .ok (.iload_n 2, 1) := by decide +kernel
theorem dX5_isWord_29 : decode cX5_isWord 29 = .ok (.aload_n 1, 1) := by decide +kernel
theorem dX5_isWord_30 : decode cX5_isWord 30 = .ok (.invokevirtual 110, 3) := by decide +kernel
theorem dX5_isWord_33 : decode cX5_isWord 33 = .ok (.if_icmp .ge 29, 3) := by decide +kernel
theorem dX5_isWord_36 : decode cX5_isWord 36 = .ok (.aload_n 0, 1) := by decide +kernel
theorem dX5_isWord_37 : decode cX5_isWord 37 = .ok (.aload_n 0, 1) := by decide +kernel
theorem dX5_isWord_38 : decode cX5_isWord 38 = .ok (.getfield 15, 3) := by decide +kernel
theorem dX5_isWord_41 : decode cX5_isWord 41 = .ok (.iload_n 2, 1) := by decide +kernel
theorem dX5_isWord_42 : decode cX5_isWord 42 = .ok (.iadd, 1) := by decide +kernel
theorem dX5_isWord_43 : decode cX5_isWord 43 = .ok (.invokevirtual 115, 3) := by decide +kernel
theorem dX5_isWord_46 : decode cX5_isWord 46 = .ok (.aload_n 1, 1) := by decide +kernel
theorem dX5_isWord_47 : decode cX5_isWord 47 = .ok (.iload_n 2, 1) := by decide +kernel
theorem dX5_isWord_48 : decode cX5_isWord 48 = .ok (.invokevirtual 119, 3) := by decide +kernel
theorem dX5_isWord_51 : decode cX5_isWord 51 = .ok (.if_icmp .eq 5, 3) := by decide +kernel
theorem dX5_isWord_54 : decode cX5_isWord 54 = .ok (.iconst 0, 1) := by decide +kernel
theorem dX5_isWord_55 : decode cX5_isWord 55 = .ok (.ireturn, 1) := by decide +kernel
theorem dX5_isWord_56 : decode cX5_isWord 56 = .ok (.iinc 2 1, 3) := by decide +kernel
theorem dX5_isWord_59 : decode cX5_isWord 59 = .ok (.goto (-31), 3) := by decide +kernel
theorem dX5_isWord_62 : decode cX5_isWord 62 = .ok (.iconst 1, 1) := by decide +kernel
theorem dX5_isWord_63 : decode cX5_isWord 63 = .ok (.ireturn, 1) := by decide +kernel
theorem dX5_advance_0 : decode cX5_advance 0 = .ok (.aload_n 0, 1) := by decide +kernel
theorem dX5_advance_1 : decode cX5_advance 1 = .ok (.aload_n 0, 1) := by decide +kernel
theorem dX5_advance_2 : decode cX5_advance 2 = .ok (.getfield 18, 3) := by decide +kernel
theorem dX5_advance_5 : decode cX5_advance 5 = .ok (.putfield 15, 3) := by decide +kernel
theorem dX5_advance_8 : decode cX5_advance 8 = .ok (.aload_n 0, 1) := by decide +kernel
theorem dX5_advance_9 : decode cX5_advance 9 = .ok (.getfield 15, 3) := by decide +kernel
theorem dX5_advance_12 : decode cX5_advance 12 = .ok (.aload_n 0, 1) := by decide +kernel
theorem dX5_advance_13 : decode cX5_advance 13 = .ok (.getfield 27, 3) := by decide +kernel
theorem dX5_advance_16 : decode cX5_advance 16 = .ok (.getfield 123, 3) := by decide +kernel
theorem dX5_advance_19 : decode cX5_advance 19 = .ok (.if_icmp .ge 29, 3) := by decide +kernel
theorem dX5_advance_22 : decode cX5_advance 22 = .ok (.aload_n 0, 1) := by decide +kernel
theorem dX5_advance_23 : decode cX5_advance 23 = .ok (.aload_n 0, 1) := by decide +kernel
theorem dX5_advance_24 : decode cX5_advance 24 = .ok (.getfield 15, 3) := by decide +kernel
theorem dX5_advance_27 : decode cX5_advance 27 = .ok (.invokevirtual 115, 3) := by decide +kernel
theorem dX5_advance_30 : decode cX5_advance 30 = .ok (.bipush 32, 2) := by decide +kernel
theorem dX5_advance_32 : decode cX5_advance 32 = .ok (.if_icmp .ne 16, 3) := by decide +kernel
theorem dX5_advance_35 : decode cX5_advance 35 = .ok (.aload_n 0, 1) := by decide +kernel
theorem dX5_advance_36 : decode cX5_advance 36 = .ok (.dup, 1) := by decide +kernel
theorem dX5_advance_37 : decode cX5_advance 37 = .ok (.getfield 15, 3) := by decide +kernel
theorem dX5_advance_40 : decode cX5_advance 40 = .ok (.iconst 1, 1) := by decide +kernel
theorem dX5_advance_41 : decode cX5_advance 41 = .ok (.iadd, 1) := by decide +kernel
theorem dX5_advance_42 : decode cX5_advance 42 = .ok (.putfield 15, 3) := by decide +kernel
theorem dX5_advance_45 : decode cX5_advance 45 = .ok (.goto (-37), 3) := by decide +kernel
theorem dX5_advance_48 : decode cX5_advance 48 = .ok (.aload_n 0, 1) := by decide +kernel
theorem dX5_advance_49 : decode cX5_advance 49 = .ok (.aload_n 0, 1) := by decide +kernel
theorem dX5_advance_50 : decode cX5_advance 50 = .ok (.getfield 15, 3) := by decide +kernel
theorem dX5_advance_53 : decode cX5_advance 53 = .ok (.putfield 18, 3) := by decide +kernel
theorem dX5_advance_56 : decode cX5_advance 56 = .ok (.aload_n 0, 1) := by decide +kernel
theorem dX5_advance_57 : decode cX5_advance 57 = .ok (.aload_n 0, 1) := by decide +kernel
theorem dX5_advance_58 : decode cX5_advance 58 = .ok (.getfield 15, 3) := by decide +kernel
theorem dX5_advance_61 : decode cX5_advance 61 = .ok (.invokevirtual 115, 3) := by decide +kernel
theorem dX5_advance_64 : decode cX5_advance 64 = .ok (.istore_n 1, 1) := by decide +kernel
theorem dX5_advance_65 : decode cX5_advance 65 = .ok (.iload_n 1, 1) := by decide +kernel
theorem dX5_advance_66 : decode cX5_advance 66 = .ok (.ifCond .ge 11, 3) := by decide +kernel
theorem dX5_advance_69 : decode cX5_advance 69 = .ok (.aload_n 0, 1) := by decide +kernel
theorem dX5_advance_70 : decode cX5_advance 70 = .ok (.iconst 0, 1) := by decide +kernel
theorem dX5_advance_71 : decode cX5_advance 71 = .ok (.putfield 11, 3) := by decide +kernel
theorem dX5_advance_74 : decode cX5_advance 74 = .ok (.goto 66, 3) := by decide +kernel
theorem dX5_advance_77 : decode cX5_advance 77 = .ok (.iload_n 1, 1) := by decide +kernel
theorem dX5_advance_78 : decode cX5_advance 78 = .ok (.invokestatic 126, 3) := by decide +kernel
theorem dX5_advance_81 : decode cX5_advance 81 = .ok (.ifCond .eq 15, 3) := by decide +kernel
theorem dX5_advance_84 : decode cX5_advance 84 = .ok (.aload_n 0, 1) := by decide +kernel
theorem dX5_advance_85 : decode cX5_advance 85 = .ok (.iconst 1, 1) := by decide +kernel
theorem dX5_advance_86 : decode cX5_advance 86 = .ok (.putfield 11, 3) := by decide +kernel
theorem dX5_advance_89 : decode cX5_advance 89 = .ok (.aload_n 0, 1) := by decide +kernel
theorem dX5_advance_90 : decode cX5_advance 90 = .ok (.invokevirtual 130, 3) := by decide +kernel
theorem dX5_advance_93 : decode cX5_advance 93 = .ok (.goto 47, 3) := by decide +kernel
theorem dX5_advance_96 : decode cX5_advance 96 = .ok (.iload_n 1, 1) := by decide +kernel
theorem dX5_advance_97 : decode cX5_advance 97 = .ok (.invokestatic 133, 3) := by decide +kernel
theorem dX5_advance_100 : decode cX5_advance 100 = .ok (.ifCond .eq 15, 3) := by decide +kernel
theorem dX5_advance_103 : decode cX5_advance 103 = .ok (.aload_n 0, 1) := by decide +kernel
theorem dX5_advance_104 : decode cX5_advance 104 = .ok (.iconst 2, 1) := by decide +kernel
theorem dX5_advance_105 : decode cX5_advance 105 = .ok (.putfield 11, 3) := by decide +kernel
theorem dX5_advance_108 : decode cX5_advance 108 = .ok (.aload_n 0, 1) := by decide +kernel
theorem dX5_advance_109 : decode cX5_advance 109 = .ok (.invokevirtual 136, 3) := by decide +kernel
theorem dX5_advance_112 : decode cX5_advance 112 = .ok (.goto 28, 3) := by decide +kernel
theorem dX5_advance_115 : decode cX5_advance 115 = .ok (.aload_n 0, 1) := by decide +kernel
theorem dX5_advance_116 : decode cX5_advance 116 = .ok (.iload_n 1, 1) := by decide +kernel
theorem dX5_advance_117 : decode cX5_advance 117 = .ok (.bipush 59, 2) := by decide +kernel
theorem dX5_advance_119 : decode cX5_advance 119 = .ok (.if_icmp .ne 7, 3) := by decide +kernel
theorem dX5_advance_122 : decode cX5_advance 122 = .ok (.iconst 3, 1) := by decide +kernel
theorem dX5_advance_123 : decode cX5_advance 123 = .ok (.goto 4, 3) := by decide +kernel
theorem dX5_advance_126 : decode cX5_advance 126 = .ok (.iconst 4, 1) := by decide +kernel
theorem dX5_advance_127 : decode cX5_advance 127 = .ok (.putfield 11, 3) := by decide +kernel
theorem dX5_advance_130 : decode cX5_advance 130 = .ok (.aload_n 0, 1) := by decide +kernel
theorem dX5_advance_131 : decode cX5_advance 131 = .ok (.aload_n 0, 1) := by decide +kernel
theorem dX5_advance_132 : decode cX5_advance 132 = .ok (.getfield 15, 3) := by decide +kernel
theorem dX5_advance_135 : decode cX5_advance 135 = .ok (.iconst 1, 1) := by decide +kernel
theorem dX5_advance_136 : decode cX5_advance 136 = .ok (.iadd, 1) := by decide +kernel
theorem dX5_advance_137 : decode cX5_advance 137 = .ok (.putfield 18, 3) := by decide +kernel
theorem dX5_advance_140 : decode cX5_advance 140 = .ok (.return_, 1) := by decide +kernel
theorem dX5_passLetters_0 : decode cX5_passLetters 0 = .ok (.aload_n 0, 1) := by decide +kernel
theorem dX5_passLetters_1 : decode cX5_passLetters 1 = .ok (.getfield 18, 3) := by decide +kernel
theorem dX5_passLetters_4 : decode cX5_passLetters 4 = .ok (.aload_n 0, 1) := by decide +kernel
theorem dX5_passLetters_5 : decode cX5_passLetters 5 = .ok (.getfield 27, 3) := by decide +kernel
theorem dX5_passLetters_8 : decode cX5_passLetters 8 = .ok (.getfield 123, 3) := by decide +kernel
theorem dX5_passLetters_11 : decode cX5_passLetters 11 = .ok (.if_icmp .ge 30, 3) := by decide +kernel
theorem dX5_passLetters_14 : decode cX5_passLetters 14 = .ok (.aload_n 0, 1) := by decide +kernel
theorem dX5_passLetters_15 : decode cX5_passLetters 15 = .ok (.aload_n 0, 1) := by decide +kernel
theorem dX5_passLetters_16 : decode cX5_passLetters 16 = .ok (.getfield 18, 3) := by decide +kernel
theorem dX5_passLetters_19 : decode cX5_passLetters 19 = .ok (.invokevirtual 115, 3) := by decide +kernel
theorem dX5_passLetters_22 : decode cX5_passLetters 22 = .ok (.invokestatic 126, 3) := by decide +kernel
theorem dX5_passLetters_25 : decode cX5_passLetters 25 = .ok (.ifCond .eq 16, 3) := by decide +kernel
theorem dX5_passLetters_28 : decode cX5_passLetters 28 = .ok (.aload_n 0, 1) := by decide +kernel
theorem dX5_passLetters_29 : decode cX5_passLetters 29 = .ok (.dup, 1) := by decide +kernel
theorem dX5_passLetters_30 : decode cX5_passLetters 30 = .ok (.getfield 18, 3) := by decide +kernel
theorem dX5_passLetters_33 : decode cX5_passLetters 33 = .ok (.iconst 1, 1) := by decide +kernel
theorem dX5_passLetters_34 : decode cX5_passLetters 34 = .ok (.iadd, 1) := by decide +kernel
theorem dX5_passLetters_35 : decode cX5_passLetters 35 = .ok (.putfield 18, 3) := by decide +kernel
theorem dX5_passLetters_38 : decode cX5_passLetters 38 = .ok (.goto (-38), 3) := by decide +kernel
theorem dX5_passLetters_41 : decode cX5_passLetters 41 = .ok (.return_, 1) := by decide +kernel
theorem dX5_passDigits_0 : decode cX5_passDigits 0 = .ok (.aload_n 0, 1) := by decide +kernel
theorem dX5_passDigits_1 : decode cX5_passDigits 1 = .ok (.iconst 0, 1) := by decide +kernel

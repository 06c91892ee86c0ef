theorem dX0_init_0 : decode cX0_init 0 = .ok (.aload_n 0, 1) := by decide +kernel
theorem dX0_init_1 : decode cX0_init 1 = .ok (.invokespecial 1, 3) := by decide +kernel
theorem dX0_init_4 : decode cX0_init 4 = .ok (.aload_n 0, 1) := by decide +kernel
theorem dX0_init_5 : decode cX0_init 5 = .ok (.bipush 20, 2) := by decide +kernel
theorem dX0_init_7 : decode cX0_init 7 = .ok (.anewarray 9, 3) := by decide +kernel
theorem dX0_init_10 : decode cX0_init 10 = .ok (.putfield 11, 3) := by decide +kernel
theorem dX0_init_13 : decode cX0_init 13 = .ok (.return_, 1) := by decide +kernel
theorem dX0_hasRoom_0 : decode cX0_hasRoom 0 = .ok (.aload_n 0, 1) := by decide +kernel
theorem dX0_hasRoom_1 : decode cX0_hasRoom 1 = .ok (.getfield 15, 3) := by decide +kernel
theorem dX0_hasRoom_4 : decode cX0_hasRoom 4 = .ok (.bipush 20, 2) := by decide +kernel
theorem dX0_hasRoom_6 : decode cX0_hasRoom 6 = .ok (.if_icmp .ge 7, 3) := by decide +kernel
theorem dX0_hasRoom_9 : decode cX0_hasRoom 9 = .ok (.iconst 1, 1) := by decide +kernel
theorem dX0_hasRoom_10 : decode cX0_hasRoom 10 = .ok (.goto 4, 3) := by decide +kernel
theorem dX0_hasRoom_13 : decode cX0_hasRoom 13 = .ok (.iconst 0, 1) := by decide +kernel
theorem dX0_hasRoom_14 : decode cX0_hasRoom 14 = .ok (.ireturn, 1) := by decide +kernel
theorem dX0_put_0 : decode cX0_put 0 = .ok (.aload_n 0, 1) := by decide +kernel
theorem dX0_put_1 : decode cX0_put 1 = .ok (.invokevirtual 19, 3) := by decide +kernel
theorem dX0_put_4 : decode cX0_put 4 = .ok (.ifCond .eq 23, 3) := by decide +kernel
theorem dX0_put_7 : decode cX0_put 7 = .ok (.aload_n 0, 1) := by decide +kernel
theorem dX0_put_8 : decode cX0_put 8 = .ok (.getfield 11, 3) := by decide +kernel
theorem dX0_put_11 : decode cX0_put 11 = .ok (.aload_n 0, 1) := by decide +kernel
theorem dX0_put_12 : decode cX0_put 12 = .ok (.getfield 15, 3) := by decide +kernel
theorem dX0_put_15 : decode cX0_put 15 = .ok (.aload_n 1, 1) := by decide +kernel
theorem dX0_put_16 : decode cX0_put 16 = .ok (.aastore, 1) := by decide +kernel
theorem dX0_put_17 : decode cX0_put 17 = .ok (.aload_n 0, 1) := by decide +kernel
theorem dX0_put_18 : decode cX0_put 18 = .ok (.dup, 1) := by decide +kernel
theorem dX0_put_19 : decode cX0_put 19 = .ok (.getfield 15, 3) := by decide +kernel
theorem dX0_put_22 : decode cX0_put 22 = .ok (.iconst 1, 1) := by decide +kernel
theorem dX0_put_23 : decode cX0_put 23 = .ok (.iadd, 1) := by decide +kernel
theorem dX0_put_24 : decode cX0_put 24 = .ok (.putfield 15, 3) := by decide +kernel
theorem dX0_put_27 : decode cX0_put 27 = .ok (.return_, 1) := by decide +kernel
theorem dX0_coolHour_0 : decode cX0_coolHour 0 = .ok (.iconst 0, 1) := by decide +kernel
theorem dX0_coolHour_1 : decode cX0_coolHour 1 = .ok (.istore_n 1, 1) := by decide +kernel
theorem dX0_coolHour_2 : decode cX0_coolHour 2 = .ok (.iconst 0, 1) := by decide +kernel
theorem dX0_coolHour_3 : decode cX0_coolHour 3 = .ok (.istore_n 2, 1) := by decide +kernel
theorem dX0_coolHour_4 : decode cX0_coolHour 4 = .ok (.iload_n 2, 1) := by decide +kernel
theorem dX0_coolHour_5 : decode cX0_coolHour 5 = .ok (.aload_n 0, 1) := by decide +kernel
theorem dX0_coolHour_6 : decode cX0_coolHour 6 = .ok (.getfield 15, 3) := by decide +kernel
theorem dX0_coolHour_9 : decode cX0_coolHour 9 = .ok (.if_icmp .ge 59, 3) := by decide +kernel
theorem dX0_coolHour_12 : decode cX0_coolHour 12 = .ok (.aload_n 0, 1) := by decide +kernel
theorem dX0_coolHour_13 : decode cX0_coolHour 13 = .ok (.getfield 11, 3) := by decide +kernel
theorem dX0_coolHour_16 : decode cX0_coolHour 16 = .ok (.iload_n 2, 1) := by decide +kernel
theorem dX0_coolHour_17 : decode cX0_coolHour 17 = .ok (.aaload, 1) := by decide +kernel
theorem dX0_coolHour_18 : decode cX0_coolHour 18 = .ok (.astore_n 3, 1) := by decide +kernel
theorem dX0_coolHour_19 : decode cX0_coolHour 19 = .ok (.aload_n 3, 1) := by decide +kernel
theorem dX0_coolHour_20 : decode cX0_coolHour 20 = .ok (.ifnull 42, 3) := by decide +kernel
theorem dX0_coolHour_23 : decode cX0_coolHour 23 = .ok (.aload_n 3, 1) := by decide +kernel
theorem dX0_coolHour_24 : decode cX0_coolHour 24 = .ok (.dup, 1) := by decide +kernel
theorem dX0_coolHour_25 : decode cX0_coolHour 25 = .ok (.getfield 23, 3) := by decide +kernel
theorem dX0_coolHour_28 : decode cX0_coolHour 28 = .ok (.iconst 1, 1) := by decide +kernel
theorem dX0_coolHour_29 : decode cX0_coolHour 29 = .ok (.iadd, 1) := by decide +kernel
theorem dX0_coolHour_30 : decode cX0_coolHour 30 = .ok (.putfield 23, 3) := by decide +kernel
theorem dX0_coolHour_33 : decode cX0_coolHour 33 = .ok (.aload_n 3, 1) := by decide +kernel
theorem dX0_coolHour_34 : decode cX0_coolHour 34 = .ok (.getfield 23, 3) := by decide +kernel
theorem dX0_coolHour_37 : decode cX0_coolHour 37 = .ok (.aload_n 3, 1) := by decide +kernel
theorem dX0_coolHour_38 : decode cX0_coolHour 38 = .ok (.getfield 26, 3) := by decide +kernel
theorem dX0_coolHour_41 : decode cX0_coolHour 41 = .ok (.if_icmp .lt 11, 3) := by decide +kernel
theorem dX0_coolHour_44 : decode cX0_coolHour 44 = .ok (.aload_n 3, 1) := by decide +kernel
theorem dX0_coolHour_45 : decode cX0_coolHour 45 = .ok (.iconst 1, 1) := by decide +kernel
theorem dX0_coolHour_46 : decode cX0_coolHour 46 = .ok (.putfield 29, 3) := by decide +kernel
theorem dX0_coolHour_49 : decode cX0_coolHour 49 = .ok (.goto 13, 3) := by decide +kernel
theorem dX0_coolHour_52 : decode cX0_coolHour 52 = .ok (.aload_n 0, 1) := by decide +kernel
theorem dX0_coolHour_53 : decode cX0_coolHour 53 = .ok (.getfield 11, 3) := by decide +kernel
theorem dX0_coolHour_56 : decode cX0_coolHour 56 = .ok (.iload_n 1, 1) := by decide +kernel
theorem dX0_coolHour_57 : decode cX0_coolHour 57 = .ok (.aload_n 3, 1) := by decide +kernel
theorem dX0_coolHour_58 : decode cX0_coolHour 58 = .ok (.aastore, 1) := by decide +kernel
theorem dX0_coolHour_59 : decode cX0_coolHour 59 = .ok (.iinc 1 1, 3) := by decide +kernel
theorem dX0_coolHour_62 : decode cX0_coolHour 62 = .ok (.iinc 2 1, 3) := by decide +kernel
theorem dX0_coolHour_65 : decode cX0_coolHour 65 = .ok (.goto (-61), 3) := by decide +kernel
theorem dX0_coolHour_68 : decode cX0_coolHour 68 = .ok (.aload_n 0, 1) := by decide +kernel
theorem dX0_coolHour_69 : decode cX0_coolHour 69 = .ok (.iload_n 1, 1) := by decide +kernel
theorem dX0_coolHour_70 : decode cX0_coolHour 70 = .ok (.putfield 15, 3) := by decide +kernel
theorem dX0_coolHour_73 : decode cX0_coolHour 73 = .ok (.return_, 1) := by decide +kernel
theorem dX0_breakAll_0 : decode cX0_breakAll 0 = .ok (.iconst 0, 1) := by decide +kernel
theorem dX0_breakAll_1 : decode cX0_breakAll 1 = .ok (.istore_n 1, 1) := by decide +kernel
theorem dX0_breakAll_2 : decode cX0_breakAll 2 = .ok (.iconst 0, 1) := by decide +kernel
theorem dX0_breakAll_3 : decode cX0_breakAll 3 = .ok (.istore_n 2, 1) := by decide +kernel
theorem dX0_breakAll_4 : decode cX0_breakAll 4 = .ok (.iload_n 2, 1) := by decide +kernel
theorem dX0_breakAll_5 : decode cX0_breakAll 5 = .ok (.aload_n 0, 1) := by decide +kernel
theorem dX0_breakAll_6 : decode cX0_breakAll 6 = .ok (.getfield 15, 3) := by decide +kernel
theorem dX0_breakAll_9 : decode cX0_breakAll 9 = .ok (.if_icmp .ge 32, 3) := by decide +kernel
theorem dX0_breakAll_12 : decode cX0_breakAll 12 = .ok (.aload_n 0, 1) := by decide +kernel
theorem dX0_breakAll_13 : decode cX0_breakAll 13 = .ok (.getfield 11, 3) := by decide +kernel
theorem dX0_breakAll_16 : decode cX0_breakAll 16 = .ok (.iload_n 2, 1) := by decide +kernel
theorem dX0_breakAll_17 : decode cX0_breakAll 17 = .ok (.aaload, 1) := by decide +kernel
theorem dX0_breakAll_18 : decode cX0_breakAll 18 = .ok (.astore_n 3, 1) := by decide +kernel
theorem dX0_breakAll_19 : decode cX0_breakAll 19 = .ok (.aload_n 3, 1) := by decide +kernel
theorem dX0_breakAll_20 : decode cX0_breakAll 20 = .ok (.ifnull 15, 3) := by decide +kernel
theorem dX0_breakAll_23 : decode cX0_breakAll 23 = .ok (.aload_n 3, 1) := by decide +kernel
theorem dX0_breakAll_24 : decode cX0_breakAll 24 = .ok (.iconst 3, 1) := by decide +kernel
theorem dX0_breakAll_25 : decode cX0_breakAll 25 = .ok (.putfield 29, 3) := by decide +kernel
theorem dX0_breakAll_28 : decode cX0_breakAll 28 = .ok (.iload_n 1, 1) := by decide +kernel
theorem dX0_breakAll_29 : decode cX0_breakAll 29 = .ok (.aload_n 3, 1) := by decide +kernel
theorem dX0_breakAll_30 : decode cX0_breakAll 30 = .ok (.getfield 32, 3) := by decide +kernel
theorem dX0_breakAll_33 : decode cX0_breakAll 33 = .ok (.iadd, 1) := by decide +kernel
theorem dX0_breakAll_34 : decode cX0_breakAll 34 = .ok (.istore_n 1, 1) := by decide +kernel
theorem dX0_breakAll_35 : decode cX0_breakAll 35 = .ok (.iinc 2 1, 3) := by decide +kernel
theorem dX0_breakAll_38 : decode cX0_breakAll 38 = .ok (.goto (-34), 3) := by decide +kernel
theorem dX0_breakAll_41 : decode cX0_breakAll 41 = .ok (.aload_n 0, 1) := by decide +kernel
theorem dX0_breakAll_42 : decode cX0_breakAll 42 = .ok (.iconst 0, 1) := by decide +kernel
theorem dX0_breakAll_43 : decode cX0_breakAll 43 = .ok (.putfield 15, 3) := by decide +kernel
theorem dX0_breakAll_46 : decode cX0_breakAll 46 = .ok (.iload_n 1, 1) := by decide +kernel
theorem dX0_breakAll_47 : decode cX0_breakAll 47 = .ok (.ireturn, 1) := by decide +kernel
theorem dX1_init_0 : decode cX1_init 0 = .ok (.aload_n 0, 1) := by decide +kernel
theorem dX1_init_1 : decode cX1_init 1 = .ok (.invokespecial 3, 3) := by decide +kernel
theorem dX1_init_4 : decode cX1_init 4 = .ok (.aload_n 0, 1) := by decide +kernel
theorem dX1_init_5 : decode cX1_init 5 = .ok (.bipush 8, 2) := by decide +kernel
theorem dX1_init_7 : decode cX1_init 7 = .ok (.newarray .int, 2) := by decide +kernel
theorem dX1_init_9 : decode cX1_init 9 = .ok (.putfield 9, 3) := by decide +kernel
theorem dX1_init_12 : decode cX1_init 12 = .ok (.aload_n 0, 1) := by decide +kernel
theorem dX1_init_13 : decode cX1_init 13 = .ok (.bipush 8, 2) := by decide +kernel
theorem dX1_init_15 : decode cX1_init 15 = .ok (.newarray .int, 2) := by decide +kernel
theorem dX1_init_17 : decode cX1_init 17 = .ok (.putfield 15, 3) := by decide +kernel
theorem dX1_init_20 : decode cX1_init 20 = .ok (.return_, 1) := by decide +kernel
theorem dX1_take_0 : decode cX1_take 0 = .ok (.aload_n 0, 1) := by decide +kernel
theorem dX1_take_1 : decode cX1_take 1 = .ok (.aload_n 1, 1) := by decide +kernel
theorem dX1_take_2 : decode cX1_take 2 = .ok (.getfield 18, 3) := by decide +kernel
theorem dX1_take_5 : decode cX1_take 5 = .ok (.putfield 24, 3) := by decide +kernel
theorem dX1_take_8 : decode cX1_take 8 = .ok (.iconst 0, 1) := by decide +kernel
theorem dX1_take_9 : decode cX1_take 9 = .ok (.istore_n 2, 1) := by decide +kernel
theorem dX1_take_10 : decode cX1_take 10 = .ok (.iload_n 2, 1) := by decide +kernel
theorem dX1_take_11 : decode cX1_take 11 = .ok (.aload_n 0, 1) := by decide +kernel
theorem dX1_take_12 : decode cX1_take 12 = .ok (.getfield 24, 3) := by decide +kernel
theorem dX1_take_15 : decode cX1_take 15 = .ok (.if_icmp .ge 33, 3) := by decide +kernel
theorem dX1_take_18 : decode cX1_take 18 = .ok (.aload_n 0, 1) := by decide +kernel
theorem dX1_take_19 : decode cX1_take 19 = .ok (.getfield 9, 3) := by decide +kernel
theorem dX1_take_22 : decode cX1_take 22 = .ok (.iload_n 2, 1) := by decide +kernel
theorem dX1_take_23 : decode cX1_take 23 = .ok (.aload_n 1, 1) := by decide +kernel
theorem dX1_take_24 : decode cX1_take 24 = .ok (.getfield 25, 3) := by decide +kernel
theorem dX1_take_27 : decode cX1_take 27 = .ok (.iload_n 2, 1) := by decide +kernel
theorem dX1_take_28 : decode cX1_take 28 = .ok (.iaload, 1) := by decide +kernel
theorem dX1_take_29 : decode cX1_take 29 = .ok (.iastore, 1) := by decide +kernel
theorem dX1_take_30 : decode cX1_take 30 = .ok (.aload_n 0, 1) := by decide +kernel
theorem dX1_take_31 : decode cX1_take 31 = .ok (.getfield 15, 3) := by decide +kernel
theorem dX1_take_34 : decode cX1_take 34 = .ok (.iload_n 2, 1) := by decide +kernel
theorem dX1_take_35 : decode cX1_take 35 = .ok (.aload_n 1, 1) := by decide +kernel
theorem dX1_take_36 : decode cX1_take 36 = .ok (.getfield 26, 3) := by decide +kernel
theorem dX1_take_39 : decode cX1_take 39 = .ok (.iload_n 2, 1) := by decide +kernel
theorem dX1_take_40 : decode cX1_take 40 = .ok (.iaload, 1) := by decide +kernel
theorem dX1_take_41 : decode cX1_take 41 = .ok (.iastore, 1) := by decide +kernel
theorem dX1_take_42 : decode cX1_take 42 = .ok (.iinc 2 1, 3) := by decide +kernel
theorem dX1_take_45 : decode cX1_take 45 = .ok (.goto (-35), 3) := by decide +kernel
theorem dX1_take_48 : decode cX1_take 48 = .ok (.return_, 1) := by decide +kernel
theorem dX1_firstWith_0 : decode cX1_firstWith 0 = .ok (.iconst 0, 1) := by decide +kernel
theorem dX1_firstWith_1 : decode cX1_firstWith 1 = .ok (.istore_n 2, 1) := by decide +kernel
theorem dX1_firstWith_2 : decode cX1_firstWith 2 = .ok (.iload_n 2, 1) := by decide +kernel
theorem dX1_firstWith_3 : decode cX1_firstWith 3 = .ok (.aload_n 0, 1) := by decide +kernel
theorem dX1_firstWith_4 : decode cX1_firstWith 4 = .ok (.getfield 24, 3) := by decide +kernel
theorem dX1_firstWith_7 : decode cX1_firstWith 7 = .ok (.if_icmp .ge 30, 3) := by decide +kernel
theorem dX1_firstWith_10 : decode cX1_firstWith 10 = .ok (.iload_n 1, 1) := by decide +kernel
theorem dX1_firstWith_11 : decode cX1_firstWith 11 = .ok (.aload_n 0, 1) := by decide +kernel
theorem dX1_firstWith_12 : decode cX1_firstWith 12 = .ok (.getfield 9, 3) := by decide +kernel
theorem dX1_firstWith_15 : decode cX1_firstWith 15 = .ok (.iload_n 2, 1) := by decide +kernel
theorem dX1_firstWith_16 : decode cX1_firstWith 16 = .ok (.iaload, 1) := by decide +kernel
theorem dX1_firstWith_17 : decode cX1_firstWith 17 = .ok (.aload_n 0, 1) := by decide +kernel
theorem dX1_firstWith_18 : decode cX1_firstWith 18 = .ok (.getfield 15, 3) := by decide +kernel
theorem dX1_firstWith_21 : decode cX1_firstWith 21 = .ok (.iload_n 2, 1) := by decide +kernel
theorem dX1_firstWith_22 : decode cX1_firstWith 22 = .ok (.iaload, 1) := by decide +kernel
theorem dX1_firstWith_23 : decode cX1_firstWith 23 = .ok (.invokestatic 27, 3) := by decide +kernel
theorem dX1_firstWith_26 : decode cX1_firstWith 26 = .ok (.ifCond .eq 5, 3) := by decide +kernel
theorem dX1_firstWith_29 : decode cX1_firstWith 29 = .ok (.iload_n 2, 1) := by decide +kernel
theorem dX1_firstWith_30 : decode cX1_firstWith 30 = .ok (.ireturn, 1) := by decide +kernel
theorem dX1_firstWith_31 : decode cX1_firstWith 31 = .ok (.iinc 2 1, 3) := by decide +kernel
theorem dX1_firstWith_34 : decode cX1_firstWith 34 = .ok (.goto (-32), 3) := by decide +kernel
theorem dX1_firstWith_37 : decode cX1_firstWith 37 = .ok (.iconst (-1), 1) := by decide +kernel
theorem dX1_firstWith_38 : decode cX1_firstWith 38 = .ok (.ireturn, 1) := by decide +kernel
theorem dX2_init_0 : decode cX2_init 0 = .ok (.aload_n 0, 1) := by decide +kernel
theorem dX2_init_1 : decode cX2_init 1 = .ok (.invokespecial 3, 3) := by decide +kernel
theorem dX2_init_4 : decode cX2_init 4 = .ok (.aload_n 0, 1) := by decide +kernel
theorem dX2_init_5 : decode cX2_init 5 = .ok (.iconst 5, 1) := by decide +kernel
theorem dX2_init_6 : decode cX2_init 6 = .ok (.newarray .int, 2) := by decide +kernel
theorem dX2_init_8 : decode cX2_init 8 = .ok (.putfield 9, 3) := by decide +kernel
theorem dX2_init_11 : decode cX2_init 11 = .ok (.aload_n 0, 1) := by decide +kernel
theorem dX2_init_12 : decode cX2_init 12 = .ok (.iconst 5, 1) := by decide +kernel
theorem dX2_init_13 : decode cX2_init 13 = .ok (.newarray .int, 2) := by decide +kernel
theorem dX2_init_15 : decode cX2_init 15 = .ok (.putfield 15, 3) := by decide +kernel
theorem dX2_init_18 : decode cX2_init 18 = .ok (.return_, 1) := by decide +kernel
theorem dX2_grant_0 : decode cX2_grant 0 = .ok (.aload_n 0, 1) := by decide +kernel
theorem dX2_grant_1 : decode cX2_grant 1 = .ok (.getfield 9, 3) := by decide +kernel
theorem dX2_grant_4 : decode cX2_grant 4 = .ok (.iload_n 1, 1) := by decide +kernel
theorem dX2_grant_5 : decode cX2_grant 5 = .ok (.iload_n 2, 1) := by decide +kernel
theorem dX2_grant_6 : decode cX2_grant 6 = .ok (.invokestatic 18, 3) := by decide +kernel
theorem dX2_grant_9 : decode cX2_grant 9 = .ok (.ireturn, 1) := by decide +kernel
theorem dX2_fell_0 : decode cX2_fell 0 = .ok (.iconst 0, 1) := by decide +kernel
theorem dX2_fell_1 : decode cX2_fell 1 = .ok (.aload_n 0, 1) := by decide +kernel
theorem dX2_fell_2 : decode cX2_fell 2 = .ok (.getfield 9, 3) := by decide +kernel
theorem dX2_fell_5 : decode cX2_fell 5 = .ok (.aload_n 0, 1) := by decide +kernel
theorem dX2_fell_6 : decode cX2_fell 6 = .ok (.getfield 22, 3) := by decide +kernel
theorem dX2_fell_9 : decode cX2_fell 9 = .ok (.iaload, 1) := by decide +kernel
theorem dX2_fell_10 : decode cX2_fell 10 = .ok (.aload_n 0, 1) := by decide +kernel
theorem dX2_fell_11 : decode cX2_fell 11 = .ok (.getfield 15, 3) := by decide +kernel
theorem dX2_fell_14 : decode cX2_fell 14 = .ok (.aload_n 0, 1) := by decide +kernel
theorem dX2_fell_15 : decode cX2_fell 15 = .ok (.getfield 22, 3) := by decide +kernel
theorem dX2_fell_18 : decode cX2_fell 18 = .ok (.iaload, 1) := by decide +kernel
theorem dX2_fell_19 : decode cX2_fell 19 = .ok (.isub, 1) := by decide +kernel
theorem dX2_fell_20 : decode cX2_fell 20 = .ok (.invokestatic 26, 3) := by decide +kernel
theorem dX2_fell_23 : decode cX2_fell 23 = .ok (.istore_n 2, 1) := by decide +kernel
theorem dX2_fell_24 : decode cX2_fell 24 = .ok (.iload_n 1, 1) := by decide +kernel
theorem dX2_fell_25 : decode cX2_fell 25 = .ok (.iload_n 2, 1) := by decide +kernel
theorem dX2_fell_26 : decode cX2_fell 26 = .ok (.sipush 20000, 3) := by decide +kernel
theorem dX2_fell_29 : decode cX2_fell 29 = .ok (.aload_n 0, 1) := by decide +kernel
theorem dX2_fell_30 : decode cX2_fell 30 = .ok (.getfield 32, 3) := by decide +kernel
theorem dX2_fell_33 : decode cX2_fell 33 = .ok (.isub, 1) := by decide +kernel
theorem dX2_fell_34 : decode cX2_fell 34 = .ok (.invokestatic 35, 3) := by decide +kernel
theorem dX2_fell_37 : decode cX2_fell 37 = .ok (.invokestatic 35, 3) := by decide +kernel
theorem dX2_fell_40 : decode cX2_fell 40 = .ok (.istore_n 3, 1) := by decide +kernel
theorem dX2_fell_41 : decode cX2_fell 41 = .ok (.aload_n 0, 1) := by decide +kernel
theorem dX2_fell_42 : decode cX2_fell 42 = .ok (.getfield 15, 3) := by decide +kernel
theorem dX2_fell_45 : decode cX2_fell 45 = .ok (.aload_n 0, 1) := by decide +kernel
theorem dX2_fell_46 : decode cX2_fell 46 = .ok (.getfield 22, 3) := by decide +kernel
theorem dX2_fell_49 : decode cX2_fell 49 = .ok (.dup2, 1) := by decide +kernel
theorem dX2_fell_50 : decode cX2_fell 50 = .ok (.iaload, 1) := by decide +kernel
theorem dX2_fell_51 : decode cX2_fell 51 = .ok (.iload_n 3, 1) := by decide +kernel
theorem dX2_fell_52 : decode cX2_fell 52 = .ok (.iadd, 1) := by decide +kernel
theorem dX2_fell_53 : decode cX2_fell 53 = .ok (.iastore, 1) := by decide +kernel
theorem dX2_fell_54 : decode cX2_fell 54 = .ok (.aload_n 0, 1) := by decide +kernel
theorem dX2_fell_55 : decode cX2_fell 55 = .ok (.dup, 1) := by decide +kernel
theorem dX2_fell_56 : decode cX2_fell 56 = .ok (.getfield 32, 3) := by decide +kernel
theorem dX2_fell_59 : decode cX2_fell 59 = .ok (.iload_n 3, 1) := by decide +kernel
theorem dX2_fell_60 : decode cX2_fell 60 = .ok (.iadd, 1) := by decide +kernel
theorem dX2_fell_61 : decode cX2_fell 61 = .ok (.putfield 32, 3) := by decide +kernel
theorem dX2_fell_64 : decode cX2_fell 64 = .ok (.iload_n 3, 1) := by decide +kernel
theorem dX2_fell_65 : decode cX2_fell 65 = .ok (.ireturn, 1) := by decide +kernel
theorem dX2_takeFromStack_0 : decode cX2_takeFromStack 0 = .ok (.iload_n 1, 1) := by decide +kernel
theorem dX2_takeFromStack_1 : decode cX2_takeFromStack 1 = .ok (.aload_n 0, 1) := by decide +kernel
theorem dX2_takeFromStack_2 : decode cX2_takeFromStack 2 = .ok (.getfield 32, 3) := by decide +kernel
theorem dX2_takeFromStack_5 : decode cX2_takeFromStack 5 = .ok (.invokestatic 35, 3) := by decide +kernel
theorem dX2_takeFromStack_8 : decode cX2_takeFromStack 8 = .ok (.istore_n 2, 1) := by decide +kernel
theorem dX2_takeFromStack_9 : decode cX2_takeFromStack 9 = .ok (.aload_n 0, 1) := by decide +kernel
theorem dX2_takeFromStack_10 : decode cX2_takeFromStack 10 = .ok (.dup, 1) := by decide +kernel
theorem dX2_takeFromStack_11 : decode cX2_takeFromStack 11 = .ok (.getfield 32, 3) := by decide +kernel
theorem dX2_takeFromStack_14 : decode cX2_takeFromStack 14 = .ok (.iload_n 2, 1) := by decide +kernel
theorem dX2_takeFromStack_15 : decode cX2_takeFromStack 15 = .ok (.isub, 1) := by decide +kernel
theorem dX2_takeFromStack_16 : decode cX2_takeFromStack 16 = .ok (.putfield 32, 3) := by decide +kernel
theorem dX2_takeFromStack_19 : decode cX2_takeFromStack 19 = .ok (.iload_n 2, 1) := by decide +kernel
theorem dX2_takeFromStack_20 : decode cX2_takeFromStack 20 = .ok (.ireturn, 1) := by decide +kernel
theorem dX2_leaveFor_0 : decode cX2_leaveFor 0 = .ok (.aload_n 0, 1) := by decide +kernel
theorem dX2_leaveFor_1 : decode cX2_leaveFor 1 = .ok (.iload_n 1, 1) := by decide +kernel
theorem dX2_leaveFor_2 : decode cX2_leaveFor 2 = .ok (.putfield 22, 3) := by decide +kernel
theorem dX2_leaveFor_5 : decode cX2_leaveFor 5 = .ok (.aload_n 0, 1) := by decide +kernel
theorem dX2_leaveFor_6 : decode cX2_leaveFor 6 = .ok (.iconst 0, 1) := by decide +kernel
theorem dX2_leaveFor_7 : decode cX2_leaveFor 7 = .ok (.putfield 32, 3) := by decide +kernel
theorem dX2_leaveFor_10 : decode cX2_leaveFor 10 = .ok (.return_, 1) := by decide +kernel
theorem dX2_beginYear_0 : decode cX2_beginYear 0 = .ok (.aload_n 0, 1) := by decide +kernel
theorem dX2_beginYear_1 : decode cX2_beginYear 1 = .ok (.getfield 15, 3) := by decide +kernel
theorem dX2_beginYear_4 : decode cX2_beginYear 4 = .ok (.iconst 0, 1) := by decide +kernel
theorem dX2_beginYear_5 : decode cX2_beginYear 5 = .ok (.invokestatic 38, 3) := by decide +kernel
theorem dX2_beginYear_8 : decode cX2_beginYear 8 = .ok (.return_, 1) := by decide +kernel
theorem dX3_init_0 : decode cX3_init 0 = .ok (.aload_n 0, 1) := by decide +kernel
theorem dX3_init_1 : decode cX3_init 1 = .ok (.invokespecial 3, 3) := by decide +kernel
theorem dX3_init_4 : decode cX3_init 4 = .ok (.aload_n 0, 1) := by decide +kernel
theorem dX3_init_5 : decode cX3_init 5 = .ok (.bipush 20, 2) := by decide +kernel
theorem dX3_init_7 : decode cX3_init 7 = .ok (.newarray .int, 2) := by decide +kernel
theorem dX3_init_9 : decode cX3_init 9 = .ok (.putfield 11, 3) := by decide +kernel
theorem dX3_init_12 : decode cX3_init 12 = .ok (.aload_n 0, 1) := by decide +kernel
theorem dX3_init_13 : decode cX3_init 13 = .ok (.bipush 20, 2) := by decide +kernel
theorem dX3_init_15 : decode cX3_init 15 = .ok (.newarray .int, 2) := by decide +kernel
theorem dX3_init_17 : decode cX3_init 17 = .ok (.putfield 15, 3) := by decide +kernel
theorem dX3_init_20 : decode cX3_init 20 = .ok (.aload_n 0, 1) := by decide +kernel
theorem dX3_init_21 : decode cX3_init 21 = .ok (.bipush 20, 2) := by decide +kernel
theorem dX3_init_23 : decode cX3_init 23 = .ok (.newarray .int, 2) := by decide +kernel
theorem dX3_init_25 : decode cX3_init 25 = .ok (.putfield 18, 3) := by decide +kernel
theorem dX3_init_28 : decode cX3_init 28 = .ok (.return_, 1) := by decide +kernel
theorem dX3_addSpell_0 : decode cX3_addSpell 0 = .ok (.aload_n 0, 1) := by decide +kernel
theorem dX3_addSpell_1 : decode cX3_addSpell 1 = .ok (.getfield 21, 3) := by decide +kernel
theorem dX3_addSpell_4 : decode cX3_addSpell 4 = .ok (.bipush 20, 2) := by decide +kernel
theorem dX3_addSpell_6 : decode cX3_addSpell 6 = .ok (.if_icmp .lt 5, 3) := by decide +kernel
theorem dX3_addSpell_9 : decode cX3_addSpell 9 = .ok (.iconst (-1), 1) := by decide +kernel
theorem dX3_addSpell_10 : decode cX3_addSpell 10 = .ok (.ireturn, 1) := by decide +kernel
theorem dX3_addSpell_11 : decode cX3_addSpell 11 = .ok (.aload_n 0, 1) := by decide +kernel
theorem dX3_addSpell_12 : decode cX3_addSpell 12 = .ok (.getfield 11, 3) := by decide +kernel
theorem dX3_addSpell_15 : decode cX3_addSpell 15 = .ok (.aload_n 0, 1) := by decide +kernel
theorem dX3_addSpell_16 : decode cX3_addSpell 16 = .ok (.getfield 21, 3) := by decide +kernel
theorem dX3_addSpell_19 : decode cX3_addSpell 19 = .ok (.iload_n 1, 1) := by decide +kernel
theorem dX3_addSpell_20 : decode cX3_addSpell 20 = .ok (.iastore, 1) := by decide +kernel
theorem dX3_addSpell_21 : decode cX3_addSpell 21 = .ok (.aload_n 0, 1) := by decide +kernel
theorem dX3_addSpell_22 : decode cX3_addSpell 22 = .ok (.getfield 15, 3) := by decide +kernel
theorem dX3_addSpell_25 : decode cX3_addSpell 25 = .ok (.aload_n 0, 1) := by decide +kernel
theorem dX3_addSpell_26 : decode cX3_addSpell 26 = .ok (.getfield 21, 3) := by decide +kernel
theorem dX3_addSpell_29 : decode cX3_addSpell 29 = .ok (.iload_n 2, 1) := by decide +kernel
theorem dX3_addSpell_30 : decode cX3_addSpell 30 = .ok (.iastore, 1) := by decide +kernel
theorem dX3_addSpell_31 : decode cX3_addSpell 31 = .ok (.aload_n 0, 1) := by decide +kernel
theorem dX3_addSpell_32 : decode cX3_addSpell 32 = .ok (.getfield 18, 3) := by decide +kernel
theorem dX3_addSpell_35 : decode cX3_addSpell 35 = .ok (.aload_n 0, 1) := by decide +kernel
theorem dX3_addSpell_36 : decode cX3_addSpell 36 = .ok (.getfield 21, 3) := by decide +kernel
theorem dX3_addSpell_39 : decode cX3_addSpell 39 = .ok (.iload_n 3, 1) := by decide +kernel
theorem dX3_addSpell_40 : decode cX3_addSpell 40 = .ok (.iastore, 1) := by decide +kernel
theorem dX3_addSpell_41 : decode cX3_addSpell 41 = .ok (.aload_n 0, 1) := by decide +kernel
theorem dX3_addSpell_42 : decode cX3_addSpell 42 = .ok (.dup, 1) := by decide +kernel
theorem dX3_addSpell_43 : decode cX3_addSpell 43 = .ok (.getfield 21, 3) := by decide +kernel
theorem dX3_addSpell_46 : decode cX3_addSpell 46 = .ok (.iconst 1, 1) := by decide +kernel
theorem dX3_addSpell_47 : decode cX3_addSpell 47 = .ok (.iadd, 1) := by decide +kernel
theorem dX3_addSpell_48 : decode cX3_addSpell 48 = .ok (.putfield 21, 3) := by decide +kernel
theorem dX3_addSpell_51 : decode cX3_addSpell 51 = .ok (.aload_n 0, 1) := by decide +kernel
theorem dX3_addSpell_52 : decode cX3_addSpell 52 = .ok (.getfield 21, 3) := by decide +kernel
theorem dX3_addSpell_55 : decode cX3_addSpell 55 = .ok (.ireturn, 1) := by decide +kernel
theorem dX3_burn_0 : decode cX3_burn 0 = .ok (.aload_n 0, 1) := by decide +kernel
theorem dX3_burn_1 : decode cX3_burn 1 = .ok (.getfield 25, 3) := by decide +kernel
theorem dX3_burn_4 : decode cX3_burn 4 = .ok (.bipush 30, 2) := by decide +kernel
theorem dX3_burn_6 : decode cX3_burn 6 = .ok (.iload_n 1, 1) := by decide +kernel
theorem dX3_burn_7 : decode cX3_burn 7 = .ok (.imul, 1) := by decide +kernel
theorem dX3_burn_8 : decode cX3_burn 8 = .ok (.iadd, 1) := by decide +kernel
theorem dX3_burn_9 : decode cX3_burn 9 = .ok (.aload_n 0, 1) := by decide +kernel
theorem dX3_burn_10 : decode cX3_burn 10 = .ok (.getfield 25, 3) := by decide +kernel
theorem dX3_burn_13 : decode cX3_burn 13 = .ok (.bipush 20, 2) := by decide +kernel
theorem dX3_burn_15 : decode cX3_burn 15 = .ok (.idiv, 1) := by decide +kernel
theorem dX3_burn_16 : decode cX3_burn 16 = .ok (.isub, 1) := by decide +kernel
theorem dX3_burn_17 : decode cX3_burn 17 = .ok (.aload_n 0, 1) := by decide +kernel
theorem dX3_burn_18 : decode cX3_burn 18 = .ok (.iload_n 2, 1) := by decide +kernel
theorem dX3_burn_19 : decode cX3_burn 19 = .ok (.invokevirtual 28, 3) := by decide +kernel
theorem dX3_burn_22 : decode cX3_burn 22 = .ok (.isub, 1) := by decide +kernel
theorem dX3_burn_23 : decode cX3_burn 23 = .ok (.istore_n 3, 1) := by decide +kernel
theorem dX3_burn_24 : decode cX3_burn 24 = .ok (.aload_n 0, 1) := by decide +kernel
theorem dX3_burn_25 : decode cX3_burn 25 = .ok (.iconst 0, 1) := by decide +kernel
theorem dX3_burn_26 : decode cX3_burn 26 = .ok (.sipush 2000, 3) := by decide +kernel
theorem dX3_burn_29 : decode cX3_burn 29 = .ok (.iload_n 3, 1) := by decide +kernel
theorem dX3_burn_30 : decode cX3_burn 30 = .ok (.invokestatic 32, 3) := by decide +kernel
theorem dX3_burn_33 : decode cX3_burn 33 = .ok (.invokestatic 38, 3) := by decide +kernel
theorem dX3_burn_36 : decode cX3_burn 36 = .ok (.putfield 25, 3) := by decide +kernel
theorem dX3_burn_39 : decode cX3_burn 39 = .ok (.return_, 1) := by decide +kernel
theorem dX3_coldOf_0 : decode cX3_coldOf 0 = .ok (.iconst 0, 1) := by decide +kernel
theorem dX3_coldOf_1 : decode cX3_coldOf 1 = .ok (.istore_n 2, 1) := by decide +kernel
theorem dX3_coldOf_2 : decode cX3_coldOf 2 = .ok (.iconst 0, 1) := by decide +kernel
theorem dX3_coldOf_3 : decode cX3_coldOf 3 = .ok (.istore_n 3, 1) := by decide +kernel
theorem dX3_coldOf_4 : decode cX3_coldOf 4 = .ok (.iload_n 3, 1) := by decide +kernel
theorem dX3_coldOf_5 : decode cX3_coldOf 5 = .ok (.aload_n 0, 1) := by decide +kernel
theorem dX3_coldOf_6 : decode cX3_coldOf 6 = .ok (.getfield 21, 3) := by decide +kernel
theorem dX3_coldOf_9 : decode cX3_coldOf 9 = .ok (.if_icmp .ge 37, 3) := by decide +kernel
theorem dX3_coldOf_12 : decode cX3_coldOf 12 = .ok (.iload_n 1, 1) := by decide +kernel
theorem dX3_coldOf_13 : decode cX3_coldOf 13 = .ok (.aload_n 0, 1) := by decide +kernel
theorem dX3_coldOf_14 : decode cX3_coldOf 14 = .ok (.getfield 11, 3) := by decide +kernel
theorem dX3_coldOf_17 : decode cX3_coldOf 17 = .ok (.iload_n 3, 1) := by decide +kernel
theorem dX3_coldOf_18 : decode cX3_coldOf 18 = .ok (.iaload, 1) := by decide +kernel
theorem dX3_coldOf_19 : decode cX3_coldOf 19 = .ok (.aload_n 0, 1) := by decide +kernel
theorem dX3_coldOf_20 : decode cX3_coldOf 20 = .ok (.getfield 15, 3) := by decide +kernel
theorem dX3_coldOf_23 : decode cX3_coldOf 23 = .ok (.iload_n 3, 1) := by decide +kernel
theorem dX3_coldOf_24 : decode cX3_coldOf 24 = .ok (.iaload, 1) := by decide +kernel
theorem dX3_coldOf_25 : decode cX3_coldOf 25 = .ok (.invokestatic 41, 3) := by decide +kernel
theorem dX3_coldOf_28 : decode cX3_coldOf 28 = .ok (.ifCond .eq 12, 3) := by decide +kernel
theorem dX3_coldOf_31 : decode cX3_coldOf 31 = .ok (.iload_n 2, 1) := by decide +kernel
theorem dX3_coldOf_32 : decode cX3_coldOf 32 = .ok (.aload_n 0, 1) := by decide +kernel
theorem dX3_coldOf_33 : decode cX3_coldOf 33 = .ok (.getfield 18, 3) := by decide +kernel
theorem dX3_coldOf_36 : decode cX3_coldOf 36 = .ok (.iload_n 3, 1) := by decide +kernel
theorem dX3_coldOf_37 : decode cX3_coldOf 37 = .ok (.iaload, 1) := by decide +kernel
theorem dX3_coldOf_38 : decode cX3_coldOf 38 = .ok (.iadd, 1) := by decide +kernel
theorem dX3_coldOf_39 : decode cX3_coldOf 39 = .ok (.istore_n 2, 1) := by decide +kernel
theorem dX3_coldOf_40 : decode cX3_coldOf 40 = .ok (.iinc 3 1, 3) := by decide +kernel
theorem dX3_coldOf_43 : decode cX3_coldOf 43 = .ok (.goto (-39), 3) := by decide +kernel
theorem dX3_coldOf_46 : decode cX3_coldOf 46 = .ok (.iload_n 2, 1) := by decide +kernel
theorem dX3_coldOf_47 : decode cX3_coldOf 47 = .ok (.ireturn, 1) := by decide +kernel
theorem dX4_init_0 : decode cX4_init 0 = .ok (.aload_n 0, 1) := by decide +kernel
theorem dX4_init_1 : decode cX4_init 1 = .ok (.invokespecial 3, 3) := by decide +kernel
theorem dX4_init_4 : decode cX4_init 4 = .ok (.return_, 1) := by decide +kernel
theorem dX4_latestBreaks_0 : decode cX4_latestBreaks 0 = .ok (.aload_n 0, 1) := by decide +kernel
theorem dX4_latestBreaks_1 : decode cX4_latestBreaks 1 = .ok (.getfield 9, 3) := by decide +kernel
theorem dX4_latestBreaks_4 : decode cX4_latestBreaks 4 = .ok (.ifCond .le 19, 3) := by decide +kernel
theorem dX4_latestBreaks_7 : decode cX4_latestBreaks 7 = .ok (.aload_n 0, 1) := by decide +kernel
theorem dX4_latestBreaks_8 : decode cX4_latestBreaks 8 = .ok (.getfield 15, 3) := by decide +kernel
theorem dX4_latestBreaks_11 : decode cX4_latestBreaks 11 = .ok (.aload_n 0, 1) := by decide +kernel
theorem dX4_latestBreaks_12 : decode cX4_latestBreaks 12 = .ok (.getfield 9, 3) := by decide +kernel
theorem dX4_latestBreaks_15 : decode cX4_latestBreaks 15 = .ok (.irem, 1) := by decide +kernel
theorem dX4_latestBreaks_16 : decode cX4_latestBreaks 16 = .ok (.ifCond .ne 7, 3) := by decide +kernel
theorem dX4_latestBreaks_19 : decode cX4_latestBreaks 19 = .ok (.iconst 1, 1) := by decide +kernel
theorem dX4_latestBreaks_20 : decode cX4_latestBreaks 20 = .ok (.goto 4, 3) := by decide +kernel
theorem dX4_latestBreaks_23 : decode cX4_latestBreaks 23 = .ok (.iconst 0, 1) := by decide +kernel
theorem dX4_latestBreaks_24 : decode cX4_latestBreaks 24 = .ok (.ireturn, 1) := by decide +kernel
theorem dX4_suits_0 : decode cX4_suits 0 = .ok (.aload_n 0, 1) := by decide +kernel
theorem dX4_suits_1 : decode cX4_suits 1 = .ok (.getfield 18, 3) := by decide +kernel
theorem dX4_suits_4 : decode cX4_suits 4 = .ok (.ifCond .eq 23, 3) := by decide +kernel
theorem dX4_suits_7 : decode cX4_suits 7 = .ok (.aload_n 0, 1) := by decide +kernel
theorem dX4_suits_8 : decode cX4_suits 8 = .ok (.getfield 22, 3) := by decide +kernel
theorem dX4_suits_11 : decode cX4_suits 11 = .ok (.iconst (-1), 1) := by decide +kernel
theorem dX4_suits_12 : decode cX4_suits 12 = .ok (.if_icmp .eq 11, 3) := by decide +kernel
theorem dX4_suits_15 : decode cX4_suits 15 = .ok (.aload_n 0, 1) := by decide +kernel
theorem dX4_suits_16 : decode cX4_suits 16 = .ok (.getfield 22, 3) := by decide +kernel
theorem dX4_suits_19 : decode cX4_suits 19 = .ok (.iload_n 1, 1) := by decide +kernel
theorem dX4_suits_20 : decode cX4_suits 20 = .ok (.if_icmp .ne 7, 3) := by decide +kernel
theorem dX4_suits_23 : decode cX4_suits 23 = .ok (.iconst 1, 1) := by decide +kernel
theorem dX4_suits_24 : decode cX4_suits 24 = .ok (.goto 4, 3) := by decide +kernel
theorem dX4_suits_27 : decode cX4_suits 27 = .ok (.iconst 0, 1) := by decide +kernel
theorem dX4_suits_28 : decode cX4_suits 28 = .ok (.ireturn, 1) := by decide +kernel
theorem dX5_init_0 : decode cX5_init 0 = .ok (.aload_n 0, 1) := by decide +kernel
theorem dX5_init_1 : decode cX5_init 1 = .ok (.invokespecial 3, 3) := by decide +kernel
theorem dX5_init_4 : decode cX5_init 4 = .ok (.aload_n 0, 1) := by decide +kernel
theorem dX5_init_5 : decode cX5_init 5 = .ok (.bipush 50, 2) := by decide +kernel
theorem dX5_init_7 : decode cX5_init 7 = .ok (.newarray .int, 2) := by decide +kernel
theorem dX5_init_9 : decode cX5_init 9 = .ok (.putfield 9, 3) := by decide +kernel
theorem dX5_init_12 : decode cX5_init 12 = .ok (.aload_n 0, 1) := by decide +kernel
theorem dX5_init_13 : decode cX5_init 13 = .ok (.bipush 25, 2) := by decide +kernel
theorem dX5_init_15 : decode cX5_init 15 = .ok (.newarray .int, 2) := by decide +kernel
theorem dX5_init_17 : decode cX5_init 17 = .ok (.putfield 15, 3) := by decide +kernel
theorem dX5_init_20 : decode cX5_init 20 = .ok (.aload_n 0, 1) := by decide +kernel
theorem dX5_init_21 : decode cX5_init 21 = .ok (.bipush 50, 2) := by decide +kernel
theorem dX5_init_23 : decode cX5_init 23 = .ok (.newarray .int, 2) := by decide +kernel
theorem dX5_init_25 : decode cX5_init 25 = .ok (.putfield 18, 3) := by decide +kernel
theorem dX5_init_28 : decode cX5_init 28 = .ok (.aload_n 0, 1) := by decide +kernel
theorem dX5_init_29 : decode cX5_init 29 = .ok (.bipush 10, 2) := by decide +kernel
theorem dX5_init_31 : decode cX5_init 31 = .ok (.newarray .int, 2) := by decide +kernel
theorem dX5_init_33 : decode cX5_init 33 = .ok (.putfield 21, 3) := by decide +kernel
theorem dX5_init_36 : decode cX5_init 36 = .ok (.return_, 1) := by decide +kernel
theorem dX5_plan_0 : decode cX5_plan 0 = .ok (.iload_n 2, 1) := by decide +kernel
theorem dX5_plan_1 : decode cX5_plan 1 = .ok (.iconst 1, 1) := by decide +kernel
theorem dX5_plan_2 : decode cX5_plan 2 = .ok (.isub, 1) := by decide +kernel
theorem dX5_plan_3 : decode cX5_plan 3 = .ok (.istore_n 3, 1) := by decide +kernel
theorem dX5_plan_4 : decode cX5_plan 4 = .ok (.iload_n 3, 1) := by decide +kernel
theorem dX5_plan_5 : decode cX5_plan 5 = .ok (.ifCond .lt 80, 3) := by decide +kernel
theorem dX5_plan_8 : decode cX5_plan 8 = .ok (.iconst 0, 1) := by decide +kernel
theorem dX5_plan_9 : decode cX5_plan 9 = .ok (.istore 4, 2) := by decide +kernel
theorem dX5_plan_11 : decode cX5_plan 11 = .ok (.iload 4, 2) := by decide +kernel
theorem dX5_plan_13 : decode cX5_plan 13 = .ok (.iconst 5, 1) := by decide +kernel
theorem dX5_plan_14 : decode cX5_plan 14 = .ok (.if_icmp .ge 65, 3) := by decide +kernel
theorem dX5_plan_17 : decode cX5_plan 17 = .ok (.iload_n 3, 1) := by decide +kernel
theorem dX5_plan_18 : decode cX5_plan 18 = .ok (.iconst 1, 1) := by decide +kernel
theorem dX5_plan_19 : decode cX5_plan 19 = .ok (.iadd, 1) := by decide +kernel
theorem dX5_plan_20 : decode cX5_plan 20 = .ok (.iload_n 2, 1) := by decide +kernel
theorem dX5_plan_21 : decode cX5_plan 21 = .ok (.if_icmp .ge 24, 3) := by decide +kernel
theorem dX5_plan_24 : decode cX5_plan 24 = .ok (.aload_n 0, 1) := by decide +kernel
theorem dX5_plan_25 : decode cX5_plan 25 = .ok (.iload 4, 2) := by decide +kernel
theorem dX5_plan_27 : decode cX5_plan 27 = .ok (.iload_n 3, 1) := by decide +kernel
theorem dX5_plan_28 : decode cX5_plan 28 = .ok (.iconst 1, 1) := by decide +kernel
theorem dX5_plan_29 : decode cX5_plan 29 = .ok (.iadd, 1) := by decide +kernel
theorem dX5_plan_30 : decode cX5_plan 30 = .ok (.aload_n 0, 1) := by decide +kernel
theorem dX5_plan_31 : decode cX5_plan 31 = .ok (.iload 4, 2) := by decide +kernel
theorem dX5_plan_33 : decode cX5_plan 33 = .ok (.iload_n 3, 1) := by decide +kernel
theorem dX5_plan_34 : decode cX5_plan 34 = .ok (.iconst 1, 1) := by decide +kernel
theorem dX5_plan_35 : decode cX5_plan 35 = .ok (.iadd, 1) := by decide +kernel
theorem dX5_plan_36 : decode cX5_plan 36 = .ok (.invokevirtual 24, 3) := by decide +kernel
theorem dX5_plan_39 : decode cX5_plan 39 = .ok (.invokevirtual 28, 3) := by decide +kernel
theorem dX5_plan_42 : decode cX5_plan 42 = .ok (.goto 4, 3) := by decide +kernel
theorem dX5_plan_45 : decode cX5_plan 45 = .ok (.iconst 0, 1) := by decide +kernel
theorem dX5_plan_46 : decode cX5_plan 46 = .ok (.istore 5, 2) := by decide +kernel
theorem dX5_plan_48 : decode cX5_plan 48 = .ok (.aload_n 0, 1) := by decide +kernel
theorem dX5_plan_49 : decode cX5_plan 49 = .ok (.getfield 18, 3) := by decide +kernel
theorem dX5_plan_52 : decode cX5_plan 52 = .ok (.iload_n 3, 1) := by decide +kernel
theorem dX5_plan_53 : decode cX5_plan 53 = .ok (.iconst 5, 1) := by decide +kernel
theorem dX5_plan_54 : decode cX5_plan 54 = .ok (.imul, 1) := by decide +kernel
theorem dX5_plan_55 : decode cX5_plan 55 = .ok (.iload 4, 2) := by decide +kernel
theorem dX5_plan_57 : decode cX5_plan 57 = .ok (.iadd, 1) := by decide +kernel
theorem dX5_plan_58 : decode cX5_plan 58 = .ok (.aload_n 0, 1) := by decide +kernel
theorem dX5_plan_59 : decode cX5_plan 59 = .ok (.getfield 9, 3) := by decide +kernel
theorem dX5_plan_62 : decode cX5_plan 62 = .ok (.iload_n 3, 1) := by decide +kernel
theorem dX5_plan_63 : decode cX5_plan 63 = .ok (.iconst 5, 1) := by decide +kernel
theorem dX5_plan_64 : decode cX5_plan 64 = .ok (.imul, 1) := by decide +kernel
theorem dX5_plan_65 : decode cX5_plan 65 = .ok (.iload 4, 2) := by decide +kernel
theorem dX5_plan_67 : decode cX5_plan 67 = .ok (.iadd, 1) := by decide +kernel
theorem dX5_plan_68 : decode cX5_plan 68 = .ok (.iaload, 1) := by decide +kernel
theorem dX5_plan_69 : decode cX5_plan 69 = .ok (.iload 5, 2) := by decide +kernel
theorem dX5_plan_71 : decode cX5_plan 71 = .ok (.iadd, 1) := by decide +kernel
theorem dX5_plan_72 : decode cX5_plan 72 = .ok (.iastore, 1) := by decide +kernel
theorem dX5_plan_73 : decode cX5_plan 73 = .ok (.iinc 4 1, 3) := by decide +kernel
theorem dX5_plan_76 : decode cX5_plan 76 = .ok (.goto (-65), 3) := by decide +kernel
theorem dX5_plan_79 : decode cX5_plan 79 = .ok (.iinc 3 (-1), 3) := by decide +kernel
theorem dX5_plan_82 : decode cX5_plan 82 = .ok (.goto (-78), 3) := by decide +kernel
theorem dX5_plan_85 : decode cX5_plan 85 = .ok (.aload_n 0, 1) := by decide +kernel
theorem dX5_plan_86 : decode cX5_plan 86 = .ok (.iload_n 2, 1) := by decide +kernel
theorem dX5_plan_87 : decode cX5_plan 87 = .ok (.putfield 32, 3) := by decide +kernel
theorem dX5_plan_90 : decode cX5_plan 90 = .ok (.iload_n 1, 1) := by decide +kernel
theorem dX5_plan_91 : decode cX5_plan 91 = .ok (.istore_n 3, 1) := by decide +kernel
theorem dX5_plan_92 : decode cX5_plan 92 = .ok (.iconst 0, 1) := by decide +kernel
theorem dX5_plan_93 : decode cX5_plan 93 = .ok (.istore 4, 2) := by decide +kernel
theorem dX5_plan_95 : decode cX5_plan 95 = .ok (.iload 4, 2) := by decide +kernel
theorem dX5_plan_97 : decode cX5_plan 97 = .ok (.iload_n 2, 1) := by decide +kernel
theorem dX5_plan_98 : decode cX5_plan 98 = .ok (.if_icmp .ge 25, 3) := by decide +kernel
theorem dX5_plan_101 : decode cX5_plan 101 = .ok (.aload_n 0, 1) := by decide +kernel
theorem dX5_plan_102 : decode cX5_plan 102 = .ok (.iload_n 3, 1) := by decide +kernel
theorem dX5_plan_103 : decode cX5_plan 103 = .ok (.iload 4, 2) := by decide +kernel
theorem dX5_plan_105 : decode cX5_plan 105 = .ok (.invokevirtual 24, 3) := by decide +kernel
theorem dX5_plan_108 : decode cX5_plan 108 = .ok (.istore_n 3, 1) := by decide +kernel
theorem dX5_plan_109 : decode cX5_plan 109 = .ok (.aload_n 0, 1) := by decide +kernel
theorem dX5_plan_110 : decode cX5_plan 110 = .ok (.getfield 21, 3) := by decide +kernel
theorem dX5_plan_113 : decode cX5_plan 113 = .ok (.iload 4, 2) := by decide +kernel
theorem dX5_plan_115 : decode cX5_plan 115 = .ok (.iload_n 3, 1) := by decide +kernel
theorem dX5_plan_116 : decode cX5_plan 116 = .ok (.iastore, 1) := by decide +kernel
theorem dX5_plan_117 : decode cX5_plan 117 = .ok (.iinc 4 1, 3) := by decide +kernel
theorem dX5_plan_120 : decode cX5_plan 120 = .ok (.goto (-25), 3) := by decide +kernel
theorem dX5_plan_123 : decode cX5_plan 123 = .ok (.aload_n 0, 1) := by decide +kernel
theorem dX5_plan_124 : decode cX5_plan 124 = .ok (.iload_n 1, 1) := by decide +kernel
theorem dX5_plan_125 : decode cX5_plan 125 = .ok (.iconst 0, 1) := by decide +kernel
theorem dX5_plan_126 : decode cX5_plan 126 = .ok (.aload_n 0, 1) := by decide +kernel
theorem dX5_plan_127 : decode cX5_plan 127 = .ok (.getfield 21, 3) := by decide +kernel
theorem dX5_plan_130 : decode cX5_plan 130 = .ok (.iconst 0, 1) := by decide +kernel
theorem dX5_plan_131 : decode cX5_plan 131 = .ok (.iaload, 1) := by decide +kernel
theorem dX5_plan_132 : decode cX5_plan 132 = .ok (.invokevirtual 28, 3) := by decide +kernel
theorem dX5_plan_135 : decode cX5_plan 135 = .ok (.ireturn, 1) := by decide +kernel
theorem dX5_nextSite_0 : decode cX5_nextSite 0 = .ok (.iconst 0, 1) := by decide +kernel
theorem dX5_nextSite_1 : decode cX5_nextSite 1 = .ok (.istore_n 3, 1) := by decide +kernel
theorem dX5_nextSite_2 : decode cX5_nextSite 2 = .ok (.iconst 1, 1) := by decide +kernel
theorem dX5_nextSite_3 : decode cX5_nextSite 3 = .ok (.istore 4, 2) := by decide +kernel
theorem dX5_nextSite_5 : decode cX5_nextSite 5 = .ok (.iload 4, 2) := by decide +kernel
theorem dX5_nextSite_7 : decode cX5_nextSite 7 = .ok (.iconst 5, 1) := by decide +kernel
theorem dX5_nextSite_8 : decode cX5_nextSite 8 = .ok (.if_icmp .ge 30, 3) := by decide +kernel
theorem dX5_nextSite_11 : decode cX5_nextSite 11 = .ok (.aload_n 0, 1) := by decide +kernel
theorem dX5_nextSite_12 : decode cX5_nextSite 12 = .ok (.iload_n 1, 1) := by decide +kernel
theorem dX5_nextSite_13 : decode cX5_nextSite 13 = .ok (.iload_n 2, 1) := by decide +kernel
theorem dX5_nextSite_14 : decode cX5_nextSite 14 = .ok (.iload 4, 2) := by decide +kernel
theorem dX5_nextSite_16 : decode cX5_nextSite 16 = .ok (.invokevirtual 28, 3) := by decide +kernel
theorem dX5_nextSite_19 : decode cX5_nextSite 19 = .ok (.aload_n 0, 1) := by decide +kernel
theorem dX5_nextSite_20 : decode cX5_nextSite 20 = .ok (.iload_n 1, 1) := by decide +kernel
theorem dX5_nextSite_21 : decode cX5_nextSite 21 = .ok (.iload_n 2, 1) := by decide +kernel
theorem dX5_nextSite_22 : decode cX5_nextSite 22 = .ok (.iload_n 3, 1) := by decide +kernel
theorem dX5_nextSite_23 : decode cX5_nextSite 23 = .ok (.invokevirtual 28, 3) := by decide +kernel
theorem dX5_nextSite_26 : decode cX5_nextSite 26 = .ok (.if_icmp .ge 6, 3) := by decide +kernel
theorem dX5_nextSite_29 : decode cX5_nextSite 29 = .ok (.iload 4, 2) := by decide +kernel
theorem dX5_nextSite_31 : decode cX5_nextSite 31 = .ok (.istore_n 3, 1) := by decide +kernel
theorem dX5_nextSite_32 : decode cX5_nextSite 32 = .ok (.iinc 4 1, 3) := by decide +kernel
theorem dX5_nextSite_35 : decode cX5_nextSite 35 = .ok (.goto (-30), 3) := by decide +kernel
theorem dX5_nextSite_38 : decode cX5_nextSite 38 = .ok (.iload_n 3, 1) := by decide +kernel
theorem dX5_nextSite_39 : decode cX5_nextSite 39 = .ok (.ireturn, 1) := by decide +kernel
theorem dX5_sumBy_0 : decode cX5_sumBy 0 = .ok (.aload_n 0, 1) := by decide +kernel
theorem dX5_sumBy_1 : decode cX5_sumBy 1 = .ok (.getfield 15, 3) := by decide +kernel
theorem dX5_sumBy_4 : decode cX5_sumBy 4 = .ok (.iload_n 1, 1) := by decide +kernel
theorem dX5_sumBy_5 : decode cX5_sumBy 5 = .ok (.iconst 5, 1) := by decide +kernel
theorem dX5_sumBy_6 : decode cX5_sumBy 6 = .ok (.imul, 1) := by decide +kernel
theorem dX5_sumBy_7 : decode cX5_sumBy 7 = .ok (.iload_n 3, 1) := by decide +kernel
theorem dX5_sumBy_8 : decode cX5_sumBy 8 = .ok (.iadd, 1) := by decide +kernel
theorem dX5_sumBy_9 : decode cX5_sumBy 9 = .ok (.iaload, 1) := by decide +kernel
theorem dX5_sumBy_10 : decode cX5_sumBy 10 = .ok (.aload_n 0, 1) := by decide +kernel
theorem dX5_sumBy_11 : decode cX5_sumBy 11 = .ok (.getfield 18, 3) := by decide +kernel
theorem dX5_sumBy_14 : decode cX5_sumBy 14 = .ok (.iload_n 2, 1) := by decide +kernel
theorem dX5_sumBy_15 : decode cX5_sumBy 15 = .ok (.iconst 5, 1) := by decide +kernel
theorem dX5_sumBy_16 : decode cX5_sumBy 16 = .ok (.imul, 1) := by decide +kernel
theorem dX5_sumBy_17 : decode cX5_sumBy 17 = .ok (.iload_n 3, 1) := by decide +kernel
theorem dX5_sumBy_18 : decode cX5_sumBy 18 = .ok (.iadd, 1) := by decide +kernel
theorem dX5_sumBy_19 : decode cX5_sumBy 19 = .ok (.iaload, 1) := by decide +kernel
theorem dX5_sumBy_20 : decode cX5_sumBy 20 = .ok (.iadd, 1) := by decide +kernel
theorem dX5_sumBy_21 : decode cX5_sumBy 21 = .ok (.ireturn, 1) := by decide +kernel
theorem dX6_init_0 : decode cX6_init 0 = .ok (.aload_n 0, 1) := by decide +kernel
theorem dX6_init_1 : decode cX6_init 1 = .ok (.invokespecial 3, 3) := by decide +kernel
theorem dX6_init_4 : decode cX6_init 4 = .ok (.aload_n 0, 1) := by decide +kernel
theorem dX6_init_5 : decode cX6_init 5 = .ok (.iconst 0, 1) := by decide +kernel
theorem dX6_init_6 : decode cX6_init 6 = .ok (.putfield 11, 3) := by decide +kernel
theorem dX6_init_9 : decode cX6_init 9 = .ok (.aload_n 0, 1) := by decide +kernel
theorem dX6_init_10 : decode cX6_init 10 = .ok (.iconst (-1), 1) := by decide +kernel
theorem dX6_init_11 : decode cX6_init 11 = .ok (.putfield 15, 3) := by decide +kernel
theorem dX6_init_14 : decode cX6_init 14 = .ok (.aload_n 0, 1) := by decide +kernel
theorem dX6_init_15 : decode cX6_init 15 = .ok (.iload_n 1, 1) := by decide +kernel
theorem dX6_init_16 : decode cX6_init 16 = .ok (.putfield 18, 3) := by decide +kernel
theorem dX6_init_19 : decode cX6_init 19 = .ok (.aload_n 0, 1) := by decide +kernel
theorem dX6_init_20 : decode cX6_init 20 = .ok (.iload_n 2, 1) := by decide +kernel
theorem dX6_init_21 : decode cX6_init 21 = .ok (.putfield 21, 3) := by decide +kernel
theorem dX6_init_24 : decode cX6_init 24 = .ok (.aload_n 0, 1) := by decide +kernel
theorem dX6_init_25 : decode cX6_init 25 = .ok (.iload_n 3, 1) := by decide +kernel
theorem dX6_init_26 : decode cX6_init 26 = .ok (.putfield 24, 3) := by decide +kernel
theorem dX6_init_29 : decode cX6_init 29 = .ok (.aload_n 0, 1) := by decide +kernel
theorem dX6_init_30 : decode cX6_init 30 = .ok (.iload 4, 2) := by decide +kernel
theorem dX6_init_32 : decode cX6_init 32 = .ok (.putfield 27, 3) := by decide +kernel
theorem dX6_init_35 : decode cX6_init 35 = .ok (.aload_n 0, 1) := by decide +kernel
theorem dX6_init_36 : decode cX6_init 36 = .ok (.aload 5, 2) := by decide +kernel
theorem dX6_init_38 : decode cX6_init 38 = .ok (.getfield 30, 3) := by decide +kernel
theorem dX6_init_41 : decode cX6_init 41 = .ok (.putfield 35, 3) := by decide +kernel
theorem dX6_init_44 : decode cX6_init 44 = .ok (.aload_n 0, 1) := by decide +kernel
theorem dX6_init_45 : decode cX6_init 45 = .ok (.aload 5, 2) := by decide +kernel
theorem dX6_init_47 : decode cX6_init 47 = .ok (.getfield 36, 3) := by decide +kernel
theorem dX6_init_50 : decode cX6_init 50 = .ok (.putfield 39, 3) := by decide +kernel
theorem dX6_init_53 : decode cX6_init 53 = .ok (.return_, 1) := by decide +kernel
theorem dX6_tell_0 : decode cX6_tell 0 = .ok (.iload_n 1, 1) := by decide +kernel
theorem dX6_tell_1 : decode cX6_tell 1 = .ok (.tableswitch 78 0 6 #[43, 48, 53, 58, 63, 68, 73], 43) := by decide +kernel
theorem dX6_tell_44 : decode cX6_tell 44 = .ok (.aload_n 0, 1) := by decide +kernel
theorem dX6_tell_45 : decode cX6_tell 45 = .ok (.getfield 18, 3) := by decide +kernel
theorem dX6_tell_48 : decode cX6_tell 48 = .ok (.ireturn, 1) := by decide +kernel
theorem dX6_tell_49 : decode cX6_tell 49 = .ok (.aload_n 0, 1) := by decide +kernel
theorem dX6_tell_50 : decode cX6_tell 50 = .ok (.getfield 21, 3) := by decide +kernel
theorem dX6_tell_53 : decode cX6_tell 53 = .ok (.ireturn, 1) := by decide +kernel
theorem dX6_tell_54 : decode cX6_tell 54 = .ok (.aload_n 0, 1) := by decide +kernel
theorem dX6_tell_55 : decode cX6_tell 55 = .ok (.getfield 24, 3) := by decide +kernel
theorem dX6_tell_58 : decode cX6_tell 58 = .ok (.ireturn, 1) := by decide +kernel
theorem dX6_tell_59 : decode cX6_tell 59 = .ok (.aload_n 0, 1) := by decide +kernel
theorem dX6_tell_60 : decode cX6_tell 60 = .ok (.getfield 27, 3) := by decide +kernel
theorem dX6_tell_63 : decode cX6_tell 63 = .ok (.ireturn, 1) := by decide +kernel
theorem dX6_tell_64 : decode cX6_tell 64 = .ok (.aload_n 0, 1) := by decide +kernel
theorem dX6_tell_65 : decode cX6_tell 65 = .ok (.getfield 11, 3) := by decide +kernel
theorem dX6_tell_68 : decode cX6_tell 68 = .ok (.ireturn, 1) := by decide +kernel
theorem dX6_tell_69 : decode cX6_tell 69 = .ok (.aload_n 0, 1) := by decide +kernel
theorem dX6_tell_70 : decode cX6_tell 70 = .ok (.getfield 15, 3) := by decide +kernel
theorem dX6_tell_73 : decode cX6_tell 73 = .ok (.ireturn, 1) := by decide +kernel
theorem dX6_tell_74 : decode cX6_tell 74 = .ok (.aload_n 0, 1) := by decide +kernel
theorem dX6_tell_75 : decode cX6_tell 75 = .ok (.getfield 40, 3) := by decide +kernel
theorem dX6_tell_78 : decode cX6_tell 78 = .ok (.ireturn, 1) := by decide +kernel
theorem dX6_tell_79 : decode cX6_tell 79 = .ok (.iconst (-1), 1) := by decide +kernel
theorem dX6_tell_80 : decode cX6_tell 80 = .ok (.ireturn, 1) := by decide +kernel
theorem dX7_init_0 : decode cX7_init 0 = .ok (.aload_n 0, 1) := by decide +kernel
theorem dX7_init_1 : decode cX7_init 1 = .ok (.invokespecial 3, 3) := by decide +kernel
theorem dX7_init_4 : decode cX7_init 4 = .ok (.aload_n 0, 1) := by decide +kernel
theorem dX7_init_5 : decode cX7_init 5 = .ok (.iconst (-1), 1) := by decide +kernel
theorem dX7_init_6 : decode cX7_init 6 = .ok (.putfield 9, 3) := by decide +kernel
theorem dX7_init_9 : decode cX7_init 9 = .ok (.aload_n 0, 1) := by decide +kernel
theorem dX7_init_10 : decode cX7_init 10 = .ok (.iconst (-1), 1) := by decide +kernel
theorem dX7_init_11 : decode cX7_init 11 = .ok (.putfield 15, 3) := by decide +kernel
theorem dX7_init_14 : decode cX7_init 14 = .ok (.return_, 1) := by decide +kernel
theorem dX7_isEmpty_0 : decode cX7_isEmpty 0 = .ok (.aload_n 0, 1) := by decide +kernel
theorem dX7_isEmpty_1 : decode cX7_isEmpty 1 = .ok (.getfield 9, 3) := by decide +kernel
theorem dX7_isEmpty_4 : decode cX7_isEmpty 4 = .ok (.iconst (-1), 1) := by decide +kernel
theorem dX7_isEmpty_5 : decode cX7_isEmpty 5 = .ok (.if_icmp .ne 7, 3) := by decide +kernel
theorem dX7_isEmpty_8 : decode cX7_isEmpty 8 = .ok (.iconst 1, 1) := by decide +kernel
theorem dX7_isEmpty_9 : decode cX7_isEmpty 9 = .ok (.goto 4, 3) := by decide +kernel
theorem dX7_isEmpty_12 : decode cX7_isEmpty 12 = .ok (.iconst 0, 1) := by decide +kernel
theorem dX7_isEmpty_13 : decode cX7_isEmpty 13 = .ok (.ireturn, 1) := by decide +kernel
theorem dX7_isReady_0 : decode cX7_isReady 0 = .ok (.aload_n 0, 1) := by decide +kernel
theorem dX7_isReady_1 : decode cX7_isReady 1 = .ok (.invokevirtual 18, 3) := by decide +kernel
theorem dX7_isReady_4 : decode cX7_isReady 4 = .ok (.ifCond .ne 18, 3) := by decide +kernel
theorem dX7_isReady_7 : decode cX7_isReady 7 = .ok (.aload_n 0, 1) := by decide +kernel
theorem dX7_isReady_8 : decode cX7_isReady 8 = .ok (.getfield 22, 3) := by decide +kernel
theorem dX7_isReady_11 : decode cX7_isReady 11 = .ok (.aload_n 0, 1) := by decide +kernel
theorem dX7_isReady_12 : decode cX7_isReady 12 = .ok (.getfield 25, 3) := by decide +kernel
theorem dX7_isReady_15 : decode cX7_isReady 15 = .ok (.if_icmp .lt 7, 3) := by decide +kernel
theorem dX7_isReady_18 : decode cX7_isReady 18 = .ok (.iconst 1, 1) := by decide +kernel
theorem dX7_isReady_19 : decode cX7_isReady 19 = .ok (.goto 4, 3) := by decide +kernel
theorem dX7_isReady_22 : decode cX7_isReady 22 = .ok (.iconst 0, 1) := by decide +kernel
theorem dX7_isReady_23 : decode cX7_isReady 23 = .ok (.ireturn, 1) := by decide +kernel
theorem dX7_fill_0 : decode cX7_fill 0 = .ok (.iload_n 2, 1) := by decide +kernel
theorem dX7_fill_1 : decode cX7_fill 1 = .ok (.iload_n 3, 1) := by decide +kernel
theorem dX7_fill_2 : decode cX7_fill 2 = .ok (.iadd, 1) := by decide +kernel
theorem dX7_fill_3 : decode cX7_fill 3 = .ok (.iload 4, 2) := by decide +kernel
theorem dX7_fill_5 : decode cX7_fill 5 = .ok (.iadd, 1) := by decide +kernel
theorem dX7_fill_6 : decode cX7_fill 6 = .ok (.istore 5, 2) := by decide +kernel
theorem dX7_fill_8 : decode cX7_fill 8 = .ok (.aload_n 0, 1) := by decide +kernel
theorem dX7_fill_9 : decode cX7_fill 9 = .ok (.iload_n 1, 1) := by decide +kernel
theorem dX7_fill_10 : decode cX7_fill 10 = .ok (.putfield 9, 3) := by decide +kernel
theorem dX7_fill_13 : decode cX7_fill 13 = .ok (.aload_n 0, 1) := by decide +kernel
theorem dX7_fill_14 : decode cX7_fill 14 = .ok (.iload_n 2, 1) := by decide +kernel
theorem dX7_fill_15 : decode cX7_fill 15 = .ok (.iload_n 3, 1) := by decide +kernel
theorem dX7_fill_16 : decode cX7_fill 16 = .ok (.iconst 2, 1) := by decide +kernel
theorem dX7_fill_17 : decode cX7_fill 17 = .ok (.idiv, 1) := by decide +kernel
theorem dX7_fill_18 : decode cX7_fill 18 = .ok (.iadd, 1) := by decide +kernel
theorem dX7_fill_19 : decode cX7_fill 19 = .ok (.iload 4, 2) := by decide +kernel
theorem dX7_fill_21 : decode cX7_fill 21 = .ok (.iadd, 1) := by decide +kernel
theorem dX7_fill_22 : decode cX7_fill 22 = .ok (.putfield 28, 3) := by decide +kernel
theorem dX7_fill_25 : decode cX7_fill 25 = .ok (.aload_n 0, 1) := by decide +kernel
theorem dX7_fill_26 : decode cX7_fill 26 = .ok (.iconst 0, 1) := by decide +kernel
theorem dX7_fill_27 : decode cX7_fill 27 = .ok (.putfield 22, 3) := by decide +kernel
theorem dX7_fill_30 : decode cX7_fill 30 = .ok (.aload_n 0, 1) := by decide +kernel
theorem dX7_fill_31 : decode cX7_fill 31 = .ok (.iload 5, 2) := by decide +kernel
theorem dX7_fill_33 : decode cX7_fill 33 = .ok (.ifCond .le 24, 3) := by decide +kernel
theorem dX7_fill_36 : decode cX7_fill 36 = .ok (.bipush 60, 2) := by decide +kernel
theorem dX7_fill_38 : decode cX7_fill 38 = .ok (.iload_n 2, 1) := by decide +kernel
theorem dX7_fill_39 : decode cX7_fill 39 = .ok (.imul, 1) := by decide +kernel
theorem dX7_fill_40 : decode cX7_fill 40 = .ok (.bipush 10, 2) := by decide +kernel
theorem dX7_fill_42 : decode cX7_fill 42 = .ok (.iload_n 3, 1) := by decide +kernel
theorem dX7_fill_43 : decode cX7_fill 43 = .ok (.imul, 1) := by decide +kernel
theorem dX7_fill_44 : decode cX7_fill 44 = .ok (.iadd, 1) := by decide +kernel
theorem dX7_fill_45 : decode cX7_fill 45 = .ok (.bipush 20, 2) := by decide +kernel
theorem dX7_fill_47 : decode cX7_fill 47 = .ok (.iload 4, 2) := by decide +kernel
theorem dX7_fill_49 : decode cX7_fill 49 = .ok (.imul, 1) := by decide +kernel
theorem dX7_fill_50 : decode cX7_fill 50 = .ok (.iadd, 1) := by decide +kernel
theorem dX7_fill_51 : decode cX7_fill 51 = .ok (.iload 5, 2) := by decide +kernel
theorem dX7_fill_53 : decode cX7_fill 53 = .ok (.idiv, 1) := by decide +kernel
theorem dX7_fill_54 : decode cX7_fill 54 = .ok (.goto 4, 3) := by decide +kernel
theorem dX7_fill_57 : decode cX7_fill 57 = .ok (.iconst 0, 1) := by decide +kernel
theorem dX7_fill_58 : decode cX7_fill 58 = .ok (.putfield 25, 3) := by decide +kernel
theorem dX7_fill_61 : decode cX7_fill 61 = .ok (.return_, 1) := by decide +kernel
theorem dX7_clear_0 : decode cX7_clear 0 = .ok (.aload_n 0, 1) := by decide +kernel
theorem dX7_clear_1 : decode cX7_clear 1 = .ok (.iconst (-1), 1) := by decide +kernel
theorem dX7_clear_2 : decode cX7_clear 2 = .ok (.putfield 9, 3) := by decide +kernel
theorem dX7_clear_5 : decode cX7_clear 5 = .ok (.aload_n 0, 1) := by decide +kernel
theorem dX7_clear_6 : decode cX7_clear 6 = .ok (.iconst 0, 1) := by decide +kernel
theorem dX7_clear_7 : decode cX7_clear 7 = .ok (.putfield 28, 3) := by decide +kernel
theorem dX7_clear_10 : decode cX7_clear 10 = .ok (.return_, 1) := by decide +kernel
theorem dX7_melt_0 : decode cX7_melt 0 = .ok (.aload_n 0, 1) := by decide +kernel
theorem dX7_melt_1 : decode cX7_melt 1 = .ok (.invokevirtual 18, 3) := by decide +kernel
theorem dX7_melt_4 : decode cX7_melt 4 = .ok (.ifCond .eq 4, 3) := by decide +kernel
theorem dX7_melt_7 : decode cX7_melt 7 = .ok (.return_, 1) := by decide +kernel
theorem dX7_melt_8 : decode cX7_melt 8 = .ok (.iload_n 1, 1) := by decide +kernel
theorem dX7_melt_9 : decode cX7_melt 9 = .ok (.sipush 1100, 3) := by decide +kernel
theorem dX7_melt_12 : decode cX7_melt 12 = .ok (.if_icmp .lt 27, 3) := by decide +kernel
theorem dX7_melt_15 : decode cX7_melt 15 = .ok (.aload_n 0, 1) := by decide +kernel
theorem dX7_melt_16 : decode cX7_melt 16 = .ok (.dup, 1) := by decide +kernel
theorem dX7_melt_17 : decode cX7_melt 17 = .ok (.getfield 22, 3) := by decide +kernel
theorem dX7_melt_20 : decode cX7_melt 20 = .ok (.iload_n 1, 1) := by decide +kernel
theorem dX7_melt_21 : decode cX7_melt 21 = .ok (.sipush 1300, 3) := by decide +kernel
theorem dX7_melt_24 : decode cX7_melt 24 = .ok (.if_icmp .lt 7, 3) := by decide +kernel
theorem dX7_melt_27 : decode cX7_melt 27 = .ok (.iconst 3, 1) := by decide +kernel
theorem dX7_melt_28 : decode cX7_melt 28 = .ok (.goto 4, 3) := by decide +kernel
theorem dX7_melt_31 : decode cX7_melt 31 = .ok (.iconst 2, 1) := by decide +kernel
theorem dX7_melt_32 : decode cX7_melt 32 = .ok (.iadd, 1) := by decide +kernel
theorem dX7_melt_33 : decode cX7_melt 33 = .ok (.putfield 22, 3) := by decide +kernel
theorem dX7_melt_36 : decode cX7_melt 36 = .ok (.goto 31, 3) := by decide +kernel
theorem dX7_melt_39 : decode cX7_melt 39 = .ok (.iload_n 1, 1) := by decide +kernel
theorem dX7_melt_40 : decode cX7_melt 40 = .ok (.sipush 800, 3) := by decide +kernel
theorem dX7_melt_43 : decode cX7_melt 43 = .ok (.if_icmp .ge 24, 3) := by decide +kernel
theorem dX7_melt_46 : decode cX7_melt 46 = .ok (.aload_n 0, 1) := by decide +kernel
theorem dX7_melt_47 : decode cX7_melt 47 = .ok (.invokevirtual 31, 3) := by decide +kernel
theorem dX7_melt_50 : decode cX7_melt 50 = .ok (.ifCond .ne 17, 3) := by decide +kernel
theorem dX7_melt_53 : decode cX7_melt 53 = .ok (.aload_n 0, 1) := by decide +kernel
theorem dX7_melt_54 : decode cX7_melt 54 = .ok (.iconst 0, 1) := by decide +kernel
theorem dX7_melt_55 : decode cX7_melt 55 = .ok (.aload_n 0, 1) := by decide +kernel
theorem dX7_melt_56 : decode cX7_melt 56 = .ok (.getfield 22, 3) := by decide +kernel
theorem dX7_melt_59 : decode cX7_melt 59 = .ok (.iconst 1, 1) := by decide +kernel
theorem dX7_melt_60 : decode cX7_melt 60 = .ok (.isub, 1) := by decide +kernel
theorem dX7_melt_61 : decode cX7_melt 61 = .ok (.invokestatic 34, 3) := by decide +kernel
theorem dX7_melt_64 : decode cX7_melt 64 = .ok (.putfield 22, 3) := by decide +kernel
theorem dX7_melt_67 : decode cX7_melt 67 = .ok (.return_, 1) := by decide +kernel
theorem dX7_takeGlass_0 : decode cX7_takeGlass 0 = .ok (.aload_n 0, 1) := by decide +kernel
theorem dX7_takeGlass_1 : decode cX7_takeGlass 1 = .ok (.dup, 1) := by decide +kernel
theorem dX7_takeGlass_2 : decode cX7_takeGlass 2 = .ok (.getfield 28, 3) := by decide +kernel
theorem dX7_takeGlass_5 : decode cX7_takeGlass 5 = .ok (.iload_n 1, 1) := by decide +kernel
theorem dX7_takeGlass_6 : decode cX7_takeGlass 6 = .ok (.isub, 1) := by decide +kernel
theorem dX7_takeGlass_7 : decode cX7_takeGlass 7 = .ok (.putfield 28, 3) := by decide +kernel
theorem dX7_takeGlass_10 : decode cX7_takeGlass 10 = .ok (.aload_n 0, 1) := by decide +kernel
theorem dX7_takeGlass_11 : decode cX7_takeGlass 11 = .ok (.getfield 28, 3) := by decide +kernel
theorem dX7_takeGlass_14 : decode cX7_takeGlass 14 = .ok (.ifCond .gt 7, 3) := by decide +kernel
theorem dX7_takeGlass_17 : decode cX7_takeGlass 17 = .ok (.aload_n 0, 1) := by decide +kernel
theorem dX7_takeGlass_18 : decode cX7_takeGlass 18 = .ok (.invokevirtual 40, 3) := by decide +kernel
theorem dX7_takeGlass_21 : decode cX7_takeGlass 21 = .ok (.return_, 1) := by decide +kernel
theorem dX7_tell_0 : decode cX7_tell 0 = .ok (.aload_n 0, 1) := by decide +kernel
theorem dX7_tell_1 : decode cX7_tell 1 = .ok (.invokevirtual 18, 3) := by decide +kernel
theorem dX7_tell_4 : decode cX7_tell 4 = .ok (.ifCond .eq 5, 3) := by decide +kernel
theorem dX7_tell_7 : decode cX7_tell 7 = .ok (.iconst (-1), 1) := by decide +kernel
theorem dX7_tell_8 : decode cX7_tell 8 = .ok (.ireturn, 1) := by decide +kernel
theorem dX7_tell_9 : decode cX7_tell 9 = .ok (.iload_n 1, 1) := by decide +kernel
theorem dX7_tell_10 : decode cX7_tell 10 = .ok (.tableswitch 76 0 5 #[38, 43, 48, 53, 58, 71], 38) := by decide +kernel
theorem dX7_tell_48 : decode cX7_tell 48 = .ok (.aload_n 0, 1) := by decide +kernel
theorem dX7_tell_49 : decode cX7_tell 49 = .ok (.getfield 9, 3) := by decide +kernel
theorem dX7_tell_52 : decode cX7_tell 52 = .ok (.ireturn, 1) := by decide +kernel
theorem dX7_tell_53 : decode cX7_tell 53 = .ok (.aload_n 0, 1) := by decide +kernel
theorem dX7_tell_54 : decode cX7_tell 54 = .ok (.getfield 28, 3) := by decide +kernel
theorem dX7_tell_57 : decode cX7_tell 57 = .ok (.ireturn, 1) := by decide +kernel
theorem dX7_tell_58 : decode cX7_tell 58 = .ok (.aload_n 0, 1) := by decide +kernel
theorem dX7_tell_59 : decode cX7_tell 59 = .ok (.getfield 22, 3) := by decide +kernel
theorem dX7_tell_62 : decode cX7_tell 62 = .ok (.ireturn, 1) := by decide +kernel
theorem dX7_tell_63 : decode cX7_tell 63 = .ok (.aload_n 0, 1) := by decide +kernel
theorem dX7_tell_64 : decode cX7_tell 64 = .ok (.getfield 25, 3) := by decide +kernel
theorem dX7_tell_67 : decode cX7_tell 67 = .ok (.ireturn, 1) := by decide +kernel
theorem dX7_tell_68 : decode cX7_tell 68 = .ok (.aload_n 0, 1) := by decide +kernel
theorem dX7_tell_69 : decode cX7_tell 69 = .ok (.invokevirtual 31, 3) := by decide +kernel
theorem dX7_tell_72 : decode cX7_tell 72 = .ok (.ifCond .eq 7, 3) := by decide +kernel
theorem dX7_tell_75 : decode cX7_tell 75 = .ok (.iconst 1, 1) := by decide +kernel
theorem dX7_tell_76 : decode cX7_tell 76 = .ok (.goto 4, 3) := by decide +kernel
theorem dX7_tell_79 : decode cX7_tell 79 = .ok (.iconst 0, 1) := by decide +kernel
theorem dX7_tell_80 : decode cX7_tell 80 = .ok (.ireturn, 1) := by decide +kernel
theorem dX7_tell_81 : decode cX7_tell 81 = .ok (.aload_n 0, 1) := by decide +kernel
theorem dX7_tell_82 : decode cX7_tell 82 = .ok (.getfield 15, 3) := by decide +kernel
theorem dX7_tell_85 : decode cX7_tell 85 = .ok (.ireturn, 1) := by decide +kernel
theorem dX7_tell_86 : decode cX7_tell 86 = .ok (.iconst (-1), 1) := by decide +kernel
theorem dX7_tell_87 : decode cX7_tell 87 = .ok (.ireturn, 1) := by decide +kernel
theorem dX8_init_0 : decode cX8_init 0 = .ok (.aload_n 0, 1) := by decide +kernel
theorem dX8_init_1 : decode cX8_init 1 = .ok (.invokespecial 3, 3) := by decide +kernel
theorem dX8_init_4 : decode cX8_init 4 = .ok (.aload_n 0, 1) := by decide +kernel
theorem dX8_init_5 : decode cX8_init 5 = .ok (.iconst 5, 1) := by decide +kernel
theorem dX8_init_6 : decode cX8_init 6 = .ok (.newarray .int, 2) := by decide +kernel
theorem dX8_init_8 : decode cX8_init 8 = .ok (.putfield 9, 3) := by decide +kernel
theorem dX8_init_11 : decode cX8_init 11 = .ok (.aload_n 0, 1) := by decide +kernel
theorem dX8_init_12 : decode cX8_init 12 = .ok (.iconst 5, 1) := by decide +kernel
theorem dX8_init_13 : decode cX8_init 13 = .ok (.newarray .int, 2) := by decide +kernel
theorem dX8_init_15 : decode cX8_init 15 = .ok (.putfield 15, 3) := by decide +kernel
theorem dX8_init_18 : decode cX8_init 18 = .ok (.return_, 1) := by decide +kernel
theorem dX8_plan_0 : decode cX8_plan 0 = .ok (.aload_n 0, 1) := by decide +kernel
theorem dX8_plan_1 : decode cX8_plan 1 = .ok (.aload_n 1, 1) := by decide +kernel
theorem dX8_plan_2 : decode cX8_plan 2 = .ok (.iload 4, 2) := by decide +kernel
theorem dX8_plan_4 : decode cX8_plan 4 = .ok (.invokevirtual 18, 3) := by decide +kernel
theorem dX8_plan_7 : decode cX8_plan 7 = .ok (.lconst 0, 1) := by decide +kernel
theorem dX8_plan_8 : decode cX8_plan 8 = .ok (.lstore 5, 2) := by decide +kernel
theorem dX8_plan_10 : decode cX8_plan 10 = .ok (.aload_n 0, 1) := by decide +kernel
theorem dX8_plan_11 : decode cX8_plan 11 = .ok (.getfield 22, 3) := by decide +kernel
theorem dX8_plan_14 : decode cX8_plan 14 = .ok (.ifCond .le 75, 3) := by decide +kernel
theorem dX8_plan_17 : decode cX8_plan 17 = .ok (.aload_n 0, 1) := by decide +kernel
theorem dX8_plan_18 : decode cX8_plan 18 = .ok (.getfield 26, 3) := by decide +kernel
theorem dX8_plan_21 : decode cX8_plan 21 = .ok (.ifnull 10, 3) := by decide +kernel
theorem dX8_plan_24 : decode cX8_plan 24 = .ok (.aload_n 0, 1) := by decide +kernel
theorem dX8_plan_25 : decode cX8_plan 25 = .ok (.getfield 30, 3) := by decide +kernel
theorem dX8_plan_28 : decode cX8_plan 28 = .ok (.ifnonnull 21, 3) := by decide +kernel
theorem dX8_plan_31 : decode cX8_plan 31 = .ok (.aload_n 0, 1) := by decide +kernel
theorem dX8_plan_32 : decode cX8_plan 32 = .ok (.sipush 24531, 3) := by decide +kernel
theorem dX8_plan_35 : decode cX8_plan 35 = .ok (.newarray .long, 2) := by decide +kernel
theorem dX8_plan_37 : decode cX8_plan 37 = .ok (.putfield 26, 3) := by decide +kernel
theorem dX8_plan_40 : decode cX8_plan 40 = .ok (.aload_n 0, 1) := by decide +kernel
theorem dX8_plan_41 : decode cX8_plan 41 = .ok (.sipush 24531, 3) := by decide +kernel
theorem dX8_plan_44 : decode cX8_plan 44 = .ok (.newarray .long, 2) := by decide +kernel
theorem dX8_plan_46 : decode cX8_plan 46 = .ok (.putfield 30, 3) := by decide +kernel
theorem dX8_plan_49 : decode cX8_plan 49 = .ok (.iconst 0, 1) := by decide +kernel
theorem dX8_plan_50 : decode cX8_plan 50 = .ok (.istore 7, 2) := by decide +kernel
theorem dX8_plan_52 : decode cX8_plan 52 = .ok (.iload 7, 2) := by decide +kernel
theorem dX8_plan_54 : decode cX8_plan 54 = .ok (.iload_n 3, 1) := by decide +kernel
theorem dX8_plan_55 : decode cX8_plan 55 = .ok (.if_icmp .gt 17, 3) := by decide +kernel
theorem dX8_plan_58 : decode cX8_plan 58 = .ok (.aload_n 0, 1) := by decide +kernel
theorem dX8_plan_59 : decode cX8_plan 59 = .ok (.aload_n 1, 1) := by decide +kernel
theorem dX8_plan_60 : decode cX8_plan 60 = .ok (.iload 7, 2) := by decide +kernel
theorem dX8_plan_62 : decode cX8_plan 62 = .ok (.iload_n 2, 1) := by decide +kernel
theorem dX8_plan_63 : decode cX8_plan 63 = .ok (.invokevirtual 33, 3) := by decide +kernel
theorem dX8_plan_66 : decode cX8_plan 66 = .ok (.iinc 7 1, 3) := by decide +kernel
theorem dX8_plan_69 : decode cX8_plan 69 = .ok (.goto (-17), 3) := by decide +kernel
theorem dX8_plan_72 : decode cX8_plan 72 = .ok (.aload_n 0, 1) := by decide +kernel
theorem dX8_plan_73 : decode cX8_plan 73 = .ok (.getfield 30, 3) := by decide +kernel
theorem dX8_plan_76 : decode cX8_plan 76 = .ok (.iload_n 3, 1) := by decide +kernel
theorem dX8_plan_77 : decode cX8_plan 77 = .ok (.bipush 51, 2) := by decide +kernel
theorem dX8_plan_79 : decode cX8_plan 79 = .ok (.irem, 1) := by decide +kernel
theorem dX8_plan_80 : decode cX8_plan 80 = .ok (.sipush 481, 3) := by decide +kernel
theorem dX8_plan_83 : decode cX8_plan 83 = .ok (.imul, 1) := by decide +kernel
theorem dX8_plan_84 : decode cX8_plan 84 = .ok (.iload_n 2, 1) := by decide +kernel
theorem dX8_plan_85 : decode cX8_plan 85 = .ok (.iadd, 1) := by decide +kernel
theorem dX8_plan_86 : decode cX8_plan 86 = .ok (.laload, 1) := by decide +kernel
theorem dX8_plan_87 : decode cX8_plan 87 = .ok (.lstore 5, 2) := by decide +kernel
theorem dX8_plan_89 : decode cX8_plan 89 = .ok (.aload_n 0, 1) := by decide +kernel
theorem dX8_plan_90 : decode cX8_plan 90 = .ok (.iconst 1, 1) := by decide +kernel
theorem dX8_plan_91 : decode cX8_plan 91 = .ok (.putfield 37, 3) := by decide +kernel
theorem dX8_plan_94 : decode cX8_plan 94 = .ok (.aload_n 0, 1) := by decide +kernel
theorem dX8_plan_95 : decode cX8_plan 95 = .ok (.aload_n 1, 1) := by decide +kernel
theorem dX8_plan_96 : decode cX8_plan 96 = .ok (.lload 5, 2) := by decide +kernel
theorem dX8_plan_98 : decode cX8_plan 98 = .ok (.invokevirtual 41, 3) := by decide +kernel
theorem dX8_plan_101 : decode cX8_plan 101 = .ok (.ireturn, 1) := by decide +kernel
theorem dX8_findUsable_0 : decode cX8_findUsable 0 = .ok (.aload_n 0, 1) := by decide +kernel
theorem dX8_findUsable_1 : decode cX8_findUsable 1 = .ok (.iconst 0, 1) := by decide +kernel
theorem dX8_findUsable_2 : decode cX8_findUsable 2 = .ok (.putfield 22, 3) := by decide +kernel
theorem dX8_findUsable_5 : decode cX8_findUsable 5 = .ok (.iconst 0, 1) := by decide +kernel
theorem dX8_findUsable_6 : decode cX8_findUsable 6 = .ok (.istore_n 3, 1) := by decide +kernel
theorem dX8_findUsable_7 : decode cX8_findUsable 7 = .ok (.iload_n 3, 1) := by decide +kernel
theorem dX8_findUsable_8 : decode cX8_findUsable 8 = .ok (.iconst 5, 1) := by decide +kernel
theorem dX8_findUsable_9 : decode cX8_findUsable 9 = .ok (.if_icmp .ge 39, 3) := by decide +kernel
theorem dX8_findUsable_12 : decode cX8_findUsable 12 = .ok (.aload_n 1, 1) := by decide +kernel
theorem dX8_findUsable_13 : decode cX8_findUsable 13 = .ok (.iload_n 3, 1) := by decide +kernel
theorem dX8_findUsable_14 : decode cX8_findUsable 14 = .ok (.aaload, 1) := by decide +kernel
theorem dX8_findUsable_15 : decode cX8_findUsable 15 = .ok (.iload_n 2, 1) := by decide +kernel
theorem dX8_findUsable_16 : decode cX8_findUsable 16 = .ok (.invokevirtual 45, 3) := by decide +kernel
theorem dX8_findUsable_19 : decode cX8_findUsable 19 = .ok (.ifCond .eq 23, 3) := by decide +kernel
theorem dX8_findUsable_22 : decode cX8_findUsable 22 = .ok (.aload_n 0, 1) := by decide +kernel
theorem dX8_findUsable_23 : decode cX8_findUsable 23 = .ok (.getfield 9, 3) := by decide +kernel
theorem dX8_findUsable_26 : decode cX8_findUsable 26 = .ok (.aload_n 0, 1) := by decide +kernel
theorem dX8_findUsable_27 : decode cX8_findUsable 27 = .ok (.getfield 22, 3) := by decide +kernel
theorem dX8_findUsable_30 : decode cX8_findUsable 30 = .ok (.iload_n 3, 1) := by decide +kernel
theorem dX8_findUsable_31 : decode cX8_findUsable 31 = .ok (.iastore, 1) := by decide +kernel
theorem dX8_findUsable_32 : decode cX8_findUsable 32 = .ok (.aload_n 0, 1) := by decide +kernel
theorem dX8_findUsable_33 : decode cX8_findUsable 33 = .ok (.dup, 1) := by decide +kernel
theorem dX8_findUsable_34 : decode cX8_findUsable 34 = .ok (.getfield 22, 3) := by decide +kernel
theorem dX8_findUsable_37 : decode cX8_findUsable 37 = .ok (.iconst 1, 1) := by decide +kernel
theorem dX8_findUsable_38 : decode cX8_findUsable 38 = .ok (.iadd, 1) := by decide +kernel
theorem dX8_findUsable_39 : decode cX8_findUsable 39 = .ok (.putfield 22, 3) := by decide +kernel
theorem dX8_findUsable_42 : decode cX8_findUsable 42 = .ok (.iinc 3 1, 3) := by decide +kernel
theorem dX8_findUsable_45 : decode cX8_findUsable 45 = .ok (.goto (-38), 3) := by decide +kernel
theorem dX8_findUsable_48 : decode cX8_findUsable 48 = .ok (.return_, 1) := by decide +kernel
theorem dX8_fillRow_0 : decode cX8_fillRow 0 = .ok (.iload_n 2, 1) := by decide +kernel
theorem dX8_fillRow_1 : decode cX8_fillRow 1 = .ok (.bipush 51, 2) := by decide +kernel
theorem dX8_fillRow_3 : decode cX8_fillRow 3 = .ok (.irem, 1) := by decide +kernel
theorem dX8_fillRow_4 : decode cX8_fillRow 4 = .ok (.sipush 481, 3) := by decide +kernel
theorem dX8_fillRow_7 : decode cX8_fillRow 7 = .ok (.imul, 1) := by decide +kernel
theorem dX8_fillRow_8 : decode cX8_fillRow 8 = .ok (.istore 4, 2) := by decide +kernel
theorem dX8_fillRow_10 : decode cX8_fillRow 10 = .ok (.iconst 0, 1) := by decide +kernel
theorem dX8_fillRow_11 : decode cX8_fillRow 11 = .ok (.istore 5, 2) := by decide +kernel
theorem dX8_fillRow_13 : decode cX8_fillRow 13 = .ok (.iload 5, 2) := by decide +kernel
theorem dX8_fillRow_15 : decode cX8_fillRow 15 = .ok (.iload_n 3, 1) := by decide +kernel
theorem dX8_fillRow_16 : decode cX8_fillRow 16 = .ok (.if_icmp .gt 31, 3) := by decide +kernel
theorem dX8_fillRow_19 : decode cX8_fillRow 19 = .ok (.aload_n 0, 1) := by decide +kernel
theorem dX8_fillRow_20 : decode cX8_fillRow 20 = .ok (.getfield 26, 3) := by decide +kernel
theorem dX8_fillRow_23 : decode cX8_fillRow 23 = .ok (.iload 4, 2) := by decide +kernel
theorem dX8_fillRow_25 : decode cX8_fillRow 25 = .ok (.iload 5, 2) := by decide +kernel
theorem dX8_fillRow_27 : decode cX8_fillRow 27 = .ok (.iadd, 1) := by decide +kernel
theorem dX8_fillRow_28 : decode cX8_fillRow 28 = .ok (.lconst 0, 1) := by decide +kernel
theorem dX8_fillRow_29 : decode cX8_fillRow 29 = .ok (.lastore, 1) := by decide +kernel
theorem dX8_fillRow_30 : decode cX8_fillRow 30 = .ok (.aload_n 0, 1) := by decide +kernel
theorem dX8_fillRow_31 : decode cX8_fillRow 31 = .ok (.getfield 30, 3) := by decide +kernel
theorem dX8_fillRow_34 : decode cX8_fillRow 34 = .ok (.iload 4, 2) := by decide +kernel
theorem dX8_fillRow_36 : decode cX8_fillRow 36 = .ok (.iload 5, 2) := by decide +kernel
theorem dX8_fillRow_38 : decode cX8_fillRow 38 = .ok (.iadd, 1) := by decide +kernel
theorem dX8_fillRow_39 : decode cX8_fillRow 39 = .ok (.lconst 0, 1) := by decide +kernel
theorem dX8_fillRow_40 : decode cX8_fillRow 40 = .ok (.lastore, 1) := by decide +kernel
theorem dX8_fillRow_41 : decode cX8_fillRow 41 = .ok (.iinc 5 1, 3) := by decide +kernel
theorem dX8_fillRow_44 : decode cX8_fillRow 44 = .ok (.goto (-31), 3) := by decide +kernel
theorem dX8_fillRow_47 : decode cX8_fillRow 47 = .ok (.iconst 0, 1) := by decide +kernel
theorem dX8_fillRow_48 : decode cX8_fillRow 48 = .ok (.istore 5, 2) := by decide +kernel
theorem dX8_fillRow_50 : decode cX8_fillRow 50 = .ok (.iload 5, 2) := by decide +kernel
theorem dX8_fillRow_52 : decode cX8_fillRow 52 = .ok (.aload_n 0, 1) := by decide +kernel
theorem dX8_fillRow_53 : decode cX8_fillRow 53 = .ok (.getfield 22, 3) := by decide +kernel
theorem dX8_fillRow_56 : decode cX8_fillRow 56 = .ok (.if_icmp .ge 64, 3) := by decide +kernel
theorem dX8_fillRow_59 : decode cX8_fillRow 59 = .ok (.aload_n 1, 1) := by decide +kernel
theorem dX8_fillRow_60 : decode cX8_fillRow 60 = .ok (.aload_n 0, 1) := by decide +kernel
theorem dX8_fillRow_61 : decode cX8_fillRow 61 = .ok (.getfield 9, 3) := by decide +kernel
theorem dX8_fillRow_64 : decode cX8_fillRow 64 = .ok (.iload 5, 2) := by decide +kernel
theorem dX8_fillRow_66 : decode cX8_fillRow 66 = .ok (.iaload, 1) := by decide +kernel
theorem dX8_fillRow_67 : decode cX8_fillRow 67 = .ok (.aaload, 1) := by decide +kernel
theorem dX8_fillRow_68 : decode cX8_fillRow 68 = .ok (.astore 6, 2) := by decide +kernel
theorem dX8_fillRow_70 : decode cX8_fillRow 70 = .ok (.aload 6, 2) := by decide +kernel
theorem dX8_fillRow_72 : decode cX8_fillRow 72 = .ok (.getfield 51, 3) := by decide +kernel
theorem dX8_fillRow_75 : decode cX8_fillRow 75 = .ok (.iload_n 2, 1) := by decide +kernel
theorem dX8_fillRow_76 : decode cX8_fillRow 76 = .ok (.if_icmp .gt 38, 3) := by decide +kernel
theorem dX8_fillRow_79 : decode cX8_fillRow 79 = .ok (.aload_n 0, 1) := by decide +kernel
theorem dX8_fillRow_80 : decode cX8_fillRow 80 = .ok (.aload 6, 2) := by decide +kernel
theorem dX8_fillRow_82 : decode cX8_fillRow 82 = .ok (.lconst 1, 1) := by decide +kernel
theorem dX8_fillRow_83 : decode cX8_fillRow 83 = .ok (.bipush 9, 2) := by decide +kernel
theorem dX8_fillRow_85 : decode cX8_fillRow 85 = .ok (.aload_n 0, 1) := by decide +kernel
theorem dX8_fillRow_86 : decode cX8_fillRow 86 = .ok (.getfield 9, 3) := by decide +kernel
theorem dX8_fillRow_89 : decode cX8_fillRow 89 = .ok (.iload 5, 2) := by decide +kernel
theorem dX8_fillRow_91 : decode cX8_fillRow 91 = .ok (.iaload, 1) := by decide +kernel
theorem dX8_fillRow_92 : decode cX8_fillRow 92 = .ok (.imul, 1) := by decide +kernel
theorem dX8_fillRow_93 : decode cX8_fillRow 93 = .ok (.lshl, 1) := by decide +kernel
theorem dX8_fillRow_94 : decode cX8_fillRow 94 = .ok (.iload 4, 2) := by decide +kernel
theorem dX8_fillRow_96 : decode cX8_fillRow 96 = .ok (.iload_n 3, 1) := by decide +kernel
theorem dX8_fillRow_97 : decode cX8_fillRow 97 = .ok (.iload_n 2, 1) := by decide +kernel
theorem dX8_fillRow_98 : decode cX8_fillRow 98 = .ok (.aload 6, 2) := by decide +kernel
theorem dX8_fillRow_100 : decode cX8_fillRow 100 = .ok (.getfield 51, 3) := by decide +kernel
theorem dX8_fillRow_103 : decode cX8_fillRow 103 = .ok (.isub, 1) := by decide +kernel
theorem dX8_fillRow_104 : decode cX8_fillRow 104 = .ok (.bipush 51, 2) := by decide +kernel
theorem dX8_fillRow_106 : decode cX8_fillRow 106 = .ok (.irem, 1) := by decide +kernel
theorem dX8_fillRow_107 : decode cX8_fillRow 107 = .ok (.sipush 481, 3) := by decide +kernel
theorem dX8_fillRow_110 : decode cX8_fillRow 110 = .ok (.imul, 1) := by decide +kernel
theorem dX8_fillRow_111 : decode cX8_fillRow 111 = .ok (.invokevirtual 54, 3) := by decide +kernel
theorem dX8_fillRow_114 : decode cX8_fillRow 114 = .ok (.iinc 5 1, 3) := by decide +kernel
theorem dX8_fillRow_117 : decode cX8_fillRow 117 = .ok (.goto (-67), 3) := by decide +kernel
theorem dX8_fillRow_120 : decode cX8_fillRow 120 = .ok (.return_, 1) := by decide +kernel
theorem dX8_addOneMore_0 : decode cX8_addOneMore 0 = .ok (.aload_n 1, 1) := by decide +kernel
theorem dX8_addOneMore_1 : decode cX8_addOneMore 1 = .ok (.getfield 58, 3) := by decide +kernel
theorem dX8_addOneMore_4 : decode cX8_addOneMore 4 = .ok (.i2l, 1) := by decide +kernel
theorem dX8_addOneMore_5 : decode cX8_addOneMore 5 = .ok (.ldc2_w 61, 3) := by decide +kernel
theorem dX8_addOneMore_8 : decode cX8_addOneMore 8 = .ok (.lmul, 1) := by decide +kernel
theorem dX8_addOneMore_9 : decode cX8_addOneMore 9 = .ok (.aload_n 1, 1) := by decide +kernel
theorem dX8_addOneMore_10 : decode cX8_addOneMore 10 = .ok (.getfield 63, 3) := by decide +kernel
theorem dX8_addOneMore_13 : decode cX8_addOneMore 13 = .ok (.i2l, 1) := by decide +kernel
theorem dX8_addOneMore_14 : decode cX8_addOneMore 14 = .ok (.lsub, 1) := by decide +kernel
theorem dX8_addOneMore_15 : decode cX8_addOneMore 15 = .ok (.lstore 7, 2) := by decide +kernel
theorem dX8_addOneMore_17 : decode cX8_addOneMore 17 = .ok (.iload 6, 2) := by decide +kernel
theorem dX8_addOneMore_19 : decode cX8_addOneMore 19 = .ok (.istore 9, 2) := by decide +kernel
theorem dX8_addOneMore_21 : decode cX8_addOneMore 21 = .ok (.aload_n 1, 1) := by decide +kernel
theorem dX8_addOneMore_22 : decode cX8_addOneMore 22 = .ok (.getfield 63, 3) := by decide +kernel
theorem dX8_addOneMore_25 : decode cX8_addOneMore 25 = .ok (.istore 10, 2) := by decide +kernel
theorem dX8_addOneMore_27 : decode cX8_addOneMore 27 = .ok (.iload 10, 2) := by decide +kernel
theorem dX8_addOneMore_29 : decode cX8_addOneMore 29 = .ok (.iload 5, 2) := by decide +kernel
theorem dX8_addOneMore_31 : decode cX8_addOneMore 31 = .ok (.if_icmp .gt 71, 3) := by decide +kernel
theorem dX8_addOneMore_34 : decode cX8_addOneMore 34 = .ok (.aload_n 0, 1) := by decide +kernel
theorem dX8_addOneMore_35 : decode cX8_addOneMore 35 = .ok (.getfield 26, 3) := by decide +kernel
theorem dX8_addOneMore_38 : decode cX8_addOneMore 38 = .ok (.iload 9, 2) := by decide +kernel
theorem dX8_addOneMore_40 : decode cX8_addOneMore 40 = .ok (.laload, 1) := by decide +kernel
theorem dX8_addOneMore_41 : decode cX8_addOneMore 41 = .ok (.lload 7, 2) := by decide +kernel
theorem dX8_addOneMore_43 : decode cX8_addOneMore 43 = .ok (.ladd, 1) := by decide +kernel
theorem dX8_addOneMore_44 : decode cX8_addOneMore 44 = .ok (.lstore 11, 2) := by decide +kernel
theorem dX8_addOneMore_46 : decode cX8_addOneMore 46 = .ok (.lload 11, 2) := by decide +kernel
theorem dX8_addOneMore_48 : decode cX8_addOneMore 48 = .ok (.aload_n 0, 1) := by decide +kernel
theorem dX8_addOneMore_49 : decode cX8_addOneMore 49 = .ok (.getfield 26, 3) := by decide +kernel
theorem dX8_addOneMore_52 : decode cX8_addOneMore 52 = .ok (.iload 4, 2) := by decide +kernel
theorem dX8_addOneMore_54 : decode cX8_addOneMore 54 = .ok (.iload 10, 2) := by decide +kernel
theorem dX8_addOneMore_56 : decode cX8_addOneMore 56 = .ok (.iadd, 1) := by decide +kernel
theorem dX8_addOneMore_57 : decode cX8_addOneMore 57 = .ok (.laload, 1) := by decide +kernel
theorem dX8_addOneMore_58 : decode cX8_addOneMore 58 = .ok (.lcmp, 1) := by decide +kernel
theorem dX8_addOneMore_59 : decode cX8_addOneMore 59 = .ok (.ifCond .le 34, 3) := by decide +kernel
theorem dX8_addOneMore_62 : decode cX8_addOneMore 62 = .ok (.aload_n 0, 1) := by decide +kernel
theorem dX8_addOneMore_63 : decode cX8_addOneMore 63 = .ok (.getfield 26, 3) := by decide +kernel
theorem dX8_addOneMore_66 : decode cX8_addOneMore 66 = .ok (.iload 4, 2) := by decide +kernel
theorem dX8_addOneMore_68 : decode cX8_addOneMore 68 = .ok (.iload 10, 2) := by decide +kernel
theorem dX8_addOneMore_70 : decode cX8_addOneMore 70 = .ok (.iadd, 1) := by decide +kernel
theorem dX8_addOneMore_71 : decode cX8_addOneMore 71 = .ok (.lload 11, 2) := by decide +kernel
theorem dX8_addOneMore_73 : decode cX8_addOneMore 73 = .ok (.lastore, 1) := by decide +kernel
theorem dX8_addOneMore_74 : decode cX8_addOneMore 74 = .ok (.aload_n 0, 1) := by decide +kernel
theorem dX8_addOneMore_75 : decode cX8_addOneMore 75 = .ok (.getfield 30, 3) := by decide +kernel
theorem dX8_addOneMore_78 : decode cX8_addOneMore 78 = .ok (.iload 4, 2) := by decide +kernel
theorem dX8_addOneMore_80 : decode cX8_addOneMore 80 = .ok (.iload 10, 2) := by decide +kernel
theorem dX8_addOneMore_82 : decode cX8_addOneMore 82 = .ok (.iadd, 1) := by decide +kernel
theorem dX8_addOneMore_83 : decode cX8_addOneMore 83 = .ok (.aload_n 0, 1) := by decide +kernel
theorem dX8_addOneMore_84 : decode cX8_addOneMore 84 = .ok (.getfield 30, 3) := by decide +kernel
theorem dX8_addOneMore_87 : decode cX8_addOneMore 87 = .ok (.iload 9, 2) := by decide +kernel
theorem dX8_addOneMore_89 : decode cX8_addOneMore 89 = .ok (.laload, 1) := by decide +kernel
theorem dX8_addOneMore_90 : decode cX8_addOneMore 90 = .ok (.lload_n 2, 1) := by decide +kernel
theorem dX8_addOneMore_91 : decode cX8_addOneMore 91 = .ok (.ladd, 1) := by decide +kernel
theorem dX8_addOneMore_92 : decode cX8_addOneMore 92 = .ok (.lastore, 1) := by decide +kernel
theorem dX8_addOneMore_93 : decode cX8_addOneMore 93 = .ok (.iinc 9 1, 3) := by decide +kernel
theorem dX8_addOneMore_96 : decode cX8_addOneMore 96 = .ok (.iinc 10 1, 3) := by decide +kernel
theorem dX8_addOneMore_99 : decode cX8_addOneMore 99 = .ok (.goto (-72), 3) := by decide +kernel
theorem dX8_addOneMore_102 : decode cX8_addOneMore 102 = .ok (.return_, 1) := by decide +kernel
theorem dX8_keep_0 : decode cX8_keep 0 = .ok (.iconst 0, 1) := by decide +kernel
theorem dX8_keep_1 : decode cX8_keep 1 = .ok (.istore 4, 2) := by decide +kernel
theorem dX8_keep_3 : decode cX8_keep 3 = .ok (.aload_n 0, 1) := by decide +kernel
theorem dX8_keep_4 : decode cX8_keep 4 = .ok (.iconst 0, 1) := by decide +kernel
theorem dX8_keep_5 : decode cX8_keep 5 = .ok (.putfield 66, 3) := by decide +kernel
theorem dX8_keep_8 : decode cX8_keep 8 = .ok (.aload_n 0, 1) := by decide +kernel
theorem dX8_keep_9 : decode cX8_keep 9 = .ok (.iconst 0, 1) := by decide +kernel
theorem dX8_keep_10 : decode cX8_keep 10 = .ok (.putfield 69, 3) := by decide +kernel
theorem dX8_keep_13 : decode cX8_keep 13 = .ok (.iconst 0, 1) := by decide +kernel
theorem dX8_keep_14 : decode cX8_keep 14 = .ok (.istore 5, 2) := by decide +kernel
theorem dX8_keep_16 : decode cX8_keep 16 = .ok (.iload 5, 2) := by decide +kernel
theorem dX8_keep_18 : decode cX8_keep 18 = .ok (.iconst 5, 1) := by decide +kernel
theorem dX8_keep_19 : decode cX8_keep 19 = .ok (.if_icmp .ge 85, 3) := by decide +kernel
theorem dX8_keep_22 : decode cX8_keep 22 = .ok (.lload_n 2, 1) := by decide +kernel
theorem dX8_keep_23 : decode cX8_keep 23 = .ok (.bipush 9, 2) := by decide +kernel
theorem dX8_keep_25 : decode cX8_keep 25 = .ok (.iload 5, 2) := by decide +kernel
theorem dX8_keep_27 : decode cX8_keep 27 = .ok (.imul, 1) := by decide +kernel
theorem dX8_keep_28 : decode cX8_keep 28 = .ok (.lshr, 1) := by decide +kernel
theorem dX8_keep_29 : decode cX8_keep 29 = .ok (.l2i, 1) := by decide +kernel
theorem dX8_keep_30 : decode cX8_keep 30 = .ok (.sipush 511, 3) := by decide +kernel
theorem dX8_keep_33 : decode cX8_keep 33 = .ok (.iand, 1) := by decide +kernel
theorem dX8_keep_34 : decode cX8_keep 34 = .ok (.istore 6, 2) := by decide +kernel
theorem dX8_keep_36 : decode cX8_keep 36 = .ok (.aload_n 0, 1) := by decide +kernel
theorem dX8_keep_37 : decode cX8_keep 37 = .ok (.getfield 15, 3) := by decide +kernel
theorem dX8_keep_40 : decode cX8_keep 40 = .ok (.iload 5, 2) := by decide +kernel
theorem dX8_keep_42 : decode cX8_keep 42 = .ok (.iload 6, 2) := by decide +kernel
theorem dX8_keep_44 : decode cX8_keep 44 = .ok (.iastore, 1) := by decide +kernel
theorem dX8_keep_45 : decode cX8_keep 45 = .ok (.iload 4, 2) := by decide +kernel
theorem dX8_keep_47 : decode cX8_keep 47 = .ok (.iload 6, 2) := by decide +kernel
theorem dX8_keep_49 : decode cX8_keep 49 = .ok (.aload_n 1, 1) := by decide +kernel
theorem dX8_keep_50 : decode cX8_keep 50 = .ok (.iload 5, 2) := by decide +kernel
theorem dX8_keep_52 : decode cX8_keep 52 = .ok (.aaload, 1) := by decide +kernel
theorem dX8_keep_53 : decode cX8_keep 53 = .ok (.getfield 58, 3) := by decide +kernel
theorem dX8_keep_56 : decode cX8_keep 56 = .ok (.imul, 1) := by decide +kernel
theorem dX8_keep_57 : decode cX8_keep 57 = .ok (.iadd, 1) := by decide +kernel
theorem dX8_keep_58 : decode cX8_keep 58 = .ok (.istore 4, 2) := by decide +kernel
theorem dX8_keep_60 : decode cX8_keep 60 = .ok (.aload_n 0, 1) := by decide +kernel
theorem dX8_keep_61 : decode cX8_keep 61 = .ok (.dup, 1) := by decide +kernel
theorem dX8_keep_62 : decode cX8_keep 62 = .ok (.getfield 66, 3) := by decide +kernel
theorem dX8_keep_65 : decode cX8_keep 65 = .ok (.iload 6, 2) := by decide +kernel
theorem dX8_keep_67 : decode cX8_keep 67 = .ok (.aload_n 1, 1) := by decide +kernel
theorem dX8_keep_68 : decode cX8_keep 68 = .ok (.iload 5, 2) := by decide +kernel
theorem dX8_keep_70 : decode cX8_keep 70 = .ok (.aaload, 1) := by decide +kernel
theorem dX8_keep_71 : decode cX8_keep 71 = .ok (.getfield 63, 3) := by decide +kernel
theorem dX8_keep_74 : decode cX8_keep 74 = .ok (.imul, 1) := by decide +kernel
theorem dX8_keep_75 : decode cX8_keep 75 = .ok (.iadd, 1) := by decide +kernel
theorem dX8_keep_76 : decode cX8_keep 76 = .ok (.putfield 66, 3) := by decide +kernel
theorem dX8_keep_79 : decode cX8_keep 79 = .ok (.aload_n 0, 1) := by decide +kernel
theorem dX8_keep_80 : decode cX8_keep 80 = .ok (.dup, 1) := by decide +kernel
theorem dX8_keep_81 : decode cX8_keep 81 = .ok (.getfield 69, 3) := by decide +kernel
theorem dX8_keep_84 : decode cX8_keep 84 = .ok (.iload 6, 2) := by decide +kernel
theorem dX8_keep_86 : decode cX8_keep 86 = .ok (.aload_n 1, 1) := by decide +kernel
theorem dX8_keep_87 : decode cX8_keep 87 = .ok (.iload 5, 2) := by decide +kernel
theorem dX8_keep_89 : decode cX8_keep 89 = .ok (.aaload, 1) := by decide +kernel
theorem dX8_keep_90 : decode cX8_keep 90 = .ok (.getfield 51, 3) := by decide +kernel
theorem dX8_keep_93 : decode cX8_keep 93 = .ok (.imul, 1) := by decide +kernel
theorem dX8_keep_94 : decode cX8_keep 94 = .ok (.iadd, 1) := by decide +kernel
theorem dX8_keep_95 : decode cX8_keep 95 = .ok (.putfield 69, 3) := by decide +kernel
theorem dX8_keep_98 : decode cX8_keep 98 = .ok (.iinc 5 1, 3) := by decide +kernel
theorem dX8_keep_101 : decode cX8_keep 101 = .ok (.goto (-85), 3) := by decide +kernel
theorem dX8_keep_104 : decode cX8_keep 104 = .ok (.iload 4, 2) := by decide +kernel
theorem dX8_keep_106 : decode cX8_keep 106 = .ok (.ireturn, 1) := by decide +kernel
theorem dX8_tell_0 : decode cX8_tell 0 = .ok (.aload_n 0, 1) := by decide +kernel
theorem dX8_tell_1 : decode cX8_tell 1 = .ok (.getfield 37, 3) := by decide +kernel
theorem dX8_tell_4 : decode cX8_tell 4 = .ok (.ifCond .ne 5, 3) := by decide +kernel
theorem dX8_tell_7 : decode cX8_tell 7 = .ok (.iconst (-1), 1) := by decide +kernel
theorem dX8_tell_8 : decode cX8_tell 8 = .ok (.ireturn, 1) := by decide +kernel
theorem dX8_tell_9 : decode cX8_tell 9 = .ok (.iload_n 1, 1) := by decide +kernel
theorem dX8_tell_10 : decode cX8_tell 10 = .ok (.iconst 0, 1) := by decide +kernel
theorem dX8_tell_11 : decode cX8_tell 11 = .ok (.iconst 4, 1) := by decide +kernel
theorem dX8_tell_12 : decode cX8_tell 12 = .ok (.invokestatic 72, 3) := by decide +kernel
theorem dX8_tell_15 : decode cX8_tell 15 = .ok (.ifCond .eq 10, 3) := by decide +kernel
theorem dX8_tell_18 : decode cX8_tell 18 = .ok (.aload_n 0, 1) := by decide +kernel
theorem dX8_tell_19 : decode cX8_tell 19 = .ok (.getfield 15, 3) := by decide +kernel
theorem dX8_tell_22 : decode cX8_tell 22 = .ok (.iload_n 1, 1) := by decide +kernel
theorem dX8_tell_23 : decode cX8_tell 23 = .ok (.iaload, 1) := by decide +kernel
theorem dX8_tell_24 : decode cX8_tell 24 = .ok (.ireturn, 1) := by decide +kernel
theorem dX8_tell_25 : decode cX8_tell 25 = .ok (.iload_n 1, 1) := by decide +kernel
theorem dX8_tell_26 : decode cX8_tell 26 = .ok (.lookupswitch 36 #[(5, 26), (6, 31)], 26) := by decide +kernel
theorem dX8_tell_52 : decode cX8_tell 52 = .ok (.aload_n 0, 1) := by decide +kernel
theorem dX8_tell_53 : decode cX8_tell 53 = .ok (.getfield 66, 3) := by decide +kernel
theorem dX8_tell_56 : decode cX8_tell 56 = .ok (.ireturn, 1) := by decide +kernel
theorem dX8_tell_57 : decode cX8_tell 57 = .ok (.aload_n 0, 1) := by decide +kernel
theorem dX8_tell_58 : decode cX8_tell 58 = .ok (.getfield 69, 3) := by decide +kernel
theorem dX8_tell_61 : decode cX8_tell 61 = .ok (.ireturn, 1) := by decide +kernel
theorem dX8_tell_62 : decode cX8_tell 62 = .ok (.iconst (-1), 1) := by decide +kernel
theorem dX8_tell_63 : decode cX8_tell 63 = .ok (.ireturn, 1) := by decide +kernel
theorem dX9_init_0 : decode cX9_init 0 = .ok (.aload_n 0, 1) := by decide +kernel
theorem dX9_init_1 : decode cX9_init 1 = .ok (.invokespecial 3, 3) := by decide +kernel
theorem dX9_init_4 : decode cX9_init 4 = .ok (.aload_n 0, 1) := by decide +kernel
theorem dX9_init_5 : decode cX9_init 5 = .ok (.sipush 200, 3) := by decide +kernel
theorem dX9_init_8 : decode cX9_init 8 = .ok (.newarray .int, 2) := by decide +kernel
theorem dX9_init_10 : decode cX9_init 10 = .ok (.putfield 11, 3) := by decide +kernel
theorem dX9_init_13 : decode cX9_init 13 = .ok (.aload_n 0, 1) := by decide +kernel
theorem dX9_init_14 : decode cX9_init 14 = .ok (.bipush 8, 2) := by decide +kernel
theorem dX9_init_16 : decode cX9_init 16 = .ok (.newarray .int, 2) := by decide +kernel
theorem dX9_init_18 : decode cX9_init 18 = .ok (.putfield 15, 3) := by decide +kernel
theorem dX9_init_21 : decode cX9_init 21 = .ok (.aload_n 0, 1) := by decide +kernel
theorem dX9_init_22 : decode cX9_init 22 = .ok (.bipush 8, 2) := by decide +kernel
theorem dX9_init_24 : decode cX9_init 24 = .ok (.newarray .int, 2) := by decide +kernel
theorem dX9_init_26 : decode cX9_init 26 = .ok (.putfield 18, 3) := by decide +kernel
theorem dX9_init_29 : decode cX9_init 29 = .ok (.aload_n 0, 1) := by decide +kernel
theorem dX9_init_30 : decode cX9_init 30 = .ok (.bipush 8, 2) := by decide +kernel
theorem dX9_init_32 : decode cX9_init 32 = .ok (.newarray .int, 2) := by decide +kernel
theorem dX9_init_34 : decode cX9_init 34 = .ok (.putfield 21, 3) := by decide +kernel
theorem dX9_init_37 : decode cX9_init 37 = .ok (.aload_n 0, 1) := by decide +kernel
theorem dX9_init_38 : decode cX9_init 38 = .ok (.bipush 8, 2) := by decide +kernel
theorem dX9_init_40 : decode cX9_init 40 = .ok (.newarray .int, 2) := by decide +kernel
theorem dX9_init_42 : decode cX9_init 42 = .ok (.putfield 24, 3) := by decide +kernel
theorem dX9_init_45 : decode cX9_init 45 = .ok (.return_, 1) := by decide +kernel
theorem dX9_hasRoom_0 : decode cX9_hasRoom 0 = .ok (.aload_n 0, 1) := by decide +kernel
theorem dX9_hasRoom_1 : decode cX9_hasRoom 1 = .ok (.getfield 27, 3) := by decide +kernel
theorem dX9_hasRoom_4 : decode cX9_hasRoom 4 = .ok (.bipush 20, 2) := by decide +kernel
theorem dX9_hasRoom_6 : decode cX9_hasRoom 6 = .ok (.iadd, 1) := by decide +kernel
theorem dX9_hasRoom_7 : decode cX9_hasRoom 7 = .ok (.sipush 200, 3) := by decide +kernel
theorem dX9_hasRoom_10 : decode cX9_hasRoom 10 = .ok (.if_icmp .gt 7, 3) := by decide +kernel
theorem dX9_hasRoom_13 : decode cX9_hasRoom 13 = .ok (.iconst 1, 1) := by decide +kernel
theorem dX9_hasRoom_14 : decode cX9_hasRoom 14 = .ok (.goto 4, 3) := by decide +kernel
theorem dX9_hasRoom_17 : decode cX9_hasRoom 17 = .ok (.iconst 0, 1) := by decide +kernel
theorem dX9_hasRoom_18 : decode cX9_hasRoom 18 = .ok (.ireturn, 1) := by decide +kernel
theorem dX9_append_0 : decode cX9_append 0 = .ok (.aload_n 0, 1) := by decide +kernel
theorem dX9_append_1 : decode cX9_append 1 = .ok (.getfield 27, 3) := by decide +kernel
theorem dX9_append_4 : decode cX9_append 4 = .ok (.iconst 4, 1) := by decide +kernel
theorem dX9_append_5 : decode cX9_append 5 = .ok (.iadd, 1) := by decide +kernel
theorem dX9_append_6 : decode cX9_append 6 = .ok (.sipush 200, 3) := by decide +kernel
theorem dX9_append_9 : decode cX9_append 9 = .ok (.if_icmp .le 4, 3) := by decide +kernel
theorem dX9_append_12 : decode cX9_append 12 = .ok (.return_, 1) := by decide +kernel
theorem dX9_append_13 : decode cX9_append 13 = .ok (.bipush 24, 2) := by decide +kernel
theorem dX9_append_15 : decode cX9_append 15 = .ok (.istore_n 2, 1) := by decide +kernel
theorem dX9_append_16 : decode cX9_append 16 = .ok (.iload_n 2, 1) := by decide +kernel
theorem dX9_append_17 : decode cX9_append 17 = .ok (.ifCond .lt 35, 3) := by decide +kernel
theorem dX9_append_20 : decode cX9_append 20 = .ok (.aload_n 0, 1) := by decide +kernel
theorem dX9_append_21 : decode cX9_append 21 = .ok (.getfield 11, 3) := by decide +kernel
theorem dX9_append_24 : decode cX9_append 24 = .ok (.aload_n 0, 1) := by decide +kernel
theorem dX9_append_25 : decode cX9_append 25 = .ok (.getfield 27, 3) := by decide +kernel
theorem dX9_append_28 : decode cX9_append 28 = .ok (.iload_n 1, 1) := by decide +kernel
theorem dX9_append_29 : decode cX9_append 29 = .ok (.iload_n 2, 1) := by decide +kernel
theorem dX9_append_30 : decode cX9_append 30 = .ok (.iushr, 1) := by decide +kernel
theorem dX9_append_31 : decode cX9_append 31 = .ok (.sipush 255, 3) := by decide +kernel
theorem dX9_append_34 : decode cX9_append 34 = .ok (.iand, 1) := by decide +kernel
theorem dX9_append_35 : decode cX9_append 35 = .ok (.iastore, 1) := by decide +kernel
theorem dX9_append_36 : decode cX9_append 36 = .ok (.aload_n 0, 1) := by decide +kernel
theorem dX9_append_37 : decode cX9_append 37 = .ok (.dup, 1) := by decide +kernel
theorem dX9_append_38 : decode cX9_append 38 = .ok (.getfield 27, 3) := by decide +kernel
theorem dX9_append_41 : decode cX9_append 41 = .ok (.iconst 1, 1) := by decide +kernel
theorem dX9_append_42 : decode cX9_append 42 = .ok (.iadd, 1) := by decide +kernel
theorem dX9_append_43 : decode cX9_append 43 = .ok (.putfield 27, 3) := by decide +kernel
theorem dX9_append_46 : decode cX9_append 46 = .ok (.iinc 2 (-8), 3) := by decide +kernel
theorem dX9_append_49 : decode cX9_append 49 = .ok (.goto (-33), 3) := by decide +kernel
theorem dX9_append_52 : decode cX9_append 52 = .ok (.return_, 1) := by decide +kernel
theorem dX9_read_0 : decode cX9_read 0 = .ok (.aload_n 0, 1) := by decide +kernel
theorem dX9_read_1 : decode cX9_read 1 = .ok (.iconst 0, 1) := by decide +kernel
theorem dX9_read_2 : decode cX9_read 2 = .ok (.putfield 31, 3) := by decide +kernel
theorem dX9_read_5 : decode cX9_read 5 = .ok (.aload_n 0, 1) := by decide +kernel
theorem dX9_read_6 : decode cX9_read 6 = .ok (.iconst 0, 1) := by decide +kernel
theorem dX9_read_7 : decode cX9_read 7 = .ok (.putfield 34, 3) := by decide +kernel
theorem dX9_read_10 : decode cX9_read 10 = .ok (.aload_n 0, 1) := by decide +kernel
theorem dX9_read_11 : decode cX9_read 11 = .ok (.iconst 0, 1) := by decide +kernel
theorem dX9_read_12 : decode cX9_read 12 = .ok (.putfield 37, 3) := by decide +kernel
theorem dX9_read_15 : decode cX9_read 15 = .ok (.aload_n 0, 1) := by decide +kernel
theorem dX9_read_16 : decode cX9_read 16 = .ok (.invokevirtual 40, 3) := by decide +kernel
theorem dX9_read_19 : decode cX9_read 19 = .ok (.aload_n 0, 1) := by decide +kernel
theorem dX9_read_20 : decode cX9_read 20 = .ok (.getfield 31, 3) := by decide +kernel
theorem dX9_read_23 : decode cX9_read 23 = .ok (.aload_n 0, 1) := by decide +kernel
theorem dX9_read_24 : decode cX9_read 24 = .ok (.getfield 27, 3) := by decide +kernel
theorem dX9_read_27 : decode cX9_read 27 = .ok (.if_icmp .lt 4, 3) := by decide +kernel
theorem dX9_read_30 : decode cX9_read 30 = .ok (.return_, 1) := by decide +kernel
theorem dX9_read_31 : decode cX9_read 31 = .ok (.iconst 0, 1) := by decide +kernel
theorem dX9_read_32 : decode cX9_read 32 = .ok (.istore_n 1, 1) := by decide +kernel
theorem dX9_read_33 : decode cX9_read 33 = .ok (.iload_n 1, 1) := by decide +kernel
theorem dX9_read_34 : decode cX9_read 34 = .ok (.bipush 8, 2) := by decide +kernel
theorem dX9_read_36 : decode cX9_read 36 = .ok (.if_icmp .gt 72, 3) := by decide +kernel
theorem dX9_read_39 : decode cX9_read 39 = .ok (.aload_n 0, 1) := by decide +kernel
theorem dX9_read_40 : decode cX9_read 40 = .ok (.invokevirtual 43, 3) := by decide +kernel
theorem dX9_read_43 : decode cX9_read 43 = .ok (.ifCond .ne 4, 3) := by decide +kernel
theorem dX9_read_46 : decode cX9_read 46 = .ok (.return_, 1) := by decide +kernel
theorem dX9_read_47 : decode cX9_read 47 = .ok (.aload_n 0, 1) := by decide +kernel
theorem dX9_read_48 : decode cX9_read 48 = .ok (.invokevirtual 40, 3) := by decide +kernel
theorem dX9_read_51 : decode cX9_read 51 = .ok (.aload_n 0, 1) := by decide +kernel
theorem dX9_read_52 : decode cX9_read 52 = .ok (.getfield 31, 3) := by decide +kernel
theorem dX9_read_55 : decode cX9_read 55 = .ok (.aload_n 0, 1) := by decide +kernel
theorem dX9_read_56 : decode cX9_read 56 = .ok (.getfield 27, 3) := by decide +kernel
theorem dX9_read_59 : decode cX9_read 59 = .ok (.if_icmp .lt 4, 3) := by decide +kernel
theorem dX9_read_62 : decode cX9_read 62 = .ok (.return_, 1) := by decide +kernel
theorem dX9_read_63 : decode cX9_read 63 = .ok (.aload_n 0, 1) := by decide +kernel
theorem dX9_read_64 : decode cX9_read 64 = .ok (.getfield 11, 3) := by decide +kernel
theorem dX9_read_67 : decode cX9_read 67 = .ok (.aload_n 0, 1) := by decide +kernel
theorem dX9_read_68 : decode cX9_read 68 = .ok (.getfield 31, 3) := by decide +kernel
theorem dX9_read_71 : decode cX9_read 71 = .ok (.iaload, 1) := by decide +kernel
theorem dX9_read_72 : decode cX9_read 72 = .ok (.bipush 59, 2) := by decide +kernel
theorem dX9_read_74 : decode cX9_read 74 = .ok (.if_icmp .eq 14, 3) := by decide +kernel
theorem dX9_read_77 : decode cX9_read 77 = .ok (.aload_n 0, 1) := by decide +kernel
theorem dX9_read_78 : decode cX9_read 78 = .ok (.aload_n 0, 1) := by decide +kernel
theorem dX9_read_79 : decode cX9_read 79 = .ok (.getfield 31, 3) := by decide +kernel
theorem dX9_read_82 : decode cX9_read 82 = .ok (.iconst 0, 1) := by decide +kernel
theorem dX9_read_83 : decode cX9_read 83 = .ok (.invokevirtual 47, 3) := by decide +kernel
theorem dX9_read_86 : decode cX9_read 86 = .ok (.pop, 1) := by decide +kernel
theorem dX9_read_87 : decode cX9_read 87 = .ok (.return_, 1) := by decide +kernel
theorem dX9_read_88 : decode cX9_read 88 = .ok (.aload_n 0, 1) := by decide +kernel
theorem dX9_read_89 : decode cX9_read 89 = .ok (.dup, 1) := by decide +kernel
theorem dX9_read_90 : decode cX9_read 90 = .ok (.getfield 31, 3) := by decide +kernel
theorem dX9_read_93 : decode cX9_read 93 = .ok (.iconst 1, 1) := by decide +kernel
theorem dX9_read_94 : decode cX9_read 94 = .ok (.iadd, 1) := by decide +kernel
theorem dX9_read_95 : decode cX9_read 95 = .ok (.putfield 31, 3) := by decide +kernel
theorem dX9_read_98 : decode cX9_read 98 = .ok (.aload_n 0, 1) := by decide +kernel
theorem dX9_read_99 : decode cX9_read 99 = .ok (.invokevirtual 40, 3) := by decide +kernel
theorem dX9_read_102 : decode cX9_read 102 = .ok (.iinc 1 1, 3) := by decide +kernel
theorem dX9_read_105 : decode cX9_read 105 = .ok (.goto (-72), 3) := by decide +kernel
theorem dX9_read_108 : decode cX9_read 108 = .ok (.return_, 1) := by decide +kernel
theorem dX9_readSpan_0 : decode cX9_readSpan 0 = .ok (.aload_n 0, 1) := by decide +kernel
theorem dX9_readSpan_1 : decode cX9_readSpan 1 = .ok (.getfield 31, 3) := by decide +kernel
theorem dX9_readSpan_4 : decode cX9_readSpan 4 = .ok (.istore_n 1, 1) := by decide +kernel
theorem dX9_readSpan_5 : decode cX9_readSpan 5 = .ok (.aload_n 0, 1) := by decide +kernel
theorem dX9_readSpan_6 : decode cX9_readSpan 6 = .ok (.invokevirtual 51, 3) := by decide +kernel
theorem dX9_readSpan_9 : decode cX9_readSpan 9 = .ok (.aload_n 0, 1) := by decide +kernel
theorem dX9_readSpan_10 : decode cX9_readSpan 10 = .ok (.getfield 31, 3) := by decide +kernel
theorem dX9_readSpan_13 : decode cX9_readSpan 13 = .ok (.iload_n 1, 1) := by decide +kernel
theorem dX9_readSpan_14 : decode cX9_readSpan 14 = .ok (.if_icmp .ne 10, 3) := by decide +kernel
theorem dX9_readSpan_17 : decode cX9_readSpan 17 = .ok (.aload_n 0, 1) := by decide +kernel
theorem dX9_readSpan_18 : decode cX9_readSpan 18 = .ok (.iload_n 1, 1) := by decide +kernel
theorem dX9_readSpan_19 : decode cX9_readSpan 19 = .ok (.iconst 0, 1) := by decide +kernel
theorem dX9_readSpan_20 : decode cX9_readSpan 20 = .ok (.invokevirtual 47, 3) := by decide +kernel
theorem dX9_readSpan_23 : decode cX9_readSpan 23 = .ok (.ireturn, 1) := by decide +kernel
theorem dX9_readSpan_24 : decode cX9_readSpan 24 = .ok (.aload_n 0, 1) := by decide +kernel
theorem dX9_readSpan_25 : decode cX9_readSpan 25 = .ok (.getfield 31, 3) := by decide +kernel
theorem dX9_readSpan_28 : decode cX9_readSpan 28 = .ok (.iload_n 1, 1) := by decide +kernel
theorem dX9_readSpan_29 : decode cX9_readSpan 29 = .ok (.isub, 1) := by decide +kernel
theorem dX9_readSpan_30 : decode cX9_readSpan 30 = .ok (.bipush 10, 2) := by decide +kernel
theorem dX9_readSpan_32 : decode cX9_readSpan 32 = .ok (.if_icmp .le 10, 3) := by decide +kernel
theorem dX9_readSpan_35 : decode cX9_readSpan 35 = .ok (.aload_n 0, 1) := by decide +kernel
theorem dX9_readSpan_36 : decode cX9_readSpan 36 = .ok (.iload_n 1, 1) := by decide +kernel
theorem dX9_readSpan_37 : decode cX9_readSpan 37 = .ok (.iconst 1, 1) := by decide +kernel
theorem dX9_readSpan_38 : decode cX9_readSpan 38 = .ok (.invokevirtual 47, 3) := by decide +kernel
theorem dX9_readSpan_41 : decode cX9_readSpan 41 = .ok (.ireturn, 1) := by decide +kernel
theorem dX9_readSpan_42 : decode cX9_readSpan 42 = .ok (.aload_n 0, 1) := by decide +kernel
theorem dX9_readSpan_43 : decode cX9_readSpan 43 = .ok (.getfield 34, 3) := by decide +kernel
theorem dX9_readSpan_46 : decode cX9_readSpan 46 = .ok (.bipush 8, 2) := by decide +kernel
theorem dX9_readSpan_48 : decode cX9_readSpan 48 = .ok (.if_icmp .ge 15, 3) := by decide +kernel
theorem dX9_readSpan_51 : decode cX9_readSpan 51 = .ok (.aload_n 0, 1) := by decide +kernel
theorem dX9_readSpan_52 : decode cX9_readSpan 52 = .ok (.iload_n 1, 1) := by decide +kernel
theorem dX9_readSpan_53 : decode cX9_readSpan 53 = .ok (.aload_n 0, 1) := by decide +kernel
theorem dX9_readSpan_54 : decode cX9_readSpan 54 = .ok (.getfield 31, 3) := by decide +kernel
theorem dX9_readSpan_57 : decode cX9_readSpan 57 = .ok (.invokevirtual 54, 3) := by decide +kernel
theorem dX9_readSpan_60 : decode cX9_readSpan 60 = .ok (.ifCond .eq 10, 3) := by decide +kernel
theorem dX9_readSpan_63 : decode cX9_readSpan 63 = .ok (.aload_n 0, 1) := by decide +kernel
theorem dX9_readSpan_64 : decode cX9_readSpan 64 = .ok (.iload_n 1, 1) := by decide +kernel
theorem dX9_readSpan_65 : decode cX9_readSpan 65 = .ok (.iconst 2, 1) := by decide +kernel
theorem dX9_readSpan_66 : decode cX9_readSpan 66 = .ok (.invokevirtual 47, 3) := by decide +kernel
theorem dX9_readSpan_69 : decode cX9_readSpan 69 = .ok (.ireturn, 1) := by decide +kernel
theorem dX9_readSpan_70 : decode cX9_readSpan 70 = .ok (.aload_n 0, 1) := by decide +kernel
theorem dX9_readSpan_71 : decode cX9_readSpan 71 = .ok (.getfield 31, 3) := by decide +kernel
theorem dX9_readSpan_74 : decode cX9_readSpan 74 = .ok (.istore_n 2, 1) := by decide +kernel
theorem dX9_readSpan_75 : decode cX9_readSpan 75 = .ok (.aload_n 0, 1) := by decide +kernel
theorem dX9_readSpan_76 : decode cX9_readSpan 76 = .ok (.invokevirtual 40, 3) := by decide +kernel
theorem dX9_readSpan_79 : decode cX9_readSpan 79 = .ok (.aload_n 0, 1) := by decide +kernel
theorem dX9_readSpan_80 : decode cX9_readSpan 80 = .ok (.invokevirtual 57, 3) := by decide +kernel
theorem dX9_readSpan_83 : decode cX9_readSpan 83 = .ok (.istore_n 3, 1) := by decide +kernel
theorem dX9_readSpan_84 : decode cX9_readSpan 84 = .ok (.iload_n 3, 1) := by decide +kernel
theorem dX9_readSpan_85 : decode cX9_readSpan 85 = .ok (.iconst (-1), 1) := by decide +kernel
theorem dX9_readSpan_86 : decode cX9_readSpan 86 = .ok (.if_icmp .ne 5, 3) := by decide +kernel
theorem dX9_readSpan_89 : decode cX9_readSpan 89 = .ok (.iconst 0, 1) := by decide +kernel
theorem dX9_readSpan_90 : decode cX9_readSpan 90 = .ok (.ireturn, 1) := by decide +kernel
theorem dX9_readSpan_91 : decode cX9_readSpan 91 = .ok (.aload_n 0, 1) := by decide +kernel
theorem dX9_readSpan_92 : decode cX9_readSpan 92 = .ok (.invokevirtual 40, 3) := by decide +kernel
theorem dX9_readSpan_95 : decode cX9_readSpan 95 = .ok (.aload_n 0, 1) := by decide +kernel
theorem dX9_readSpan_96 : decode cX9_readSpan 96 = .ok (.getfield 31, 3) := by decide +kernel
theorem dX9_readSpan_99 : decode cX9_readSpan 99 = .ok (.istore 4, 2) := by decide +kernel
theorem dX9_readSpan_101 : decode cX9_readSpan 101 = .ok (.aload_n 0, 1) := by decide +kernel
theorem dX9_readSpan_102 : decode cX9_readSpan 102 = .ok (.invokevirtual 57, 3) := by decide +kernel
theorem dX9_readSpan_105 : decode cX9_readSpan 105 = .ok (.istore 5, 2) := by decide +kernel
theorem dX9_readSpan_107 : decode cX9_readSpan 107 = .ok (.iload 5, 2) := by decide +kernel
theorem dX9_readSpan_109 : decode cX9_readSpan 109 = .ok (.iconst (-1), 1) := by decide +kernel
theorem dX9_readSpan_110 : decode cX9_readSpan 110 = .ok (.if_icmp .ne 5, 3) := by decide +kernel
theorem dX9_readSpan_113 : decode cX9_readSpan 113 = .ok (.iconst 0, 1) := by decide +kernel
theorem dX9_readSpan_114 : decode cX9_readSpan 114 = .ok (.ireturn, 1) := by decide +kernel
theorem dX9_readSpan_115 : decode cX9_readSpan 115 = .ok (.iload 5, 2) := by decide +kernel
theorem dX9_readSpan_117 : decode cX9_readSpan 117 = .ok (.iload_n 3, 1) := by decide +kernel
theorem dX9_readSpan_118 : decode cX9_readSpan 118 = .ok (.if_icmp .ge 11, 3) := by decide +kernel
theorem dX9_readSpan_121 : decode cX9_readSpan 121 = .ok (.aload_n 0, 1) := by decide +kernel
theorem dX9_readSpan_122 : decode cX9_readSpan 122 = .ok (.iload 4, 2) := by decide +kernel
theorem dX9_readSpan_124 : decode cX9_readSpan 124 = .ok (.iconst 1, 1) := by decide +kernel
theorem dX9_readSpan_125 : decode cX9_readSpan 125 = .ok (.invokevirtual 47, 3) := by decide +kernel
theorem dX9_readSpan_128 : decode cX9_readSpan 128 = .ok (.ireturn, 1) := by decide +kernel
theorem dX9_readSpan_129 : decode cX9_readSpan 129 = .ok (.aload_n 0, 1) := by decide +kernel
theorem dX9_readSpan_130 : decode cX9_readSpan 130 = .ok (.iload_n 1, 1) := by decide +kernel
theorem dX9_readSpan_131 : decode cX9_readSpan 131 = .ok (.iload_n 2, 1) := by decide +kernel
theorem dX9_readSpan_132 : decode cX9_readSpan 132 = .ok (.iload_n 3, 1) := by decide +kernel
theorem dX9_readSpan_133 : decode cX9_readSpan 133 = .ok (.iload 5, 2) := by decide +kernel
theorem dX9_readSpan_135 : decode cX9_readSpan 135 = .ok (.invokevirtual 61, 3) := by decide +kernel
theorem dX9_readSpan_138 : decode cX9_readSpan 138 = .ok (.iconst 1, 1) := by decide +kernel
theorem dX9_readSpan_139 : decode cX9_readSpan 139 = .ok (.ireturn, 1) := by decide +kernel
theorem dX9_keepSpan_0 : decode cX9_keepSpan 0 = .ok (.aload_n 0, 1) := by decide +kernel
theorem dX9_keepSpan_1 : decode cX9_keepSpan 1 = .ok (.getfield 15, 3) := by decide +kernel
theorem dX9_keepSpan_4 : decode cX9_keepSpan 4 = .ok (.aload_n 0, 1) := by decide +kernel
theorem dX9_keepSpan_5 : decode cX9_keepSpan 5 = .ok (.getfield 34, 3) := by decide +kernel
theorem dX9_keepSpan_8 : decode cX9_keepSpan 8 = .ok (.iload_n 1, 1) := by decide +kernel
theorem dX9_keepSpan_9 : decode cX9_keepSpan 9 = .ok (.iastore, 1) := by decide +kernel
theorem dX9_keepSpan_10 : decode cX9_keepSpan 10 = .ok (.aload_n 0, 1) := by decide +kernel
theorem dX9_keepSpan_11 : decode cX9_keepSpan 11 = .ok (.getfield 18, 3) := by decide +kernel
theorem dX9_keepSpan_14 : decode cX9_keepSpan 14 = .ok (.aload_n 0, 1) := by decide +kernel
theorem dX9_keepSpan_15 : decode cX9_keepSpan 15 = .ok (.getfield 34, 3) := by decide +kernel
theorem dX9_keepSpan_18 : decode cX9_keepSpan 18 = .ok (.iload_n 2, 1) := by decide +kernel
theorem dX9_keepSpan_19 : decode cX9_keepSpan 19 = .ok (.iastore, 1) := by decide +kernel
theorem dX9_keepSpan_20 : decode cX9_keepSpan 20 = .ok (.aload_n 0, 1) := by decide +kernel
theorem dX9_keepSpan_21 : decode cX9_keepSpan 21 = .ok (.getfield 21, 3) := by decide +kernel
theorem dX9_keepSpan_24 : decode cX9_keepSpan 24 = .ok (.aload_n 0, 1) := by decide +kernel
theorem dX9_keepSpan_25 : decode cX9_keepSpan 25 = .ok (.getfield 34, 3) := by decide +kernel
theorem dX9_keepSpan_28 : decode cX9_keepSpan 28 = .ok (.iload_n 3, 1) := by decide +kernel
theorem dX9_keepSpan_29 : decode cX9_keepSpan 29 = .ok (.iastore, 1) := by decide +kernel
theorem dX9_keepSpan_30 : decode cX9_keepSpan 30 = .ok (.aload_n 0, 1) := by decide +kernel
theorem dX9_keepSpan_31 : decode cX9_keepSpan 31 = .ok (.getfield 24, 3) := by decide +kernel
theorem dX9_keepSpan_34 : decode cX9_keepSpan 34 = .ok (.aload_n 0, 1) := by decide +kernel
theorem dX9_keepSpan_35 : decode cX9_keepSpan 35 = .ok (.getfield 34, 3) := by decide +kernel
theorem dX9_keepSpan_38 : decode cX9_keepSpan 38 = .ok (.iload 4, 2) := by decide +kernel
theorem dX9_keepSpan_40 : decode cX9_keepSpan 40 = .ok (.iastore, 1) := by decide +kernel
theorem dX9_keepSpan_41 : decode cX9_keepSpan 41 = .ok (.aload_n 0, 1) := by decide +kernel
theorem dX9_keepSpan_42 : decode cX9_keepSpan 42 = .ok (.dup, 1) := by decide +kernel
theorem dX9_keepSpan_43 : decode cX9_keepSpan 43 = .ok (.getfield 34, 3) := by decide +kernel
theorem dX9_keepSpan_46 : decode cX9_keepSpan 46 = .ok (.iconst 1, 1) := by decide +kernel
theorem dX9_keepSpan_47 : decode cX9_keepSpan 47 = .ok (.iadd, 1) := by decide +kernel
theorem dX9_keepSpan_48 : decode cX9_keepSpan 48 = .ok (.putfield 34, 3) := by decide +kernel
theorem dX9_keepSpan_51 : decode cX9_keepSpan 51 = .ok (.return_, 1) := by decide +kernel
theorem dX9_readNumber_0 : decode cX9_readNumber 0 = .ok (.aload_n 0, 1) := by decide +kernel
theorem dX9_readNumber_1 : decode cX9_readNumber 1 = .ok (.getfield 31, 3) := by decide +kernel
theorem dX9_readNumber_4 : decode cX9_readNumber 4 = .ok (.istore_n 1, 1) := by decide +kernel
theorem dX9_readNumber_5 : decode cX9_readNumber 5 = .ok (.iconst 0, 1) := by decide +kernel
theorem dX9_readNumber_6 : decode cX9_readNumber 6 = .ok (.istore_n 2, 1) := by decide +kernel
theorem dX9_readNumber_7 : decode cX9_readNumber 7 = .ok (.aload_n 0, 1) := by decide +kernel
theorem dX9_readNumber_8 : decode cX9_readNumber 8 = .ok (.getfield 31, 3) := by decide +kernel
theorem dX9_readNumber_11 : decode cX9_readNumber 11 = .ok (.istore_n 3, 1) := by decide +kernel
theorem dX9_readNumber_12 : decode cX9_readNumber 12 = .ok (.iload_n 3, 1) := by decide +kernel
theorem dX9_readNumber_13 : decode cX9_readNumber 13 = .ok (.aload_n 0, 1) := by decide +kernel
theorem dX9_readNumber_14 : decode cX9_readNumber 14 = .ok (.getfield 27, 3) := by decide +kernel
theorem dX9_readNumber_17 : decode cX9_readNumber 17 = .ok (.if_icmp .ge 52, 3) := by decide +kernel
theorem dX9_readNumber_20 : decode cX9_readNumber 20 = .ok (.aload_n 0, 1) := by decide +kernel
theorem dX9_readNumber_21 : decode cX9_readNumber 21 = .ok (.getfield 11, 3) := by decide +kernel
theorem dX9_readNumber_24 : decode cX9_readNumber 24 = .ok (.iload_n 3, 1) := by decide +kernel
theorem dX9_readNumber_25 : decode cX9_readNumber 25 = .ok (.iaload, 1) := by decide +kernel
theorem dX9_readNumber_26 : decode cX9_readNumber 26 = .ok (.bipush 48, 2) := by decide +kernel
theorem dX9_readNumber_28 : decode cX9_readNumber 28 = .ok (.bipush 57, 2) := by decide +kernel
theorem dX9_readNumber_30 : decode cX9_readNumber 30 = .ok (.invokestatic 65, 3) := by decide +kernel
theorem dX9_readNumber_33 : decode cX9_readNumber 33 = .ok (.ifCond .eq 36, 3) := by decide +kernel
theorem dX9_readNumber_36 : decode cX9_readNumber 36 = .ok (.bipush 101, 2) := by decide +kernel
theorem dX9_readNumber_38 : decode cX9_readNumber 38 = .ok (.bipush 10, 2) := by decide +kernel
theorem dX9_readNumber_40 : decode cX9_readNumber 40 = .ok (.iload_n 2, 1) := by decide +kernel
theorem dX9_readNumber_41 : decode cX9_readNumber 41 = .ok (.imul, 1) := by decide +kernel
theorem dX9_readNumber_42 : decode cX9_readNumber 42 = .ok (.aload_n 0, 1) := by decide +kernel
theorem dX9_readNumber_43 : decode cX9_readNumber 43 = .ok (.getfield 11, 3) := by decide +kernel
theorem dX9_readNumber_46 : decode cX9_readNumber 46 = .ok (.iload_n 3, 1) := by decide +kernel
theorem dX9_readNumber_47 : decode cX9_readNumber 47 = .ok (.iaload, 1) := by decide +kernel
theorem dX9_readNumber_48 : decode cX9_readNumber 48 = .ok (.iadd, 1) := by decide +kernel
theorem dX9_readNumber_49 : decode cX9_readNumber 49 = .ok (.bipush 48, 2) := by decide +kernel
theorem dX9_readNumber_51 : decode cX9_readNumber 51 = .ok (.isub, 1) := by decide +kernel
theorem dX9_readNumber_52 : decode cX9_readNumber 52 = .ok (.invokestatic 69, 3) := by decide +kernel
theorem dX9_readNumber_55 : decode cX9_readNumber 55 = .ok (.istore_n 2, 1) := by decide +kernel
theorem dX9_readNumber_56 : decode cX9_readNumber 56 = .ok (.aload_n 0, 1) := by decide +kernel
theorem dX9_readNumber_57 : decode cX9_readNumber 57 = .ok (.iload_n 3, 1) := by decide +kernel
theorem dX9_readNumber_58 : decode cX9_readNumber 58 = .ok (.iconst 1, 1) := by decide +kernel
theorem dX9_readNumber_59 : decode cX9_readNumber 59 = .ok (.iadd, 1) := by decide +kernel
theorem dX9_readNumber_60 : decode cX9_readNumber 60 = .ok (.putfield 31, 3) := by decide +kernel
theorem dX9_readNumber_63 : decode cX9_readNumber 63 = .ok (.iinc 3 1, 3) := by decide +kernel
theorem dX9_readNumber_66 : decode cX9_readNumber 66 = .ok (.goto (-54), 3) := by decide +kernel
theorem dX9_readNumber_69 : decode cX9_readNumber 69 = .ok (.aload_n 0, 1) := by decide +kernel
theorem dX9_readNumber_70 : decode cX9_readNumber 70 = .ok (.getfield 31, 3) := by decide +kernel
theorem dX9_readNumber_73 : decode cX9_readNumber 73 = .ok (.iload_n 1, 1) := by decide +kernel
theorem dX9_readNumber_74 : decode cX9_readNumber 74 = .ok (.if_icmp .ne 12, 3) := by decide +kernel
theorem dX9_readNumber_77 : decode cX9_readNumber 77 = .ok (.aload_n 0, 1) := by decide +kernel
theorem dX9_readNumber_78 : decode cX9_readNumber 78 = .ok (.iload_n 1, 1) := by decide +kernel
theorem dX9_readNumber_79 : decode cX9_readNumber 79 = .ok (.iconst 0, 1) := by decide +kernel
theorem dX9_readNumber_80 : decode cX9_readNumber 80 = .ok (.invokevirtual 47, 3) := by decide +kernel
theorem dX9_readNumber_83 : decode cX9_readNumber 83 = .ok (.pop, 1) := by decide +kernel
theorem dX9_readNumber_84 : decode cX9_readNumber 84 = .ok (.iconst (-1), 1) := by decide +kernel
theorem dX9_readNumber_85 : decode cX9_readNumber 85 = .ok (.ireturn, 1) := by decide +kernel
theorem dX9_readNumber_86 : decode cX9_readNumber 86 = .ok (.aload_n 0, 1) := by decide +kernel
theorem dX9_readNumber_87 : decode cX9_readNumber 87 = .ok (.getfield 31, 3) := by decide +kernel
theorem dX9_readNumber_90 : decode cX9_readNumber 90 = .ok (.iload_n 1, 1) := by decide +kernel
theorem dX9_readNumber_91 : decode cX9_readNumber 91 = .ok (.isub, 1) := by decide +kernel
theorem dX9_readNumber_92 : decode cX9_readNumber 92 = .ok (.iconst 3, 1) := by decide +kernel
theorem dX9_readNumber_93 : decode cX9_readNumber 93 = .ok (.if_icmp .gt 9, 3) := by decide +kernel
theorem dX9_readNumber_96 : decode cX9_readNumber 96 = .ok (.iload_n 2, 1) := by decide +kernel
theorem dX9_readNumber_97 : decode cX9_readNumber 97 = .ok (.bipush 100, 2) := by decide +kernel
theorem dX9_readNumber_99 : decode cX9_readNumber 99 = .ok (.if_icmp .le 12, 3) := by decide +kernel
theorem dX9_readNumber_102 : decode cX9_readNumber 102 = .ok (.aload_n 0, 1) := by decide +kernel
theorem dX9_readNumber_103 : decode cX9_readNumber 103 = .ok (.iload_n 1, 1) := by decide +kernel
theorem dX9_readNumber_104 : decode cX9_readNumber 104 = .ok (.iconst 1, 1) := by decide +kernel
theorem dX9_readNumber_105 : decode cX9_readNumber 105 = .ok (.invokevirtual 47, 3) := by decide +kernel
theorem dX9_readNumber_108 : decode cX9_readNumber 108 = .ok (.pop, 1) := by decide +kernel
theorem dX9_readNumber_109 : decode cX9_readNumber 109 = .ok (.iconst (-1), 1) := by decide +kernel
theorem dX9_readNumber_110 : decode cX9_readNumber 110 = .ok (.ireturn, 1) := by decide +kernel
theorem dX9_readNumber_111 : decode cX9_readNumber 111 = .ok (.iload_n 2, 1) := by decide +kernel
theorem dX9_readNumber_112 : decode cX9_readNumber 112 = .ok (.ireturn, 1) := by decide +kernel
theorem dX9_skipBlanks_0 : decode cX9_skipBlanks 0 = .ok (.aload_n 0, 1) := by decide +kernel
theorem dX9_skipBlanks_1 : decode cX9_skipBlanks 1 = .ok (.getfield 31, 3) := by decide +kernel
theorem dX9_skipBlanks_4 : decode cX9_skipBlanks 4 = .ok (.istore_n 1, 1) := by decide +kernel
theorem dX9_skipBlanks_5 : decode cX9_skipBlanks 5 = .ok (.iload_n 1, 1) := by decide +kernel
theorem dX9_skipBlanks_6 : decode cX9_skipBlanks 6 = .ok (.aload_n 0, 1) := by decide +kernel
theorem dX9_skipBlanks_7 : decode cX9_skipBlanks 7 = .ok (.getfield 27, 3) := by decide +kernel
theorem dX9_skipBlanks_10 : decode cX9_skipBlanks 10 = .ok (.if_icmp .ge 27, 3) := by decide +kernel
theorem dX9_skipBlanks_13 : decode cX9_skipBlanks 13 = .ok (.aload_n 0, 1) := by decide +kernel
theorem dX9_skipBlanks_14 : decode cX9_skipBlanks 14 = .ok (.getfield 11, 3) := by decide +kernel
theorem dX9_skipBlanks_17 : decode cX9_skipBlanks 17 = .ok (.iload_n 1, 1) := by decide +kernel
theorem dX9_skipBlanks_18 : decode cX9_skipBlanks 18 = .ok (.iaload, 1) := by decide +kernel
theorem dX9_skipBlanks_19 : decode cX9_skipBlanks 19 = .ok (.bipush 32, 2) := by decide +kernel
theorem dX9_skipBlanks_21 : decode cX9_skipBlanks 21 = .ok (.if_icmp .ne 16, 3) := by decide +kernel
theorem dX9_skipBlanks_24 : decode cX9_skipBlanks 24 = .ok (.aload_n 0, 1) := by decide +kernel
theorem dX9_skipBlanks_25 : decode cX9_skipBlanks 25 = .ok (.iload_n 1, 1) := by decide +kernel
theorem dX9_skipBlanks_26 : decode cX9_skipBlanks 26 = .ok (.iconst 1, 1) := by decide +kernel
theorem dX9_skipBlanks_27 : decode cX9_skipBlanks 27 = .ok (.iadd, 1) := by decide +kernel
theorem dX9_skipBlanks_28 : decode cX9_skipBlanks 28 = .ok (.putfield 31, 3) := by decide +kernel
theorem dX9_skipBlanks_31 : decode cX9_skipBlanks 31 = .ok (.iinc 1 1, 3) := by decide +kernel
theorem dX9_skipBlanks_34 : decode cX9_skipBlanks 34 = .ok (.goto (-29), 3) := by decide +kernel
theorem dX9_skipBlanks_37 : decode cX9_skipBlanks 37 = .ok (.return_, 1) := by decide +kernel
theorem dX9_skipLetters_0 : decode cX9_skipLetters 0 = .ok (.aload_n 0, 1) := by decide +kernel
theorem dX9_skipLetters_1 : decode cX9_skipLetters 1 = .ok (.getfield 31, 3) := by decide +kernel
theorem dX9_skipLetters_4 : decode cX9_skipLetters 4 = .ok (.istore_n 1, 1) := by decide +kernel
theorem dX9_skipLetters_5 : decode cX9_skipLetters 5 = .ok (.iload_n 1, 1) := by decide +kernel
theorem dX9_skipLetters_6 : decode cX9_skipLetters 6 = .ok (.aload_n 0, 1) := by decide +kernel
theorem dX9_skipLetters_7 : decode cX9_skipLetters 7 = .ok (.getfield 27, 3) := by decide +kernel
theorem dX9_skipLetters_10 : decode cX9_skipLetters 10 = .ok (.if_icmp .ge 32, 3) := by decide +kernel
theorem dX9_skipLetters_13 : decode cX9_skipLetters 13 = .ok (.aload_n 0, 1) := by decide +kernel
theorem dX9_skipLetters_14 : decode cX9_skipLetters 14 = .ok (.getfield 11, 3) := by decide +kernel
theorem dX9_skipLetters_17 : decode cX9_skipLetters 17 = .ok (.iload_n 1, 1) := by decide +kernel
theorem dX9_skipLetters_18 : decode cX9_skipLetters 18 = .ok (.iaload, 1) := by decide +kernel
theorem dX9_skipLetters_19 : decode cX9_skipLetters 19 = .ok (.bipush 97, 2) := by decide +kernel
theorem dX9_skipLetters_21 : decode cX9_skipLetters 21 = .ok (.bipush 122, 2) := by decide +kernel
theorem dX9_skipLetters_23 : decode cX9_skipLetters 23 = .ok (.invokestatic 65, 3) := by decide +kernel
theorem dX9_skipLetters_26 : decode cX9_skipLetters 26 = .ok (.ifCond .eq 16, 3) := by decide +kernel
theorem dX9_skipLetters_29 : decode cX9_skipLetters 29 = .ok (.aload_n 0, 1) := by decide +kernel
theorem dX9_skipLetters_30 : decode cX9_skipLetters 30 = .ok (.iload_n 1, 1) := by decide +kernel
theorem dX9_skipLetters_31 : decode cX9_skipLetters 31 = .ok (.iconst 1, 1) := by decide +kernel
theorem dX9_skipLetters_32 : decode cX9_skipLetters 32 = .ok (.iadd, 1) := by decide +kernel
theorem dX9_skipLetters_33 : decode cX9_skipLetters 33 = .ok (.putfield 31, 3) := by decide +kernel
theorem dX9_skipLetters_36 : decode cX9_skipLetters 36 = .ok (.iinc 1 1, 3) := by decide +kernel
theorem dX9_skipLetters_39 : decode cX9_skipLetters 39 = .ok (.goto (-34), 3) := by decide +kernel
theorem dX9_skipLetters_42 : decode cX9_skipLetters 42 = .ok (.return_, 1) := by decide +kernel
theorem dX9_isTold_0 : decode cX9_isTold 0 = .ok (.iconst 0, 1) := by decide +kernel
theorem dX9_isTold_1 : decode cX9_isTold 1 = .ok (.istore_n 3, 1) := by decide +kernel
theorem dX9_isTold_2 : decode cX9_isTold 2 = .ok (.iload_n 3, 1) := by decide +kernel
theorem dX9_isTold_3 : decode cX9_isTold 3 = .ok (.aload_n 0, 1) := by decide +kernel
theorem dX9_isTold_4 : decode cX9_isTold 4 = .ok (.getfield 34, 3) := by decide +kernel
theorem dX9_isTold_7 : decode cX9_isTold 7 = .ok (.if_icmp .ge 47, 3) := by decide +kernel
theorem dX9_isTold_10 : decode cX9_isTold 10 = .ok (.aload_n 0, 1) := by decide +kernel
theorem dX9_isTold_11 : decode cX9_isTold 11 = .ok (.getfield 18, 3) := by decide +kernel
theorem dX9_isTold_14 : decode cX9_isTold 14 = .ok (.iload_n 3, 1) := by decide +kernel
theorem dX9_isTold_15 : decode cX9_isTold 15 = .ok (.iaload, 1) := by decide +kernel
theorem dX9_isTold_16 : decode cX9_isTold 16 = .ok (.aload_n 0, 1) := by decide +kernel
theorem dX9_isTold_17 : decode cX9_isTold 17 = .ok (.getfield 15, 3) := by decide +kernel
theorem dX9_isTold_20 : decode cX9_isTold 20 = .ok (.iload_n 3, 1) := by decide +kernel
theorem dX9_isTold_21 : decode cX9_isTold 21 = .ok (.iaload, 1) := by decide +kernel
theorem dX9_isTold_22 : decode cX9_isTold 22 = .ok (.isub, 1) := by decide +kernel
theorem dX9_isTold_23 : decode cX9_isTold 23 = .ok (.iload_n 2, 1) := by decide +kernel
theorem dX9_isTold_24 : decode cX9_isTold 24 = .ok (.iload_n 1, 1) := by decide +kernel
theorem dX9_isTold_25 : decode cX9_isTold 25 = .ok (.isub, 1) := by decide +kernel
theorem dX9_isTold_26 : decode cX9_isTold 26 = .ok (.if_icmp .ne 22, 3) := by decide +kernel
theorem dX9_isTold_29 : decode cX9_isTold 29 = .ok (.aload_n 0, 1) := by decide +kernel
theorem dX9_isTold_30 : decode cX9_isTold 30 = .ok (.aload_n 0, 1) := by decide +kernel
theorem dX9_isTold_31 : decode cX9_isTold 31 = .ok (.getfield 15, 3) := by decide +kernel
theorem dX9_isTold_34 : decode cX9_isTold 34 = .ok (.iload_n 3, 1) := by decide +kernel
theorem dX9_isTold_35 : decode cX9_isTold 35 = .ok (.iaload, 1) := by decide +kernel
theorem dX9_isTold_36 : decode cX9_isTold 36 = .ok (.iload_n 1, 1) := by decide +kernel
theorem dX9_isTold_37 : decode cX9_isTold 37 = .ok (.iload_n 2, 1) := by decide +kernel
theorem dX9_isTold_38 : decode cX9_isTold 38 = .ok (.iload_n 1, 1) := by decide +kernel
theorem dX9_isTold_39 : decode cX9_isTold 39 = .ok (.isub, 1) := by decide +kernel
theorem dX9_isTold_40 : decode cX9_isTold 40 = .ok (.invokevirtual 75, 3) := by decide +kernel
theorem dX9_isTold_43 : decode cX9_isTold 43 = .ok (.ifCond .eq 5, 3) := by decide +kernel
theorem dX9_isTold_46 : decode cX9_isTold 46 = .ok (.iconst 1, 1) := by decide +kernel
theorem dX9_isTold_47 : decode cX9_isTold 47 = .ok (.ireturn, 1) := by decide +kernel
theorem dX9_isTold_48 : decode cX9_isTold 48 = .ok (.iinc 3 1, 3) := by decide +kernel
theorem dX9_isTold_51 : decode cX9_isTold 51 = .ok (.goto (-49), 3) := by decide +kernel
theorem dX9_isTold_54 : decode cX9_isTold 54 = .ok (.iconst 0, 1) := by decide +kernel
theorem dX9_isTold_55 : decode cX9_isTold 55 = .ok (.ireturn, 1) := by decide +kernel
theorem dX9_sameBytes_0 : decode cX9_sameBytes 0 = .ok (.iconst 0, 1) := by decide +kernel
theorem dX9_sameBytes_1 : decode cX9_sameBytes 1 = .ok (.istore 4, 2) := by decide +kernel
theorem dX9_sameBytes_3 : decode cX9_sameBytes 3 = .ok (.iload 4, 2) := by decide +kernel
theorem dX9_sameBytes_5 : decode cX9_sameBytes 5 = .ok (.iload_n 3, 1) := by decide +kernel
theorem dX9_sameBytes_6 : decode cX9_sameBytes 6 = .ok (.if_icmp .ge 32, 3) := by decide +kernel
theorem dX9_sameBytes_9 : decode cX9_sameBytes 9 = .ok (.aload_n 0, 1) := by decide +kernel
theorem dX9_sameBytes_10 : decode cX9_sameBytes 10 = .ok (.getfield 11, 3) := by decide +kernel
theorem dX9_sameBytes_13 : decode cX9_sameBytes 13 = .ok (.iload_n 1, 1) := by decide +kernel
theorem dX9_sameBytes_14 : decode cX9_sameBytes 14 = .ok (.iload 4, 2) := by decide +kernel
theorem dX9_sameBytes_16 : decode cX9_sameBytes 16 = .ok (.iadd, 1) := by decide +kernel
theorem dX9_sameBytes_17 : decode cX9_sameBytes 17 = .ok (.iaload, 1) := by decide +kernel
theorem dX9_sameBytes_18 : decode cX9_sameBytes 18 = .ok (.aload_n 0, 1) := by decide +kernel
theorem dX9_sameBytes_19 : decode cX9_sameBytes 19 = .ok (.getfield 11, 3) := by decide +kernel
theorem dX9_sameBytes_22 : decode cX9_sameBytes 22 = .ok (.iload_n 2, 1) := by decide +kernel
theorem dX9_sameBytes_23 : decode cX9_sameBytes 23 = .ok (.iload 4, 2) := by decide +kernel
theorem dX9_sameBytes_25 : decode cX9_sameBytes 25 = .ok (.iadd, 1) := by decide +kernel
theorem dX9_sameBytes_26 : decode cX9_sameBytes 26 = .ok (.iaload, 1) := by decide +kernel
theorem dX9_sameBytes_27 : decode cX9_sameBytes 27 = .ok (.if_icmp .eq 5, 3) := by decide +kernel
theorem dX9_sameBytes_30 : decode cX9_sameBytes 30 = .ok (.iconst 0, 1) := by decide +kernel
theorem dX9_sameBytes_31 : decode cX9_sameBytes 31 = .ok (.ireturn, 1) := by decide +kernel
theorem dX9_sameBytes_32 : decode cX9_sameBytes 32 = .ok (.iinc 4 1, 3) := by decide +kernel
theorem dX9_sameBytes_35 : decode cX9_sameBytes 35 = .ok (.goto (-32), 3) := by decide +kernel
theorem dX9_sameBytes_38 : decode cX9_sameBytes 38 = .ok (.iconst 1, 1) := by decide +kernel
theorem dX9_sameBytes_39 : decode cX9_sameBytes 39 = .ok (.ireturn, 1) := by decide +kernel
theorem dX9_fail_0 : decode cX9_fail 0 = .ok (.aload_n 0, 1) := by decide +kernel
theorem dX9_fail_1 : decode cX9_fail 1 = .ok (.iconst 1, 1) := by decide +kernel
theorem dX9_fail_2 : decode cX9_fail 2 = .ok (.bipush 8, 2) := by decide +kernel
theorem dX9_fail_4 : decode cX9_fail 4 = .ok (.iload_n 1, 1) := by decide +kernel
theorem dX9_fail_5 : decode cX9_fail 5 = .ok (.imul, 1) := by decide +kernel
theorem dX9_fail_6 : decode cX9_fail 6 = .ok (.iadd, 1) := by decide +kernel
theorem dX9_fail_7 : decode cX9_fail 7 = .ok (.iload_n 2, 1) := by decide +kernel
theorem dX9_fail_8 : decode cX9_fail 8 = .ok (.iadd, 1) := by decide +kernel
theorem dX9_fail_9 : decode cX9_fail 9 = .ok (.putfield 37, 3) := by decide +kernel
theorem dX9_fail_12 : decode cX9_fail 12 = .ok (.iconst 0, 1) := by decide +kernel
theorem dX9_fail_13 : decode cX9_fail 13 = .ok (.ireturn, 1) := by decide +kernel
theorem dX10_init_0 : decode cX10_init 0 = .ok (.aload_n 0, 1) := by decide +kernel
theorem dX10_init_1 : decode cX10_init 1 = .ok (.invokespecial 1, 3) := by decide +kernel
theorem dX10_init_4 : decode cX10_init 4 = .ok (.aload_n 0, 1) := by decide +kernel
theorem dX10_init_5 : decode cX10_init 5 = .ok (.new 7, 3) := by decide +kernel
theorem dX10_init_8 : decode cX10_init 8 = .ok (.dup, 1) := by decide +kernel
theorem dX10_init_9 : decode cX10_init 9 = .ok (.invokespecial 9, 3) := by decide +kernel
theorem dX10_init_12 : decode cX10_init 12 = .ok (.putfield 10, 3) := by decide +kernel
theorem dX10_init_15 : decode cX10_init 15 = .ok (.aload_n 0, 1) := by decide +kernel
theorem dX10_init_16 : decode cX10_init 16 = .ok (.new 16, 3) := by decide +kernel
theorem dX10_init_19 : decode cX10_init 19 = .ok (.dup, 1) := by decide +kernel
theorem dX10_init_20 : decode cX10_init 20 = .ok (.invokespecial 18, 3) := by decide +kernel
theorem dX10_init_23 : decode cX10_init 23 = .ok (.putfield 19, 3) := by decide +kernel
theorem dX10_init_26 : decode cX10_init 26 = .ok (.aload_n 0, 1) := by decide +kernel
theorem dX10_init_27 : decode cX10_init 27 = .ok (.new 23, 3) := by decide +kernel
theorem dX10_init_30 : decode cX10_init 30 = .ok (.dup, 1) := by decide +kernel
theorem dX10_init_31 : decode cX10_init 31 = .ok (.invokespecial 25, 3) := by decide +kernel
theorem dX10_init_34 : decode cX10_init 34 = .ok (.putfield 26, 3) := by decide +kernel
theorem dX10_init_37 : decode cX10_init 37 = .ok (.aload_n 0, 1) := by decide +kernel
theorem dX10_init_38 : decode cX10_init 38 = .ok (.new 30, 3) := by decide +kernel
theorem dX10_init_41 : decode cX10_init 41 = .ok (.dup, 1) := by decide +kernel
theorem dX10_init_42 : decode cX10_init 42 = .ok (.invokespecial 32, 3) := by decide +kernel
theorem dX10_init_45 : decode cX10_init 45 = .ok (.putfield 33, 3) := by decide +kernel
theorem dX10_init_48 : decode cX10_init 48 = .ok (.aload_n 0, 1) := by decide +kernel
theorem dX10_init_49 : decode cX10_init 49 = .ok (.bipush 6, 2) := by decide +kernel
theorem dX10_init_51 : decode cX10_init 51 = .ok (.anewarray 37, 3) := by decide +kernel
theorem dX10_init_54 : decode cX10_init 54 = .ok (.putfield 39, 3) := by decide +kernel
theorem dX10_init_57 : decode cX10_init 57 = .ok (.iconst 0, 1) := by decide +kernel
theorem dX10_init_58 : decode cX10_init 58 = .ok (.istore_n 1, 1) := by decide +kernel
theorem dX10_init_59 : decode cX10_init 59 = .ok (.iload_n 1, 1) := by decide +kernel
theorem dX10_init_60 : decode cX10_init 60 = .ok (.bipush 6, 2) := by decide +kernel
theorem dX10_init_62 : decode cX10_init 62 = .ok (.if_icmp .ge 22, 3) := by decide +kernel
theorem dX10_init_65 : decode cX10_init 65 = .ok (.aload_n 0, 1) := by decide +kernel
theorem dX10_init_66 : decode cX10_init 66 = .ok (.getfield 39, 3) := by decide +kernel
theorem dX10_init_69 : decode cX10_init 69 = .ok (.iload_n 1, 1) := by decide +kernel
theorem dX10_init_70 : decode cX10_init 70 = .ok (.new 37, 3) := by decide +kernel
theorem dX10_init_73 : decode cX10_init 73 = .ok (.dup, 1) := by decide +kernel
theorem dX10_init_74 : decode cX10_init 74 = .ok (.invokespecial 43, 3) := by decide +kernel
theorem dX10_init_77 : decode cX10_init 77 = .ok (.aastore, 1) := by decide +kernel
theorem dX10_init_78 : decode cX10_init 78 = .ok (.iinc 1 1, 3) := by decide +kernel
theorem dX10_init_81 : decode cX10_init 81 = .ok (.goto (-22), 3) := by decide +kernel
theorem dX10_init_84 : decode cX10_init 84 = .ok (.aload_n 0, 1) := by decide +kernel
theorem dX10_init_85 : decode cX10_init 85 = .ok (.iconst 5, 1) := by decide +kernel
theorem dX10_init_86 : decode cX10_init 86 = .ok (.anewarray 44, 3) := by decide +kernel
theorem dX10_init_89 : decode cX10_init 89 = .ok (.putfield 46, 3) := by decide +kernel
theorem dX10_init_92 : decode cX10_init 92 = .ok (.iconst 0, 1) := by decide +kernel
theorem dX10_init_93 : decode cX10_init 93 = .ok (.istore_n 1, 1) := by decide +kernel
theorem dX10_init_94 : decode cX10_init 94 = .ok (.iload_n 1, 1) := by decide +kernel
theorem dX10_init_95 : decode cX10_init 95 = .ok (.iconst 5, 1) := by decide +kernel
theorem dX10_init_96 : decode cX10_init 96 = .ok (.if_icmp .ge 22, 3) := by decide +kernel
theorem dX10_init_99 : decode cX10_init 99 = .ok (.aload_n 0, 1) := by decide +kernel
theorem dX10_init_100 : decode cX10_init 100 = .ok (.getfield 46, 3) := by decide +kernel
theorem dX10_init_103 : decode cX10_init 103 = .ok (.iload_n 1, 1) := by decide +kernel
theorem dX10_init_104 : decode cX10_init 104 = .ok (.new 44, 3) := by decide +kernel
theorem dX10_init_107 : decode cX10_init 107 = .ok (.dup, 1) := by decide +kernel
theorem dX10_init_108 : decode cX10_init 108 = .ok (.invokespecial 50, 3) := by decide +kernel
theorem dX10_init_111 : decode cX10_init 111 = .ok (.aastore, 1) := by decide +kernel
theorem dX10_init_112 : decode cX10_init 112 = .ok (.iinc 1 1, 3) := by decide +kernel
theorem dX10_init_115 : decode cX10_init 115 = .ok (.goto (-21), 3) := by decide +kernel
theorem dX10_init_118 : decode cX10_init 118 = .ok (.aload_n 0, 1) := by decide +kernel
theorem dX10_init_119 : decode cX10_init 119 = .ok (.iconst 3, 1) := by decide +kernel
theorem dX10_init_120 : decode cX10_init 120 = .ok (.anewarray 51, 3) := by decide +kernel
theorem dX10_init_123 : decode cX10_init 123 = .ok (.putfield 53, 3) := by decide +kernel
theorem dX10_init_126 : decode cX10_init 126 = .ok (.iconst 0, 1) := by decide +kernel
theorem dX10_init_127 : decode cX10_init 127 = .ok (.istore_n 1, 1) := by decide +kernel
theorem dX10_init_128 : decode cX10_init 128 = .ok (.iload_n 1, 1) := by decide +kernel
theorem dX10_init_129 : decode cX10_init 129 = .ok (.iconst 3, 1) := by decide +kernel
theorem dX10_init_130 : decode cX10_init 130 = .ok (.if_icmp .ge 22, 3) := by decide +kernel
theorem dX10_init_133 : decode cX10_init 133 = .ok (.aload_n 0, 1) := by decide +kernel
theorem dX10_init_134 : decode cX10_init 134 = .ok (.getfield 53, 3) := by decide +kernel
theorem dX10_init_137 : decode cX10_init 137 = .ok (.iload_n 1, 1) := by decide +kernel
theorem dX10_init_138 : decode cX10_init 138 = .ok (.new 51, 3) := by decide +kernel
theorem dX10_init_141 : decode cX10_init 141 = .ok (.dup, 1) := by decide +kernel
theorem dX10_init_142 : decode cX10_init 142 = .ok (.invokespecial 57, 3) := by decide +kernel
theorem dX10_init_145 : decode cX10_init 145 = .ok (.aastore, 1) := by decide +kernel
theorem dX10_init_146 : decode cX10_init 146 = .ok (.iinc 1 1, 3) := by decide +kernel
theorem dX10_init_149 : decode cX10_init 149 = .ok (.goto (-21), 3) := by decide +kernel
theorem dX10_init_152 : decode cX10_init 152 = .ok (.aload_n 0, 1) := by decide +kernel
theorem dX10_init_153 : decode cX10_init 153 = .ok (.iconst 4, 1) := by decide +kernel
theorem dX10_init_154 : decode cX10_init 154 = .ok (.newarray .int, 2) := by decide +kernel
theorem dX10_init_156 : decode cX10_init 156 = .ok (.putfield 58, 3) := by decide +kernel
theorem dX10_init_159 : decode cX10_init 159 = .ok (.aload_n 0, 1) := by decide +kernel
theorem dX10_init_160 : decode cX10_init 160 = .ok (.getfield 58, 3) := by decide +kernel
theorem dX10_init_163 : decode cX10_init 163 = .ok (.bipush 60, 2) := by decide +kernel
theorem dX10_init_165 : decode cX10_init 165 = .ok (.invokestatic 62, 3) := by decide +kernel
theorem dX10_init_168 : decode cX10_init 168 = .ok (.aload_n 0, 1) := by decide +kernel
theorem dX10_init_169 : decode cX10_init 169 = .ok (.sipush 1000, 3) := by decide +kernel
theorem dX10_init_172 : decode cX10_init 172 = .ok (.anewarray 68, 3) := by decide +kernel
theorem dX10_init_175 : decode cX10_init 175 = .ok (.putfield 70, 3) := by decide +kernel
theorem dX10_init_178 : decode cX10_init 178 = .ok (.aload_n 0, 1) := by decide +kernel
theorem dX10_init_179 : decode cX10_init 179 = .ok (.new 74, 3) := by decide +kernel
theorem dX10_init_182 : decode cX10_init 182 = .ok (.dup, 1) := by decide +kernel
theorem dX10_init_183 : decode cX10_init 183 = .ok (.invokespecial 76, 3) := by decide +kernel
theorem dX10_init_186 : decode cX10_init 186 = .ok (.putfield 77, 3) := by decide +kernel
theorem dX10_init_189 : decode cX10_init 189 = .ok (.aload_n 0, 1) := by decide +kernel
theorem dX10_init_190 : decode cX10_init 190 = .ok (.new 81, 3) := by decide +kernel
theorem dX10_init_193 : decode cX10_init 193 = .ok (.dup, 1) := by decide +kernel
theorem dX10_init_194 : decode cX10_init 194 = .ok (.invokespecial 83, 3) := by decide +kernel
theorem dX10_init_197 : decode cX10_init 197 = .ok (.putfield 84, 3) := by decide +kernel
theorem dX10_init_200 : decode cX10_init 200 = .ok (.return_, 1) := by decide +kernel
theorem dX10_right_0 : decode cX10_right 0 = .ok (.iload_n 1, 1) := by decide +kernel
theorem dX10_right_1 : decode cX10_right 1 = .ok (.iconst 0, 1) := by decide +kernel
theorem dX10_right_2 : decode cX10_right 2 = .ok (.iconst 4, 1) := by decide +kernel
theorem dX10_right_3 : decode cX10_right 3 = .ok (.invokestatic 88, 3) := by decide +kernel
theorem dX10_right_6 : decode cX10_right 6 = .ok (.ifCond .eq 14, 3) := by decide +kernel
theorem dX10_right_9 : decode cX10_right 9 = .ok (.iload_n 2, 1) := by decide +kernel
theorem dX10_right_10 : decode cX10_right 10 = .ok (.iconst 0, 1) := by decide +kernel
theorem dX10_right_11 : decode cX10_right 11 = .ok (.sipush 10000, 3) := by decide +kernel
theorem dX10_right_14 : decode cX10_right 14 = .ok (.invokestatic 88, 3) := by decide +kernel
theorem dX10_right_17 : decode cX10_right 17 = .ok (.ifCond .ne 5, 3) := by decide +kernel
theorem dX10_right_20 : decode cX10_right 20 = .ok (.iconst (-1), 1) := by decide +kernel
theorem dX10_right_21 : decode cX10_right 21 = .ok (.ireturn, 1) := by decide +kernel
theorem dX10_right_22 : decode cX10_right 22 = .ok (.aload_n 0, 1) := by decide +kernel
theorem dX10_right_23 : decode cX10_right 23 = .ok (.getfield 10, 3) := by decide +kernel
theorem dX10_right_26 : decode cX10_right 26 = .ok (.iload_n 1, 1) := by decide +kernel
theorem dX10_right_27 : decode cX10_right 27 = .ok (.iload_n 2, 1) := by decide +kernel
theorem dX10_right_28 : decode cX10_right 28 = .ok (.invokevirtual 92, 3) := by decide +kernel
theorem dX10_right_31 : decode cX10_right 31 = .ok (.ireturn, 1) := by decide +kernel
theorem dX10_cut_0 : decode cX10_cut 0 = .ok (.iload_n 1, 1) := by decide +kernel
theorem dX10_cut_1 : decode cX10_cut 1 = .ok (.iconst 1, 1) := by decide +kernel
theorem dX10_cut_2 : decode cX10_cut 2 = .ok (.sipush 10000, 3) := by decide +kernel
theorem dX10_cut_5 : decode cX10_cut 5 = .ok (.invokestatic 88, 3) := by decide +kernel
theorem dX10_cut_8 : decode cX10_cut 8 = .ok (.ifCond .eq 10, 3) := by decide +kernel
theorem dX10_cut_11 : decode cX10_cut 11 = .ok (.aload_n 0, 1) := by decide +kernel
theorem dX10_cut_12 : decode cX10_cut 12 = .ok (.invokevirtual 96, 3) := by decide +kernel
theorem dX10_cut_15 : decode cX10_cut 15 = .ok (.ifCond .eq 5, 3) := by decide +kernel
theorem dX10_cut_18 : decode cX10_cut 18 = .ok (.iconst (-1), 1) := by decide +kernel
theorem dX10_cut_19 : decode cX10_cut 19 = .ok (.ireturn, 1) := by decide +kernel
theorem dX10_cut_20 : decode cX10_cut 20 = .ok (.aload_n 0, 1) := by decide +kernel
theorem dX10_cut_21 : decode cX10_cut 21 = .ok (.getfield 10, 3) := by decide +kernel
theorem dX10_cut_24 : decode cX10_cut 24 = .ok (.iload_n 1, 1) := by decide +kernel
theorem dX10_cut_25 : decode cX10_cut 25 = .ok (.invokevirtual 100, 3) := by decide +kernel
theorem dX10_cut_28 : decode cX10_cut 28 = .ok (.ireturn, 1) := by decide +kernel
theorem dX10_rate_0 : decode cX10_rate 0 = .ok (.iload_n 1, 1) := by decide +kernel
theorem dX10_rate_1 : decode cX10_rate 1 = .ok (.iconst 0, 1) := by decide +kernel
theorem dX10_rate_2 : decode cX10_rate 2 = .ok (.bipush 20, 2) := by decide +kernel
theorem dX10_rate_4 : decode cX10_rate 4 = .ok (.invokestatic 88, 3) := by decide +kernel
theorem dX10_rate_7 : decode cX10_rate 7 = .ok (.ifCond .ne 5, 3) := by decide +kernel
theorem dX10_rate_10 : decode cX10_rate 10 = .ok (.iconst (-1), 1) := by decide +kernel
theorem dX10_rate_11 : decode cX10_rate 11 = .ok (.ireturn, 1) := by decide +kernel
theorem dX10_rate_12 : decode cX10_rate 12 = .ok (.aload_n 0, 1) := by decide +kernel
theorem dX10_rate_13 : decode cX10_rate 13 = .ok (.getfield 19, 3) := by decide +kernel
theorem dX10_rate_16 : decode cX10_rate 16 = .ok (.getfield 104, 3) := by decide +kernel
theorem dX10_rate_19 : decode cX10_rate 19 = .ok (.istore_n 2, 1) := by decide +kernel
theorem dX10_rate_20 : decode cX10_rate 20 = .ok (.aload_n 0, 1) := by decide +kernel
theorem dX10_rate_21 : decode cX10_rate 21 = .ok (.getfield 19, 3) := by decide +kernel
theorem dX10_rate_24 : decode cX10_rate 24 = .ok (.iload_n 1, 1) := by decide +kernel
theorem dX10_rate_25 : decode cX10_rate 25 = .ok (.putfield 104, 3) := by decide +kernel
theorem dX10_rate_28 : decode cX10_rate 28 = .ok (.iload_n 2, 1) := by decide +kernel
theorem dX10_rate_29 : decode cX10_rate 29 = .ok (.ireturn, 1) := by decide +kernel
theorem dX10_cold_0 : decode cX10_cold 0 = .ok (.iload_n 1, 1) := by decide +kernel
theorem dX10_cold_1 : decode cX10_cold 1 = .ok (.iconst 0, 1) := by decide +kernel
theorem dX10_cold_2 : decode cX10_cold 2 = .ok (.sipush 4999, 3) := by decide +kernel
theorem dX10_cold_5 : decode cX10_cold 5 = .ok (.invokestatic 88, 3) := by decide +kernel
theorem dX10_cold_8 : decode cX10_cold 8 = .ok (.ifCond .eq 24, 3) := by decide +kernel
theorem dX10_cold_11 : decode cX10_cold 11 = .ok (.iload_n 2, 1) := by decide +kernel
theorem dX10_cold_12 : decode cX10_cold 12 = .ok (.iload_n 1, 1) := by decide +kernel
theorem dX10_cold_13 : decode cX10_cold 13 = .ok (.sipush 4999, 3) := by decide +kernel
theorem dX10_cold_16 : decode cX10_cold 16 = .ok (.invokestatic 88, 3) := by decide +kernel
theorem dX10_cold_19 : decode cX10_cold 19 = .ok (.ifCond .eq 13, 3) := by decide +kernel
theorem dX10_cold_22 : decode cX10_cold 22 = .ok (.iload_n 3, 1) := by decide +kernel
theorem dX10_cold_23 : decode cX10_cold 23 = .ok (.iconst 1, 1) := by decide +kernel
theorem dX10_cold_24 : decode cX10_cold 24 = .ok (.bipush 100, 2) := by decide +kernel
theorem dX10_cold_26 : decode cX10_cold 26 = .ok (.invokestatic 88, 3) := by decide +kernel
theorem dX10_cold_29 : decode cX10_cold 29 = .ok (.ifCond .ne 5, 3) := by decide +kernel
theorem dX10_cold_32 : decode cX10_cold 32 = .ok (.iconst (-1), 1) := by decide +kernel
theorem dX10_cold_33 : decode cX10_cold 33 = .ok (.ireturn, 1) := by decide +kernel
theorem dX10_cold_34 : decode cX10_cold 34 = .ok (.aload_n 0, 1) := by decide +kernel
theorem dX10_cold_35 : decode cX10_cold 35 = .ok (.getfield 19, 3) := by decide +kernel
theorem dX10_cold_38 : decode cX10_cold 38 = .ok (.iload_n 1, 1) := by decide +kernel
theorem dX10_cold_39 : decode cX10_cold 39 = .ok (.iload_n 2, 1) := by decide +kernel
theorem dX10_cold_40 : decode cX10_cold 40 = .ok (.iload_n 3, 1) := by decide +kernel
theorem dX10_cold_41 : decode cX10_cold 41 = .ok (.invokevirtual 108, 3) := by decide +kernel
theorem dX10_cold_44 : decode cX10_cold 44 = .ok (.ireturn, 1) := by decide +kernel
theorem dX10_go_0 : decode cX10_go 0 = .ok (.iload_n 1, 1) := by decide +kernel
theorem dX10_go_1 : decode cX10_go 1 = .ok (.iconst 0, 1) := by decide +kernel
theorem dX10_go_2 : decode cX10_go 2 = .ok (.iconst 4, 1) := by decide +kernel
theorem dX10_go_3 : decode cX10_go 3 = .ok (.invokestatic 88, 3) := by decide +kernel
theorem dX10_go_6 : decode cX10_go 6 = .ok (.ifCond .eq 28, 3) := by decide +kernel
theorem dX10_go_9 : decode cX10_go 9 = .ok (.iload_n 1, 1) := by decide +kernel
theorem dX10_go_10 : decode cX10_go 10 = .ok (.aload_n 0, 1) := by decide +kernel
theorem dX10_go_11 : decode cX10_go 11 = .ok (.getfield 10, 3) := by decide +kernel
theorem dX10_go_14 : decode cX10_go 14 = .ok (.getfield 112, 3) := by decide +kernel
theorem dX10_go_17 : decode cX10_go 17 = .ok (.if_icmp .eq 17, 3) := by decide +kernel
theorem dX10_go_20 : decode cX10_go 20 = .ok (.aload_n 0, 1) := by decide +kernel
theorem dX10_go_21 : decode cX10_go 21 = .ok (.invokevirtual 96, 3) := by decide +kernel
theorem dX10_go_24 : decode cX10_go 24 = .ok (.ifCond .ne 10, 3) := by decide +kernel
theorem dX10_go_27 : decode cX10_go 27 = .ok (.aload_n 0, 1) := by decide +kernel
theorem dX10_go_28 : decode cX10_go 28 = .ok (.invokevirtual 115, 3) := by decide +kernel
theorem dX10_go_31 : decode cX10_go 31 = .ok (.ifCond .ne 5, 3) := by decide +kernel
theorem dX10_go_34 : decode cX10_go 34 = .ok (.iconst 0, 1) := by decide +kernel
theorem dX10_go_35 : decode cX10_go 35 = .ok (.ireturn, 1) := by decide +kernel
theorem dX10_go_36 : decode cX10_go 36 = .ok (.aload_n 0, 1) := by decide +kernel
theorem dX10_go_37 : decode cX10_go 37 = .ok (.getfield 10, 3) := by decide +kernel
theorem dX10_go_40 : decode cX10_go 40 = .ok (.iload_n 1, 1) := by decide +kernel
theorem dX10_go_41 : decode cX10_go 41 = .ok (.invokevirtual 118, 3) := by decide +kernel
theorem dX10_go_44 : decode cX10_go 44 = .ok (.aload_n 0, 1) := by decide +kernel
theorem dX10_go_45 : decode cX10_go 45 = .ok (.getfield 19, 3) := by decide +kernel
theorem dX10_go_48 : decode cX10_go 48 = .ok (.iconst 0, 1) := by decide +kernel
theorem dX10_go_49 : decode cX10_go 49 = .ok (.putfield 122, 3) := by decide +kernel
theorem dX10_go_52 : decode cX10_go 52 = .ok (.iconst 1, 1) := by decide +kernel
theorem dX10_go_53 : decode cX10_go 53 = .ok (.ireturn, 1) := by decide +kernel
theorem dX10_feed_0 : decode cX10_feed 0 = .ok (.aload_n 0, 1) := by decide +kernel
theorem dX10_feed_1 : decode cX10_feed 1 = .ok (.getfield 26, 3) := by decide +kernel
theorem dX10_feed_4 : decode cX10_feed 4 = .ok (.invokevirtual 125, 3) := by decide +kernel
theorem dX10_feed_7 : decode cX10_feed 7 = .ok (.ifCond .ne 5, 3) := by decide +kernel
theorem dX10_feed_10 : decode cX10_feed 10 = .ok (.iconst (-1), 1) := by decide +kernel
theorem dX10_feed_11 : decode cX10_feed 11 = .ok (.ireturn, 1) := by decide +kernel
theorem dX10_feed_12 : decode cX10_feed 12 = .ok (.aload_n 0, 1) := by decide +kernel
theorem dX10_feed_13 : decode cX10_feed 13 = .ok (.getfield 26, 3) := by decide +kernel
theorem dX10_feed_16 : decode cX10_feed 16 = .ok (.iload_n 1, 1) := by decide +kernel
theorem dX10_feed_17 : decode cX10_feed 17 = .ok (.invokevirtual 128, 3) := by decide +kernel
theorem dX10_feed_20 : decode cX10_feed 20 = .ok (.aload_n 0, 1) := by decide +kernel
theorem dX10_feed_21 : decode cX10_feed 21 = .ok (.getfield 26, 3) := by decide +kernel
theorem dX10_feed_24 : decode cX10_feed 24 = .ok (.iload_n 2, 1) := by decide +kernel
theorem dX10_feed_25 : decode cX10_feed 25 = .ok (.invokevirtual 128, 3) := by decide +kernel
theorem dX10_feed_28 : decode cX10_feed 28 = .ok (.aload_n 0, 1) := by decide +kernel
theorem dX10_feed_29 : decode cX10_feed 29 = .ok (.getfield 26, 3) := by decide +kernel
theorem dX10_feed_32 : decode cX10_feed 32 = .ok (.iload_n 3, 1) := by decide +kernel
theorem dX10_feed_33 : decode cX10_feed 33 = .ok (.invokevirtual 128, 3) := by decide +kernel
theorem dX10_feed_36 : decode cX10_feed 36 = .ok (.aload_n 0, 1) := by decide +kernel
theorem dX10_feed_37 : decode cX10_feed 37 = .ok (.getfield 26, 3) := by decide +kernel
theorem dX10_feed_40 : decode cX10_feed 40 = .ok (.iload 4, 2) := by decide +kernel
theorem dX10_feed_42 : decode cX10_feed 42 = .ok (.invokevirtual 128, 3) := by decide +kernel
theorem dX10_feed_45 : decode cX10_feed 45 = .ok (.aload_n 0, 1) := by decide +kernel
theorem dX10_feed_46 : decode cX10_feed 46 = .ok (.getfield 26, 3) := by decide +kernel
theorem dX10_feed_49 : decode cX10_feed 49 = .ok (.iload 5, 2) := by decide +kernel
theorem dX10_feed_51 : decode cX10_feed 51 = .ok (.invokevirtual 128, 3) := by decide +kernel
theorem dX10_feed_54 : decode cX10_feed 54 = .ok (.aload_n 0, 1) := by decide +kernel
theorem dX10_feed_55 : decode cX10_feed 55 = .ok (.getfield 26, 3) := by decide +kernel
theorem dX10_feed_58 : decode cX10_feed 58 = .ok (.getfield 131, 3) := by decide +kernel
theorem dX10_feed_61 : decode cX10_feed 61 = .ok (.ireturn, 1) := by decide +kernel
theorem dX10_end_0 : decode cX10_end 0 = .ok (.iload_n 1, 1) := by decide +kernel
theorem dX10_end_1 : decode cX10_end 1 = .ok (.iconst 0, 1) := by decide +kernel
theorem dX10_end_2 : decode cX10_end 2 = .ok (.aload_n 0, 1) := by decide +kernel
theorem dX10_end_3 : decode cX10_end 3 = .ok (.getfield 26, 3) := by decide +kernel
theorem dX10_end_6 : decode cX10_end 6 = .ok (.getfield 131, 3) := by decide +kernel
theorem dX10_end_9 : decode cX10_end 9 = .ok (.invokestatic 88, 3) := by decide +kernel
theorem dX10_end_12 : decode cX10_end 12 = .ok (.ifCond .ne 5, 3) := by decide +kernel
theorem dX10_end_15 : decode cX10_end 15 = .ok (.iconst (-1), 1) := by decide +kernel
theorem dX10_end_16 : decode cX10_end 16 = .ok (.ireturn, 1) := by decide +kernel
theorem dX10_end_17 : decode cX10_end 17 = .ok (.aload_n 0, 1) := by decide +kernel
theorem dX10_end_18 : decode cX10_end 18 = .ok (.getfield 26, 3) := by decide +kernel
theorem dX10_end_21 : decode cX10_end 21 = .ok (.iload_n 1, 1) := by decide +kernel
theorem dX10_end_22 : decode cX10_end 22 = .ok (.putfield 131, 3) := by decide +kernel
theorem dX10_end_25 : decode cX10_end 25 = .ok (.iload_n 1, 1) := by decide +kernel
theorem dX10_end_26 : decode cX10_end 26 = .ok (.ireturn, 1) := by decide +kernel
theorem dX10_spans_0 : decode cX10_spans 0 = .ok (.aload_n 0, 1) := by decide +kernel
theorem dX10_spans_1 : decode cX10_spans 1 = .ok (.getfield 26, 3) := by decide +kernel
theorem dX10_spans_4 : decode cX10_spans 4 = .ok (.invokevirtual 134, 3) := by decide +kernel
theorem dX10_spans_7 : decode cX10_spans 7 = .ok (.aload_n 0, 1) := by decide +kernel
theorem dX10_spans_8 : decode cX10_spans 8 = .ok (.getfield 26, 3) := by decide +kernel
theorem dX10_spans_11 : decode cX10_spans 11 = .ok (.iconst 0, 1) := by decide +kernel
theorem dX10_spans_12 : decode cX10_spans 12 = .ok (.putfield 131, 3) := by decide +kernel
theorem dX10_spans_15 : decode cX10_spans 15 = .ok (.aload_n 0, 1) := by decide +kernel
theorem dX10_spans_16 : decode cX10_spans 16 = .ok (.getfield 26, 3) := by decide +kernel
theorem dX10_spans_19 : decode cX10_spans 19 = .ok (.getfield 137, 3) := by decide +kernel
theorem dX10_spans_22 : decode cX10_spans 22 = .ok (.ifCond .eq 14, 3) := by decide +kernel
theorem dX10_spans_25 : decode cX10_spans 25 = .ok (.bipush (-2), 2) := by decide +kernel
theorem dX10_spans_27 : decode cX10_spans 27 = .ok (.aload_n 0, 1) := by decide +kernel
theorem dX10_spans_28 : decode cX10_spans 28 = .ok (.getfield 26, 3) := by decide +kernel
theorem dX10_spans_31 : decode cX10_spans 31 = .ok (.getfield 137, 3) := by decide +kernel
theorem dX10_spans_34 : decode cX10_spans 34 = .ok (.isub, 1) := by decide +kernel
theorem dX10_spans_35 : decode cX10_spans 35 = .ok (.ireturn, 1) := by decide +kernel
theorem dX10_spans_36 : decode cX10_spans 36 = .ok (.aload_n 0, 1) := by decide +kernel
theorem dX10_spans_37 : decode cX10_spans 37 = .ok (.getfield 33, 3) := by decide +kernel
theorem dX10_spans_40 : decode cX10_spans 40 = .ok (.aload_n 0, 1) := by decide +kernel
theorem dX10_spans_41 : decode cX10_spans 41 = .ok (.getfield 26, 3) := by decide +kernel
theorem dX10_spans_44 : decode cX10_spans 44 = .ok (.invokevirtual 140, 3) := by decide +kernel
theorem dX10_spans_47 : decode cX10_spans 47 = .ok (.aload_n 0, 1) := by decide +kernel
theorem dX10_spans_48 : decode cX10_spans 48 = .ok (.getfield 33, 3) := by decide +kernel
theorem dX10_spans_51 : decode cX10_spans 51 = .ok (.getfield 144, 3) := by decide +kernel
theorem dX10_spans_54 : decode cX10_spans 54 = .ok (.ireturn, 1) := by decide +kernel
theorem dX10_lay_0 : decode cX10_lay 0 = .ok (.iload_n 1, 1) := by decide +kernel
theorem dX10_lay_1 : decode cX10_lay 1 = .ok (.iconst 0, 1) := by decide +kernel
theorem dX10_lay_2 : decode cX10_lay 2 = .ok (.iconst 5, 1) := by decide +kernel
theorem dX10_lay_3 : decode cX10_lay 3 = .ok (.invokestatic 88, 3) := by decide +kernel
theorem dX10_lay_6 : decode cX10_lay 6 = .ok (.ifCond .eq 32, 3) := by decide +kernel
theorem dX10_lay_9 : decode cX10_lay 9 = .ok (.aload_n 0, 1) := by decide +kernel
theorem dX10_lay_10 : decode cX10_lay 10 = .ok (.invokevirtual 96, 3) := by decide +kernel
theorem dX10_lay_13 : decode cX10_lay 13 = .ok (.ifCond .ne 25, 3) := by decide +kernel
theorem dX10_lay_16 : decode cX10_lay 16 = .ok (.aload_n 0, 1) := by decide +kernel
theorem dX10_lay_17 : decode cX10_lay 17 = .ok (.getfield 147, 3) := by decide +kernel
theorem dX10_lay_20 : decode cX10_lay 20 = .ok (.sipush 200, 3) := by decide +kernel
theorem dX10_lay_23 : decode cX10_lay 23 = .ok (.if_icmp .ge 15, 3) := by decide +kernel
theorem dX10_lay_26 : decode cX10_lay 26 = .ok (.aload_n 0, 1) := by decide +kernel
theorem dX10_lay_27 : decode cX10_lay 27 = .ok (.getfield 39, 3) := by decide +kernel
theorem dX10_lay_30 : decode cX10_lay 30 = .ok (.iload_n 1, 1) := by decide +kernel
theorem dX10_lay_31 : decode cX10_lay 31 = .ok (.aaload, 1) := by decide +kernel
theorem dX10_lay_32 : decode cX10_lay 32 = .ok (.invokevirtual 150, 3) := by decide +kernel
theorem dX10_lay_35 : decode cX10_lay 35 = .ok (.ifCond .ne 5, 3) := by decide +kernel
theorem dX10_lay_38 : decode cX10_lay 38 = .ok (.iconst (-1), 1) := by decide +kernel
theorem dX10_lay_39 : decode cX10_lay 39 = .ok (.ireturn, 1) := by decide +kernel
theorem dX10_lay_40 : decode cX10_lay 40 = .ok (.iload_n 2, 1) := by decide +kernel
theorem dX10_lay_41 : decode cX10_lay 41 = .ok (.iconst 1, 1) := by decide +kernel
theorem dX10_lay_42 : decode cX10_lay 42 = .ok (.sipush 200, 3) := by decide +kernel
theorem dX10_lay_45 : decode cX10_lay 45 = .ok (.invokestatic 88, 3) := by decide +kernel
theorem dX10_lay_48 : decode cX10_lay 48 = .ok (.ifCond .eq 35, 3) := by decide +kernel
theorem dX10_lay_51 : decode cX10_lay 51 = .ok (.iload_n 3, 1) := by decide +kernel
theorem dX10_lay_52 : decode cX10_lay 52 = .ok (.iconst 0, 1) := by decide +kernel
theorem dX10_lay_53 : decode cX10_lay 53 = .ok (.sipush 200, 3) := by decide +kernel
theorem dX10_lay_56 : decode cX10_lay 56 = .ok (.invokestatic 88, 3) := by decide +kernel
theorem dX10_lay_59 : decode cX10_lay 59 = .ok (.ifCond .eq 24, 3) := by decide +kernel
theorem dX10_lay_62 : decode cX10_lay 62 = .ok (.iload 4, 2) := by decide +kernel
theorem dX10_lay_64 : decode cX10_lay 64 = .ok (.iconst 0, 1) := by decide +kernel
theorem dX10_lay_65 : decode cX10_lay 65 = .ok (.sipush 200, 3) := by decide +kernel
theorem dX10_lay_68 : decode cX10_lay 68 = .ok (.invokestatic 88, 3) := by decide +kernel
theorem dX10_lay_71 : decode cX10_lay 71 = .ok (.ifCond .eq 12, 3) := by decide +kernel
theorem dX10_lay_74 : decode cX10_lay 74 = .ok (.iload 4, 2) := by decide +kernel
theorem dX10_lay_76 : decode cX10_lay 76 = .ok (.aload_n 0, 1) := by decide +kernel
theorem dX10_lay_77 : decode cX10_lay 77 = .ok (.getfield 153, 3) := by decide +kernel
theorem dX10_lay_80 : decode cX10_lay 80 = .ok (.if_icmp .le 5, 3) := by decide +kernel
theorem dX10_lay_83 : decode cX10_lay 83 = .ok (.iconst (-1), 1) := by decide +kernel
theorem dX10_lay_84 : decode cX10_lay 84 = .ok (.ireturn, 1) := by decide +kernel
theorem dX10_lay_85 : decode cX10_lay 85 = .ok (.aload_n 0, 1) := by decide +kernel
theorem dX10_lay_86 : decode cX10_lay 86 = .ok (.dup, 1) := by decide +kernel
theorem dX10_lay_87 : decode cX10_lay 87 = .ok (.getfield 153, 3) := by decide +kernel
theorem dX10_lay_90 : decode cX10_lay 90 = .ok (.iload 4, 2) := by decide +kernel
theorem dX10_lay_92 : decode cX10_lay 92 = .ok (.isub, 1) := by decide +kernel
theorem dX10_lay_93 : decode cX10_lay 93 = .ok (.putfield 153, 3) := by decide +kernel
theorem dX10_lay_96 : decode cX10_lay 96 = .ok (.aload_n 0, 1) := by decide +kernel
theorem dX10_lay_97 : decode cX10_lay 97 = .ok (.getfield 39, 3) := by decide +kernel
theorem dX10_lay_100 : decode cX10_lay 100 = .ok (.iload_n 1, 1) := by decide +kernel
theorem dX10_lay_101 : decode cX10_lay 101 = .ok (.aaload, 1) := by decide +kernel
theorem dX10_lay_102 : decode cX10_lay 102 = .ok (.aload_n 0, 1) := by decide +kernel
theorem dX10_lay_103 : decode cX10_lay 103 = .ok (.getfield 147, 3) := by decide +kernel
theorem dX10_lay_106 : decode cX10_lay 106 = .ok (.iload_n 2, 1) := by decide +kernel
theorem dX10_lay_107 : decode cX10_lay 107 = .ok (.iload_n 3, 1) := by decide +kernel
theorem dX10_lay_108 : decode cX10_lay 108 = .ok (.iload 4, 2) := by decide +kernel
theorem dX10_lay_110 : decode cX10_lay 110 = .ok (.invokevirtual 156, 3) := by decide +kernel
theorem dX10_lay_113 : decode cX10_lay 113 = .ok (.aload_n 0, 1) := by decide +kernel
theorem dX10_lay_114 : decode cX10_lay 114 = .ok (.getfield 39, 3) := by decide +kernel
theorem dX10_lay_117 : decode cX10_lay 117 = .ok (.iload_n 1, 1) := by decide +kernel
theorem dX10_lay_118 : decode cX10_lay 118 = .ok (.aaload, 1) := by decide +kernel
theorem dX10_lay_119 : decode cX10_lay 119 = .ok (.aload_n 0, 1) := by decide +kernel
theorem dX10_lay_120 : decode cX10_lay 120 = .ok (.getfield 33, 3) := by decide +kernel
theorem dX10_lay_123 : decode cX10_lay 123 = .ok (.iload_n 2, 1) := by decide +kernel
theorem dX10_lay_124 : decode cX10_lay 124 = .ok (.iload_n 3, 1) := by decide +kernel
theorem dX10_lay_125 : decode cX10_lay 125 = .ok (.invokestatic 159, 3) := by decide +kernel
theorem dX10_lay_128 : decode cX10_lay 128 = .ok (.invokevirtual 162, 3) := by decide +kernel
theorem dX10_lay_131 : decode cX10_lay 131 = .ok (.putfield 165, 3) := by decide +kernel
theorem dX10_lay_134 : decode cX10_lay 134 = .ok (.aload_n 0, 1) := by decide +kernel
theorem dX10_lay_135 : decode cX10_lay 135 = .ok (.dup, 1) := by decide +kernel
theorem dX10_lay_136 : decode cX10_lay 136 = .ok (.getfield 147, 3) := by decide +kernel
theorem dX10_lay_139 : decode cX10_lay 139 = .ok (.iconst 1, 1) := by decide +kernel
theorem dX10_lay_140 : decode cX10_lay 140 = .ok (.iadd, 1) := by decide +kernel
theorem dX10_lay_141 : decode cX10_lay 141 = .ok (.putfield 147, 3) := by decide +kernel
theorem dX10_lay_144 : decode cX10_lay 144 = .ok (.aload_n 0, 1) := by decide +kernel
theorem dX10_lay_145 : decode cX10_lay 145 = .ok (.getfield 147, 3) := by decide +kernel
theorem dX10_lay_148 : decode cX10_lay 148 = .ok (.iconst 1, 1) := by decide +kernel
theorem dX10_lay_149 : decode cX10_lay 149 = .ok (.isub, 1) := by decide +kernel
theorem dX10_lay_150 : decode cX10_lay 150 = .ok (.ireturn, 1) := by decide +kernel
theorem dX10_buy_0 : decode cX10_buy 0 = .ok (.iload_n 1, 1) := by decide +kernel
theorem dX10_buy_1 : decode cX10_buy 1 = .ok (.iconst 1, 1) := by decide +kernel
theorem dX10_buy_2 : decode cX10_buy 2 = .ok (.sipush 5000, 3) := by decide +kernel
theorem dX10_buy_5 : decode cX10_buy 5 = .ok (.invokestatic 88, 3) := by decide +kernel
theorem dX10_buy_8 : decode cX10_buy 8 = .ok (.ifCond .eq 14, 3) := by decide +kernel
theorem dX10_buy_11 : decode cX10_buy 11 = .ok (.aload_n 0, 1) := by decide +kernel
theorem dX10_buy_12 : decode cX10_buy 12 = .ok (.getfield 153, 3) := by decide +kernel
theorem dX10_buy_15 : decode cX10_buy 15 = .ok (.iload_n 1, 1) := by decide +kernel
theorem dX10_buy_16 : decode cX10_buy 16 = .ok (.iadd, 1) := by decide +kernel
theorem dX10_buy_17 : decode cX10_buy 17 = .ok (.ldc 168, 2) := by decide +kernel
theorem dX10_buy_19 : decode cX10_buy 19 = .ok (.if_icmp .le 5, 3) := by decide +kernel
theorem dX10_buy_22 : decode cX10_buy 22 = .ok (.iconst (-1), 1) := by decide +kernel
theorem dX10_buy_23 : decode cX10_buy 23 = .ok (.ireturn, 1) := by decide +kernel
theorem dX10_buy_24 : decode cX10_buy 24 = .ok (.aload_n 0, 1) := by decide +kernel
theorem dX10_buy_25 : decode cX10_buy 25 = .ok (.dup, 1) := by decide +kernel
theorem dX10_buy_26 : decode cX10_buy 26 = .ok (.getfield 153, 3) := by decide +kernel
theorem dX10_buy_29 : decode cX10_buy 29 = .ok (.iload_n 1, 1) := by decide +kernel
theorem dX10_buy_30 : decode cX10_buy 30 = .ok (.iadd, 1) := by decide +kernel
theorem dX10_buy_31 : decode cX10_buy 31 = .ok (.putfield 153, 3) := by decide +kernel
theorem dX10_buy_34 : decode cX10_buy 34 = .ok (.aload_n 0, 1) := by decide +kernel
theorem dX10_buy_35 : decode cX10_buy 35 = .ok (.getfield 153, 3) := by decide +kernel
theorem dX10_buy_38 : decode cX10_buy 38 = .ok (.ireturn, 1) := by decide +kernel
theorem dX10_drop_0 : decode cX10_drop 0 = .ok (.iload_n 1, 1) := by decide +kernel
theorem dX10_drop_1 : decode cX10_drop 1 = .ok (.iconst 0, 1) := by decide +kernel
theorem dX10_drop_2 : decode cX10_drop 2 = .ok (.iconst 5, 1) := by decide +kernel
theorem dX10_drop_3 : decode cX10_drop 3 = .ok (.invokestatic 88, 3) := by decide +kernel
theorem dX10_drop_6 : decode cX10_drop 6 = .ok (.ifCond .eq 15, 3) := by decide +kernel
theorem dX10_drop_9 : decode cX10_drop 9 = .ok (.aload_n 0, 1) := by decide +kernel
theorem dX10_drop_10 : decode cX10_drop 10 = .ok (.getfield 39, 3) := by decide +kernel
theorem dX10_drop_13 : decode cX10_drop 13 = .ok (.iload_n 1, 1) := by decide +kernel
theorem dX10_drop_14 : decode cX10_drop 14 = .ok (.aaload, 1) := by decide +kernel
theorem dX10_drop_15 : decode cX10_drop 15 = .ok (.invokevirtual 150, 3) := by decide +kernel
theorem dX10_drop_18 : decode cX10_drop 18 = .ok (.ifCond .eq 5, 3) := by decide +kernel
theorem dX10_drop_21 : decode cX10_drop 21 = .ok (.iconst (-1), 1) := by decide +kernel
theorem dX10_drop_22 : decode cX10_drop 22 = .ok (.ireturn, 1) := by decide +kernel
theorem dX10_drop_23 : decode cX10_drop 23 = .ok (.aload_n 0, 1) := by decide +kernel
theorem dX10_drop_24 : decode cX10_drop 24 = .ok (.getfield 39, 3) := by decide +kernel
theorem dX10_drop_27 : decode cX10_drop 27 = .ok (.iload_n 1, 1) := by decide +kernel
theorem dX10_drop_28 : decode cX10_drop 28 = .ok (.aaload, 1) := by decide +kernel
theorem dX10_drop_29 : decode cX10_drop 29 = .ok (.getfield 169, 3) := by decide +kernel
theorem dX10_drop_32 : decode cX10_drop 32 = .ok (.istore_n 2, 1) := by decide +kernel
theorem dX10_drop_33 : decode cX10_drop 33 = .ok (.aload_n 0, 1) := by decide +kernel
theorem dX10_drop_34 : decode cX10_drop 34 = .ok (.getfield 39, 3) := by decide +kernel
theorem dX10_drop_37 : decode cX10_drop 37 = .ok (.iload_n 1, 1) := by decide +kernel
theorem dX10_drop_38 : decode cX10_drop 38 = .ok (.aaload, 1) := by decide +kernel
theorem dX10_drop_39 : decode cX10_drop 39 = .ok (.invokevirtual 172, 3) := by decide +kernel
theorem dX10_drop_42 : decode cX10_drop 42 = .ok (.aload_n 0, 1) := by decide +kernel
theorem dX10_drop_43 : decode cX10_drop 43 = .ok (.dup, 1) := by decide +kernel
theorem dX10_drop_44 : decode cX10_drop 44 = .ok (.getfield 153, 3) := by decide +kernel
theorem dX10_drop_47 : decode cX10_drop 47 = .ok (.iload_n 2, 1) := by decide +kernel
theorem dX10_drop_48 : decode cX10_drop 48 = .ok (.iadd, 1) := by decide +kernel
theorem dX10_drop_49 : decode cX10_drop 49 = .ok (.putfield 153, 3) := by decide +kernel
theorem dX10_drop_52 : decode cX10_drop 52 = .ok (.iload_n 2, 1) := by decide +kernel
theorem dX10_drop_53 : decode cX10_drop 53 = .ok (.ireturn, 1) := by decide +kernel
theorem dX10_kind_0 : decode cX10_kind 0 = .ok (.iload_n 1, 1) := by decide +kernel
theorem dX10_kind_1 : decode cX10_kind 1 = .ok (.iconst 0, 1) := by decide +kernel
theorem dX10_kind_2 : decode cX10_kind 2 = .ok (.iconst 4, 1) := by decide +kernel
theorem dX10_kind_3 : decode cX10_kind 3 = .ok (.invokestatic 88, 3) := by decide +kernel
theorem dX10_kind_6 : decode cX10_kind 6 = .ok (.ifCond .eq 77, 3) := by decide +kernel
theorem dX10_kind_9 : decode cX10_kind 9 = .ok (.iload_n 2, 1) := by decide +kernel
theorem dX10_kind_10 : decode cX10_kind 10 = .ok (.iconst 1, 1) := by decide +kernel
theorem dX10_kind_11 : decode cX10_kind 11 = .ok (.bipush 50, 2) := by decide +kernel
theorem dX10_kind_13 : decode cX10_kind 13 = .ok (.invokestatic 88, 3) := by decide +kernel
theorem dX10_kind_16 : decode cX10_kind 16 = .ok (.ifCond .eq 67, 3) := by decide +kernel
theorem dX10_kind_19 : decode cX10_kind 19 = .ok (.iload_n 3, 1) := by decide +kernel
theorem dX10_kind_20 : decode cX10_kind 20 = .ok (.iconst 1, 1) := by decide +kernel
theorem dX10_kind_21 : decode cX10_kind 21 = .ok (.bipush 60, 2) := by decide +kernel
theorem dX10_kind_23 : decode cX10_kind 23 = .ok (.invokestatic 88, 3) := by decide +kernel
theorem dX10_kind_26 : decode cX10_kind 26 = .ok (.ifCond .eq 57, 3) := by decide +kernel
theorem dX10_kind_29 : decode cX10_kind 29 = .ok (.iload 4, 2) := by decide +kernel
theorem dX10_kind_31 : decode cX10_kind 31 = .ok (.iconst 1, 1) := by decide +kernel
theorem dX10_kind_32 : decode cX10_kind 32 = .ok (.sipush 10000, 3) := by decide +kernel
theorem dX10_kind_35 : decode cX10_kind 35 = .ok (.invokestatic 88, 3) := by decide +kernel
theorem dX10_kind_38 : decode cX10_kind 38 = .ok (.ifCond .eq 45, 3) := by decide +kernel
theorem dX10_kind_41 : decode cX10_kind 41 = .ok (.iload 5, 2) := by decide +kernel
theorem dX10_kind_43 : decode cX10_kind 43 = .ok (.iconst (-1), 1) := by decide +kernel
theorem dX10_kind_44 : decode cX10_kind 44 = .ok (.bipush 7, 2) := by decide +kernel
theorem dX10_kind_46 : decode cX10_kind 46 = .ok (.invokestatic 88, 3) := by decide +kernel
theorem dX10_kind_49 : decode cX10_kind 49 = .ok (.ifCond .eq 34, 3) := by decide +kernel
theorem dX10_kind_52 : decode cX10_kind 52 = .ok (.iload 6, 2) := by decide +kernel
theorem dX10_kind_54 : decode cX10_kind 54 = .ok (.ifCond .eq 14, 3) := by decide +kernel
theorem dX10_kind_57 : decode cX10_kind 57 = .ok (.iload 6, 2) := by decide +kernel
theorem dX10_kind_59 : decode cX10_kind 59 = .ok (.iconst 2, 1) := by decide +kernel
theorem dX10_kind_60 : decode cX10_kind 60 = .ok (.bipush 50, 2) := by decide +kernel
theorem dX10_kind_62 : decode cX10_kind 62 = .ok (.invokestatic 88, 3) := by decide +kernel
theorem dX10_kind_65 : decode cX10_kind 65 = .ok (.ifCond .eq 18, 3) := by decide +kernel
theorem dX10_kind_68 : decode cX10_kind 68 = .ok (.iload 7, 2) := by decide +kernel
theorem dX10_kind_70 : decode cX10_kind 70 = .ok (.iconst 1, 1) := by decide +kernel
theorem dX10_kind_71 : decode cX10_kind 71 = .ok (.bipush 40, 2) := by decide +kernel
theorem dX10_kind_73 : decode cX10_kind 73 = .ok (.invokestatic 88, 3) := by decide +kernel
theorem dX10_kind_76 : decode cX10_kind 76 = .ok (.ifCond .eq 7, 3) := by decide +kernel
theorem dX10_kind_79 : decode cX10_kind 79 = .ok (.iconst 1, 1) := by decide +kernel
theorem dX10_kind_80 : decode cX10_kind 80 = .ok (.goto 4, 3) := by decide +kernel
theorem dX10_kind_83 : decode cX10_kind 83 = .ok (.iconst 0, 1) := by decide +kernel
theorem dX10_kind_84 : decode cX10_kind 84 = .ok (.istore 8, 2) := by decide +kernel
theorem dX10_kind_86 : decode cX10_kind 86 = .ok (.iload 8, 2) := by decide +kernel
theorem dX10_kind_88 : decode cX10_kind 88 = .ok (.ifCond .ne 5, 3) := by decide +kernel
theorem dX10_kind_91 : decode cX10_kind 91 = .ok (.iconst 0, 1) := by decide +kernel
theorem dX10_kind_92 : decode cX10_kind 92 = .ok (.ireturn, 1) := by decide +kernel
theorem dX10_kind_93 : decode cX10_kind 93 = .ok (.aload_n 0, 1) := by decide +kernel
theorem dX10_kind_94 : decode cX10_kind 94 = .ok (.getfield 46, 3) := by decide +kernel
theorem dX10_kind_97 : decode cX10_kind 97 = .ok (.iload_n 1, 1) := by decide +kernel
theorem dX10_kind_98 : decode cX10_kind 98 = .ok (.aaload, 1) := by decide +kernel
theorem dX10_kind_99 : decode cX10_kind 99 = .ok (.astore 9, 2) := by decide +kernel
theorem dX10_kind_101 : decode cX10_kind 101 = .ok (.aload 9, 2) := by decide +kernel
theorem dX10_kind_103 : decode cX10_kind 103 = .ok (.iconst 1, 1) := by decide +kernel
theorem dX10_kind_104 : decode cX10_kind 104 = .ok (.putfield 175, 3) := by decide +kernel
theorem dX10_kind_107 : decode cX10_kind 107 = .ok (.aload 9, 2) := by decide +kernel
theorem dX10_kind_109 : decode cX10_kind 109 = .ok (.iload_n 2, 1) := by decide +kernel
theorem dX10_kind_110 : decode cX10_kind 110 = .ok (.putfield 179, 3) := by decide +kernel
theorem dX10_kind_113 : decode cX10_kind 113 = .ok (.aload 9, 2) := by decide +kernel
theorem dX10_kind_115 : decode cX10_kind 115 = .ok (.iload_n 3, 1) := by decide +kernel
theorem dX10_kind_116 : decode cX10_kind 116 = .ok (.putfield 182, 3) := by decide +kernel
theorem dX10_kind_119 : decode cX10_kind 119 = .ok (.aload 9, 2) := by decide +kernel
theorem dX10_kind_121 : decode cX10_kind 121 = .ok (.iload 4, 2) := by decide +kernel
theorem dX10_kind_123 : decode cX10_kind 123 = .ok (.putfield 185, 3) := by decide +kernel
theorem dX10_kind_126 : decode cX10_kind 126 = .ok (.aload 9, 2) := by decide +kernel
theorem dX10_kind_128 : decode cX10_kind 128 = .ok (.iload 5, 2) := by decide +kernel
theorem dX10_kind_130 : decode cX10_kind 130 = .ok (.putfield 188, 3) := by decide +kernel
theorem dX10_kind_133 : decode cX10_kind 133 = .ok (.aload 9, 2) := by decide +kernel
theorem dX10_kind_135 : decode cX10_kind 135 = .ok (.iload 6, 2) := by decide +kernel
theorem dX10_kind_137 : decode cX10_kind 137 = .ok (.putfield 189, 3) := by decide +kernel
theorem dX10_kind_140 : decode cX10_kind 140 = .ok (.aload 9, 2) := by decide +kernel
theorem dX10_kind_142 : decode cX10_kind 142 = .ok (.iload 7, 2) := by decide +kernel
theorem dX10_kind_144 : decode cX10_kind 144 = .ok (.putfield 192, 3) := by decide +kernel
theorem dX10_kind_147 : decode cX10_kind 147 = .ok (.iconst 1, 1) := by decide +kernel
theorem dX10_kind_148 : decode cX10_kind 148 = .ok (.ireturn, 1) := by decide +kernel
theorem dX10_blow_0 : decode cX10_blow 0 = .ok (.iload_n 1, 1) := by decide +kernel
theorem dX10_blow_1 : decode cX10_blow 1 = .ok (.iconst 0, 1) := by decide +kernel
theorem dX10_blow_2 : decode cX10_blow 2 = .ok (.iconst 3, 1) := by decide +kernel
theorem dX10_blow_3 : decode cX10_blow 3 = .ok (.invokestatic 88, 3) := by decide +kernel
theorem dX10_blow_6 : decode cX10_blow 6 = .ok (.ifCond .eq 21, 3) := by decide +kernel
theorem dX10_blow_9 : decode cX10_blow 9 = .ok (.iload_n 2, 1) := by decide +kernel
theorem dX10_blow_10 : decode cX10_blow 10 = .ok (.iconst 0, 1) := by decide +kernel
theorem dX10_blow_11 : decode cX10_blow 11 = .ok (.iconst 4, 1) := by decide +kernel
theorem dX10_blow_12 : decode cX10_blow 12 = .ok (.invokestatic 88, 3) := by decide +kernel
theorem dX10_blow_15 : decode cX10_blow 15 = .ok (.ifCond .eq 12, 3) := by decide +kernel
theorem dX10_blow_18 : decode cX10_blow 18 = .ok (.iload_n 3, 1) := by decide +kernel
theorem dX10_blow_19 : decode cX10_blow 19 = .ok (.iconst 0, 1) := by decide +kernel
theorem dX10_blow_20 : decode cX10_blow 20 = .ok (.iconst 5, 1) := by decide +kernel
theorem dX10_blow_21 : decode cX10_blow 21 = .ok (.invokestatic 88, 3) := by decide +kernel
theorem dX10_blow_24 : decode cX10_blow 24 = .ok (.ifCond .ne 5, 3) := by decide +kernel
theorem dX10_blow_27 : decode cX10_blow 27 = .ok (.iconst 1, 1) := by decide +kernel
theorem dX10_blow_28 : decode cX10_blow 28 = .ok (.ireturn, 1) := by decide +kernel
theorem dX10_blow_29 : decode cX10_blow 29 = .ok (.aload_n 0, 1) := by decide +kernel
theorem dX10_blow_30 : decode cX10_blow 30 = .ok (.invokevirtual 195, 3) := by decide +kernel
theorem dX10_blow_33 : decode cX10_blow 33 = .ok (.istore 4, 2) := by decide +kernel
theorem dX10_blow_35 : decode cX10_blow 35 = .ok (.aload_n 0, 1) := by decide +kernel
theorem dX10_blow_36 : decode cX10_blow 36 = .ok (.iload_n 1, 1) := by decide +kernel
theorem dX10_blow_37 : decode cX10_blow 37 = .ok (.aload_n 0, 1) := by decide +kernel
theorem dX10_blow_38 : decode cX10_blow 38 = .ok (.getfield 46, 3) := by decide +kernel
theorem dX10_blow_41 : decode cX10_blow 41 = .ok (.iload_n 2, 1) := by decide +kernel
theorem dX10_blow_42 : decode cX10_blow 42 = .ok (.aaload, 1) := by decide +kernel
theorem dX10_blow_43 : decode cX10_blow 43 = .ok (.aload_n 0, 1) := by decide +kernel
theorem dX10_blow_44 : decode cX10_blow 44 = .ok (.getfield 39, 3) := by decide +kernel
theorem dX10_blow_47 : decode cX10_blow 47 = .ok (.iload_n 3, 1) := by decide +kernel
theorem dX10_blow_48 : decode cX10_blow 48 = .ok (.aaload, 1) := by decide +kernel
theorem dX10_blow_49 : decode cX10_blow 49 = .ok (.iload 4, 2) := by decide +kernel
theorem dX10_blow_51 : decode cX10_blow 51 = .ok (.invokevirtual 199, 3) := by decide +kernel
theorem dX10_blow_54 : decode cX10_blow 54 = .ok (.istore 5, 2) := by decide +kernel
theorem dX10_blow_56 : decode cX10_blow 56 = .ok (.iload 5, 2) := by decide +kernel
theorem dX10_blow_58 : decode cX10_blow 58 = .ok (.ifCond .ne 23, 3) := by decide +kernel
theorem dX10_blow_61 : decode cX10_blow 61 = .ok (.iload 4, 2) := by decide +kernel
theorem dX10_blow_63 : decode cX10_blow 63 = .ok (.iconst (-1), 1) := by decide +kernel
theorem dX10_blow_64 : decode cX10_blow 64 = .ok (.if_icmp .eq 17, 3) := by decide +kernel
theorem dX10_blow_67 : decode cX10_blow 67 = .ok (.aload_n 0, 1) := by decide +kernel
theorem dX10_blow_68 : decode cX10_blow 68 = .ok (.iload_n 1, 1) := by decide +kernel
theorem dX10_blow_69 : decode cX10_blow 69 = .ok (.iload_n 2, 1) := by decide +kernel
theorem dX10_blow_70 : decode cX10_blow 70 = .ok (.aload_n 0, 1) := by decide +kernel
theorem dX10_blow_71 : decode cX10_blow 71 = .ok (.getfield 39, 3) := by decide +kernel
theorem dX10_blow_74 : decode cX10_blow 74 = .ok (.iload_n 3, 1) := by decide +kernel
theorem dX10_blow_75 : decode cX10_blow 75 = .ok (.aaload, 1) := by decide +kernel
theorem dX10_blow_76 : decode cX10_blow 76 = .ok (.iload 4, 2) := by decide +kernel
theorem dX10_blow_78 : decode cX10_blow 78 = .ok (.invokevirtual 203, 3) := by decide +kernel
theorem dX10_blow_81 : decode cX10_blow 81 = .ok (.iload 5, 2) := by decide +kernel
theorem dX10_blow_83 : decode cX10_blow 83 = .ok (.ireturn, 1) := by decide +kernel
theorem dX10_open_0 : decode cX10_open 0 = .ok (.iload_n 1, 1) := by decide +kernel
theorem dX10_open_1 : decode cX10_open 1 = .ok (.iconst 0, 1) := by decide +kernel
theorem dX10_open_2 : decode cX10_open 2 = .ok (.iconst 2, 1) := by decide +kernel
theorem dX10_open_3 : decode cX10_open 3 = .ok (.invokestatic 88, 3) := by decide +kernel
theorem dX10_open_6 : decode cX10_open 6 = .ok (.ifCond .ne 5, 3) := by decide +kernel
theorem dX10_open_9 : decode cX10_open 9 = .ok (.iconst (-1), 1) := by decide +kernel
theorem dX10_open_10 : decode cX10_open 10 = .ok (.ireturn, 1) := by decide +kernel
theorem dX10_open_11 : decode cX10_open 11 = .ok (.aload_n 0, 1) := by decide +kernel
theorem dX10_open_12 : decode cX10_open 12 = .ok (.getfield 53, 3) := by decide +kernel
theorem dX10_open_15 : decode cX10_open 15 = .ok (.iload_n 1, 1) := by decide +kernel
theorem dX10_open_16 : decode cX10_open 16 = .ok (.aaload, 1) := by decide +kernel
theorem dX10_open_17 : decode cX10_open 17 = .ok (.getfield 207, 3) := by decide +kernel
theorem dX10_open_20 : decode cX10_open 20 = .ok (.istore_n 2, 1) := by decide +kernel
theorem dX10_open_21 : decode cX10_open 21 = .ok (.aload_n 0, 1) := by decide +kernel
theorem dX10_open_22 : decode cX10_open 22 = .ok (.dup, 1) := by decide +kernel
theorem dX10_open_23 : decode cX10_open 23 = .ok (.getfield 153, 3) := by decide +kernel
theorem dX10_open_26 : decode cX10_open 26 = .ok (.aload_n 0, 1) := by decide +kernel
theorem dX10_open_27 : decode cX10_open 27 = .ok (.getfield 53, 3) := by decide +kernel
theorem dX10_open_30 : decode cX10_open 30 = .ok (.iload_n 1, 1) := by decide +kernel
theorem dX10_open_31 : decode cX10_open 31 = .ok (.aaload, 1) := by decide +kernel
theorem dX10_open_32 : decode cX10_open 32 = .ok (.invokevirtual 208, 3) := by decide +kernel
theorem dX10_open_35 : decode cX10_open 35 = .ok (.iadd, 1) := by decide +kernel
theorem dX10_open_36 : decode cX10_open 36 = .ok (.putfield 153, 3) := by decide +kernel
theorem dX10_open_39 : decode cX10_open 39 = .ok (.iload_n 2, 1) := by decide +kernel
theorem dX10_open_40 : decode cX10_open 40 = .ok (.ireturn, 1) := by decide +kernel
theorem dX10_pass_0 : decode cX10_pass 0 = .ok (.iload_n 1, 1) := by decide +kernel
theorem dX10_pass_1 : decode cX10_pass 1 = .ok (.iconst 1, 1) := by decide +kernel
theorem dX10_pass_2 : decode cX10_pass 2 = .ok (.sipush 500, 3) := by decide +kernel
theorem dX10_pass_5 : decode cX10_pass 5 = .ok (.invokestatic 88, 3) := by decide +kernel
theorem dX10_pass_8 : decode cX10_pass 8 = .ok (.ifCond .eq 15, 3) := by decide +kernel
theorem dX10_pass_11 : decode cX10_pass 11 = .ok (.aload_n 0, 1) := by decide +kernel
theorem dX10_pass_12 : decode cX10_pass 12 = .ok (.getfield 211, 3) := by decide +kernel
theorem dX10_pass_15 : decode cX10_pass 15 = .ok (.iload_n 1, 1) := by decide +kernel
theorem dX10_pass_16 : decode cX10_pass 16 = .ok (.iadd, 1) := by decide +kernel
theorem dX10_pass_17 : decode cX10_pass 17 = .ok (.sipush 5000, 3) := by decide +kernel
theorem dX10_pass_20 : decode cX10_pass 20 = .ok (.if_icmp .le 5, 3) := by decide +kernel
theorem dX10_pass_23 : decode cX10_pass 23 = .ok (.iconst (-1), 1) := by decide +kernel
theorem dX10_pass_24 : decode cX10_pass 24 = .ok (.ireturn, 1) := by decide +kernel
theorem dX10_pass_25 : decode cX10_pass 25 = .ok (.iconst 0, 1) := by decide +kernel
theorem dX10_pass_26 : decode cX10_pass 26 = .ok (.istore_n 2, 1) := by decide +kernel
theorem dX10_pass_27 : decode cX10_pass 27 = .ok (.iload_n 2, 1) := by decide +kernel
theorem dX10_pass_28 : decode cX10_pass 28 = .ok (.iload_n 1, 1) := by decide +kernel
theorem dX10_pass_29 : decode cX10_pass 29 = .ok (.if_icmp .ge 13, 3) := by decide +kernel
theorem dX10_pass_32 : decode cX10_pass 32 = .ok (.aload_n 0, 1) := by decide +kernel
theorem dX10_pass_33 : decode cX10_pass 33 = .ok (.invokevirtual 214, 3) := by decide +kernel
theorem dX10_pass_36 : decode cX10_pass 36 = .ok (.iinc 2 1, 3) := by decide +kernel
theorem dX10_pass_39 : decode cX10_pass 39 = .ok (.goto (-12), 3) := by decide +kernel
theorem dX10_pass_42 : decode cX10_pass 42 = .ok (.aload_n 0, 1) := by decide +kernel
theorem dX10_pass_43 : decode cX10_pass 43 = .ok (.getfield 19, 3) := by decide +kernel
theorem dX10_pass_46 : decode cX10_pass 46 = .ok (.getfield 122, 3) := by decide +kernel
theorem dX10_pass_49 : decode cX10_pass 49 = .ok (.ireturn, 1) := by decide +kernel
theorem dX10_pot_0 : decode cX10_pot 0 = .ok (.iload_n 1, 1) := by decide +kernel
theorem dX10_pot_1 : decode cX10_pot 1 = .ok (.iconst 0, 1) := by decide +kernel
theorem dX10_pot_2 : decode cX10_pot 2 = .ok (.iconst 5, 1) := by decide +kernel
theorem dX10_pot_3 : decode cX10_pot 3 = .ok (.invokestatic 88, 3) := by decide +kernel
theorem dX10_pot_6 : decode cX10_pot 6 = .ok (.ifCond .ne 5, 3) := by decide +kernel
theorem dX10_pot_9 : decode cX10_pot 9 = .ok (.iconst (-1), 1) := by decide +kernel
theorem dX10_pot_10 : decode cX10_pot 10 = .ok (.ireturn, 1) := by decide +kernel
theorem dX10_pot_11 : decode cX10_pot 11 = .ok (.aload_n 0, 1) := by decide +kernel
theorem dX10_pot_12 : decode cX10_pot 12 = .ok (.getfield 39, 3) := by decide +kernel
theorem dX10_pot_15 : decode cX10_pot 15 = .ok (.iload_n 1, 1) := by decide +kernel
theorem dX10_pot_16 : decode cX10_pot 16 = .ok (.aaload, 1) := by decide +kernel
theorem dX10_pot_17 : decode cX10_pot 17 = .ok (.iload_n 2, 1) := by decide +kernel
theorem dX10_pot_18 : decode cX10_pot 18 = .ok (.invokevirtual 217, 3) := by decide +kernel
theorem dX10_pot_21 : decode cX10_pot 21 = .ok (.ireturn, 1) := by decide +kernel
theorem dX10_piece_0 : decode cX10_piece 0 = .ok (.iload_n 1, 1) := by decide +kernel
theorem dX10_piece_1 : decode cX10_piece 1 = .ok (.iconst 0, 1) := by decide +kernel
theorem dX10_piece_2 : decode cX10_piece 2 = .ok (.aload_n 0, 1) := by decide +kernel
theorem dX10_piece_3 : decode cX10_piece 3 = .ok (.getfield 220, 3) := by decide +kernel
theorem dX10_piece_6 : decode cX10_piece 6 = .ok (.iconst 1, 1) := by decide +kernel
theorem dX10_piece_7 : decode cX10_piece 7 = .ok (.isub, 1) := by decide +kernel
theorem dX10_piece_8 : decode cX10_piece 8 = .ok (.invokestatic 88, 3) := by decide +kernel
theorem dX10_piece_11 : decode cX10_piece 11 = .ok (.ifCond .ne 5, 3) := by decide +kernel
theorem dX10_piece_14 : decode cX10_piece 14 = .ok (.iconst (-1), 1) := by decide +kernel
theorem dX10_piece_15 : decode cX10_piece 15 = .ok (.ireturn, 1) := by decide +kernel
theorem dX10_piece_16 : decode cX10_piece 16 = .ok (.aload_n 0, 1) := by decide +kernel
theorem dX10_piece_17 : decode cX10_piece 17 = .ok (.getfield 70, 3) := by decide +kernel
theorem dX10_piece_20 : decode cX10_piece 20 = .ok (.iload_n 1, 1) := by decide +kernel
theorem dX10_piece_21 : decode cX10_piece 21 = .ok (.aaload, 1) := by decide +kernel
theorem dX10_piece_22 : decode cX10_piece 22 = .ok (.astore_n 3, 1) := by decide +kernel
theorem dX10_piece_23 : decode cX10_piece 23 = .ok (.aload_n 3, 1) := by decide +kernel
theorem dX10_piece_24 : decode cX10_piece 24 = .ok (.ifnonnull 7, 3) := by decide +kernel
theorem dX10_piece_27 : decode cX10_piece 27 = .ok (.iconst (-1), 1) := by decide +kernel
theorem dX10_piece_28 : decode cX10_piece 28 = .ok (.goto 8, 3) := by decide +kernel
theorem dX10_piece_31 : decode cX10_piece 31 = .ok (.aload_n 3, 1) := by decide +kernel
theorem dX10_piece_32 : decode cX10_piece 32 = .ok (.iload_n 2, 1) := by decide +kernel
theorem dX10_piece_33 : decode cX10_piece 33 = .ok (.invokevirtual 223, 3) := by decide +kernel
theorem dX10_piece_36 : decode cX10_piece 36 = .ok (.ireturn, 1) := by decide +kernel
theorem dX10_pay_0 : decode cX10_pay 0 = .ok (.iload_n 1, 1) := by decide +kernel
theorem dX10_pay_1 : decode cX10_pay 1 = .ok (.iconst 0, 1) := by decide +kernel
theorem dX10_pay_2 : decode cX10_pay 2 = .ok (.iconst 3, 1) := by decide +kernel
theorem dX10_pay_3 : decode cX10_pay 3 = .ok (.invokestatic 88, 3) := by decide +kernel
theorem dX10_pay_6 : decode cX10_pay 6 = .ok (.ifCond .ne 5, 3) := by decide +kernel
theorem dX10_pay_9 : decode cX10_pay 9 = .ok (.iconst (-1), 1) := by decide +kernel
theorem dX10_pay_10 : decode cX10_pay 10 = .ok (.ireturn, 1) := by decide +kernel
theorem dX10_pay_11 : decode cX10_pay 11 = .ok (.iconst 0, 1) := by decide +kernel
theorem dX10_pay_12 : decode cX10_pay 12 = .ok (.istore_n 2, 1) := by decide +kernel
theorem dX10_pay_13 : decode cX10_pay 13 = .ok (.iconst 0, 1) := by decide +kernel
theorem dX10_pay_14 : decode cX10_pay 14 = .ok (.istore_n 3, 1) := by decide +kernel
theorem dX10_pay_15 : decode cX10_pay 15 = .ok (.iload_n 3, 1) := by decide +kernel
theorem dX10_pay_16 : decode cX10_pay 16 = .ok (.iconst 5, 1) := by decide +kernel
theorem dX10_pay_17 : decode cX10_pay 17 = .ok (.if_icmp .ge 31, 3) := by decide +kernel
theorem dX10_pay_20 : decode cX10_pay 20 = .ok (.iload_n 2, 1) := by decide +kernel
theorem dX10_pay_21 : decode cX10_pay 21 = .ok (.aload_n 0, 1) := by decide +kernel
theorem dX10_pay_22 : decode cX10_pay 22 = .ok (.iload_n 1, 1) := by decide +kernel
theorem dX10_pay_23 : decode cX10_pay 23 = .ok (.iload_n 3, 1) := by decide +kernel
theorem dX10_pay_24 : decode cX10_pay 24 = .ok (.invokevirtual 224, 3) := by decide +kernel
theorem dX10_pay_27 : decode cX10_pay 27 = .ok (.aload_n 0, 1) := by decide +kernel
theorem dX10_pay_28 : decode cX10_pay 28 = .ok (.getfield 46, 3) := by decide +kernel
theorem dX10_pay_31 : decode cX10_pay 31 = .ok (.iload_n 3, 1) := by decide +kernel
theorem dX10_pay_32 : decode cX10_pay 32 = .ok (.aaload, 1) := by decide +kernel
theorem dX10_pay_33 : decode cX10_pay 33 = .ok (.getfield 185, 3) := by decide +kernel
theorem dX10_pay_36 : decode cX10_pay 36 = .ok (.imul, 1) := by decide +kernel
theorem dX10_pay_37 : decode cX10_pay 37 = .ok (.bipush 100, 2) := by decide +kernel
theorem dX10_pay_39 : decode cX10_pay 39 = .ok (.idiv, 1) := by decide +kernel
theorem dX10_pay_40 : decode cX10_pay 40 = .ok (.iadd, 1) := by decide +kernel
theorem dX10_pay_41 : decode cX10_pay 41 = .ok (.istore_n 2, 1) := by decide +kernel
theorem dX10_pay_42 : decode cX10_pay 42 = .ok (.iinc 3 1, 3) := by decide +kernel
theorem dX10_pay_45 : decode cX10_pay 45 = .ok (.goto (-30), 3) := by decide +kernel
theorem dX10_pay_48 : decode cX10_pay 48 = .ok (.iload_n 2, 1) := by decide +kernel
theorem dX10_pay_49 : decode cX10_pay 49 = .ok (.ireturn, 1) := by decide +kernel
theorem dX10_shift_0 : decode cX10_shift 0 = .ok (.iload_n 1, 1) := by decide +kernel
theorem dX10_shift_1 : decode cX10_shift 1 = .ok (.iconst 0, 1) := by decide +kernel
theorem dX10_shift_2 : decode cX10_shift 2 = .ok (.sipush 480, 3) := by decide +kernel
theorem dX10_shift_5 : decode cX10_shift 5 = .ok (.invokestatic 88, 3) := by decide +kernel
theorem dX10_shift_8 : decode cX10_shift 8 = .ok (.ifCond .eq 24, 3) := by decide +kernel
theorem dX10_shift_11 : decode cX10_shift 11 = .ok (.iload_n 2, 1) := by decide +kernel
theorem dX10_shift_12 : decode cX10_shift 12 = .ok (.iconst 0, 1) := by decide +kernel
theorem dX10_shift_13 : decode cX10_shift 13 = .ok (.sipush 500, 3) := by decide +kernel
theorem dX10_shift_16 : decode cX10_shift 16 = .ok (.invokestatic 88, 3) := by decide +kernel
theorem dX10_shift_19 : decode cX10_shift 19 = .ok (.ifCond .eq 13, 3) := by decide +kernel
theorem dX10_shift_22 : decode cX10_shift 22 = .ok (.iload_n 3, 1) := by decide +kernel
theorem dX10_shift_23 : decode cX10_shift 23 = .ok (.iconst 0, 1) := by decide +kernel
theorem dX10_shift_24 : decode cX10_shift 24 = .ok (.bipush 7, 2) := by decide +kernel
theorem dX10_shift_26 : decode cX10_shift 26 = .ok (.invokestatic 88, 3) := by decide +kernel
theorem dX10_shift_29 : decode cX10_shift 29 = .ok (.ifCond .ne 5, 3) := by decide +kernel
theorem dX10_shift_32 : decode cX10_shift 32 = .ok (.iconst (-1), 1) := by decide +kernel
theorem dX10_shift_33 : decode cX10_shift 33 = .ok (.ireturn, 1) := by decide +kernel
theorem dX10_shift_34 : decode cX10_shift 34 = .ok (.aload_n 0, 1) := by decide +kernel
theorem dX10_shift_35 : decode cX10_shift 35 = .ok (.getfield 77, 3) := by decide +kernel
theorem dX10_shift_38 : decode cX10_shift 38 = .ok (.aload_n 0, 1) := by decide +kernel
theorem dX10_shift_39 : decode cX10_shift 39 = .ok (.getfield 46, 3) := by decide +kernel
theorem dX10_shift_42 : decode cX10_shift 42 = .ok (.iload_n 1, 1) := by decide +kernel
theorem dX10_shift_43 : decode cX10_shift 43 = .ok (.iload_n 2, 1) := by decide +kernel
theorem dX10_shift_44 : decode cX10_shift 44 = .ok (.iload_n 3, 1) := by decide +kernel
theorem dX10_shift_45 : decode cX10_shift 45 = .ok (.invokevirtual 227, 3) := by decide +kernel
theorem dX10_shift_48 : decode cX10_shift 48 = .ok (.ireturn, 1) := by decide +kernel
theorem dX10_shifted_0 : decode cX10_shifted 0 = .ok (.aload_n 0, 1) := by decide +kernel
theorem dX10_shifted_1 : decode cX10_shifted 1 = .ok (.getfield 77, 3) := by decide +kernel
theorem dX10_shifted_4 : decode cX10_shifted 4 = .ok (.iload_n 1, 1) := by decide +kernel
theorem dX10_shifted_5 : decode cX10_shifted 5 = .ok (.invokevirtual 231, 3) := by decide +kernel
theorem dX10_shifted_8 : decode cX10_shifted 8 = .ok (.ireturn, 1) := by decide +kernel
theorem dX10_cost_0 : decode cX10_cost 0 = .ok (.iload_n 1, 1) := by decide +kernel
theorem dX10_cost_1 : decode cX10_cost 1 = .ok (.iconst 0, 1) := by decide +kernel
theorem dX10_cost_2 : decode cX10_cost 2 = .ok (.iconst 4, 1) := by decide +kernel
theorem dX10_cost_3 : decode cX10_cost 3 = .ok (.invokestatic 88, 3) := by decide +kernel
theorem dX10_cost_6 : decode cX10_cost 6 = .ok (.ifCond .eq 23, 3) := by decide +kernel
theorem dX10_cost_9 : decode cX10_cost 9 = .ok (.iload_n 2, 1) := by decide +kernel
theorem dX10_cost_10 : decode cX10_cost 10 = .ok (.iconst 0, 1) := by decide +kernel
theorem dX10_cost_11 : decode cX10_cost 11 = .ok (.bipush 9, 2) := by decide +kernel
theorem dX10_cost_13 : decode cX10_cost 13 = .ok (.invokestatic 88, 3) := by decide +kernel
theorem dX10_cost_16 : decode cX10_cost 16 = .ok (.ifCond .eq 13, 3) := by decide +kernel
theorem dX10_cost_19 : decode cX10_cost 19 = .ok (.iload_n 3, 1) := by decide +kernel
theorem dX10_cost_20 : decode cX10_cost 20 = .ok (.iconst 0, 1) := by decide +kernel
theorem dX10_cost_21 : decode cX10_cost 21 = .ok (.ldc 168, 2) := by decide +kernel
theorem dX10_cost_23 : decode cX10_cost 23 = .ok (.invokestatic 88, 3) := by decide +kernel
theorem dX10_cost_26 : decode cX10_cost 26 = .ok (.ifCond .ne 5, 3) := by decide +kernel
theorem dX10_cost_29 : decode cX10_cost 29 = .ok (.iconst (-1), 1) := by decide +kernel
theorem dX10_cost_30 : decode cX10_cost 30 = .ok (.ireturn, 1) := by decide +kernel
theorem dX10_cost_31 : decode cX10_cost 31 = .ok (.aload_n 0, 1) := by decide +kernel
theorem dX10_cost_32 : decode cX10_cost 32 = .ok (.getfield 84, 3) := by decide +kernel
theorem dX10_cost_35 : decode cX10_cost 35 = .ok (.getfield 232, 3) := by decide +kernel
theorem dX10_cost_38 : decode cX10_cost 38 = .ok (.iload_n 2, 1) := by decide +kernel
theorem dX10_cost_39 : decode cX10_cost 39 = .ok (.iconst 5, 1) := by decide +kernel
theorem dX10_cost_40 : decode cX10_cost 40 = .ok (.imul, 1) := by decide +kernel
theorem dX10_cost_41 : decode cX10_cost 41 = .ok (.iload_n 1, 1) := by decide +kernel
theorem dX10_cost_42 : decode cX10_cost 42 = .ok (.iadd, 1) := by decide +kernel
theorem dX10_cost_43 : decode cX10_cost 43 = .ok (.iload_n 3, 1) := by decide +kernel
theorem dX10_cost_44 : decode cX10_cost 44 = .ok (.invokestatic 235, 3) := by decide +kernel
theorem dX10_cost_47 : decode cX10_cost 47 = .ok (.ireturn, 1) := by decide +kernel
theorem dX10_way_0 : decode cX10_way 0 = .ok (.iload_n 1, 1) := by decide +kernel
theorem dX10_way_1 : decode cX10_way 1 = .ok (.iconst 0, 1) := by decide +kernel
theorem dX10_way_2 : decode cX10_way 2 = .ok (.iconst 4, 1) := by decide +kernel
theorem dX10_way_3 : decode cX10_way 3 = .ok (.invokestatic 88, 3) := by decide +kernel
theorem dX10_way_6 : decode cX10_way 6 = .ok (.ifCond .eq 27, 3) := by decide +kernel
theorem dX10_way_9 : decode cX10_way 9 = .ok (.iload_n 2, 1) := by decide +kernel
theorem dX10_way_10 : decode cX10_way 10 = .ok (.iconst 0, 1) := by decide +kernel
theorem dX10_way_11 : decode cX10_way 11 = .ok (.iconst 4, 1) := by decide +kernel
theorem dX10_way_12 : decode cX10_way 12 = .ok (.invokestatic 88, 3) := by decide +kernel
theorem dX10_way_15 : decode cX10_way 15 = .ok (.ifCond .eq 18, 3) := by decide +kernel
theorem dX10_way_18 : decode cX10_way 18 = .ok (.iload_n 1, 1) := by decide +kernel
theorem dX10_way_19 : decode cX10_way 19 = .ok (.iload_n 2, 1) := by decide +kernel
theorem dX10_way_20 : decode cX10_way 20 = .ok (.if_icmp .eq 13, 3) := by decide +kernel
theorem dX10_way_23 : decode cX10_way 23 = .ok (.iload_n 3, 1) := by decide +kernel
theorem dX10_way_24 : decode cX10_way 24 = .ok (.iconst 0, 1) := by decide +kernel
theorem dX10_way_25 : decode cX10_way 25 = .ok (.ldc 168, 2) := by decide +kernel
theorem dX10_way_27 : decode cX10_way 27 = .ok (.invokestatic 88, 3) := by decide +kernel
theorem dX10_way_30 : decode cX10_way 30 = .ok (.ifCond .ne 5, 3) := by decide +kernel
theorem dX10_way_33 : decode cX10_way 33 = .ok (.iconst (-1), 1) := by decide +kernel
theorem dX10_way_34 : decode cX10_way 34 = .ok (.ireturn, 1) := by decide +kernel
theorem dX10_way_35 : decode cX10_way 35 = .ok (.aload_n 0, 1) := by decide +kernel
theorem dX10_way_36 : decode cX10_way 36 = .ok (.getfield 84, 3) := by decide +kernel
theorem dX10_way_39 : decode cX10_way 39 = .ok (.getfield 239, 3) := by decide +kernel
theorem dX10_way_42 : decode cX10_way 42 = .ok (.iload_n 1, 1) := by decide +kernel
theorem dX10_way_43 : decode cX10_way 43 = .ok (.iconst 5, 1) := by decide +kernel
theorem dX10_way_44 : decode cX10_way 44 = .ok (.imul, 1) := by decide +kernel
theorem dX10_way_45 : decode cX10_way 45 = .ok (.iload_n 2, 1) := by decide +kernel
theorem dX10_way_46 : decode cX10_way 46 = .ok (.iadd, 1) := by decide +kernel
theorem dX10_way_47 : decode cX10_way 47 = .ok (.iload_n 3, 1) := by decide +kernel
theorem dX10_way_48 : decode cX10_way 48 = .ok (.invokestatic 235, 3) := by decide +kernel
theorem dX10_way_51 : decode cX10_way 51 = .ok (.ireturn, 1) := by decide +kernel
theorem dX10_move_0 : decode cX10_move 0 = .ok (.iload_n 1, 1) := by decide +kernel
theorem dX10_move_1 : decode cX10_move 1 = .ok (.iconst 1, 1) := by decide +kernel
theorem dX10_move_2 : decode cX10_move 2 = .ok (.bipush 10, 2) := by decide +kernel
theorem dX10_move_4 : decode cX10_move 4 = .ok (.invokestatic 88, 3) := by decide +kernel
theorem dX10_move_7 : decode cX10_move 7 = .ok (.ifCond .ne 5, 3) := by decide +kernel
theorem dX10_move_10 : decode cX10_move 10 = .ok (.iconst (-1), 1) := by decide +kernel
theorem dX10_move_11 : decode cX10_move 11 = .ok (.ireturn, 1) := by decide +kernel
theorem dX10_move_12 : decode cX10_move 12 = .ok (.aload_n 0, 1) := by decide +kernel
theorem dX10_move_13 : decode cX10_move 13 = .ok (.getfield 84, 3) := by decide +kernel
theorem dX10_move_16 : decode cX10_move 16 = .ok (.aload_n 0, 1) := by decide +kernel
theorem dX10_move_17 : decode cX10_move 17 = .ok (.getfield 10, 3) := by decide +kernel
theorem dX10_move_20 : decode cX10_move 20 = .ok (.getfield 112, 3) := by decide +kernel
theorem dX10_move_23 : decode cX10_move 23 = .ok (.iload_n 1, 1) := by decide +kernel
theorem dX10_move_24 : decode cX10_move 24 = .ok (.invokevirtual 242, 3) := by decide +kernel
theorem dX10_move_27 : decode cX10_move 27 = .ok (.ireturn, 1) := by decide +kernel
theorem dX10_moved_0 : decode cX10_moved 0 = .ok (.iload_n 1, 1) := by decide +kernel
theorem dX10_moved_1 : decode cX10_moved 1 = .ok (.iconst 0, 1) := by decide +kernel
theorem dX10_moved_2 : decode cX10_moved 2 = .ok (.aload_n 0, 1) := by decide +kernel
theorem dX10_moved_3 : decode cX10_moved 3 = .ok (.getfield 84, 3) := by decide +kernel
theorem dX10_moved_6 : decode cX10_moved 6 = .ok (.getfield 244, 3) := by decide +kernel
theorem dX10_moved_9 : decode cX10_moved 9 = .ok (.iconst 1, 1) := by decide +kernel
theorem dX10_moved_10 : decode cX10_moved 10 = .ok (.isub, 1) := by decide +kernel
theorem dX10_moved_11 : decode cX10_moved 11 = .ok (.invokestatic 88, 3) := by decide +kernel
theorem dX10_moved_14 : decode cX10_moved 14 = .ok (.ifCond .ne 5, 3) := by decide +kernel
theorem dX10_moved_17 : decode cX10_moved 17 = .ok (.iconst (-1), 1) := by decide +kernel
theorem dX10_moved_18 : decode cX10_moved 18 = .ok (.ireturn, 1) := by decide +kernel
theorem dX10_moved_19 : decode cX10_moved 19 = .ok (.aload_n 0, 1) := by decide +kernel
theorem dX10_moved_20 : decode cX10_moved 20 = .ok (.getfield 84, 3) := by decide +kernel
theorem dX10_moved_23 : decode cX10_moved 23 = .ok (.getfield 247, 3) := by decide +kernel
theorem dX10_moved_26 : decode cX10_moved 26 = .ok (.iload_n 1, 1) := by decide +kernel
theorem dX10_moved_27 : decode cX10_moved 27 = .ok (.iaload, 1) := by decide +kernel
theorem dX10_moved_28 : decode cX10_moved 28 = .ok (.ireturn, 1) := by decide +kernel
theorem dX10_count_0 : decode cX10_count 0 = .ok (.iload_n 1, 1) := by decide +kernel
theorem dX10_count_1 : decode cX10_count 1 = .ok (.bipush 10, 2) := by decide +kernel
theorem dX10_count_3 : decode cX10_count 3 = .ok (.bipush 12, 2) := by decide +kernel
theorem dX10_count_5 : decode cX10_count 5 = .ok (.invokestatic 88, 3) := by decide +kernel
theorem dX10_count_8 : decode cX10_count 8 = .ok (.ifCond .eq 16, 3) := by decide +kernel
theorem dX10_count_11 : decode cX10_count 11 = .ok (.aload_n 0, 1) := by decide +kernel
theorem dX10_count_12 : decode cX10_count 12 = .ok (.getfield 53, 3) := by decide +kernel
theorem dX10_count_15 : decode cX10_count 15 = .ok (.iload_n 1, 1) := by decide +kernel
theorem dX10_count_16 : decode cX10_count 16 = .ok (.bipush 10, 2) := by decide +kernel
theorem dX10_count_18 : decode cX10_count 18 = .ok (.isub, 1) := by decide +kernel
theorem dX10_count_19 : decode cX10_count 19 = .ok (.aaload, 1) := by decide +kernel
theorem dX10_count_20 : decode cX10_count 20 = .ok (.getfield 207, 3) := by decide +kernel
theorem dX10_count_23 : decode cX10_count 23 = .ok (.ireturn, 1) := by decide +kernel
theorem dX10_count_24 : decode cX10_count 24 = .ok (.iload_n 1, 1) := by decide +kernel
theorem dX10_count_25 : decode cX10_count 25 = .ok (.bipush 20, 2) := by decide +kernel
theorem dX10_count_27 : decode cX10_count 27 = .ok (.bipush 23, 2) := by decide +kernel
theorem dX10_count_29 : decode cX10_count 29 = .ok (.invokestatic 88, 3) := by decide +kernel
theorem dX10_count_32 : decode cX10_count 32 = .ok (.ifCond .eq 13, 3) := by decide +kernel
theorem dX10_count_35 : decode cX10_count 35 = .ok (.aload_n 0, 1) := by decide +kernel
theorem dX10_count_36 : decode cX10_count 36 = .ok (.getfield 58, 3) := by decide +kernel
theorem dX10_count_39 : decode cX10_count 39 = .ok (.iload_n 1, 1) := by decide +kernel
theorem dX10_count_40 : decode cX10_count 40 = .ok (.bipush 20, 2) := by decide +kernel
theorem dX10_count_42 : decode cX10_count 42 = .ok (.isub, 1) := by decide +kernel
theorem dX10_count_43 : decode cX10_count 43 = .ok (.iaload, 1) := by decide +kernel
theorem dX10_count_44 : decode cX10_count 44 = .ok (.ireturn, 1) := by decide +kernel
theorem dX10_count_45 : decode cX10_count 45 = .ok (.iload_n 1, 1) := by decide +kernel
theorem dX10_count_46 : decode cX10_count 46 = .ok (.bipush 30, 2) := by decide +kernel
theorem dX10_count_48 : decode cX10_count 48 = .ok (.bipush 34, 2) := by decide +kernel
theorem dX10_count_50 : decode cX10_count 50 = .ok (.invokestatic 88, 3) := by decide +kernel
theorem dX10_count_53 : decode cX10_count 53 = .ok (.ifCond .eq 16, 3) := by decide +kernel
theorem dX10_count_56 : decode cX10_count 56 = .ok (.aload_n 0, 1) := by decide +kernel
theorem dX10_count_57 : decode cX10_count 57 = .ok (.getfield 46, 3) := by decide +kernel
theorem dX10_count_60 : decode cX10_count 60 = .ok (.iload_n 1, 1) := by decide +kernel
theorem dX10_count_61 : decode cX10_count 61 = .ok (.bipush 30, 2) := by decide +kernel
theorem dX10_count_63 : decode cX10_count 63 = .ok (.isub, 1) := by decide +kernel
theorem dX10_count_64 : decode cX10_count 64 = .ok (.aaload, 1) := by decide +kernel
theorem dX10_count_65 : decode cX10_count 65 = .ok (.getfield 250, 3) := by decide +kernel
theorem dX10_count_68 : decode cX10_count 68 = .ok (.ireturn, 1) := by decide +kernel
theorem dX10_count_69 : decode cX10_count 69 = .ok (.iload_n 1, 1) := by decide +kernel
theorem dX10_count_70 : decode cX10_count 70 = .ok (.tableswitch 130 0 9 #[54, 59, 67, 75, 83, 99, 104, 109, 114, 122], 54) := by decide +kernel
theorem dX10_count_124 : decode cX10_count 124 = .ok (.aload_n 0, 1) := by decide +kernel
theorem dX10_count_125 : decode cX10_count 125 = .ok (.getfield 211, 3) := by decide +kernel
theorem dX10_count_128 : decode cX10_count 128 = .ok (.ireturn, 1) := by decide +kernel
theorem dX10_count_129 : decode cX10_count 129 = .ok (.aload_n 0, 1) := by decide +kernel
theorem dX10_count_130 : decode cX10_count 130 = .ok (.getfield 19, 3) := by decide +kernel
theorem dX10_count_133 : decode cX10_count 133 = .ok (.getfield 122, 3) := by decide +kernel
theorem dX10_count_136 : decode cX10_count 136 = .ok (.ireturn, 1) := by decide +kernel
theorem dX10_count_137 : decode cX10_count 137 = .ok (.aload_n 0, 1) := by decide +kernel
theorem dX10_count_138 : decode cX10_count 138 = .ok (.getfield 10, 3) := by decide +kernel
theorem dX10_count_141 : decode cX10_count 141 = .ok (.getfield 251, 3) := by decide +kernel
theorem dX10_count_144 : decode cX10_count 144 = .ok (.ireturn, 1) := by decide +kernel
theorem dX10_count_145 : decode cX10_count 145 = .ok (.aload_n 0, 1) := by decide +kernel
theorem dX10_count_146 : decode cX10_count 146 = .ok (.getfield 10, 3) := by decide +kernel
theorem dX10_count_149 : decode cX10_count 149 = .ok (.getfield 112, 3) := by decide +kernel
theorem dX10_count_152 : decode cX10_count 152 = .ok (.ireturn, 1) := by decide +kernel
theorem dX10_count_153 : decode cX10_count 153 = .ok (.aload_n 0, 1) := by decide +kernel
theorem dX10_count_154 : decode cX10_count 154 = .ok (.getfield 10, 3) := by decide +kernel
theorem dX10_count_157 : decode cX10_count 157 = .ok (.getfield 254, 3) := by decide +kernel
theorem dX10_count_160 : decode cX10_count 160 = .ok (.aload_n 0, 1) := by decide +kernel
theorem dX10_count_161 : decode cX10_count 161 = .ok (.getfield 10, 3) := by decide +kernel
theorem dX10_count_164 : decode cX10_count 164 = .ok (.getfield 112, 3) := by decide +kernel
theorem dX10_count_167 : decode cX10_count 167 = .ok (.iaload, 1) := by decide +kernel
theorem dX10_count_168 : decode cX10_count 168 = .ok (.ireturn, 1) := by decide +kernel
theorem dX10_count_169 : decode cX10_count 169 = .ok (.aload_n 0, 1) := by decide +kernel
theorem dX10_count_170 : decode cX10_count 170 = .ok (.getfield 153, 3) := by decide +kernel
theorem dX10_count_173 : decode cX10_count 173 = .ok (.ireturn, 1) := by decide +kernel
theorem dX10_count_174 : decode cX10_count 174 = .ok (.aload_n 0, 1) := by decide +kernel
theorem dX10_count_175 : decode cX10_count 175 = .ok (.getfield 147, 3) := by decide +kernel
theorem dX10_count_178 : decode cX10_count 178 = .ok (.ireturn, 1) := by decide +kernel
theorem dX10_count_179 : decode cX10_count 179 = .ok (.aload_n 0, 1) := by decide +kernel
theorem dX10_count_180 : decode cX10_count 180 = .ok (.getfield 220, 3) := by decide +kernel
theorem dX10_count_183 : decode cX10_count 183 = .ok (.ireturn, 1) := by decide +kernel
theorem dX10_count_184 : decode cX10_count 184 = .ok (.aload_n 0, 1) := by decide +kernel
theorem dX10_count_185 : decode cX10_count 185 = .ok (.getfield 26, 3) := by decide +kernel
theorem dX10_count_188 : decode cX10_count 188 = .ok (.getfield 131, 3) := by decide +kernel
theorem dX10_count_191 : decode cX10_count 191 = .ok (.ireturn, 1) := by decide +kernel
theorem dX10_count_192 : decode cX10_count 192 = .ok (.aload_n 0, 1) := by decide +kernel
theorem dX10_count_193 : decode cX10_count 193 = .ok (.getfield 33, 3) := by decide +kernel
theorem dX10_count_196 : decode cX10_count 196 = .ok (.getfield 144, 3) := by decide +kernel
theorem dX10_count_199 : decode cX10_count 199 = .ok (.ireturn, 1) := by decide +kernel
theorem dX10_count_200 : decode cX10_count 200 = .ok (.iconst (-1), 1) := by decide +kernel
theorem dX10_count_201 : decode cX10_count 201 = .ok (.ireturn, 1) := by decide +kernel
theorem dX10_within_0 : decode cX10_within 0 = .ok (.iload_n 0, 1) := by decide +kernel
theorem dX10_within_1 : decode cX10_within 1 = .ok (.iload_n 1, 1) := by decide +kernel
theorem dX10_within_2 : decode cX10_within 2 = .ok (.if_icmp .lt 12, 3) := by decide +kernel
theorem dX10_within_5 : decode cX10_within 5 = .ok (.iload_n 0, 1) := by decide +kernel
theorem dX10_within_6 : decode cX10_within 6 = .ok (.iload_n 2, 1) := by decide +kernel
theorem dX10_within_7 : decode cX10_within 7 = .ok (.if_icmp .gt 7, 3) := by decide +kernel
theorem dX10_within_10 : decode cX10_within 10 = .ok (.iconst 1, 1) := by decide +kernel
theorem dX10_within_11 : decode cX10_within 11 = .ok (.goto 4, 3) := by decide +kernel
theorem dX10_within_14 : decode cX10_within 14 = .ok (.iconst 0, 1) := by decide +kernel
theorem dX10_within_15 : decode cX10_within 15 = .ok (.ireturn, 1) := by decide +kernel
theorem dX10_exchange_0 : decode cX10_exchange 0 = .ok (.iload_n 1, 1) := by decide +kernel
theorem dX10_exchange_1 : decode cX10_exchange 1 = .ok (.iconst 0, 1) := by decide +kernel
theorem dX10_exchange_2 : decode cX10_exchange 2 = .ok (.aload_n 0, 1) := by decide +kernel
theorem dX10_exchange_3 : decode cX10_exchange 3 = .ok (.arraylength, 1) := by decide +kernel
theorem dX10_exchange_4 : decode cX10_exchange 4 = .ok (.iconst 1, 1) := by decide +kernel
theorem dX10_exchange_5 : decode cX10_exchange 5 = .ok (.isub, 1) := by decide +kernel
theorem dX10_exchange_6 : decode cX10_exchange 6 = .ok (.invokestatic 88, 3) := by decide +kernel
theorem dX10_exchange_9 : decode cX10_exchange 9 = .ok (.ifCond .ne 5, 3) := by decide +kernel
theorem dX10_exchange_12 : decode cX10_exchange 12 = .ok (.iconst (-1), 1) := by decide +kernel
theorem dX10_exchange_13 : decode cX10_exchange 13 = .ok (.ireturn, 1) := by decide +kernel
theorem dX10_exchange_14 : decode cX10_exchange 14 = .ok (.aload_n 0, 1) := by decide +kernel
theorem dX10_exchange_15 : decode cX10_exchange 15 = .ok (.iload_n 1, 1) := by decide +kernel
theorem dX10_exchange_16 : decode cX10_exchange 16 = .ok (.iaload, 1) := by decide +kernel
theorem dX10_exchange_17 : decode cX10_exchange 17 = .ok (.istore_n 3, 1) := by decide +kernel
theorem dX10_exchange_18 : decode cX10_exchange 18 = .ok (.aload_n 0, 1) := by decide +kernel
theorem dX10_exchange_19 : decode cX10_exchange 19 = .ok (.iload_n 1, 1) := by decide +kernel
theorem dX10_exchange_20 : decode cX10_exchange 20 = .ok (.iload_n 2, 1) := by decide +kernel
theorem dX10_exchange_21 : decode cX10_exchange 21 = .ok (.iastore, 1) := by decide +kernel
theorem dX10_exchange_22 : decode cX10_exchange 22 = .ok (.iload_n 3, 1) := by decide +kernel
theorem dX10_exchange_23 : decode cX10_exchange 23 = .ok (.ireturn, 1) := by decide +kernel
theorem dX10_hundredths_0 : decode cX10_hundredths 0 = .ok (.iload_n 0, 1) := by decide +kernel
theorem dX10_hundredths_1 : decode cX10_hundredths 1 = .ok (.iload_n 1, 1) := by decide +kernel
theorem dX10_hundredths_2 : decode cX10_hundredths 2 = .ok (.iadd, 1) := by decide +kernel
theorem dX10_hundredths_3 : decode cX10_hundredths 3 = .ok (.istore_n 2, 1) := by decide +kernel
theorem dX10_hundredths_4 : decode cX10_hundredths 4 = .ok (.iload_n 2, 1) := by decide +kernel
theorem dX10_hundredths_5 : decode cX10_hundredths 5 = .ok (.ifCond .le 12, 3) := by decide +kernel
theorem dX10_hundredths_8 : decode cX10_hundredths 8 = .ok (.bipush 100, 2) := by decide +kernel
theorem dX10_hundredths_10 : decode cX10_hundredths 10 = .ok (.iload_n 1, 1) := by decide +kernel
theorem dX10_hundredths_11 : decode cX10_hundredths 11 = .ok (.imul, 1) := by decide +kernel
theorem dX10_hundredths_12 : decode cX10_hundredths 12 = .ok (.iload_n 2, 1) := by decide +kernel
theorem dX10_hundredths_13 : decode cX10_hundredths 13 = .ok (.idiv, 1) := by decide +kernel
theorem dX10_hundredths_14 : decode cX10_hundredths 14 = .ok (.goto 4, 3) := by decide +kernel
theorem dX10_hundredths_17 : decode cX10_hundredths 17 = .ok (.iconst 0, 1) := by decide +kernel
theorem dX10_hundredths_18 : decode cX10_hundredths 18 = .ok (.ireturn, 1) := by decide +kernel
theorem dX10_atEnd_0 : decode cX10_atEnd 0 = .ok (.aload_n 0, 1) := by decide +kernel
theorem dX10_atEnd_1 : decode cX10_atEnd 1 = .ok (.getfield 211, 3) := by decide +kernel
theorem dX10_atEnd_4 : decode cX10_atEnd 4 = .ok (.sipush 5000, 3) := by decide +kernel
theorem dX10_atEnd_7 : decode cX10_atEnd 7 = .ok (.if_icmp .lt 7, 3) := by decide +kernel
theorem dX10_atEnd_10 : decode cX10_atEnd 10 = .ok (.iconst 1, 1) := by decide +kernel
theorem dX10_atEnd_11 : decode cX10_atEnd 11 = .ok (.goto 4, 3) := by decide +kernel
theorem dX10_atEnd_14 : decode cX10_atEnd 14 = .ok (.iconst 0, 1) := by decide +kernel
theorem dX10_atEnd_15 : decode cX10_atEnd 15 = .ok (.ireturn, 1) := by decide +kernel
theorem dX10_allEmpty_0 : decode cX10_allEmpty 0 = .ok (.iconst 0, 1) := by decide +kernel
theorem dX10_allEmpty_1 : decode cX10_allEmpty 1 = .ok (.istore_n 1, 1) := by decide +kernel
theorem dX10_allEmpty_2 : decode cX10_allEmpty 2 = .ok (.iload_n 1, 1) := by decide +kernel
theorem dX10_allEmpty_3 : decode cX10_allEmpty 3 = .ok (.bipush 6, 2) := by decide +kernel
theorem dX10_allEmpty_5 : decode cX10_allEmpty 5 = .ok (.if_icmp .ge 23, 3) := by decide +kernel
theorem dX10_allEmpty_8 : decode cX10_allEmpty 8 = .ok (.aload_n 0, 1) := by decide +kernel
theorem dX10_allEmpty_9 : decode cX10_allEmpty 9 = .ok (.getfield 39, 3) := by decide +kernel
theorem dX10_allEmpty_12 : decode cX10_allEmpty 12 = .ok (.iload_n 1, 1) := by decide +kernel
theorem dX10_allEmpty_13 : decode cX10_allEmpty 13 = .ok (.aaload, 1) := by decide +kernel
theorem dX10_allEmpty_14 : decode cX10_allEmpty 14 = .ok (.invokevirtual 150, 3) := by decide +kernel
theorem dX10_allEmpty_17 : decode cX10_allEmpty 17 = .ok (.ifCond .ne 5, 3) := by decide +kernel
theorem dX10_allEmpty_20 : decode cX10_allEmpty 20 = .ok (.iconst 0, 1) := by decide +kernel
theorem dX10_allEmpty_21 : decode cX10_allEmpty 21 = .ok (.ireturn, 1) := by decide +kernel
theorem dX10_allEmpty_22 : decode cX10_allEmpty 22 = .ok (.iinc 1 1, 3) := by decide +kernel
theorem dX10_allEmpty_25 : decode cX10_allEmpty 25 = .ok (.goto (-23), 3) := by decide +kernel
theorem dX10_allEmpty_28 : decode cX10_allEmpty 28 = .ok (.iconst 0, 1) := by decide +kernel
theorem dX10_allEmpty_29 : decode cX10_allEmpty 29 = .ok (.istore_n 1, 1) := by decide +kernel
theorem dX10_allEmpty_30 : decode cX10_allEmpty 30 = .ok (.iload_n 1, 1) := by decide +kernel
theorem dX10_allEmpty_31 : decode cX10_allEmpty 31 = .ok (.iconst 3, 1) := by decide +kernel
theorem dX10_allEmpty_32 : decode cX10_allEmpty 32 = .ok (.if_icmp .ge 23, 3) := by decide +kernel
theorem dX10_allEmpty_35 : decode cX10_allEmpty 35 = .ok (.aload_n 0, 1) := by decide +kernel
theorem dX10_allEmpty_36 : decode cX10_allEmpty 36 = .ok (.getfield 53, 3) := by decide +kernel
theorem dX10_allEmpty_39 : decode cX10_allEmpty 39 = .ok (.iload_n 1, 1) := by decide +kernel
theorem dX10_allEmpty_40 : decode cX10_allEmpty 40 = .ok (.aaload, 1) := by decide +kernel
theorem dX10_allEmpty_41 : decode cX10_allEmpty 41 = .ok (.getfield 207, 3) := by decide +kernel
theorem dX10_allEmpty_44 : decode cX10_allEmpty 44 = .ok (.ifCond .le 5, 3) := by decide +kernel
theorem dX10_allEmpty_47 : decode cX10_allEmpty 47 = .ok (.iconst 0, 1) := by decide +kernel
theorem dX10_allEmpty_48 : decode cX10_allEmpty 48 = .ok (.ireturn, 1) := by decide +kernel
theorem dX10_allEmpty_49 : decode cX10_allEmpty 49 = .ok (.iinc 1 1, 3) := by decide +kernel
theorem dX10_allEmpty_52 : decode cX10_allEmpty 52 = .ok (.goto (-22), 3) := by decide +kernel
theorem dX10_allEmpty_55 : decode cX10_allEmpty 55 = .ok (.iconst 1, 1) := by decide +kernel
theorem dX10_allEmpty_56 : decode cX10_allEmpty 56 = .ok (.ireturn, 1) := by decide +kernel
theorem dX10_stepHour_0 : decode cX10_stepHour 0 = .ok (.aload_n 0, 1) := by decide +kernel
theorem dX10_stepHour_1 : decode cX10_stepHour 1 = .ok (.getfield 19, 3) := by decide +kernel
theorem dX10_stepHour_4 : decode cX10_stepHour 4 = .ok (.aload_n 0, 1) := by decide +kernel
theorem dX10_stepHour_5 : decode cX10_stepHour 5 = .ok (.getfield 10, 3) := by decide +kernel
theorem dX10_stepHour_8 : decode cX10_stepHour 8 = .ok (.aload_n 0, 1) := by decide +kernel
theorem dX10_stepHour_9 : decode cX10_stepHour 9 = .ok (.getfield 19, 3) := by decide +kernel
theorem dX10_stepHour_12 : decode cX10_stepHour 12 = .ok (.getfield 104, 3) := by decide +kernel
theorem dX10_stepHour_15 : decode cX10_stepHour 15 = .ok (.invokevirtual 257, 3) := by decide +kernel
theorem dX10_stepHour_18 : decode cX10_stepHour 18 = .ok (.aload_n 0, 1) := by decide +kernel
theorem dX10_stepHour_19 : decode cX10_stepHour 19 = .ok (.getfield 211, 3) := by decide +kernel
theorem dX10_stepHour_22 : decode cX10_stepHour 22 = .ok (.invokevirtual 260, 3) := by decide +kernel
theorem dX10_stepHour_25 : decode cX10_stepHour 25 = .ok (.iconst 0, 1) := by decide +kernel
theorem dX10_stepHour_26 : decode cX10_stepHour 26 = .ok (.istore_n 1, 1) := by decide +kernel
theorem dX10_stepHour_27 : decode cX10_stepHour 27 = .ok (.iload_n 1, 1) := by decide +kernel
theorem dX10_stepHour_28 : decode cX10_stepHour 28 = .ok (.bipush 6, 2) := by decide +kernel
theorem dX10_stepHour_30 : decode cX10_stepHour 30 = .ok (.if_icmp .ge 25, 3) := by decide +kernel
theorem dX10_stepHour_33 : decode cX10_stepHour 33 = .ok (.aload_n 0, 1) := by decide +kernel
theorem dX10_stepHour_34 : decode cX10_stepHour 34 = .ok (.getfield 39, 3) := by decide +kernel
theorem dX10_stepHour_37 : decode cX10_stepHour 37 = .ok (.iload_n 1, 1) := by decide +kernel
theorem dX10_stepHour_38 : decode cX10_stepHour 38 = .ok (.aaload, 1) := by decide +kernel
theorem dX10_stepHour_39 : decode cX10_stepHour 39 = .ok (.aload_n 0, 1) := by decide +kernel
theorem dX10_stepHour_40 : decode cX10_stepHour 40 = .ok (.getfield 19, 3) := by decide +kernel
theorem dX10_stepHour_43 : decode cX10_stepHour 43 = .ok (.getfield 122, 3) := by decide +kernel
theorem dX10_stepHour_46 : decode cX10_stepHour 46 = .ok (.invokevirtual 264, 3) := by decide +kernel
theorem dX10_stepHour_49 : decode cX10_stepHour 49 = .ok (.iinc 1 1, 3) := by decide +kernel
theorem dX10_stepHour_52 : decode cX10_stepHour 52 = .ok (.goto (-25), 3) := by decide +kernel
theorem dX10_stepHour_55 : decode cX10_stepHour 55 = .ok (.iconst 0, 1) := by decide +kernel
theorem dX10_stepHour_56 : decode cX10_stepHour 56 = .ok (.istore_n 1, 1) := by decide +kernel
theorem dX10_stepHour_57 : decode cX10_stepHour 57 = .ok (.iload_n 1, 1) := by decide +kernel
theorem dX10_stepHour_58 : decode cX10_stepHour 58 = .ok (.iconst 3, 1) := by decide +kernel
theorem dX10_stepHour_59 : decode cX10_stepHour 59 = .ok (.if_icmp .ge 18, 3) := by decide +kernel
theorem dX10_stepHour_62 : decode cX10_stepHour 62 = .ok (.aload_n 0, 1) := by decide +kernel
theorem dX10_stepHour_63 : decode cX10_stepHour 63 = .ok (.getfield 53, 3) := by decide +kernel
theorem dX10_stepHour_66 : decode cX10_stepHour 66 = .ok (.iload_n 1, 1) := by decide +kernel
theorem dX10_stepHour_67 : decode cX10_stepHour 67 = .ok (.aaload, 1) := by decide +kernel
theorem dX10_stepHour_68 : decode cX10_stepHour 68 = .ok (.invokevirtual 267, 3) := by decide +kernel
theorem dX10_stepHour_71 : decode cX10_stepHour 71 = .ok (.iinc 1 1, 3) := by decide +kernel
theorem dX10_stepHour_74 : decode cX10_stepHour 74 = .ok (.goto (-17), 3) := by decide +kernel
theorem dX10_stepHour_77 : decode cX10_stepHour 77 = .ok (.aload_n 0, 1) := by decide +kernel
theorem dX10_stepHour_78 : decode cX10_stepHour 78 = .ok (.dup, 1) := by decide +kernel
theorem dX10_stepHour_79 : decode cX10_stepHour 79 = .ok (.getfield 211, 3) := by decide +kernel
theorem dX10_stepHour_82 : decode cX10_stepHour 82 = .ok (.iconst 1, 1) := by decide +kernel
theorem dX10_stepHour_83 : decode cX10_stepHour 83 = .ok (.iadd, 1) := by decide +kernel
theorem dX10_stepHour_84 : decode cX10_stepHour 84 = .ok (.putfield 211, 3) := by decide +kernel
theorem dX10_stepHour_87 : decode cX10_stepHour 87 = .ok (.aload_n 0, 1) := by decide +kernel
theorem dX10_stepHour_88 : decode cX10_stepHour 88 = .ok (.getfield 58, 3) := by decide +kernel
theorem dX10_stepHour_91 : decode cX10_stepHour 91 = .ok (.bipush 60, 2) := by decide +kernel
theorem dX10_stepHour_93 : decode cX10_stepHour 93 = .ok (.invokestatic 62, 3) := by decide +kernel
theorem dX10_stepHour_96 : decode cX10_stepHour 96 = .ok (.aload_n 0, 1) := by decide +kernel
theorem dX10_stepHour_97 : decode cX10_stepHour 97 = .ok (.getfield 211, 3) := by decide +kernel
theorem dX10_stepHour_100 : decode cX10_stepHour 100 = .ok (.sipush 500, 3) := by decide +kernel
theorem dX10_stepHour_103 : decode cX10_stepHour 103 = .ok (.irem, 1) := by decide +kernel
theorem dX10_stepHour_104 : decode cX10_stepHour 104 = .ok (.ifCond .ne 10, 3) := by decide +kernel
theorem dX10_stepHour_107 : decode cX10_stepHour 107 = .ok (.aload_n 0, 1) := by decide +kernel
theorem dX10_stepHour_108 : decode cX10_stepHour 108 = .ok (.getfield 10, 3) := by decide +kernel
theorem dX10_stepHour_111 : decode cX10_stepHour 111 = .ok (.invokevirtual 270, 3) := by decide +kernel
theorem dX10_stepHour_114 : decode cX10_stepHour 114 = .ok (.return_, 1) := by decide +kernel
theorem dX10_firstBayWithRoom_0 : decode cX10_firstBayWithRoom 0 = .ok (.iconst 0, 1) := by decide +kernel
theorem dX10_firstBayWithRoom_1 : decode cX10_firstBayWithRoom 1 = .ok (.istore_n 1, 1) := by decide +kernel
theorem dX10_firstBayWithRoom_2 : decode cX10_firstBayWithRoom 2 = .ok (.iload_n 1, 1) := by decide +kernel
theorem dX10_firstBayWithRoom_3 : decode cX10_firstBayWithRoom 3 = .ok (.iconst 3, 1) := by decide +kernel
theorem dX10_firstBayWithRoom_4 : decode cX10_firstBayWithRoom 4 = .ok (.if_icmp .ge 23, 3) := by decide +kernel
theorem dX10_firstBayWithRoom_7 : decode cX10_firstBayWithRoom 7 = .ok (.aload_n 0, 1) := by decide +kernel
theorem dX10_firstBayWithRoom_8 : decode cX10_firstBayWithRoom 8 = .ok (.getfield 53, 3) := by decide +kernel
theorem dX10_firstBayWithRoom_11 : decode cX10_firstBayWithRoom 11 = .ok (.iload_n 1, 1) := by decide +kernel
theorem dX10_firstBayWithRoom_12 : decode cX10_firstBayWithRoom 12 = .ok (.aaload, 1) := by decide +kernel
theorem dX10_firstBayWithRoom_13 : decode cX10_firstBayWithRoom 13 = .ok (.invokevirtual 273, 3) := by decide +kernel
theorem dX10_firstBayWithRoom_16 : decode cX10_firstBayWithRoom 16 = .ok (.ifCond .eq 5, 3) := by decide +kernel
theorem dX10_firstBayWithRoom_19 : decode cX10_firstBayWithRoom 19 = .ok (.iload_n 1, 1) := by decide +kernel
theorem dX10_firstBayWithRoom_20 : decode cX10_firstBayWithRoom 20 = .ok (.ireturn, 1) := by decide +kernel
theorem dX10_firstBayWithRoom_21 : decode cX10_firstBayWithRoom 21 = .ok (.iinc 1 1, 3) := by decide +kernel
theorem dX10_firstBayWithRoom_24 : decode cX10_firstBayWithRoom 24 = .ok (.goto (-22), 3) := by decide +kernel
theorem dX10_firstBayWithRoom_27 : decode cX10_firstBayWithRoom 27 = .ok (.iconst (-1), 1) := by decide +kernel
theorem dX10_firstBayWithRoom_28 : decode cX10_firstBayWithRoom 28 = .ok (.ireturn, 1) := by decide +kernel
theorem dX10_whyNotBlown_0 : decode cX10_whyNotBlown 0 = .ok (.aload_n 2, 1) := by decide +kernel
theorem dX10_whyNotBlown_1 : decode cX10_whyNotBlown 1 = .ok (.getfield 175, 3) := by decide +kernel
theorem dX10_whyNotBlown_4 : decode cX10_whyNotBlown 4 = .ok (.ifCond .eq 10, 3) := by decide +kernel
theorem dX10_whyNotBlown_7 : decode cX10_whyNotBlown 7 = .ok (.aload_n 0, 1) := by decide +kernel
theorem dX10_whyNotBlown_8 : decode cX10_whyNotBlown 8 = .ok (.invokevirtual 96, 3) := by decide +kernel
theorem dX10_whyNotBlown_11 : decode cX10_whyNotBlown 11 = .ok (.ifCond .eq 5, 3) := by decide +kernel
theorem dX10_whyNotBlown_14 : decode cX10_whyNotBlown 14 = .ok (.iconst 1, 1) := by decide +kernel
theorem dX10_whyNotBlown_15 : decode cX10_whyNotBlown 15 = .ok (.ireturn, 1) := by decide +kernel
theorem dX10_whyNotBlown_16 : decode cX10_whyNotBlown 16 = .ok (.aload_n 3, 1) := by decide +kernel
theorem dX10_whyNotBlown_17 : decode cX10_whyNotBlown 17 = .ok (.invokevirtual 274, 3) := by decide +kernel
theorem dX10_whyNotBlown_20 : decode cX10_whyNotBlown 20 = .ok (.ifCond .ne 5, 3) := by decide +kernel
theorem dX10_whyNotBlown_23 : decode cX10_whyNotBlown 23 = .ok (.iconst 2, 1) := by decide +kernel
theorem dX10_whyNotBlown_24 : decode cX10_whyNotBlown 24 = .ok (.ireturn, 1) := by decide +kernel
theorem dX10_whyNotBlown_25 : decode cX10_whyNotBlown 25 = .ok (.aload_n 0, 1) := by decide +kernel
theorem dX10_whyNotBlown_26 : decode cX10_whyNotBlown 26 = .ok (.getfield 19, 3) := by decide +kernel
theorem dX10_whyNotBlown_29 : decode cX10_whyNotBlown 29 = .ok (.getfield 122, 3) := by decide +kernel
theorem dX10_whyNotBlown_32 : decode cX10_whyNotBlown 32 = .ok (.sipush 900, 3) := by decide +kernel
theorem dX10_whyNotBlown_35 : decode cX10_whyNotBlown 35 = .ok (.if_icmp .ge 5, 3) := by decide +kernel
theorem dX10_whyNotBlown_38 : decode cX10_whyNotBlown 38 = .ok (.iconst 3, 1) := by decide +kernel
theorem dX10_whyNotBlown_39 : decode cX10_whyNotBlown 39 = .ok (.ireturn, 1) := by decide +kernel
theorem dX10_whyNotBlown_40 : decode cX10_whyNotBlown 40 = .ok (.aload_n 2, 1) := by decide +kernel
theorem dX10_whyNotBlown_41 : decode cX10_whyNotBlown 41 = .ok (.getfield 188, 3) := by decide +kernel
theorem dX10_whyNotBlown_44 : decode cX10_whyNotBlown 44 = .ok (.iconst (-1), 1) := by decide +kernel
theorem dX10_whyNotBlown_45 : decode cX10_whyNotBlown 45 = .ok (.if_icmp .eq 16, 3) := by decide +kernel
theorem dX10_whyNotBlown_48 : decode cX10_whyNotBlown 48 = .ok (.aload_n 2, 1) := by decide +kernel
theorem dX10_whyNotBlown_49 : decode cX10_whyNotBlown 49 = .ok (.getfield 188, 3) := by decide +kernel
theorem dX10_whyNotBlown_52 : decode cX10_whyNotBlown 52 = .ok (.aload_n 3, 1) := by decide +kernel
theorem dX10_whyNotBlown_53 : decode cX10_whyNotBlown 53 = .ok (.getfield 165, 3) := by decide +kernel
theorem dX10_whyNotBlown_56 : decode cX10_whyNotBlown 56 = .ok (.if_icmp .eq 5, 3) := by decide +kernel
theorem dX10_whyNotBlown_59 : decode cX10_whyNotBlown 59 = .ok (.iconst 4, 1) := by decide +kernel
theorem dX10_whyNotBlown_60 : decode cX10_whyNotBlown 60 = .ok (.ireturn, 1) := by decide +kernel
theorem dX10_whyNotBlown_61 : decode cX10_whyNotBlown 61 = .ok (.aload_n 3, 1) := by decide +kernel
theorem dX10_whyNotBlown_62 : decode cX10_whyNotBlown 62 = .ok (.getfield 169, 3) := by decide +kernel
theorem dX10_whyNotBlown_65 : decode cX10_whyNotBlown 65 = .ok (.aload_n 2, 1) := by decide +kernel
theorem dX10_whyNotBlown_66 : decode cX10_whyNotBlown 66 = .ok (.getfield 179, 3) := by decide +kernel
theorem dX10_whyNotBlown_69 : decode cX10_whyNotBlown 69 = .ok (.if_icmp .ge 5, 3) := by decide +kernel
theorem dX10_whyNotBlown_72 : decode cX10_whyNotBlown 72 = .ok (.iconst 5, 1) := by decide +kernel
theorem dX10_whyNotBlown_73 : decode cX10_whyNotBlown 73 = .ok (.ireturn, 1) := by decide +kernel
theorem dX10_whyNotBlown_74 : decode cX10_whyNotBlown 74 = .ok (.aload_n 0, 1) := by decide +kernel
theorem dX10_whyNotBlown_75 : decode cX10_whyNotBlown 75 = .ok (.getfield 58, 3) := by decide +kernel
theorem dX10_whyNotBlown_78 : decode cX10_whyNotBlown 78 = .ok (.iload_n 1, 1) := by decide +kernel
theorem dX10_whyNotBlown_79 : decode cX10_whyNotBlown 79 = .ok (.iaload, 1) := by decide +kernel
theorem dX10_whyNotBlown_80 : decode cX10_whyNotBlown 80 = .ok (.aload_n 2, 1) := by decide +kernel
theorem dX10_whyNotBlown_81 : decode cX10_whyNotBlown 81 = .ok (.getfield 182, 3) := by decide +kernel
theorem dX10_whyNotBlown_84 : decode cX10_whyNotBlown 84 = .ok (.if_icmp .ge 6, 3) := by decide +kernel
theorem dX10_whyNotBlown_87 : decode cX10_whyNotBlown 87 = .ok (.bipush 6, 2) := by decide +kernel
theorem dX10_whyNotBlown_89 : decode cX10_whyNotBlown 89 = .ok (.ireturn, 1) := by decide +kernel
theorem dX10_whyNotBlown_90 : decode cX10_whyNotBlown 90 = .ok (.iload 4, 2) := by decide +kernel
theorem dX10_whyNotBlown_92 : decode cX10_whyNotBlown 92 = .ok (.iconst (-1), 1) := by decide +kernel
theorem dX10_whyNotBlown_93 : decode cX10_whyNotBlown 93 = .ok (.if_icmp .eq 13, 3) := by decide +kernel
theorem dX10_whyNotBlown_96 : decode cX10_whyNotBlown 96 = .ok (.aload_n 0, 1) := by decide +kernel
theorem dX10_whyNotBlown_97 : decode cX10_whyNotBlown 97 = .ok (.getfield 220, 3) := by decide +kernel
theorem dX10_whyNotBlown_100 : decode cX10_whyNotBlown 100 = .ok (.sipush 1000, 3) := by decide +kernel
theorem dX10_whyNotBlown_103 : decode cX10_whyNotBlown 103 = .ok (.if_icmp .lt 8, 3) := by decide +kernel
theorem dX10_whyNotBlown_106 : decode cX10_whyNotBlown 106 = .ok (.bipush 7, 2) := by decide +kernel
theorem dX10_whyNotBlown_108 : decode cX10_whyNotBlown 108 = .ok (.goto 4, 3) := by decide +kernel
theorem dX10_whyNotBlown_111 : decode cX10_whyNotBlown 111 = .ok (.iconst 0, 1) := by decide +kernel
theorem dX10_whyNotBlown_112 : decode cX10_whyNotBlown 112 = .ok (.ireturn, 1) := by decide +kernel
theorem dX10_blowPiece_0 : decode cX10_blowPiece 0 = .ok (.aload_n 0, 1) := by decide +kernel
theorem dX10_blowPiece_1 : decode cX10_blowPiece 1 = .ok (.getfield 46, 3) := by decide +kernel
theorem dX10_blowPiece_4 : decode cX10_blowPiece 4 = .ok (.iload_n 2, 1) := by decide +kernel
theorem dX10_blowPiece_5 : decode cX10_blowPiece 5 = .ok (.aaload, 1) := by decide +kernel
theorem dX10_blowPiece_6 : decode cX10_blowPiece 6 = .ok (.astore 5, 2) := by decide +kernel
theorem dX10_blowPiece_8 : decode cX10_blowPiece 8 = .ok (.new 68, 3) := by decide +kernel
theorem dX10_blowPiece_11 : decode cX10_blowPiece 11 = .ok (.dup, 1) := by decide +kernel
theorem dX10_blowPiece_12 : decode cX10_blowPiece 12 = .ok (.iload_n 2, 1) := by decide +kernel
theorem dX10_blowPiece_13 : decode cX10_blowPiece 13 = .ok (.iload_n 1, 1) := by decide +kernel
theorem dX10_blowPiece_14 : decode cX10_blowPiece 14 = .ok (.aload_n 3, 1) := by decide +kernel
theorem dX10_blowPiece_15 : decode cX10_blowPiece 15 = .ok (.getfield 277, 3) := by decide +kernel
theorem dX10_blowPiece_18 : decode cX10_blowPiece 18 = .ok (.aload_n 0, 1) := by decide +kernel
theorem dX10_blowPiece_19 : decode cX10_blowPiece 19 = .ok (.getfield 211, 3) := by decide +kernel
theorem dX10_blowPiece_22 : decode cX10_blowPiece 22 = .ok (.aload 5, 2) := by decide +kernel
theorem dX10_blowPiece_24 : decode cX10_blowPiece 24 = .ok (.invokespecial 280, 3) := by decide +kernel
theorem dX10_blowPiece_27 : decode cX10_blowPiece 27 = .ok (.astore 6, 2) := by decide +kernel
theorem dX10_blowPiece_29 : decode cX10_blowPiece 29 = .ok (.aload_n 0, 1) := by decide +kernel
theorem dX10_blowPiece_30 : decode cX10_blowPiece 30 = .ok (.getfield 58, 3) := by decide +kernel
theorem dX10_blowPiece_33 : decode cX10_blowPiece 33 = .ok (.iload_n 1, 1) := by decide +kernel
theorem dX10_blowPiece_34 : decode cX10_blowPiece 34 = .ok (.dup2, 1) := by decide +kernel
theorem dX10_blowPiece_35 : decode cX10_blowPiece 35 = .ok (.iaload, 1) := by decide +kernel
theorem dX10_blowPiece_36 : decode cX10_blowPiece 36 = .ok (.aload 5, 2) := by decide +kernel
theorem dX10_blowPiece_38 : decode cX10_blowPiece 38 = .ok (.getfield 182, 3) := by decide +kernel
theorem dX10_blowPiece_41 : decode cX10_blowPiece 41 = .ok (.isub, 1) := by decide +kernel
theorem dX10_blowPiece_42 : decode cX10_blowPiece 42 = .ok (.iastore, 1) := by decide +kernel
theorem dX10_blowPiece_43 : decode cX10_blowPiece 43 = .ok (.aload_n 3, 1) := by decide +kernel
theorem dX10_blowPiece_44 : decode cX10_blowPiece 44 = .ok (.aload 5, 2) := by decide +kernel
theorem dX10_blowPiece_46 : decode cX10_blowPiece 46 = .ok (.getfield 179, 3) := by decide +kernel
theorem dX10_blowPiece_49 : decode cX10_blowPiece 49 = .ok (.invokevirtual 283, 3) := by decide +kernel
theorem dX10_blowPiece_52 : decode cX10_blowPiece 52 = .ok (.aload 5, 2) := by decide +kernel
theorem dX10_blowPiece_54 : decode cX10_blowPiece 54 = .ok (.dup, 1) := by decide +kernel
theorem dX10_blowPiece_55 : decode cX10_blowPiece 55 = .ok (.getfield 250, 3) := by decide +kernel
theorem dX10_blowPiece_58 : decode cX10_blowPiece 58 = .ok (.iconst 1, 1) := by decide +kernel
theorem dX10_blowPiece_59 : decode cX10_blowPiece 59 = .ok (.iadd, 1) := by decide +kernel
theorem dX10_blowPiece_60 : decode cX10_blowPiece 60 = .ok (.putfield 250, 3) := by decide +kernel
theorem dX10_blowPiece_63 : decode cX10_blowPiece 63 = .ok (.aload 5, 2) := by decide +kernel
theorem dX10_blowPiece_65 : decode cX10_blowPiece 65 = .ok (.invokevirtual 286, 3) := by decide +kernel
theorem dX10_blowPiece_68 : decode cX10_blowPiece 68 = .ok (.ifCond .eq 26, 3) := by decide +kernel
theorem dX10_blowPiece_71 : decode cX10_blowPiece 71 = .ok (.aload 6, 2) := by decide +kernel
theorem dX10_blowPiece_73 : decode cX10_blowPiece 73 = .ok (.iconst 2, 1) := by decide +kernel
theorem dX10_blowPiece_74 : decode cX10_blowPiece 74 = .ok (.putfield 289, 3) := by decide +kernel
theorem dX10_blowPiece_77 : decode cX10_blowPiece 77 = .ok (.aload_n 0, 1) := by decide +kernel
theorem dX10_blowPiece_78 : decode cX10_blowPiece 78 = .ok (.dup, 1) := by decide +kernel
theorem dX10_blowPiece_79 : decode cX10_blowPiece 79 = .ok (.getfield 153, 3) := by decide +kernel
theorem dX10_blowPiece_82 : decode cX10_blowPiece 82 = .ok (.aload 6, 2) := by decide +kernel
theorem dX10_blowPiece_84 : decode cX10_blowPiece 84 = .ok (.getfield 292, 3) := by decide +kernel
theorem dX10_blowPiece_87 : decode cX10_blowPiece 87 = .ok (.iadd, 1) := by decide +kernel
theorem dX10_blowPiece_88 : decode cX10_blowPiece 88 = .ok (.putfield 153, 3) := by decide +kernel
theorem dX10_blowPiece_91 : decode cX10_blowPiece 91 = .ok (.goto 22, 3) := by decide +kernel
theorem dX10_blowPiece_94 : decode cX10_blowPiece 94 = .ok (.aload 6, 2) := by decide +kernel
theorem dX10_blowPiece_96 : decode cX10_blowPiece 96 = .ok (.iload 4, 2) := by decide +kernel
theorem dX10_blowPiece_98 : decode cX10_blowPiece 98 = .ok (.putfield 293, 3) := by decide +kernel
theorem dX10_blowPiece_101 : decode cX10_blowPiece 101 = .ok (.aload_n 0, 1) := by decide +kernel
theorem dX10_blowPiece_102 : decode cX10_blowPiece 102 = .ok (.getfield 53, 3) := by decide +kernel
theorem dX10_blowPiece_105 : decode cX10_blowPiece 105 = .ok (.iload 4, 2) := by decide +kernel
theorem dX10_blowPiece_107 : decode cX10_blowPiece 107 = .ok (.aaload, 1) := by decide +kernel
theorem dX10_blowPiece_108 : decode cX10_blowPiece 108 = .ok (.aload 6, 2) := by decide +kernel
theorem dX10_blowPiece_110 : decode cX10_blowPiece 110 = .ok (.invokevirtual 296, 3) := by decide +kernel
theorem dX10_blowPiece_113 : decode cX10_blowPiece 113 = .ok (.aload_n 0, 1) := by decide +kernel
theorem dX10_blowPiece_114 : decode cX10_blowPiece 114 = .ok (.getfield 70, 3) := by decide +kernel
theorem dX10_blowPiece_117 : decode cX10_blowPiece 117 = .ok (.aload_n 0, 1) := by decide +kernel
theorem dX10_blowPiece_118 : decode cX10_blowPiece 118 = .ok (.getfield 220, 3) := by decide +kernel
theorem dX10_blowPiece_121 : decode cX10_blowPiece 121 = .ok (.aload 6, 2) := by decide +kernel
theorem dX10_blowPiece_123 : decode cX10_blowPiece 123 = .ok (.aastore, 1) := by decide +kernel
theorem dX10_blowPiece_124 : decode cX10_blowPiece 124 = .ok (.aload_n 0, 1) := by decide +kernel
theorem dX10_blowPiece_125 : decode cX10_blowPiece 125 = .ok (.dup, 1) := by decide +kernel
theorem dX10_blowPiece_126 : decode cX10_blowPiece 126 = .ok (.getfield 220, 3) := by decide +kernel
theorem dX10_blowPiece_129 : decode cX10_blowPiece 129 = .ok (.iconst 1, 1) := by decide +kernel
theorem dX10_blowPiece_130 : decode cX10_blowPiece 130 = .ok (.iadd, 1) := by decide +kernel
theorem dX10_blowPiece_131 : decode cX10_blowPiece 131 = .ok (.putfield 220, 3) := by decide +kernel
theorem dX10_blowPiece_134 : decode cX10_blowPiece 134 = .ok (.return_, 1) := by decide +kernel
theorem dX10_storedOf_0 : decode cX10_storedOf 0 = .ok (.iconst 0, 1) := by decide +kernel
theorem dX10_storedOf_1 : decode cX10_storedOf 1 = .ok (.istore_n 3, 1) := by decide +kernel
theorem dX10_storedOf_2 : decode cX10_storedOf 2 = .ok (.iconst 0, 1) := by decide +kernel
theorem dX10_storedOf_3 : decode cX10_storedOf 3 = .ok (.istore 4, 2) := by decide +kernel
theorem dX10_storedOf_5 : decode cX10_storedOf 5 = .ok (.iload 4, 2) := by decide +kernel
theorem dX10_storedOf_7 : decode cX10_storedOf 7 = .ok (.aload_n 0, 1) := by decide +kernel
theorem dX10_storedOf_8 : decode cX10_storedOf 8 = .ok (.getfield 220, 3) := by decide +kernel
theorem dX10_storedOf_11 : decode cX10_storedOf 11 = .ok (.if_icmp .ge 53, 3) := by decide +kernel
theorem dX10_storedOf_14 : decode cX10_storedOf 14 = .ok (.aload_n 0, 1) := by decide +kernel
theorem dX10_storedOf_15 : decode cX10_storedOf 15 = .ok (.getfield 70, 3) := by decide +kernel
theorem dX10_storedOf_18 : decode cX10_storedOf 18 = .ok (.iload 4, 2) := by decide +kernel
theorem dX10_storedOf_20 : decode cX10_storedOf 20 = .ok (.aaload, 1) := by decide +kernel
theorem dX10_storedOf_21 : decode cX10_storedOf 21 = .ok (.astore 5, 2) := by decide +kernel
theorem dX10_storedOf_23 : decode cX10_storedOf 23 = .ok (.aload 5, 2) := by decide +kernel
theorem dX10_storedOf_25 : decode cX10_storedOf 25 = .ok (.ifnull 33, 3) := by decide +kernel
theorem dX10_storedOf_28 : decode cX10_storedOf 28 = .ok (.aload 5, 2) := by decide +kernel
theorem dX10_storedOf_30 : decode cX10_storedOf 30 = .ok (.getfield 289, 3) := by decide +kernel
theorem dX10_storedOf_33 : decode cX10_storedOf 33 = .ok (.iconst 1, 1) := by decide +kernel
theorem dX10_storedOf_34 : decode cX10_storedOf 34 = .ok (.if_icmp .ne 24, 3) := by decide +kernel
theorem dX10_storedOf_37 : decode cX10_storedOf 37 = .ok (.aload 5, 2) := by decide +kernel
theorem dX10_storedOf_39 : decode cX10_storedOf 39 = .ok (.getfield 300, 3) := by decide +kernel
theorem dX10_storedOf_42 : decode cX10_storedOf 42 = .ok (.iload_n 1, 1) := by decide +kernel
theorem dX10_storedOf_43 : decode cX10_storedOf 43 = .ok (.if_icmp .ne 15, 3) := by decide +kernel
theorem dX10_storedOf_46 : decode cX10_storedOf 46 = .ok (.aload 5, 2) := by decide +kernel
theorem dX10_storedOf_48 : decode cX10_storedOf 48 = .ok (.getfield 303, 3) := by decide +kernel
theorem dX10_storedOf_51 : decode cX10_storedOf 51 = .ok (.iload_n 2, 1) := by decide +kernel
theorem dX10_storedOf_52 : decode cX10_storedOf 52 = .ok (.if_icmp .ne 6, 3) := by decide +kernel
theorem dX10_storedOf_55 : decode cX10_storedOf 55 = .ok (.iinc 3 1, 3) := by decide +kernel
theorem dX10_storedOf_58 : decode cX10_storedOf 58 = .ok (.iinc 4 1, 3) := by decide +kernel
theorem dX10_storedOf_61 : decode cX10_storedOf 61 = .ok (.goto (-56), 3) := by decide +kernel
theorem dX10_storedOf_64 : decode cX10_storedOf 64 = .ok (.iload_n 3, 1) := by decide +kernel
theorem dX10_storedOf_65 : decode cX10_storedOf 65 = .ok (.ireturn, 1) := by decide +kernel
theorem dJ9_max_7cf53_0 : decode cJ9_max_7cf53 0 = .ok (.iload_n 0, 1) := by decide +kernel
theorem dJ9_max_7cf53_1 : decode cJ9_max_7cf53 1 = .ok (.iload_n 1, 1) := by decide +kernel
theorem dJ9_max_7cf53_2 : decode cJ9_max_7cf53 2 = .ok (.if_icmp .lt 7, 3) := by decide +kernel
theorem dJ9_max_7cf53_5 : decode cJ9_max_7cf53 5 = .ok (.iload_n 0, 1) := by decide +kernel
theorem dJ9_max_7cf53_6 : decode cJ9_max_7cf53 6 = .ok (.goto 4, 3) := by decide +kernel
theorem dJ9_max_7cf53_9 : decode cJ9_max_7cf53 9 = .ok (.iload_n 1, 1) := by decide +kernel
theorem dJ9_max_7cf53_10 : decode cJ9_max_7cf53 10 = .ok (.ireturn, 1) := by decide +kernel
theorem dJ9_min_7cf53_0 : decode cJ9_min_7cf53 0 = .ok (.iload_n 0, 1) := by decide +kernel
theorem dJ9_min_7cf53_1 : decode cJ9_min_7cf53 1 = .ok (.iload_n 1, 1) := by decide +kernel
theorem dJ9_min_7cf53_2 : decode cJ9_min_7cf53 2 = .ok (.if_icmp .gt 7, 3) := by decide +kernel
theorem dJ9_min_7cf53_5 : decode cJ9_min_7cf53 5 = .ok (.iload_n 0, 1) := by decide +kernel
theorem dJ9_min_7cf53_6 : decode cJ9_min_7cf53 6 = .ok (.goto 4, 3) := by decide +kernel
theorem dJ9_min_7cf53_9 : decode cJ9_min_7cf53 9 = .ok (.iload_n 1, 1) := by decide +kernel
theorem dJ9_min_7cf53_10 : decode cJ9_min_7cf53 10 = .ok (.ireturn, 1) := by decide +kernel
theorem dJ7_fill_53178_0 : decode cJ7_fill_53178 0 = .ok (.iconst 0, 1) := by decide +kernel
theorem dJ7_fill_53178_1 : decode cJ7_fill_53178 1 = .ok (.istore_n 2, 1) := by decide +kernel
theorem dJ7_fill_53178_2 : decode cJ7_fill_53178 2 = .ok (.aload_n 0, 1) := by decide +kernel
theorem dJ7_fill_53178_3 : decode cJ7_fill_53178 3 = .ok (.arraylength, 1) := by decide +kernel
theorem dJ7_fill_53178_4 : decode cJ7_fill_53178 4 = .ok (.istore_n 3, 1) := by decide +kernel
theorem dJ7_fill_53178_5 : decode cJ7_fill_53178 5 = .ok (.iload_n 2, 1) := by decide +kernel
theorem dJ7_fill_53178_6 : decode cJ7_fill_53178 6 = .ok (.iload_n 3, 1) := by decide +kernel
theorem dJ7_fill_53178_7 : decode cJ7_fill_53178 7 = .ok (.if_icmp .ge 13, 3) := by decide +kernel
theorem dJ7_fill_53178_10 : decode cJ7_fill_53178 10 = .ok (.aload_n 0, 1) := by decide +kernel
theorem dJ7_fill_53178_11 : decode cJ7_fill_53178 11 = .ok (.iload_n 2, 1) := by decide +kernel
theorem dJ7_fill_53178_12 : decode cJ7_fill_53178 12 = .ok (.iload_n 1, 1) := by decide +kernel
theorem dJ7_fill_53178_13 : decode cJ7_fill_53178 13 = .ok (.iastore, 1) := by decide +kernel
theorem dJ7_fill_53178_14 : decode cJ7_fill_53178 14 = .ok (.iinc 2 1, 3) := by decide +kernel
theorem dJ7_fill_53178_17 : decode cJ7_fill_53178 17 = .ok (.goto (-12), 3) := by decide +kernel
theorem dJ7_fill_53178_20 : decode cJ7_fill_53178 20 = .ok (.return_, 1) := by decide +kernel

theorem dX0_init_0 : decode cX0_init 0 = .ok (.aload_n 0, 1) := by decide +kernel
theorem dX0_init_1 : decode cX0_init 1 = .ok (.invokespecial 3, 3) := by decide +kernel
theorem dX0_init_4 : decode cX0_init 4 = .ok (.aload_n 0, 1) := by decide +kernel
theorem dX0_init_5 : decode cX0_init 5 = .ok (.bipush 16, 2) := by decide +kernel
theorem dX0_init_7 : decode cX0_init 7 = .ok (.anewarray 9, 3) := by decide +kernel
theorem dX0_init_10 : decode cX0_init 10 = .ok (.putfield 11, 3) := by decide +kernel
theorem dX0_init_13 : decode cX0_init 13 = .ok (.iconst 0, 1) := by decide +kernel
theorem dX0_init_14 : decode cX0_init 14 = .ok (.istore_n 1, 1) := by decide +kernel
theorem dX0_init_15 : decode cX0_init 15 = .ok (.iload_n 1, 1) := by decide +kernel
theorem dX0_init_16 : decode cX0_init 16 = .ok (.bipush 16, 2) := by decide +kernel
theorem dX0_init_18 : decode cX0_init 18 = .ok (.if_icmp .ge 22, 3) := by decide +kernel
theorem dX0_init_21 : decode cX0_init 21 = .ok (.aload_n 0, 1) := by decide +kernel
theorem dX0_init_22 : decode cX0_init 22 = .ok (.getfield 11, 3) := by decide +kernel
theorem dX0_init_25 : decode cX0_init 25 = .ok (.iload_n 1, 1) := by decide +kernel
theorem dX0_init_26 : decode cX0_init 26 = .ok (.new 9, 3) := by decide +kernel
theorem dX0_init_29 : decode cX0_init 29 = .ok (.dup, 1) := by decide +kernel
theorem dX0_init_30 : decode cX0_init 30 = .ok (.invokespecial 17, 3) := by decide +kernel
theorem dX0_init_33 : decode cX0_init 33 = .ok (.aastore, 1) := by decide +kernel
theorem dX0_init_34 : decode cX0_init 34 = .ok (.iinc 1 1, 3) := by decide +kernel
theorem dX0_init_37 : decode cX0_init 37 = .ok (.goto (-22), 3) := by decide +kernel
theorem dX0_init_40 : decode cX0_init 40 = .ok (.return_, 1) := by decide +kernel
theorem dX0_remember_0 : decode cX0_remember 0 = .ok (.aload_n 0, 1) := by decide +kernel
theorem dX0_remember_1 : decode cX0_remember 1 = .ok (.getfield 11, 3) := by decide +kernel
theorem dX0_remember_4 : decode cX0_remember 4 = .ok (.aload_n 0, 1) := by decide +kernel
theorem dX0_remember_5 : decode cX0_remember 5 = .ok (.getfield 18, 3) := by decide +kernel
theorem dX0_remember_8 : decode cX0_remember 8 = .ok (.bipush 15, 2) := by decide +kernel
theorem dX0_remember_10 : decode cX0_remember 10 = .ok (.iand, 1) := by decide +kernel
theorem dX0_remember_11 : decode cX0_remember 11 = .ok (.aaload, 1) := by decide +kernel
theorem dX0_remember_12 : decode cX0_remember 12 = .ok (.aload_n 1, 1) := by decide +kernel
theorem dX0_remember_13 : decode cX0_remember 13 = .ok (.invokevirtual 22, 3) := by decide +kernel
theorem dX0_remember_16 : decode cX0_remember 16 = .ok (.aload_n 0, 1) := by decide +kernel
theorem dX0_remember_17 : decode cX0_remember 17 = .ok (.aload_n 0, 1) := by decide +kernel
theorem dX0_remember_18 : decode cX0_remember 18 = .ok (.getfield 18, 3) := by decide +kernel
theorem dX0_remember_21 : decode cX0_remember 21 = .ok (.iconst 1, 1) := by decide +kernel
theorem dX0_remember_22 : decode cX0_remember 22 = .ok (.iadd, 1) := by decide +kernel
theorem dX0_remember_23 : decode cX0_remember 23 = .ok (.bipush 15, 2) := by decide +kernel
theorem dX0_remember_25 : decode cX0_remember 25 = .ok (.iand, 1) := by decide +kernel
theorem dX0_remember_26 : decode cX0_remember 26 = .ok (.putfield 18, 3) := by decide +kernel
theorem dX0_remember_29 : decode cX0_remember 29 = .ok (.aload_n 0, 1) := by decide +kernel
theorem dX0_remember_30 : decode cX0_remember 30 = .ok (.getfield 26, 3) := by decide +kernel
theorem dX0_remember_33 : decode cX0_remember 33 = .ok (.bipush 16, 2) := by decide +kernel
theorem dX0_remember_35 : decode cX0_remember 35 = .ok (.if_icmp .ge 13, 3) := by decide +kernel
theorem dX0_remember_38 : decode cX0_remember 38 = .ok (.aload_n 0, 1) := by decide +kernel
theorem dX0_remember_39 : decode cX0_remember 39 = .ok (.dup, 1) := by decide +kernel
theorem dX0_remember_40 : decode cX0_remember 40 = .ok (.getfield 26, 3) := by decide +kernel
theorem dX0_remember_43 : decode cX0_remember 43 = .ok (.iconst 1, 1) := by decide +kernel
theorem dX0_remember_44 : decode cX0_remember 44 = .ok (.iadd, 1) := by decide +kernel
theorem dX0_remember_45 : decode cX0_remember 45 = .ok (.putfield 26, 3) := by decide +kernel
theorem dX0_remember_48 : decode cX0_remember 48 = .ok (.return_, 1) := by decide +kernel
theorem dX0_takeLastBack_0 : decode cX0_takeLastBack 0 = .ok (.aload_n 0, 1) := by decide +kernel
theorem dX0_takeLastBack_1 : decode cX0_takeLastBack 1 = .ok (.getfield 26, 3) := by decide +kernel
theorem dX0_takeLastBack_4 : decode cX0_takeLastBack 4 = .ok (.iconst 1, 1) := by decide +kernel
theorem dX0_takeLastBack_5 : decode cX0_takeLastBack 5 = .ok (.if_icmp .ge 4, 3) := by decide +kernel
theorem dX0_takeLastBack_8 : decode cX0_takeLastBack 8 = .ok (.return_, 1) := by decide +kernel
theorem dX0_takeLastBack_9 : decode cX0_takeLastBack 9 = .ok (.aload_n 0, 1) := by decide +kernel
theorem dX0_takeLastBack_10 : decode cX0_takeLastBack 10 = .ok (.aload_n 0, 1) := by decide +kernel
theorem dX0_takeLastBack_11 : decode cX0_takeLastBack 11 = .ok (.getfield 18, 3) := by decide +kernel
theorem dX0_takeLastBack_14 : decode cX0_takeLastBack 14 = .ok (.iconst 1, 1) := by decide +kernel
theorem dX0_takeLastBack_15 : decode cX0_takeLastBack 15 = .ok (.isub, 1) := by decide +kernel
theorem dX0_takeLastBack_16 : decode cX0_takeLastBack 16 = .ok (.bipush 15, 2) := by decide +kernel
theorem dX0_takeLastBack_18 : decode cX0_takeLastBack 18 = .ok (.iand, 1) := by decide +kernel
theorem dX0_takeLastBack_19 : decode cX0_takeLastBack 19 = .ok (.putfield 18, 3) := by decide +kernel
theorem dX0_takeLastBack_22 : decode cX0_takeLastBack 22 = .ok (.aload_n 1, 1) := by decide +kernel
theorem dX0_takeLastBack_23 : decode cX0_takeLastBack 23 = .ok (.aload_n 0, 1) := by decide +kernel
theorem dX0_takeLastBack_24 : decode cX0_takeLastBack 24 = .ok (.getfield 11, 3) := by decide +kernel
theorem dX0_takeLastBack_27 : decode cX0_takeLastBack 27 = .ok (.aload_n 0, 1) := by decide +kernel
theorem dX0_takeLastBack_28 : decode cX0_takeLastBack 28 = .ok (.getfield 18, 3) := by decide +kernel
theorem dX0_takeLastBack_31 : decode cX0_takeLastBack 31 = .ok (.aaload, 1) := by decide +kernel
theorem dX0_takeLastBack_32 : decode cX0_takeLastBack 32 = .ok (.invokevirtual 22, 3) := by decide +kernel
theorem dX0_takeLastBack_35 : decode cX0_takeLastBack 35 = .ok (.aload_n 0, 1) := by decide +kernel
theorem dX0_takeLastBack_36 : decode cX0_takeLastBack 36 = .ok (.dup, 1) := by decide +kernel
theorem dX0_takeLastBack_37 : decode cX0_takeLastBack 37 = .ok (.getfield 26, 3) := by decide +kernel
theorem dX0_takeLastBack_40 : decode cX0_takeLastBack 40 = .ok (.iconst 1, 1) := by decide +kernel
theorem dX0_takeLastBack_41 : decode cX0_takeLastBack 41 = .ok (.isub, 1) := by decide +kernel
theorem dX0_takeLastBack_42 : decode cX0_takeLastBack 42 = .ok (.putfield 26, 3) := by decide +kernel
theorem dX0_takeLastBack_45 : decode cX0_takeLastBack 45 = .ok (.return_, 1) := by decide +kernel
theorem dX0_forget_0 : decode cX0_forget 0 = .ok (.aload_n 0, 1) := by decide +kernel
theorem dX0_forget_1 : decode cX0_forget 1 = .ok (.iconst 0, 1) := by decide +kernel
theorem dX0_forget_2 : decode cX0_forget 2 = .ok (.putfield 26, 3) := by decide +kernel
theorem dX0_forget_5 : decode cX0_forget 5 = .ok (.aload_n 0, 1) := by decide +kernel
theorem dX0_forget_6 : decode cX0_forget 6 = .ok (.iconst 0, 1) := by decide +kernel
theorem dX0_forget_7 : decode cX0_forget 7 = .ok (.putfield 18, 3) := by decide +kernel
theorem dX0_forget_10 : decode cX0_forget 10 = .ok (.return_, 1) := by decide +kernel
theorem dX1_init_0 : decode cX1_init 0 = .ok (.aload_n 0, 1) := by decide +kernel
theorem dX1_init_1 : decode cX1_init 1 = .ok (.invokespecial 3, 3) := by decide +kernel
theorem dX1_init_4 : decode cX1_init 4 = .ok (.aload_n 0, 1) := by decide +kernel
theorem dX1_init_5 : decode cX1_init 5 = .ok (.bipush 36, 2) := by decide +kernel
theorem dX1_init_7 : decode cX1_init 7 = .ok (.newarray .int, 2) := by decide +kernel
theorem dX1_init_9 : decode cX1_init 9 = .ok (.putfield 9, 3) := by decide +kernel
theorem dX1_init_12 : decode cX1_init 12 = .ok (.aload_n 0, 1) := by decide +kernel
theorem dX1_init_13 : decode cX1_init 13 = .ok (.bipush 36, 2) := by decide +kernel
theorem dX1_init_15 : decode cX1_init 15 = .ok (.newarray .int, 2) := by decide +kernel
theorem dX1_init_17 : decode cX1_init 17 = .ok (.putfield 15, 3) := by decide +kernel
theorem dX1_init_20 : decode cX1_init 20 = .ok (.aload_n 0, 1) := by decide +kernel
theorem dX1_init_21 : decode cX1_init 21 = .ok (.bipush 6, 2) := by decide +kernel
theorem dX1_init_23 : decode cX1_init 23 = .ok (.newarray .int, 2) := by decide +kernel
theorem dX1_init_25 : decode cX1_init 25 = .ok (.putfield 18, 3) := by decide +kernel
theorem dX1_init_28 : decode cX1_init 28 = .ok (.aload_n 0, 1) := by decide +kernel
theorem dX1_init_29 : decode cX1_init 29 = .ok (.bipush 6, 2) := by decide +kernel
theorem dX1_init_31 : decode cX1_init 31 = .ok (.newarray .int, 2) := by decide +kernel
theorem dX1_init_33 : decode cX1_init 33 = .ok (.putfield 21, 3) := by decide +kernel
theorem dX1_init_36 : decode cX1_init 36 = .ok (.aload_n 0, 1) := by decide +kernel
theorem dX1_init_37 : decode cX1_init 37 = .ok (.bipush 6, 2) := by decide +kernel
theorem dX1_init_39 : decode cX1_init 39 = .ok (.newarray .int, 2) := by decide +kernel
theorem dX1_init_41 : decode cX1_init 41 = .ok (.putfield 24, 3) := by decide +kernel
theorem dX1_init_44 : decode cX1_init 44 = .ok (.aload_n 0, 1) := by decide +kernel
theorem dX1_init_45 : decode cX1_init 45 = .ok (.iconst 2, 1) := by decide +kernel
theorem dX1_init_46 : decode cX1_init 46 = .ok (.iconst 0, 1) := by decide +kernel
theorem dX1_init_47 : decode cX1_init 47 = .ok (.invokevirtual 27, 3) := by decide +kernel
theorem dX1_init_50 : decode cX1_init 50 = .ok (.aload_n 0, 1) := by decide +kernel
theorem dX1_init_51 : decode cX1_init 51 = .ok (.invokevirtual 31, 3) := by decide +kernel
theorem dX1_init_54 : decode cX1_init 54 = .ok (.return_, 1) := by decide +kernel
theorem dX1_begin_0 : decode cX1_begin 0 = .ok (.aload_n 0, 1) := by decide +kernel
theorem dX1_begin_1 : decode cX1_begin 1 = .ok (.iconst 2, 1) := by decide +kernel
theorem dX1_begin_2 : decode cX1_begin 2 = .ok (.bipush 6, 2) := by decide +kernel
theorem dX1_begin_4 : decode cX1_begin 4 = .ok (.iload_n 1, 1) := by decide +kernel
theorem dX1_begin_5 : decode cX1_begin 5 = .ok (.invokestatic 34, 3) := by decide +kernel
theorem dX1_begin_8 : decode cX1_begin 8 = .ok (.invokestatic 40, 3) := by decide +kernel
theorem dX1_begin_11 : decode cX1_begin 11 = .ok (.putfield 43, 3) := by decide +kernel
theorem dX1_begin_14 : decode cX1_begin 14 = .ok (.aload_n 0, 1) := by decide +kernel
theorem dX1_begin_15 : decode cX1_begin 15 = .ok (.iload_n 2, 1) := by decide +kernel
theorem dX1_begin_16 : decode cX1_begin 16 = .ok (.putfield 47, 3) := by decide +kernel
theorem dX1_begin_19 : decode cX1_begin 19 = .ok (.aload_n 0, 1) := by decide +kernel
theorem dX1_begin_20 : decode cX1_begin 20 = .ok (.iconst 0, 1) := by decide +kernel
theorem dX1_begin_21 : decode cX1_begin 21 = .ok (.putfield 50, 3) := by decide +kernel
theorem dX1_begin_24 : decode cX1_begin 24 = .ok (.aload_n 0, 1) := by decide +kernel
theorem dX1_begin_25 : decode cX1_begin 25 = .ok (.iconst 0, 1) := by decide +kernel
theorem dX1_begin_26 : decode cX1_begin 26 = .ok (.putfield 53, 3) := by decide +kernel
theorem dX1_begin_29 : decode cX1_begin 29 = .ok (.iconst 0, 1) := by decide +kernel
theorem dX1_begin_30 : decode cX1_begin 30 = .ok (.istore_n 3, 1) := by decide +kernel
theorem dX1_begin_31 : decode cX1_begin 31 = .ok (.iload_n 3, 1) := by decide +kernel
theorem dX1_begin_32 : decode cX1_begin 32 = .ok (.bipush 36, 2) := by decide +kernel
theorem dX1_begin_34 : decode cX1_begin 34 = .ok (.if_icmp .ge 16, 3) := by decide +kernel
theorem dX1_begin_37 : decode cX1_begin 37 = .ok (.aload_n 0, 1) := by decide +kernel
theorem dX1_begin_38 : decode cX1_begin 38 = .ok (.getfield 9, 3) := by decide +kernel
theorem dX1_begin_41 : decode cX1_begin 41 = .ok (.iload_n 3, 1) := by decide +kernel
theorem dX1_begin_42 : decode cX1_begin 42 = .ok (.iconst 0, 1) := by decide +kernel
theorem dX1_begin_43 : decode cX1_begin 43 = .ok (.iastore, 1) := by decide +kernel
theorem dX1_begin_44 : decode cX1_begin 44 = .ok (.iinc 3 1, 3) := by decide +kernel
theorem dX1_begin_47 : decode cX1_begin 47 = .ok (.goto (-16), 3) := by decide +kernel
theorem dX1_begin_50 : decode cX1_begin 50 = .ok (.return_, 1) := by decide +kernel
theorem dX1_isPlace_0 : decode cX1_isPlace 0 = .ok (.iload_n 1, 1) := by decide +kernel
theorem dX1_isPlace_1 : decode cX1_isPlace 1 = .ok (.ifCond .lt 15, 3) := by decide +kernel
theorem dX1_isPlace_4 : decode cX1_isPlace 4 = .ok (.iload_n 1, 1) := by decide +kernel
theorem dX1_isPlace_5 : decode cX1_isPlace 5 = .ok (.aload_n 0, 1) := by decide +kernel
theorem dX1_isPlace_6 : decode cX1_isPlace 6 = .ok (.getfield 43, 3) := by decide +kernel
theorem dX1_isPlace_9 : decode cX1_isPlace 9 = .ok (.if_icmp .ge 7, 3) := by decide +kernel
theorem dX1_isPlace_12 : decode cX1_isPlace 12 = .ok (.iconst 1, 1) := by decide +kernel
theorem dX1_isPlace_13 : decode cX1_isPlace 13 = .ok (.goto 4, 3) := by decide +kernel
theorem dX1_isPlace_16 : decode cX1_isPlace 16 = .ok (.iconst 0, 1) := by decide +kernel
theorem dX1_isPlace_17 : decode cX1_isPlace 17 = .ok (.ireturn, 1) := by decide +kernel
theorem dX1_isErrand_0 : decode cX1_isErrand 0 = .ok (.iload_n 1, 1) := by decide +kernel
theorem dX1_isErrand_1 : decode cX1_isErrand 1 = .ok (.ifCond .lt 15, 3) := by decide +kernel
theorem dX1_isErrand_4 : decode cX1_isErrand 4 = .ok (.iload_n 1, 1) := by decide +kernel
theorem dX1_isErrand_5 : decode cX1_isErrand 5 = .ok (.aload_n 0, 1) := by decide +kernel
theorem dX1_isErrand_6 : decode cX1_isErrand 6 = .ok (.getfield 53, 3) := by decide +kernel
theorem dX1_isErrand_9 : decode cX1_isErrand 9 = .ok (.if_icmp .ge 7, 3) := by decide +kernel
theorem dX1_isErrand_12 : decode cX1_isErrand 12 = .ok (.iconst 1, 1) := by decide +kernel
theorem dX1_isErrand_13 : decode cX1_isErrand 13 = .ok (.goto 4, 3) := by decide +kernel
theorem dX1_isErrand_16 : decode cX1_isErrand 16 = .ok (.iconst 0, 1) := by decide +kernel
theorem dX1_isErrand_17 : decode cX1_isErrand 17 = .ok (.ireturn, 1) := by decide +kernel
theorem dX1_isFreePair_0 : decode cX1_isFreePair 0 = .ok (.aload_n 0, 1) := by decide +kernel
theorem dX1_isFreePair_1 : decode cX1_isFreePair 1 = .ok (.iload_n 1, 1) := by decide +kernel
theorem dX1_isFreePair_2 : decode cX1_isFreePair 2 = .ok (.invokevirtual 56, 3) := by decide +kernel
theorem dX1_isFreePair_5 : decode cX1_isFreePair 5 = .ok (.ifCond .eq 34, 3) := by decide +kernel
theorem dX1_isFreePair_8 : decode cX1_isFreePair 8 = .ok (.aload_n 0, 1) := by decide +kernel
theorem dX1_isFreePair_9 : decode cX1_isFreePair 9 = .ok (.iload_n 2, 1) := by decide +kernel
theorem dX1_isFreePair_10 : decode cX1_isFreePair 10 = .ok (.invokevirtual 56, 3) := by decide +kernel
theorem dX1_isFreePair_13 : decode cX1_isFreePair 13 = .ok (.ifCond .eq 26, 3) := by decide +kernel
theorem dX1_isFreePair_16 : decode cX1_isFreePair 16 = .ok (.iload_n 1, 1) := by decide +kernel
theorem dX1_isFreePair_17 : decode cX1_isFreePair 17 = .ok (.iload_n 2, 1) := by decide +kernel
theorem dX1_isFreePair_18 : decode cX1_isFreePair 18 = .ok (.if_icmp .eq 21, 3) := by decide +kernel
theorem dX1_isFreePair_21 : decode cX1_isFreePair 21 = .ok (.aload_n 0, 1) := by decide +kernel
theorem dX1_isFreePair_22 : decode cX1_isFreePair 22 = .ok (.getfield 9, 3) := by decide +kernel
theorem dX1_isFreePair_25 : decode cX1_isFreePair 25 = .ok (.iload_n 1, 1) := by decide +kernel
theorem dX1_isFreePair_26 : decode cX1_isFreePair 26 = .ok (.bipush 6, 2) := by decide +kernel
theorem dX1_isFreePair_28 : decode cX1_isFreePair 28 = .ok (.imul, 1) := by decide +kernel
theorem dX1_isFreePair_29 : decode cX1_isFreePair 29 = .ok (.iload_n 2, 1) := by decide +kernel
theorem dX1_isFreePair_30 : decode cX1_isFreePair 30 = .ok (.iadd, 1) := by decide +kernel
theorem dX1_isFreePair_31 : decode cX1_isFreePair 31 = .ok (.iaload, 1) := by decide +kernel
theorem dX1_isFreePair_32 : decode cX1_isFreePair 32 = .ok (.ifCond .ne 7, 3) := by decide +kernel
theorem dX1_isFreePair_35 : decode cX1_isFreePair 35 = .ok (.iconst 1, 1) := by decide +kernel
theorem dX1_isFreePair_36 : decode cX1_isFreePair 36 = .ok (.goto 4, 3) := by decide +kernel
theorem dX1_isFreePair_39 : decode cX1_isFreePair 39 = .ok (.iconst 0, 1) := by decide +kernel
theorem dX1_isFreePair_40 : decode cX1_isFreePair 40 = .ok (.ireturn, 1) := by decide +kernel
theorem dX1_hasFreePairAt_0 : decode cX1_hasFreePairAt 0 = .ok (.iconst 0, 1) := by decide +kernel
theorem dX1_hasFreePairAt_1 : decode cX1_hasFreePairAt 1 = .ok (.istore_n 2, 1) := by decide +kernel
theorem dX1_hasFreePairAt_2 : decode cX1_hasFreePairAt 2 = .ok (.iload_n 2, 1) := by decide +kernel
theorem dX1_hasFreePairAt_3 : decode cX1_hasFreePairAt 3 = .ok (.aload_n 0, 1) := by decide +kernel
theorem dX1_hasFreePairAt_4 : decode cX1_hasFreePairAt 4 = .ok (.getfield 43, 3) := by decide +kernel
theorem dX1_hasFreePairAt_7 : decode cX1_hasFreePairAt 7 = .ok (.if_icmp .ge 20, 3) := by decide +kernel
theorem dX1_hasFreePairAt_10 : decode cX1_hasFreePairAt 10 = .ok (.aload_n 0, 1) := by decide +kernel
theorem dX1_hasFreePairAt_11 : decode cX1_hasFreePairAt 11 = .ok (.iload_n 1, 1) := by decide +kernel
theorem dX1_hasFreePairAt_12 : decode cX1_hasFreePairAt 12 = .ok (.iload_n 2, 1) := by decide +kernel
theorem dX1_hasFreePairAt_13 : decode cX1_hasFreePairAt 13 = .ok (.invokevirtual 60, 3) := by decide +kernel
theorem dX1_hasFreePairAt_16 : decode cX1_hasFreePairAt 16 = .ok (.ifCond .eq 5, 3) := by decide +kernel
theorem dX1_hasFreePairAt_19 : decode cX1_hasFreePairAt 19 = .ok (.iconst 1, 1) := by decide +kernel
theorem dX1_hasFreePairAt_20 : decode cX1_hasFreePairAt 20 = .ok (.ireturn, 1) := by decide +kernel
theorem dX1_hasFreePairAt_21 : decode cX1_hasFreePairAt 21 = .ok (.iinc 2 1, 3) := by decide +kernel
theorem dX1_hasFreePairAt_24 : decode cX1_hasFreePairAt 24 = .ok (.goto (-22), 3) := by decide +kernel
theorem dX1_hasFreePairAt_27 : decode cX1_hasFreePairAt 27 = .ok (.iconst 0, 1) := by decide +kernel
theorem dX1_hasFreePairAt_28 : decode cX1_hasFreePairAt 28 = .ok (.ireturn, 1) := by decide +kernel
theorem dX1_hasRoomForRoad_0 : decode cX1_hasRoomForRoad 0 = .ok (.aload_n 0, 1) := by decide +kernel
theorem dX1_hasRoomForRoad_1 : decode cX1_hasRoomForRoad 1 = .ok (.getfield 50, 3) := by decide +kernel
theorem dX1_hasRoomForRoad_4 : decode cX1_hasRoomForRoad 4 = .ok (.bipush 10, 2) := by decide +kernel
theorem dX1_hasRoomForRoad_6 : decode cX1_hasRoomForRoad 6 = .ok (.if_icmp .ge 27, 3) := by decide +kernel
theorem dX1_hasRoomForRoad_9 : decode cX1_hasRoomForRoad 9 = .ok (.aload_n 0, 1) := by decide +kernel
theorem dX1_hasRoomForRoad_10 : decode cX1_hasRoomForRoad 10 = .ok (.getfield 50, 3) := by decide +kernel
theorem dX1_hasRoomForRoad_13 : decode cX1_hasRoomForRoad 13 = .ok (.aload_n 0, 1) := by decide +kernel
theorem dX1_hasRoomForRoad_14 : decode cX1_hasRoomForRoad 14 = .ok (.getfield 43, 3) := by decide +kernel
theorem dX1_hasRoomForRoad_17 : decode cX1_hasRoomForRoad 17 = .ok (.aload_n 0, 1) := by decide +kernel
theorem dX1_hasRoomForRoad_18 : decode cX1_hasRoomForRoad 18 = .ok (.getfield 43, 3) := by decide +kernel
theorem dX1_hasRoomForRoad_21 : decode cX1_hasRoomForRoad 21 = .ok (.iconst 1, 1) := by decide +kernel
theorem dX1_hasRoomForRoad_22 : decode cX1_hasRoomForRoad 22 = .ok (.isub, 1) := by decide +kernel
theorem dX1_hasRoomForRoad_23 : decode cX1_hasRoomForRoad 23 = .ok (.imul, 1) := by decide +kernel
theorem dX1_hasRoomForRoad_24 : decode cX1_hasRoomForRoad 24 = .ok (.iconst 2, 1) := by decide +kernel
theorem dX1_hasRoomForRoad_25 : decode cX1_hasRoomForRoad 25 = .ok (.idiv, 1) := by decide +kernel
theorem dX1_hasRoomForRoad_26 : decode cX1_hasRoomForRoad 26 = .ok (.if_icmp .ge 7, 3) := by decide +kernel
theorem dX1_hasRoomForRoad_29 : decode cX1_hasRoomForRoad 29 = .ok (.iconst 1, 1) := by decide +kernel
theorem dX1_hasRoomForRoad_30 : decode cX1_hasRoomForRoad 30 = .ok (.goto 4, 3) := by decide +kernel
theorem dX1_hasRoomForRoad_33 : decode cX1_hasRoomForRoad 33 = .ok (.iconst 0, 1) := by decide +kernel
theorem dX1_hasRoomForRoad_34 : decode cX1_hasRoomForRoad 34 = .ok (.ireturn, 1) := by decide +kernel
theorem dX1_hasRoomForErrand_0 : decode cX1_hasRoomForErrand 0 = .ok (.aload_n 0, 1) := by decide +kernel
theorem dX1_hasRoomForErrand_1 : decode cX1_hasRoomForErrand 1 = .ok (.getfield 53, 3) := by decide +kernel
theorem dX1_hasRoomForErrand_4 : decode cX1_hasRoomForErrand 4 = .ok (.bipush 6, 2) := by decide +kernel
theorem dX1_hasRoomForErrand_6 : decode cX1_hasRoomForErrand 6 = .ok (.if_icmp .ge 7, 3) := by decide +kernel
theorem dX1_hasRoomForErrand_9 : decode cX1_hasRoomForErrand 9 = .ok (.iconst 1, 1) := by decide +kernel
theorem dX1_hasRoomForErrand_10 : decode cX1_hasRoomForErrand 10 = .ok (.goto 4, 3) := by decide +kernel
theorem dX1_hasRoomForErrand_13 : decode cX1_hasRoomForErrand 13 = .ok (.iconst 0, 1) := by decide +kernel
theorem dX1_hasRoomForErrand_14 : decode cX1_hasRoomForErrand 14 = .ok (.ireturn, 1) := by decide +kernel
theorem dX1_addRoad_0 : decode cX1_addRoad 0 = .ok (.aload_n 0, 1) := by decide +kernel
theorem dX1_addRoad_1 : decode cX1_addRoad 1 = .ok (.iload_n 1, 1) := by decide +kernel
theorem dX1_addRoad_2 : decode cX1_addRoad 2 = .ok (.iload_n 2, 1) := by decide +kernel
theorem dX1_addRoad_3 : decode cX1_addRoad 3 = .ok (.invokevirtual 60, 3) := by decide +kernel
theorem dX1_addRoad_6 : decode cX1_addRoad 6 = .ok (.ifCond .ne 4, 3) := by decide +kernel
theorem dX1_addRoad_9 : decode cX1_addRoad 9 = .ok (.return_, 1) := by decide +kernel
theorem dX1_addRoad_10 : decode cX1_addRoad 10 = .ok (.aload_n 0, 1) := by decide +kernel
theorem dX1_addRoad_11 : decode cX1_addRoad 11 = .ok (.getfield 9, 3) := by decide +kernel
theorem dX1_addRoad_14 : decode cX1_addRoad 14 = .ok (.iload_n 1, 1) := by decide +kernel
theorem dX1_addRoad_15 : decode cX1_addRoad 15 = .ok (.bipush 6, 2) := by decide +kernel
theorem dX1_addRoad_17 : decode cX1_addRoad 17 = .ok (.imul, 1) := by decide +kernel
theorem dX1_addRoad_18 : decode cX1_addRoad 18 = .ok (.iload_n 2, 1) := by decide +kernel
theorem dX1_addRoad_19 : decode cX1_addRoad 19 = .ok (.iadd, 1) := by decide +kernel
theorem dX1_addRoad_20 : decode cX1_addRoad 20 = .ok (.iload_n 3, 1) := by decide +kernel
theorem dX1_addRoad_21 : decode cX1_addRoad 21 = .ok (.iastore, 1) := by decide +kernel
theorem dX1_addRoad_22 : decode cX1_addRoad 22 = .ok (.aload_n 0, 1) := by decide +kernel
theorem dX1_addRoad_23 : decode cX1_addRoad 23 = .ok (.getfield 9, 3) := by decide +kernel
theorem dX1_addRoad_26 : decode cX1_addRoad 26 = .ok (.iload_n 2, 1) := by decide +kernel
theorem dX1_addRoad_27 : decode cX1_addRoad 27 = .ok (.bipush 6, 2) := by decide +kernel
theorem dX1_addRoad_29 : decode cX1_addRoad 29 = .ok (.imul, 1) := by decide +kernel
theorem dX1_addRoad_30 : decode cX1_addRoad 30 = .ok (.iload_n 1, 1) := by decide +kernel
theorem dX1_addRoad_31 : decode cX1_addRoad 31 = .ok (.iadd, 1) := by decide +kernel
theorem dX1_addRoad_32 : decode cX1_addRoad 32 = .ok (.iload_n 3, 1) := by decide +kernel
theorem dX1_addRoad_33 : decode cX1_addRoad 33 = .ok (.iastore, 1) := by decide +kernel
theorem dX1_addRoad_34 : decode cX1_addRoad 34 = .ok (.aload_n 0, 1) := by decide +kernel
theorem dX1_addRoad_35 : decode cX1_addRoad 35 = .ok (.dup, 1) := by decide +kernel
theorem dX1_addRoad_36 : decode cX1_addRoad 36 = .ok (.getfield 50, 3) := by decide +kernel
theorem dX1_addRoad_39 : decode cX1_addRoad 39 = .ok (.iconst 1, 1) := by decide +kernel
theorem dX1_addRoad_40 : decode cX1_addRoad 40 = .ok (.iadd, 1) := by decide +kernel
theorem dX1_addRoad_41 : decode cX1_addRoad 41 = .ok (.putfield 50, 3) := by decide +kernel
theorem dX1_addRoad_44 : decode cX1_addRoad 44 = .ok (.return_, 1) := by decide +kernel
theorem dX1_addErrand_0 : decode cX1_addErrand 0 = .ok (.aload_n 0, 1) := by decide +kernel
theorem dX1_addErrand_1 : decode cX1_addErrand 1 = .ok (.invokevirtual 64, 3) := by decide +kernel
theorem dX1_addErrand_4 : decode cX1_addErrand 4 = .ok (.ifCond .ne 4, 3) := by decide +kernel
theorem dX1_addErrand_7 : decode cX1_addErrand 7 = .ok (.return_, 1) := by decide +kernel
theorem dX1_addErrand_8 : decode cX1_addErrand 8 = .ok (.aload_n 0, 1) := by decide +kernel
theorem dX1_addErrand_9 : decode cX1_addErrand 9 = .ok (.getfield 18, 3) := by decide +kernel
theorem dX1_addErrand_12 : decode cX1_addErrand 12 = .ok (.aload_n 0, 1) := by decide +kernel
theorem dX1_addErrand_13 : decode cX1_addErrand 13 = .ok (.getfield 53, 3) := by decide +kernel
theorem dX1_addErrand_16 : decode cX1_addErrand 16 = .ok (.iload_n 1, 1) := by decide +kernel
theorem dX1_addErrand_17 : decode cX1_addErrand 17 = .ok (.iastore, 1) := by decide +kernel
theorem dX1_addErrand_18 : decode cX1_addErrand 18 = .ok (.aload_n 0, 1) := by decide +kernel
theorem dX1_addErrand_19 : decode cX1_addErrand 19 = .ok (.getfield 21, 3) := by decide +kernel
theorem dX1_addErrand_22 : decode cX1_addErrand 22 = .ok (.aload_n 0, 1) := by decide +kernel
theorem dX1_addErrand_23 : decode cX1_addErrand 23 = .ok (.getfield 53, 3) := by decide +kernel
theorem dX1_addErrand_26 : decode cX1_addErrand 26 = .ok (.iload_n 2, 1) := by decide +kernel
theorem dX1_addErrand_27 : decode cX1_addErrand 27 = .ok (.iastore, 1) := by decide +kernel
theorem dX1_addErrand_28 : decode cX1_addErrand 28 = .ok (.aload_n 0, 1) := by decide +kernel
theorem dX1_addErrand_29 : decode cX1_addErrand 29 = .ok (.getfield 24, 3) := by decide +kernel
theorem dX1_addErrand_32 : decode cX1_addErrand 32 = .ok (.aload_n 0, 1) := by decide +kernel
theorem dX1_addErrand_33 : decode cX1_addErrand 33 = .ok (.getfield 53, 3) := by decide +kernel
theorem dX1_addErrand_36 : decode cX1_addErrand 36 = .ok (.iload_n 3, 1) := by decide +kernel
theorem dX1_addErrand_37 : decode cX1_addErrand 37 = .ok (.iastore, 1) := by decide +kernel
theorem dX1_addErrand_38 : decode cX1_addErrand 38 = .ok (.aload_n 0, 1) := by decide +kernel
theorem dX1_addErrand_39 : decode cX1_addErrand 39 = .ok (.dup, 1) := by decide +kernel
theorem dX1_addErrand_40 : decode cX1_addErrand 40 = .ok (.getfield 53, 3) := by decide +kernel
theorem dX1_addErrand_43 : decode cX1_addErrand 43 = .ok (.iconst 1, 1) := by decide +kernel
theorem dX1_addErrand_44 : decode cX1_addErrand 44 = .ok (.iadd, 1) := by decide +kernel
theorem dX1_addErrand_45 : decode cX1_addErrand 45 = .ok (.putfield 53, 3) := by decide +kernel
theorem dX1_addErrand_48 : decode cX1_addErrand 48 = .ok (.return_, 1) := by decide +kernel
theorem dX1_measure_0 : decode cX1_measure 0 = .ok (.iconst 0, 1) := by decide +kernel
theorem dX1_measure_1 : decode cX1_measure 1 = .ok (.istore_n 1, 1) := by decide +kernel
theorem dX1_measure_2 : decode cX1_measure 2 = .ok (.iload_n 1, 1) := by decide +kernel
theorem dX1_measure_3 : decode cX1_measure 3 = .ok (.bipush 36, 2) := by decide +kernel
theorem dX1_measure_5 : decode cX1_measure 5 = .ok (.if_icmp .ge 35, 3) := by decide +kernel
theorem dX1_measure_8 : decode cX1_measure 8 = .ok (.aload_n 0, 1) := by decide +kernel
theorem dX1_measure_9 : decode cX1_measure 9 = .ok (.getfield 15, 3) := by decide +kernel
theorem dX1_measure_12 : decode cX1_measure 12 = .ok (.iload_n 1, 1) := by decide +kernel
theorem dX1_measure_13 : decode cX1_measure 13 = .ok (.aload_n 0, 1) := by decide +kernel
theorem dX1_measure_14 : decode cX1_measure 14 = .ok (.getfield 9, 3) := by decide +kernel
theorem dX1_measure_17 : decode cX1_measure 17 = .ok (.iload_n 1, 1) := by decide +kernel
theorem dX1_measure_18 : decode cX1_measure 18 = .ok (.iaload, 1) := by decide +kernel
theorem dX1_measure_19 : decode cX1_measure 19 = .ok (.ifCond .le 12, 3) := by decide +kernel
theorem dX1_measure_22 : decode cX1_measure 22 = .ok (.aload_n 0, 1) := by decide +kernel
theorem dX1_measure_23 : decode cX1_measure 23 = .ok (.getfield 9, 3) := by decide +kernel
theorem dX1_measure_26 : decode cX1_measure 26 = .ok (.iload_n 1, 1) := by decide +kernel
theorem dX1_measure_27 : decode cX1_measure 27 = .ok (.iaload, 1) := by decide +kernel
theorem dX1_measure_28 : decode cX1_measure 28 = .ok (.goto 5, 3) := by decide +kernel
theorem dX1_measure_31 : decode cX1_measure 31 = .ok (.ldc 68, 2) := by decide +kernel
theorem dX1_measure_33 : decode cX1_measure 33 = .ok (.iastore, 1) := by decide +kernel
theorem dX1_measure_34 : decode cX1_measure 34 = .ok (.iinc 1 1, 3) := by decide +kernel
theorem dX1_measure_37 : decode cX1_measure 37 = .ok (.goto (-35), 3) := by decide +kernel
theorem dX1_measure_40 : decode cX1_measure 40 = .ok (.iconst 0, 1) := by decide +kernel
theorem dX1_measure_41 : decode cX1_measure 41 = .ok (.istore_n 1, 1) := by decide +kernel
theorem dX1_measure_42 : decode cX1_measure 42 = .ok (.iload_n 1, 1) := by decide +kernel
theorem dX1_measure_43 : decode cX1_measure 43 = .ok (.bipush 6, 2) := by decide +kernel
theorem dX1_measure_45 : decode cX1_measure 45 = .ok (.if_icmp .ge 21, 3) := by decide +kernel
theorem dX1_measure_48 : decode cX1_measure 48 = .ok (.aload_n 0, 1) := by decide +kernel
theorem dX1_measure_49 : decode cX1_measure 49 = .ok (.getfield 15, 3) := by decide +kernel
theorem dX1_measure_52 : decode cX1_measure 52 = .ok (.iload_n 1, 1) := by decide +kernel
theorem dX1_measure_53 : decode cX1_measure 53 = .ok (.bipush 6, 2) := by decide +kernel
theorem dX1_measure_55 : decode cX1_measure 55 = .ok (.imul, 1) := by decide +kernel
theorem dX1_measure_56 : decode cX1_measure 56 = .ok (.iload_n 1, 1) := by decide +kernel
theorem dX1_measure_57 : decode cX1_measure 57 = .ok (.iadd, 1) := by decide +kernel
theorem dX1_measure_58 : decode cX1_measure 58 = .ok (.iconst 0, 1) := by decide +kernel
theorem dX1_measure_59 : decode cX1_measure 59 = .ok (.iastore, 1) := by decide +kernel
theorem dX1_measure_60 : decode cX1_measure 60 = .ok (.iinc 1 1, 3) := by decide +kernel
theorem dX1_measure_63 : decode cX1_measure 63 = .ok (.goto (-21), 3) := by decide +kernel
theorem dX1_measure_66 : decode cX1_measure 66 = .ok (.iconst 0, 1) := by decide +kernel
theorem dX1_measure_67 : decode cX1_measure 67 = .ok (.istore_n 1, 1) := by decide +kernel
theorem dX1_measure_68 : decode cX1_measure 68 = .ok (.iload_n 1, 1) := by decide +kernel
theorem dX1_measure_69 : decode cX1_measure 69 = .ok (.bipush 6, 2) := by decide +kernel
theorem dX1_measure_71 : decode cX1_measure 71 = .ok (.if_icmp .ge 91, 3) := by decide +kernel
theorem dX1_measure_74 : decode cX1_measure 74 = .ok (.iconst 0, 1) := by decide +kernel
theorem dX1_measure_75 : decode cX1_measure 75 = .ok (.istore_n 2, 1) := by decide +kernel
theorem dX1_measure_76 : decode cX1_measure 76 = .ok (.iload_n 2, 1) := by decide +kernel
theorem dX1_measure_77 : decode cX1_measure 77 = .ok (.bipush 6, 2) := by decide +kernel
theorem dX1_measure_79 : decode cX1_measure 79 = .ok (.if_icmp .ge 77, 3) := by decide +kernel
theorem dX1_measure_82 : decode cX1_measure 82 = .ok (.iconst 0, 1) := by decide +kernel
theorem dX1_measure_83 : decode cX1_measure 83 = .ok (.istore_n 3, 1) := by decide +kernel
theorem dX1_measure_84 : decode cX1_measure 84 = .ok (.iload_n 3, 1) := by decide +kernel
theorem dX1_measure_85 : decode cX1_measure 85 = .ok (.bipush 6, 2) := by decide +kernel
theorem dX1_measure_87 : decode cX1_measure 87 = .ok (.if_icmp .ge 63, 3) := by decide +kernel
theorem dX1_measure_90 : decode cX1_measure 90 = .ok (.aload_n 0, 1) := by decide +kernel
theorem dX1_measure_91 : decode cX1_measure 91 = .ok (.getfield 15, 3) := by decide +kernel
theorem dX1_measure_94 : decode cX1_measure 94 = .ok (.iload_n 2, 1) := by decide +kernel
theorem dX1_measure_95 : decode cX1_measure 95 = .ok (.bipush 6, 2) := by decide +kernel
theorem dX1_measure_97 : decode cX1_measure 97 = .ok (.imul, 1) := by decide +kernel
theorem dX1_measure_98 : decode cX1_measure 98 = .ok (.iload_n 1, 1) := by decide +kernel
theorem dX1_measure_99 : decode cX1_measure 99 = .ok (.iadd, 1) := by decide +kernel
theorem dX1_measure_100 : decode cX1_measure 100 = .ok (.iaload, 1) := by decide +kernel
theorem dX1_measure_101 : decode cX1_measure 101 = .ok (.aload_n 0, 1) := by decide +kernel
theorem dX1_measure_102 : decode cX1_measure 102 = .ok (.getfield 15, 3) := by decide +kernel
theorem dX1_measure_105 : decode cX1_measure 105 = .ok (.iload_n 1, 1) := by decide +kernel
theorem dX1_measure_106 : decode cX1_measure 106 = .ok (.bipush 6, 2) := by decide +kernel
theorem dX1_measure_108 : decode cX1_measure 108 = .ok (.imul, 1) := by decide +kernel
theorem dX1_measure_109 : decode cX1_measure 109 = .ok (.iload_n 3, 1) := by decide +kernel
theorem dX1_measure_110 : decode cX1_measure 110 = .ok (.iadd, 1) := by decide +kernel
theorem dX1_measure_111 : decode cX1_measure 111 = .ok (.iaload, 1) := by decide +kernel
theorem dX1_measure_112 : decode cX1_measure 112 = .ok (.iadd, 1) := by decide +kernel
theorem dX1_measure_113 : decode cX1_measure 113 = .ok (.istore 4, 2) := by decide +kernel
theorem dX1_measure_115 : decode cX1_measure 115 = .ok (.iload 4, 2) := by decide +kernel
theorem dX1_measure_117 : decode cX1_measure 117 = .ok (.aload_n 0, 1) := by decide +kernel
theorem dX1_measure_118 : decode cX1_measure 118 = .ok (.getfield 15, 3) := by decide +kernel
theorem dX1_measure_121 : decode cX1_measure 121 = .ok (.iload_n 2, 1) := by decide +kernel
theorem dX1_measure_122 : decode cX1_measure 122 = .ok (.bipush 6, 2) := by decide +kernel
theorem dX1_measure_124 : decode cX1_measure 124 = .ok (.imul, 1) := by decide +kernel
theorem dX1_measure_125 : decode cX1_measure 125 = .ok (.iload_n 3, 1) := by decide +kernel
theorem dX1_measure_126 : decode cX1_measure 126 = .ok (.iadd, 1) := by decide +kernel
theorem dX1_measure_127 : decode cX1_measure 127 = .ok (.iaload, 1) := by decide +kernel
theorem dX1_measure_128 : decode cX1_measure 128 = .ok (.if_icmp .ge 16, 3) := by decide +kernel
theorem dX1_measure_131 : decode cX1_measure 131 = .ok (.aload_n 0, 1) := by decide +kernel
theorem dX1_measure_132 : decode cX1_measure 132 = .ok (.getfield 15, 3) := by decide +kernel
theorem dX1_measure_135 : decode cX1_measure 135 = .ok (.iload_n 2, 1) := by decide +kernel
theorem dX1_measure_136 : decode cX1_measure 136 = .ok (.bipush 6, 2) := by decide +kernel
theorem dX1_measure_138 : decode cX1_measure 138 = .ok (.imul, 1) := by decide +kernel
theorem dX1_measure_139 : decode cX1_measure 139 = .ok (.iload_n 3, 1) := by decide +kernel
theorem dX1_measure_140 : decode cX1_measure 140 = .ok (.iadd, 1) := by decide +kernel
theorem dX1_measure_141 : decode cX1_measure 141 = .ok (.iload 4, 2) := by decide +kernel
theorem dX1_measure_143 : decode cX1_measure 143 = .ok (.iastore, 1) := by decide +kernel
theorem dX1_measure_144 : decode cX1_measure 144 = .ok (.iinc 3 1, 3) := by decide +kernel
theorem dX1_measure_147 : decode cX1_measure 147 = .ok (.goto (-63), 3) := by decide +kernel
theorem dX1_measure_150 : decode cX1_measure 150 = .ok (.iinc 2 1, 3) := by decide +kernel
theorem dX1_measure_153 : decode cX1_measure 153 = .ok (.goto (-77), 3) := by decide +kernel
theorem dX1_measure_156 : decode cX1_measure 156 = .ok (.iinc 1 1, 3) := by decide +kernel
theorem dX1_measure_159 : decode cX1_measure 159 = .ok (.goto (-91), 3) := by decide +kernel
theorem dX1_measure_162 : decode cX1_measure 162 = .ok (.return_, 1) := by decide +kernel
theorem dX1_farthest_0 : decode cX1_farthest 0 = .ok (.iconst 0, 1) := by decide +kernel
theorem dX1_farthest_1 : decode cX1_farthest 1 = .ok (.istore_n 1, 1) := by decide +kernel
theorem dX1_farthest_2 : decode cX1_farthest 2 = .ok (.iconst 0, 1) := by decide +kernel
theorem dX1_farthest_3 : decode cX1_farthest 3 = .ok (.istore_n 2, 1) := by decide +kernel
theorem dX1_farthest_4 : decode cX1_farthest 4 = .ok (.iload_n 2, 1) := by decide +kernel
theorem dX1_farthest_5 : decode cX1_farthest 5 = .ok (.aload_n 0, 1) := by decide +kernel
theorem dX1_farthest_6 : decode cX1_farthest 6 = .ok (.getfield 43, 3) := by decide +kernel
theorem dX1_farthest_9 : decode cX1_farthest 9 = .ok (.if_icmp .ge 47, 3) := by decide +kernel
theorem dX1_farthest_12 : decode cX1_farthest 12 = .ok (.iconst 0, 1) := by decide +kernel
theorem dX1_farthest_13 : decode cX1_farthest 13 = .ok (.istore_n 3, 1) := by decide +kernel
theorem dX1_farthest_14 : decode cX1_farthest 14 = .ok (.iload_n 3, 1) := by decide +kernel
theorem dX1_farthest_15 : decode cX1_farthest 15 = .ok (.aload_n 0, 1) := by decide +kernel
theorem dX1_farthest_16 : decode cX1_farthest 16 = .ok (.getfield 43, 3) := by decide +kernel
theorem dX1_farthest_19 : decode cX1_farthest 19 = .ok (.if_icmp .ge 31, 3) := by decide +kernel
theorem dX1_farthest_22 : decode cX1_farthest 22 = .ok (.aload_n 0, 1) := by decide +kernel
theorem dX1_farthest_23 : decode cX1_farthest 23 = .ok (.iload_n 2, 1) := by decide +kernel
theorem dX1_farthest_24 : decode cX1_farthest 24 = .ok (.iload_n 3, 1) := by decide +kernel
theorem dX1_farthest_25 : decode cX1_farthest 25 = .ok (.invokevirtual 69, 3) := by decide +kernel
theorem dX1_farthest_28 : decode cX1_farthest 28 = .ok (.ldc 68, 2) := by decide +kernel
theorem dX1_farthest_30 : decode cX1_farthest 30 = .ok (.if_icmp .ge 14, 3) := by decide +kernel
theorem dX1_farthest_33 : decode cX1_farthest 33 = .ok (.iload_n 1, 1) := by decide +kernel
theorem dX1_farthest_34 : decode cX1_farthest 34 = .ok (.aload_n 0, 1) := by decide +kernel
theorem dX1_farthest_35 : decode cX1_farthest 35 = .ok (.iload_n 2, 1) := by decide +kernel
theorem dX1_farthest_36 : decode cX1_farthest 36 = .ok (.iload_n 3, 1) := by decide +kernel
theorem dX1_farthest_37 : decode cX1_farthest 37 = .ok (.invokevirtual 69, 3) := by decide +kernel
theorem dX1_farthest_40 : decode cX1_farthest 40 = .ok (.invokestatic 40, 3) := by decide +kernel
theorem dX1_farthest_43 : decode cX1_farthest 43 = .ok (.istore_n 1, 1) := by decide +kernel
theorem dX1_farthest_44 : decode cX1_farthest 44 = .ok (.iinc 3 1, 3) := by decide +kernel
theorem dX1_farthest_47 : decode cX1_farthest 47 = .ok (.goto (-33), 3) := by decide +kernel
theorem dX1_farthest_50 : decode cX1_farthest 50 = .ok (.iinc 2 1, 3) := by decide +kernel
theorem dX1_farthest_53 : decode cX1_farthest 53 = .ok (.goto (-49), 3) := by decide +kernel
theorem dX1_farthest_56 : decode cX1_farthest 56 = .ok (.iload_n 1, 1) := by decide +kernel
theorem dX1_farthest_57 : decode cX1_farthest 57 = .ok (.ireturn, 1) := by decide +kernel
theorem dX1_between_0 : decode cX1_between 0 = .ok (.aload_n 0, 1) := by decide +kernel
theorem dX1_between_1 : decode cX1_between 1 = .ok (.iload_n 1, 1) := by decide +kernel
theorem dX1_between_2 : decode cX1_between 2 = .ok (.invokevirtual 56, 3) := by decide +kernel
theorem dX1_between_5 : decode cX1_between 5 = .ok (.ifCond .eq 25, 3) := by decide +kernel
theorem dX1_between_8 : decode cX1_between 8 = .ok (.aload_n 0, 1) := by decide +kernel
theorem dX1_between_9 : decode cX1_between 9 = .ok (.iload_n 2, 1) := by decide +kernel
theorem dX1_between_10 : decode cX1_between 10 = .ok (.invokevirtual 56, 3) := by decide +kernel
theorem dX1_between_13 : decode cX1_between 13 = .ok (.ifCond .eq 17, 3) := by decide +kernel
theorem dX1_between_16 : decode cX1_between 16 = .ok (.aload_n 0, 1) := by decide +kernel
theorem dX1_between_17 : decode cX1_between 17 = .ok (.getfield 15, 3) := by decide +kernel
theorem dX1_between_20 : decode cX1_between 20 = .ok (.iload_n 1, 1) := by decide +kernel
theorem dX1_between_21 : decode cX1_between 21 = .ok (.bipush 6, 2) := by decide +kernel
theorem dX1_between_23 : decode cX1_between 23 = .ok (.imul, 1) := by decide +kernel
theorem dX1_between_24 : decode cX1_between 24 = .ok (.iload_n 2, 1) := by decide +kernel
theorem dX1_between_25 : decode cX1_between 25 = .ok (.iadd, 1) := by decide +kernel
theorem dX1_between_26 : decode cX1_between 26 = .ok (.iaload, 1) := by decide +kernel
theorem dX1_between_27 : decode cX1_between 27 = .ok (.goto 5, 3) := by decide +kernel
theorem dX1_between_30 : decode cX1_between 30 = .ok (.ldc 68, 2) := by decide +kernel
theorem dX1_between_32 : decode cX1_between 32 = .ok (.ireturn, 1) := by decide +kernel
theorem dX1_siteOf_0 : decode cX1_siteOf 0 = .ok (.aload_n 0, 1) := by decide +kernel
theorem dX1_siteOf_1 : decode cX1_siteOf 1 = .ok (.iload_n 1, 1) := by decide +kernel
theorem dX1_siteOf_2 : decode cX1_siteOf 2 = .ok (.invokevirtual 72, 3) := by decide +kernel
theorem dX1_siteOf_5 : decode cX1_siteOf 5 = .ok (.ifCond .eq 12, 3) := by decide +kernel
theorem dX1_siteOf_8 : decode cX1_siteOf 8 = .ok (.aload_n 0, 1) := by decide +kernel
theorem dX1_siteOf_9 : decode cX1_siteOf 9 = .ok (.getfield 18, 3) := by decide +kernel
theorem dX1_siteOf_12 : decode cX1_siteOf 12 = .ok (.iload_n 1, 1) := by decide +kernel
theorem dX1_siteOf_13 : decode cX1_siteOf 13 = .ok (.iaload, 1) := by decide +kernel
theorem dX1_siteOf_14 : decode cX1_siteOf 14 = .ok (.goto 4, 3) := by decide +kernel
theorem dX1_siteOf_17 : decode cX1_siteOf 17 = .ok (.iconst 0, 1) := by decide +kernel
theorem dX1_siteOf_18 : decode cX1_siteOf 18 = .ok (.ireturn, 1) := by decide +kernel
theorem dX1_worthOf_0 : decode cX1_worthOf 0 = .ok (.aload_n 0, 1) := by decide +kernel
theorem dX1_worthOf_1 : decode cX1_worthOf 1 = .ok (.iload_n 1, 1) := by decide +kernel
theorem dX1_worthOf_2 : decode cX1_worthOf 2 = .ok (.invokevirtual 72, 3) := by decide +kernel
theorem dX1_worthOf_5 : decode cX1_worthOf 5 = .ok (.ifCond .eq 12, 3) := by decide +kernel
theorem dX1_worthOf_8 : decode cX1_worthOf 8 = .ok (.aload_n 0, 1) := by decide +kernel
theorem dX1_worthOf_9 : decode cX1_worthOf 9 = .ok (.getfield 21, 3) := by decide +kernel
theorem dX1_worthOf_12 : decode cX1_worthOf 12 = .ok (.iload_n 1, 1) := by decide +kernel
theorem dX1_worthOf_13 : decode cX1_worthOf 13 = .ok (.iaload, 1) := by decide +kernel
theorem dX1_worthOf_14 : decode cX1_worthOf 14 = .ok (.goto 4, 3) := by decide +kernel
theorem dX1_worthOf_17 : decode cX1_worthOf 17 = .ok (.iconst 0, 1) := by decide +kernel
theorem dX1_worthOf_18 : decode cX1_worthOf 18 = .ok (.ireturn, 1) := by decide +kernel
theorem dX1_doerOf_0 : decode cX1_doerOf 0 = .ok (.aload_n 0, 1) := by decide +kernel
theorem dX1_doerOf_1 : decode cX1_doerOf 1 = .ok (.iload_n 1, 1) := by decide +kernel
theorem dX1_doerOf_2 : decode cX1_doerOf 2 = .ok (.invokevirtual 72, 3) := by decide +kernel
theorem dX1_doerOf_5 : decode cX1_doerOf 5 = .ok (.ifCond .eq 12, 3) := by decide +kernel
theorem dX1_doerOf_8 : decode cX1_doerOf 8 = .ok (.aload_n 0, 1) := by decide +kernel
theorem dX1_doerOf_9 : decode cX1_doerOf 9 = .ok (.getfield 24, 3) := by decide +kernel
theorem dX1_doerOf_12 : decode cX1_doerOf 12 = .ok (.iload_n 1, 1) := by decide +kernel
theorem dX1_doerOf_13 : decode cX1_doerOf 13 = .ok (.iaload, 1) := by decide +kernel
theorem dX1_doerOf_14 : decode cX1_doerOf 14 = .ok (.goto 4, 3) := by decide +kernel
theorem dX1_doerOf_17 : decode cX1_doerOf 17 = .ok (.iconst 2, 1) := by decide +kernel
theorem dX1_doerOf_18 : decode cX1_doerOf 18 = .ok (.ireturn, 1) := by decide +kernel
theorem dX1_canDo_0 : decode cX1_canDo 0 = .ok (.aload_n 0, 1) := by decide +kernel
theorem dX1_canDo_1 : decode cX1_canDo 1 = .ok (.iload_n 2, 1) := by decide +kernel
theorem dX1_canDo_2 : decode cX1_canDo 2 = .ok (.invokevirtual 72, 3) := by decide +kernel
theorem dX1_canDo_5 : decode cX1_canDo 5 = .ok (.ifCond .eq 27, 3) := by decide +kernel
theorem dX1_canDo_8 : decode cX1_canDo 8 = .ok (.aload_n 0, 1) := by decide +kernel
theorem dX1_canDo_9 : decode cX1_canDo 9 = .ok (.getfield 24, 3) := by decide +kernel
theorem dX1_canDo_12 : decode cX1_canDo 12 = .ok (.iload_n 2, 1) := by decide +kernel
theorem dX1_canDo_13 : decode cX1_canDo 13 = .ok (.iaload, 1) := by decide +kernel
theorem dX1_canDo_14 : decode cX1_canDo 14 = .ok (.iconst 2, 1) := by decide +kernel
theorem dX1_canDo_15 : decode cX1_canDo 15 = .ok (.if_icmp .eq 13, 3) := by decide +kernel
theorem dX1_canDo_18 : decode cX1_canDo 18 = .ok (.aload_n 0, 1) := by decide +kernel
theorem dX1_canDo_19 : decode cX1_canDo 19 = .ok (.getfield 24, 3) := by decide +kernel
theorem dX1_canDo_22 : decode cX1_canDo 22 = .ok (.iload_n 2, 1) := by decide +kernel
theorem dX1_canDo_23 : decode cX1_canDo 23 = .ok (.iaload, 1) := by decide +kernel
theorem dX1_canDo_24 : decode cX1_canDo 24 = .ok (.iload_n 1, 1) := by decide +kernel
theorem dX1_canDo_25 : decode cX1_canDo 25 = .ok (.if_icmp .ne 7, 3) := by decide +kernel
theorem dX1_canDo_28 : decode cX1_canDo 28 = .ok (.iconst 1, 1) := by decide +kernel
theorem dX1_canDo_29 : decode cX1_canDo 29 = .ok (.goto 4, 3) := by decide +kernel
theorem dX1_canDo_32 : decode cX1_canDo 32 = .ok (.iconst 0, 1) := by decide +kernel
theorem dX1_canDo_33 : decode cX1_canDo 33 = .ok (.ireturn, 1) := by decide +kernel
theorem dX1_allErrands_0 : decode cX1_allErrands 0 = .ok (.iconst 1, 1) := by decide +kernel
theorem dX1_allErrands_1 : decode cX1_allErrands 1 = .ok (.aload_n 0, 1) := by decide +kernel
theorem dX1_allErrands_2 : decode cX1_allErrands 2 = .ok (.getfield 53, 3) := by decide +kernel
theorem dX1_allErrands_5 : decode cX1_allErrands 5 = .ok (.ishl, 1) := by decide +kernel
theorem dX1_allErrands_6 : decode cX1_allErrands 6 = .ok (.iconst 1, 1) := by decide +kernel
theorem dX1_allErrands_7 : decode cX1_allErrands 7 = .ok (.isub, 1) := by decide +kernel
theorem dX1_allErrands_8 : decode cX1_allErrands 8 = .ok (.ireturn, 1) := by decide +kernel
theorem dX1_allFor_0 : decode cX1_allFor 0 = .ok (.iconst 0, 1) := by decide +kernel
theorem dX1_allFor_1 : decode cX1_allFor 1 = .ok (.istore_n 2, 1) := by decide +kernel
theorem dX1_allFor_2 : decode cX1_allFor 2 = .ok (.iconst 0, 1) := by decide +kernel
theorem dX1_allFor_3 : decode cX1_allFor 3 = .ok (.istore_n 3, 1) := by decide +kernel
theorem dX1_allFor_4 : decode cX1_allFor 4 = .ok (.iload_n 3, 1) := by decide +kernel
theorem dX1_allFor_5 : decode cX1_allFor 5 = .ok (.aload_n 0, 1) := by decide +kernel
theorem dX1_allFor_6 : decode cX1_allFor 6 = .ok (.getfield 53, 3) := by decide +kernel
theorem dX1_allFor_9 : decode cX1_allFor 9 = .ok (.if_icmp .ge 24, 3) := by decide +kernel
theorem dX1_allFor_12 : decode cX1_allFor 12 = .ok (.aload_n 0, 1) := by decide +kernel
theorem dX1_allFor_13 : decode cX1_allFor 13 = .ok (.iload_n 1, 1) := by decide +kernel
theorem dX1_allFor_14 : decode cX1_allFor 14 = .ok (.iload_n 3, 1) := by decide +kernel
theorem dX1_allFor_15 : decode cX1_allFor 15 = .ok (.invokevirtual 75, 3) := by decide +kernel
theorem dX1_allFor_18 : decode cX1_allFor 18 = .ok (.ifCond .eq 9, 3) := by decide +kernel
theorem dX1_allFor_21 : decode cX1_allFor 21 = .ok (.iload_n 2, 1) := by decide +kernel
theorem dX1_allFor_22 : decode cX1_allFor 22 = .ok (.iconst 1, 1) := by decide +kernel
theorem dX1_allFor_23 : decode cX1_allFor 23 = .ok (.iload_n 3, 1) := by decide +kernel
theorem dX1_allFor_24 : decode cX1_allFor 24 = .ok (.ishl, 1) := by decide +kernel
theorem dX1_allFor_25 : decode cX1_allFor 25 = .ok (.ior, 1) := by decide +kernel
theorem dX1_allFor_26 : decode cX1_allFor 26 = .ok (.istore_n 2, 1) := by decide +kernel
theorem dX1_allFor_27 : decode cX1_allFor 27 = .ok (.iinc 3 1, 3) := by decide +kernel
theorem dX1_allFor_30 : decode cX1_allFor 30 = .ok (.goto (-26), 3) := by decide +kernel
theorem dX1_allFor_33 : decode cX1_allFor 33 = .ok (.iload_n 2, 1) := by decide +kernel
theorem dX1_allFor_34 : decode cX1_allFor 34 = .ok (.ireturn, 1) := by decide +kernel
theorem dX1_worthOfSet_0 : decode cX1_worthOfSet 0 = .ok (.iconst 0, 1) := by decide +kernel
theorem dX1_worthOfSet_1 : decode cX1_worthOfSet 1 = .ok (.istore_n 2, 1) := by decide +kernel
theorem dX1_worthOfSet_2 : decode cX1_worthOfSet 2 = .ok (.iconst 0, 1) := by decide +kernel
theorem dX1_worthOfSet_3 : decode cX1_worthOfSet 3 = .ok (.istore_n 3, 1) := by decide +kernel
theorem dX1_worthOfSet_4 : decode cX1_worthOfSet 4 = .ok (.iload_n 3, 1) := by decide +kernel
theorem dX1_worthOfSet_5 : decode cX1_worthOfSet 5 = .ok (.aload_n 0, 1) := by decide +kernel
theorem dX1_worthOfSet_6 : decode cX1_worthOfSet 6 = .ok (.getfield 53, 3) := by decide +kernel
theorem dX1_worthOfSet_9 : decode cX1_worthOfSet 9 = .ok (.if_icmp .ge 26, 3) := by decide +kernel
theorem dX1_worthOfSet_12 : decode cX1_worthOfSet 12 = .ok (.iload_n 1, 1) := by decide +kernel
theorem dX1_worthOfSet_13 : decode cX1_worthOfSet 13 = .ok (.iload_n 3, 1) := by decide +kernel
theorem dX1_worthOfSet_14 : decode cX1_worthOfSet 14 = .ok (.ishr, 1) := by decide +kernel
theorem dX1_worthOfSet_15 : decode cX1_worthOfSet 15 = .ok (.iconst 1, 1) := by decide +kernel
theorem dX1_worthOfSet_16 : decode cX1_worthOfSet 16 = .ok (.iand, 1) := by decide +kernel
theorem dX1_worthOfSet_17 : decode cX1_worthOfSet 17 = .ok (.iconst 1, 1) := by decide +kernel
theorem dX1_worthOfSet_18 : decode cX1_worthOfSet 18 = .ok (.if_icmp .ne 11, 3) := by decide +kernel
theorem dX1_worthOfSet_21 : decode cX1_worthOfSet 21 = .ok (.iload_n 2, 1) := by decide +kernel
theorem dX1_worthOfSet_22 : decode cX1_worthOfSet 22 = .ok (.aload_n 0, 1) := by decide +kernel
theorem dX1_worthOfSet_23 : decode cX1_worthOfSet 23 = .ok (.iload_n 3, 1) := by decide +kernel
theorem dX1_worthOfSet_24 : decode cX1_worthOfSet 24 = .ok (.invokevirtual 78, 3) := by decide +kernel
theorem dX1_worthOfSet_27 : decode cX1_worthOfSet 27 = .ok (.iadd, 1) := by decide +kernel
theorem dX1_worthOfSet_28 : decode cX1_worthOfSet 28 = .ok (.istore_n 2, 1) := by decide +kernel
theorem dX1_worthOfSet_29 : decode cX1_worthOfSet 29 = .ok (.iinc 3 1, 3) := by decide +kernel
theorem dX1_worthOfSet_32 : decode cX1_worthOfSet 32 = .ok (.goto (-28), 3) := by decide +kernel
theorem dX1_worthOfSet_35 : decode cX1_worthOfSet 35 = .ok (.iload_n 2, 1) := by decide +kernel
theorem dX1_worthOfSet_36 : decode cX1_worthOfSet 36 = .ok (.ireturn, 1) := by decide +kernel
theorem dX1_placesOfSet_0 : decode cX1_placesOfSet 0 = .ok (.iconst 0, 1) := by decide +kernel
theorem dX1_placesOfSet_1 : decode cX1_placesOfSet 1 = .ok (.istore_n 2, 1) := by decide +kernel
theorem dX1_placesOfSet_2 : decode cX1_placesOfSet 2 = .ok (.iconst 0, 1) := by decide +kernel
theorem dX1_placesOfSet_3 : decode cX1_placesOfSet 3 = .ok (.istore_n 3, 1) := by decide +kernel
theorem dX1_placesOfSet_4 : decode cX1_placesOfSet 4 = .ok (.iload_n 3, 1) := by decide +kernel
theorem dX1_placesOfSet_5 : decode cX1_placesOfSet 5 = .ok (.aload_n 0, 1) := by decide +kernel
theorem dX1_placesOfSet_6 : decode cX1_placesOfSet 6 = .ok (.getfield 53, 3) := by decide +kernel
theorem dX1_placesOfSet_9 : decode cX1_placesOfSet 9 = .ok (.if_icmp .ge 28, 3) := by decide +kernel
theorem dX1_placesOfSet_12 : decode cX1_placesOfSet 12 = .ok (.iload_n 1, 1) := by decide +kernel
theorem dX1_placesOfSet_13 : decode cX1_placesOfSet 13 = .ok (.iload_n 3, 1) := by decide +kernel
theorem dX1_placesOfSet_14 : decode cX1_placesOfSet 14 = .ok (.ishr, 1) := by decide +kernel
theorem dX1_placesOfSet_15 : decode cX1_placesOfSet 15 = .ok (.iconst 1, 1) := by decide +kernel
theorem dX1_placesOfSet_16 : decode cX1_placesOfSet 16 = .ok (.iand, 1) := by decide +kernel
theorem dX1_placesOfSet_17 : decode cX1_placesOfSet 17 = .ok (.iconst 1, 1) := by decide +kernel
theorem dX1_placesOfSet_18 : decode cX1_placesOfSet 18 = .ok (.if_icmp .ne 13, 3) := by decide +kernel
theorem dX1_placesOfSet_21 : decode cX1_placesOfSet 21 = .ok (.iload_n 2, 1) := by decide +kernel
theorem dX1_placesOfSet_22 : decode cX1_placesOfSet 22 = .ok (.iconst 1, 1) := by decide +kernel
theorem dX1_placesOfSet_23 : decode cX1_placesOfSet 23 = .ok (.aload_n 0, 1) := by decide +kernel
theorem dX1_placesOfSet_24 : decode cX1_placesOfSet 24 = .ok (.iload_n 3, 1) := by decide +kernel
theorem dX1_placesOfSet_25 : decode cX1_placesOfSet 25 = .ok (.invokevirtual 82, 3) := by decide +kernel
theorem dX1_placesOfSet_28 : decode cX1_placesOfSet 28 = .ok (.ishl, 1) := by decide +kernel
theorem dX1_placesOfSet_29 : decode cX1_placesOfSet 29 = .ok (.ior, 1) := by decide +kernel
theorem dX1_placesOfSet_30 : decode cX1_placesOfSet 30 = .ok (.istore_n 2, 1) := by decide +kernel
theorem dX1_placesOfSet_31 : decode cX1_placesOfSet 31 = .ok (.iinc 3 1, 3) := by decide +kernel
theorem dX1_placesOfSet_34 : decode cX1_placesOfSet 34 = .ok (.goto (-30), 3) := by decide +kernel
theorem dX1_placesOfSet_37 : decode cX1_placesOfSet 37 = .ok (.iload_n 2, 1) := by decide +kernel
theorem dX1_placesOfSet_38 : decode cX1_placesOfSet 38 = .ok (.ireturn, 1) := by decide +kernel
theorem dX2_init_0 : decode cX2_init 0 = .ok (.aload_n 0, 1) := by decide +kernel
theorem dX2_init_1 : decode cX2_init 1 = .ok (.invokespecial 3, 3) := by decide +kernel
theorem dX2_init_4 : decode cX2_init 4 = .ok (.aload_n 0, 1) := by decide +kernel
theorem dX2_init_5 : decode cX2_init 5 = .ok (.bipush 64, 2) := by decide +kernel
theorem dX2_init_7 : decode cX2_init 7 = .ok (.newarray .int, 2) := by decide +kernel
theorem dX2_init_9 : decode cX2_init 9 = .ok (.putfield 9, 3) := by decide +kernel
theorem dX2_init_12 : decode cX2_init 12 = .ok (.aload_n 0, 1) := by decide +kernel
theorem dX2_init_13 : decode cX2_init 13 = .ok (.bipush 64, 2) := by decide +kernel
theorem dX2_init_15 : decode cX2_init 15 = .ok (.newarray .int, 2) := by decide +kernel
theorem dX2_init_17 : decode cX2_init 17 = .ok (.putfield 15, 3) := by decide +kernel
theorem dX2_init_20 : decode cX2_init 20 = .ok (.return_, 1) := by decide +kernel
theorem dX2_prepare_0 : decode cX2_prepare 0 = .ok (.aload_n 0, 1) := by decide +kernel
theorem dX2_prepare_1 : decode cX2_prepare 1 = .ok (.iconst 1, 1) := by decide +kernel
theorem dX2_prepare_2 : decode cX2_prepare 2 = .ok (.aload_n 1, 1) := by decide +kernel
theorem dX2_prepare_3 : decode cX2_prepare 3 = .ok (.getfield 18, 3) := by decide +kernel
theorem dX2_prepare_6 : decode cX2_prepare 6 = .ok (.ishl, 1) := by decide +kernel
theorem dX2_prepare_7 : decode cX2_prepare 7 = .ok (.putfield 24, 3) := by decide +kernel
theorem dX2_prepare_10 : decode cX2_prepare 10 = .ok (.aload_n 0, 1) := by decide +kernel
theorem dX2_prepare_11 : decode cX2_prepare 11 = .ok (.iconst 1, 1) := by decide +kernel
theorem dX2_prepare_12 : decode cX2_prepare 12 = .ok (.putfield 27, 3) := by decide +kernel
theorem dX2_prepare_15 : decode cX2_prepare 15 = .ok (.iconst 0, 1) := by decide +kernel
theorem dX2_prepare_16 : decode cX2_prepare 16 = .ok (.istore 4, 2) := by decide +kernel
theorem dX2_prepare_18 : decode cX2_prepare 18 = .ok (.iload 4, 2) := by decide +kernel
theorem dX2_prepare_20 : decode cX2_prepare 20 = .ok (.aload_n 1, 1) := by decide +kernel
theorem dX2_prepare_21 : decode cX2_prepare 21 = .ok (.getfield 18, 3) := by decide +kernel
theorem dX2_prepare_24 : decode cX2_prepare 24 = .ok (.if_icmp .ge 20, 3) := by decide +kernel
theorem dX2_prepare_27 : decode cX2_prepare 27 = .ok (.aload_n 0, 1) := by decide +kernel
theorem dX2_prepare_28 : decode cX2_prepare 28 = .ok (.dup, 1) := by decide +kernel
theorem dX2_prepare_29 : decode cX2_prepare 29 = .ok (.getfield 27, 3) := by decide +kernel
theorem dX2_prepare_32 : decode cX2_prepare 32 = .ok (.bipush 10, 2) := by decide +kernel
theorem dX2_prepare_34 : decode cX2_prepare 34 = .ok (.imul, 1) := by decide +kernel
theorem dX2_prepare_35 : decode cX2_prepare 35 = .ok (.putfield 27, 3) := by decide +kernel
theorem dX2_prepare_38 : decode cX2_prepare 38 = .ok (.iinc 4 1, 3) := by decide +kernel
theorem dX2_prepare_41 : decode cX2_prepare 41 = .ok (.goto (-23), 3) := by decide +kernel
theorem dX2_prepare_44 : decode cX2_prepare 44 = .ok (.iconst 0, 1) := by decide +kernel
theorem dX2_prepare_45 : decode cX2_prepare 45 = .ok (.istore 4, 2) := by decide +kernel
theorem dX2_prepare_47 : decode cX2_prepare 47 = .ok (.iload 4, 2) := by decide +kernel
theorem dX2_prepare_49 : decode cX2_prepare 49 = .ok (.aload_n 0, 1) := by decide +kernel
theorem dX2_prepare_50 : decode cX2_prepare 50 = .ok (.getfield 24, 3) := by decide +kernel
theorem dX2_prepare_53 : decode cX2_prepare 53 = .ok (.if_icmp .ge 80, 3) := by decide +kernel
theorem dX2_prepare_56 : decode cX2_prepare 56 = .ok (.aload_n 0, 1) := by decide +kernel
theorem dX2_prepare_57 : decode cX2_prepare 57 = .ok (.getfield 9, 3) := by decide +kernel
theorem dX2_prepare_60 : decode cX2_prepare 60 = .ok (.iload 4, 2) := by decide +kernel
theorem dX2_prepare_62 : decode cX2_prepare 62 = .ok (.aload_n 2, 1) := by decide +kernel
theorem dX2_prepare_63 : decode cX2_prepare 63 = .ok (.aload_n 1, 1) := by decide +kernel
theorem dX2_prepare_64 : decode cX2_prepare 64 = .ok (.iload 4, 2) := by decide +kernel
theorem dX2_prepare_66 : decode cX2_prepare 66 = .ok (.invokevirtual 30, 3) := by decide +kernel
theorem dX2_prepare_69 : decode cX2_prepare 69 = .ok (.invokevirtual 34, 3) := by decide +kernel
theorem dX2_prepare_72 : decode cX2_prepare 72 = .ok (.iastore, 1) := by decide +kernel
theorem dX2_prepare_73 : decode cX2_prepare 73 = .ok (.iconst 1, 1) := by decide +kernel
theorem dX2_prepare_74 : decode cX2_prepare 74 = .ok (.istore 5, 2) := by decide +kernel
theorem dX2_prepare_76 : decode cX2_prepare 76 = .ok (.iconst 0, 1) := by decide +kernel
theorem dX2_prepare_77 : decode cX2_prepare 77 = .ok (.istore 6, 2) := by decide +kernel
theorem dX2_prepare_79 : decode cX2_prepare 79 = .ok (.iload 6, 2) := by decide +kernel
theorem dX2_prepare_81 : decode cX2_prepare 81 = .ok (.aload_n 1, 1) := by decide +kernel
theorem dX2_prepare_82 : decode cX2_prepare 82 = .ok (.getfield 18, 3) := by decide +kernel
theorem dX2_prepare_85 : decode cX2_prepare 85 = .ok (.if_icmp .ge 33, 3) := by decide +kernel
theorem dX2_prepare_88 : decode cX2_prepare 88 = .ok (.iload 5, 2) := by decide +kernel
theorem dX2_prepare_90 : decode cX2_prepare 90 = .ok (.iload 4, 2) := by decide +kernel
theorem dX2_prepare_92 : decode cX2_prepare 92 = .ok (.iload 6, 2) := by decide +kernel
theorem dX2_prepare_94 : decode cX2_prepare 94 = .ok (.ishr, 1) := by decide +kernel
theorem dX2_prepare_95 : decode cX2_prepare 95 = .ok (.iconst 1, 1) := by decide +kernel
theorem dX2_prepare_96 : decode cX2_prepare 96 = .ok (.iand, 1) := by decide +kernel
theorem dX2_prepare_97 : decode cX2_prepare 97 = .ok (.iconst 1, 1) := by decide +kernel
theorem dX2_prepare_98 : decode cX2_prepare 98 = .ok (.if_icmp .ne 7, 3) := by decide +kernel
theorem dX2_prepare_101 : decode cX2_prepare 101 = .ok (.iload_n 3, 1) := by decide +kernel
theorem dX2_prepare_102 : decode cX2_prepare 102 = .ok (.goto 7, 3) := by decide +kernel
theorem dX2_prepare_105 : decode cX2_prepare 105 = .ok (.bipush 10, 2) := by decide +kernel
theorem dX2_prepare_107 : decode cX2_prepare 107 = .ok (.iload_n 3, 1) := by decide +kernel
theorem dX2_prepare_108 : decode cX2_prepare 108 = .ok (.isub, 1) := by decide +kernel
theorem dX2_prepare_109 : decode cX2_prepare 109 = .ok (.imul, 1) := by decide +kernel
theorem dX2_prepare_110 : decode cX2_prepare 110 = .ok (.istore 5, 2) := by decide +kernel
theorem dX2_prepare_112 : decode cX2_prepare 112 = .ok (.iinc 6 1, 3) := by decide +kernel
theorem dX2_prepare_115 : decode cX2_prepare 115 = .ok (.goto (-36), 3) := by decide +kernel
theorem dX2_prepare_118 : decode cX2_prepare 118 = .ok (.aload_n 0, 1) := by decide +kernel
theorem dX2_prepare_119 : decode cX2_prepare 119 = .ok (.getfield 15, 3) := by decide +kernel
theorem dX2_prepare_122 : decode cX2_prepare 122 = .ok (.iload 4, 2) := by decide +kernel
theorem dX2_prepare_124 : decode cX2_prepare 124 = .ok (.iload 5, 2) := by decide +kernel
theorem dX2_prepare_126 : decode cX2_prepare 126 = .ok (.iastore, 1) := by decide +kernel
theorem dX2_prepare_127 : decode cX2_prepare 127 = .ok (.iinc 4 1, 3) := by decide +kernel
theorem dX2_prepare_130 : decode cX2_prepare 130 = .ok (.goto (-83), 3) := by decide +kernel
theorem dX2_prepare_133 : decode cX2_prepare 133 = .ok (.return_, 1) := by decide +kernel
theorem dX2_weightWithin_0 : decode cX2_weightWithin 0 = .ok (.iconst 0, 1) := by decide +kernel
theorem dX2_weightWithin_1 : decode cX2_weightWithin 1 = .ok (.istore_n 2, 1) := by decide +kernel
theorem dX2_weightWithin_2 : decode cX2_weightWithin 2 = .ok (.iconst 0, 1) := by decide +kernel
theorem dX2_weightWithin_3 : decode cX2_weightWithin 3 = .ok (.istore_n 3, 1) := by decide +kernel
theorem dX2_weightWithin_4 : decode cX2_weightWithin 4 = .ok (.iload_n 3, 1) := by decide +kernel
theorem dX2_weightWithin_5 : decode cX2_weightWithin 5 = .ok (.aload_n 0, 1) := by decide +kernel
theorem dX2_weightWithin_6 : decode cX2_weightWithin 6 = .ok (.getfield 24, 3) := by decide +kernel
theorem dX2_weightWithin_9 : decode cX2_weightWithin 9 = .ok (.if_icmp .ge 28, 3) := by decide +kernel
theorem dX2_weightWithin_12 : decode cX2_weightWithin 12 = .ok (.aload_n 0, 1) := by decide +kernel
theorem dX2_weightWithin_13 : decode cX2_weightWithin 13 = .ok (.getfield 9, 3) := by decide +kernel
theorem dX2_weightWithin_16 : decode cX2_weightWithin 16 = .ok (.iload_n 3, 1) := by decide +kernel
theorem dX2_weightWithin_17 : decode cX2_weightWithin 17 = .ok (.iaload, 1) := by decide +kernel
theorem dX2_weightWithin_18 : decode cX2_weightWithin 18 = .ok (.iload_n 1, 1) := by decide +kernel
theorem dX2_weightWithin_19 : decode cX2_weightWithin 19 = .ok (.if_icmp .gt 12, 3) := by decide +kernel
theorem dX2_weightWithin_22 : decode cX2_weightWithin 22 = .ok (.iload_n 2, 1) := by decide +kernel
theorem dX2_weightWithin_23 : decode cX2_weightWithin 23 = .ok (.aload_n 0, 1) := by decide +kernel
theorem dX2_weightWithin_24 : decode cX2_weightWithin 24 = .ok (.getfield 15, 3) := by decide +kernel
theorem dX2_weightWithin_27 : decode cX2_weightWithin 27 = .ok (.iload_n 3, 1) := by decide +kernel
theorem dX2_weightWithin_28 : decode cX2_weightWithin 28 = .ok (.iaload, 1) := by decide +kernel
theorem dX2_weightWithin_29 : decode cX2_weightWithin 29 = .ok (.iadd, 1) := by decide +kernel
theorem dX2_weightWithin_30 : decode cX2_weightWithin 30 = .ok (.istore_n 2, 1) := by decide +kernel
theorem dX2_weightWithin_31 : decode cX2_weightWithin 31 = .ok (.iinc 3 1, 3) := by decide +kernel
theorem dX2_weightWithin_34 : decode cX2_weightWithin 34 = .ok (.goto (-30), 3) := by decide +kernel
theorem dX2_weightWithin_37 : decode cX2_weightWithin 37 = .ok (.iload_n 2, 1) := by decide +kernel
theorem dX2_weightWithin_38 : decode cX2_weightWithin 38 = .ok (.ireturn, 1) := by decide +kernel
theorem dX2_leastSteps_0 : decode cX2_leastSteps 0 = .ok (.bipush (-9), 2) := by decide +kernel
theorem dX2_leastSteps_2 : decode cX2_leastSteps 2 = .ok (.istore_n 2, 1) := by decide +kernel
theorem dX2_leastSteps_3 : decode cX2_leastSteps 3 = .ok (.iconst 0, 1) := by decide +kernel
theorem dX2_leastSteps_4 : decode cX2_leastSteps 4 = .ok (.istore_n 3, 1) := by decide +kernel
theorem dX2_leastSteps_5 : decode cX2_leastSteps 5 = .ok (.iload_n 3, 1) := by decide +kernel
theorem dX2_leastSteps_6 : decode cX2_leastSteps 6 = .ok (.aload_n 0, 1) := by decide +kernel
theorem dX2_leastSteps_7 : decode cX2_leastSteps 7 = .ok (.getfield 24, 3) := by decide +kernel
theorem dX2_leastSteps_10 : decode cX2_leastSteps 10 = .ok (.if_icmp .ge 75, 3) := by decide +kernel
theorem dX2_leastSteps_13 : decode cX2_leastSteps 13 = .ok (.aload_n 0, 1) := by decide +kernel
theorem dX2_leastSteps_14 : decode cX2_leastSteps 14 = .ok (.getfield 9, 3) := by decide +kernel
theorem dX2_leastSteps_17 : decode cX2_leastSteps 17 = .ok (.iload_n 3, 1) := by decide +kernel
theorem dX2_leastSteps_18 : decode cX2_leastSteps 18 = .ok (.iaload, 1) := by decide +kernel
theorem dX2_leastSteps_19 : decode cX2_leastSteps 19 = .ok (.istore 4, 2) := by decide +kernel
theorem dX2_leastSteps_21 : decode cX2_leastSteps 21 = .ok (.iload 4, 2) := by decide +kernel
theorem dX2_leastSteps_23 : decode cX2_leastSteps 23 = .ok (.sipush 999, 3) := by decide +kernel
theorem dX2_leastSteps_26 : decode cX2_leastSteps 26 = .ok (.if_icmp .gt 19, 3) := by decide +kernel
theorem dX2_leastSteps_29 : decode cX2_leastSteps 29 = .ok (.iload_n 2, 1) := by decide +kernel
theorem dX2_leastSteps_30 : decode cX2_leastSteps 30 = .ok (.bipush (-9), 2) := by decide +kernel
theorem dX2_leastSteps_32 : decode cX2_leastSteps 32 = .ok (.if_icmp .eq 9, 3) := by decide +kernel
theorem dX2_leastSteps_35 : decode cX2_leastSteps 35 = .ok (.iload 4, 2) := by decide +kernel
theorem dX2_leastSteps_37 : decode cX2_leastSteps 37 = .ok (.iload_n 2, 1) := by decide +kernel
theorem dX2_leastSteps_38 : decode cX2_leastSteps 38 = .ok (.if_icmp .ge 7, 3) := by decide +kernel
theorem dX2_leastSteps_41 : decode cX2_leastSteps 41 = .ok (.iconst 1, 1) := by decide +kernel
theorem dX2_leastSteps_42 : decode cX2_leastSteps 42 = .ok (.goto 4, 3) := by decide +kernel
theorem dX2_leastSteps_45 : decode cX2_leastSteps 45 = .ok (.iconst 0, 1) := by decide +kernel
theorem dX2_leastSteps_46 : decode cX2_leastSteps 46 = .ok (.istore 5, 2) := by decide +kernel
theorem dX2_leastSteps_48 : decode cX2_leastSteps 48 = .ok (.iload 5, 2) := by decide +kernel
theorem dX2_leastSteps_50 : decode cX2_leastSteps 50 = .ok (.ifCond .eq 29, 3) := by decide +kernel
theorem dX2_leastSteps_53 : decode cX2_leastSteps 53 = .ok (.ldc2_w 39, 3) := by decide +kernel
theorem dX2_leastSteps_56 : decode cX2_leastSteps 56 = .ok (.aload_n 0, 1) := by decide +kernel
theorem dX2_leastSteps_57 : decode cX2_leastSteps 57 = .ok (.iload 4, 2) := by decide +kernel
theorem dX2_leastSteps_59 : decode cX2_leastSteps 59 = .ok (.invokevirtual 41, 3) := by decide +kernel
theorem dX2_leastSteps_62 : decode cX2_leastSteps 62 = .ok (.i2l, 1) := by decide +kernel
theorem dX2_leastSteps_63 : decode cX2_leastSteps 63 = .ok (.lmul, 1) := by decide +kernel
theorem dX2_leastSteps_64 : decode cX2_leastSteps 64 = .ok (.iload_n 1, 1) := by decide +kernel
theorem dX2_leastSteps_65 : decode cX2_leastSteps 65 = .ok (.i2l, 1) := by decide +kernel
theorem dX2_leastSteps_66 : decode cX2_leastSteps 66 = .ok (.aload_n 0, 1) := by decide +kernel
theorem dX2_leastSteps_67 : decode cX2_leastSteps 67 = .ok (.getfield 27, 3) := by decide +kernel
theorem dX2_leastSteps_70 : decode cX2_leastSteps 70 = .ok (.i2l, 1) := by decide +kernel
theorem dX2_leastSteps_71 : decode cX2_leastSteps 71 = .ok (.lmul, 1) := by decide +kernel
theorem dX2_leastSteps_72 : decode cX2_leastSteps 72 = .ok (.lcmp, 1) := by decide +kernel
theorem dX2_leastSteps_73 : decode cX2_leastSteps 73 = .ok (.ifCond .lt 6, 3) := by decide +kernel
theorem dX2_leastSteps_76 : decode cX2_leastSteps 76 = .ok (.iload 4, 2) := by decide +kernel
theorem dX2_leastSteps_78 : decode cX2_leastSteps 78 = .ok (.istore_n 2, 1) := by decide +kernel
theorem dX2_leastSteps_79 : decode cX2_leastSteps 79 = .ok (.iinc 3 1, 3) := by decide +kernel
theorem dX2_leastSteps_82 : decode cX2_leastSteps 82 = .ok (.goto (-77), 3) := by decide +kernel
theorem dX2_leastSteps_85 : decode cX2_leastSteps 85 = .ok (.iload_n 2, 1) := by decide +kernel
theorem dX2_leastSteps_86 : decode cX2_leastSteps 86 = .ok (.ireturn, 1) := by decide +kernel
theorem dX3_init_0 : decode cX3_init 0 = .ok (.aload_n 0, 1) := by decide +kernel
theorem dX3_init_1 : decode cX3_init 1 = .ok (.invokespecial 3, 3) := by decide +kernel
theorem dX3_init_4 : decode cX3_init 4 = .ok (.aload_n 0, 1) := by decide +kernel
theorem dX3_init_5 : decode cX3_init 5 = .ok (.new 9, 3) := by decide +kernel
theorem dX3_init_8 : decode cX3_init 8 = .ok (.dup, 1) := by decide +kernel
theorem dX3_init_9 : decode cX3_init 9 = .ok (.invokespecial 11, 3) := by decide +kernel
theorem dX3_init_12 : decode cX3_init 12 = .ok (.putfield 12, 3) := by decide +kernel
theorem dX3_init_15 : decode cX3_init 15 = .ok (.aload_n 0, 1) := by decide +kernel
theorem dX3_init_16 : decode cX3_init 16 = .ok (.new 9, 3) := by decide +kernel
theorem dX3_init_19 : decode cX3_init 19 = .ok (.dup, 1) := by decide +kernel
theorem dX3_init_20 : decode cX3_init 20 = .ok (.invokespecial 11, 3) := by decide +kernel
theorem dX3_init_23 : decode cX3_init 23 = .ok (.putfield 18, 3) := by decide +kernel
theorem dX3_init_26 : decode cX3_init 26 = .ok (.aload_n 0, 1) := by decide +kernel
theorem dX3_init_27 : decode cX3_init 27 = .ok (.bipush 64, 2) := by decide +kernel
theorem dX3_init_29 : decode cX3_init 29 = .ok (.newarray .int, 2) := by decide +kernel
theorem dX3_init_31 : decode cX3_init 31 = .ok (.putfield 21, 3) := by decide +kernel
theorem dX3_init_34 : decode cX3_init 34 = .ok (.aload_n 0, 1) := by decide +kernel
theorem dX3_init_35 : decode cX3_init 35 = .ok (.bipush 64, 2) := by decide +kernel
theorem dX3_init_37 : decode cX3_init 37 = .ok (.newarray .int, 2) := by decide +kernel
theorem dX3_init_39 : decode cX3_init 39 = .ok (.putfield 25, 3) := by decide +kernel
theorem dX3_init_42 : decode cX3_init 42 = .ok (.return_, 1) := by decide +kernel
theorem dX3_offer_0 : decode cX3_offer 0 = .ok (.aload_n 0, 1) := by decide +kernel
theorem dX3_offer_1 : decode cX3_offer 1 = .ok (.iload_n 1, 1) := by decide +kernel
theorem dX3_offer_2 : decode cX3_offer 2 = .ok (.putfield 28, 3) := by decide +kernel
theorem dX3_offer_5 : decode cX3_offer 5 = .ok (.aload_n 0, 1) := by decide +kernel
theorem dX3_offer_6 : decode cX3_offer 6 = .ok (.iload_n 2, 1) := by decide +kernel
theorem dX3_offer_7 : decode cX3_offer 7 = .ok (.putfield 32, 3) := by decide +kernel
theorem dX3_offer_10 : decode cX3_offer 10 = .ok (.return_, 1) := by decide +kernel
theorem dX3_settle_0 : decode cX3_settle 0 = .ok (.aload_n 0, 1) := by decide +kernel
theorem dX3_settle_1 : decode cX3_settle 1 = .ok (.getfield 12, 3) := by decide +kernel
theorem dX3_settle_4 : decode cX3_settle 4 = .ok (.aload_n 1, 1) := by decide +kernel
theorem dX3_settle_5 : decode cX3_settle 5 = .ok (.iload_n 2, 1) := by decide +kernel
theorem dX3_settle_6 : decode cX3_settle 6 = .ok (.iload 4, 2) := by decide +kernel
theorem dX3_settle_8 : decode cX3_settle 8 = .ok (.invokevirtual 35, 3) := by decide +kernel
theorem dX3_settle_11 : decode cX3_settle 11 = .ok (.aload_n 0, 1) := by decide +kernel
theorem dX3_settle_12 : decode cX3_settle 12 = .ok (.getfield 18, 3) := by decide +kernel
theorem dX3_settle_15 : decode cX3_settle 15 = .ok (.aload_n 1, 1) := by decide +kernel
theorem dX3_settle_16 : decode cX3_settle 16 = .ok (.iload_n 3, 1) := by decide +kernel
theorem dX3_settle_17 : decode cX3_settle 17 = .ok (.iload 4, 2) := by decide +kernel
theorem dX3_settle_19 : decode cX3_settle 19 = .ok (.invokevirtual 35, 3) := by decide +kernel
theorem dX3_settle_22 : decode cX3_settle 22 = .ok (.aload_n 0, 1) := by decide +kernel
theorem dX3_settle_23 : decode cX3_settle 23 = .ok (.iconst 0, 1) := by decide +kernel
theorem dX3_settle_24 : decode cX3_settle 24 = .ok (.putfield 39, 3) := by decide +kernel
theorem dX3_settle_27 : decode cX3_settle 27 = .ok (.iconst 1, 1) := by decide +kernel
theorem dX3_settle_28 : decode cX3_settle 28 = .ok (.aload_n 1, 1) := by decide +kernel
theorem dX3_settle_29 : decode cX3_settle 29 = .ok (.getfield 43, 3) := by decide +kernel
theorem dX3_settle_32 : decode cX3_settle 32 = .ok (.ishl, 1) := by decide +kernel
theorem dX3_settle_33 : decode cX3_settle 33 = .ok (.istore 6, 2) := by decide +kernel
theorem dX3_settle_35 : decode cX3_settle 35 = .ok (.iconst 0, 1) := by decide +kernel
theorem dX3_settle_36 : decode cX3_settle 36 = .ok (.istore 7, 2) := by decide +kernel
theorem dX3_settle_38 : decode cX3_settle 38 = .ok (.iload 7, 2) := by decide +kernel
theorem dX3_settle_40 : decode cX3_settle 40 = .ok (.iload 6, 2) := by decide +kernel
theorem dX3_settle_42 : decode cX3_settle 42 = .ok (.if_icmp .ge 59, 3) := by decide +kernel
theorem dX3_settle_45 : decode cX3_settle 45 = .ok (.aload_n 0, 1) := by decide +kernel
theorem dX3_settle_46 : decode cX3_settle 46 = .ok (.getfield 25, 3) := by decide +kernel
theorem dX3_settle_49 : decode cX3_settle 49 = .ok (.iload 7, 2) := by decide +kernel
theorem dX3_settle_51 : decode cX3_settle 51 = .ok (.aload_n 1, 1) := by decide +kernel
theorem dX3_settle_52 : decode cX3_settle 52 = .ok (.iload 7, 2) := by decide +kernel
theorem dX3_settle_54 : decode cX3_settle 54 = .ok (.invokevirtual 48, 3) := by decide +kernel
theorem dX3_settle_57 : decode cX3_settle 57 = .ok (.iastore, 1) := by decide +kernel
theorem dX3_settle_58 : decode cX3_settle 58 = .ok (.aload_n 0, 1) := by decide +kernel
theorem dX3_settle_59 : decode cX3_settle 59 = .ok (.getfield 21, 3) := by decide +kernel
theorem dX3_settle_62 : decode cX3_settle 62 = .ok (.iload 7, 2) := by decide +kernel
theorem dX3_settle_64 : decode cX3_settle 64 = .ok (.iload 7, 2) := by decide +kernel
theorem dX3_settle_66 : decode cX3_settle 66 = .ok (.aload_n 0, 1) := by decide +kernel
theorem dX3_settle_67 : decode cX3_settle 67 = .ok (.getfield 32, 3) := by decide +kernel
theorem dX3_settle_70 : decode cX3_settle 70 = .ok (.invokestatic 52, 3) := by decide +kernel
theorem dX3_settle_73 : decode cX3_settle 73 = .ok (.ifCond .eq 19, 3) := by decide +kernel
theorem dX3_settle_76 : decode cX3_settle 76 = .ok (.aload_n 0, 1) := by decide +kernel
theorem dX3_settle_77 : decode cX3_settle 77 = .ok (.getfield 18, 3) := by decide +kernel
theorem dX3_settle_80 : decode cX3_settle 80 = .ok (.aload_n 1, 1) := by decide +kernel
theorem dX3_settle_81 : decode cX3_settle 81 = .ok (.iload 7, 2) := by decide +kernel
theorem dX3_settle_83 : decode cX3_settle 83 = .ok (.invokevirtual 56, 3) := by decide +kernel
theorem dX3_settle_86 : decode cX3_settle 86 = .ok (.invokevirtual 59, 3) := by decide +kernel
theorem dX3_settle_89 : decode cX3_settle 89 = .ok (.goto 5, 3) := by decide +kernel
theorem dX3_settle_92 : decode cX3_settle 92 = .ok (.ldc 62, 2) := by decide +kernel
theorem dX3_settle_94 : decode cX3_settle 94 = .ok (.iastore, 1) := by decide +kernel
theorem dX3_settle_95 : decode cX3_settle 95 = .ok (.iinc 7 1, 3) := by decide +kernel
theorem dX3_settle_98 : decode cX3_settle 98 = .ok (.goto (-60), 3) := by decide +kernel
theorem dX3_settle_101 : decode cX3_settle 101 = .ok (.iconst 0, 1) := by decide +kernel
theorem dX3_settle_102 : decode cX3_settle 102 = .ok (.istore 7, 2) := by decide +kernel
theorem dX3_settle_104 : decode cX3_settle 104 = .ok (.iload 7, 2) := by decide +kernel
theorem dX3_settle_106 : decode cX3_settle 106 = .ok (.iload 6, 2) := by decide +kernel
theorem dX3_settle_108 : decode cX3_settle 108 = .ok (.if_icmp .ge 55, 3) := by decide +kernel
theorem dX3_settle_111 : decode cX3_settle 111 = .ok (.iload 7, 2) := by decide +kernel
theorem dX3_settle_113 : decode cX3_settle 113 = .ok (.aload_n 0, 1) := by decide +kernel
theorem dX3_settle_114 : decode cX3_settle 114 = .ok (.getfield 28, 3) := by decide +kernel
theorem dX3_settle_117 : decode cX3_settle 117 = .ok (.invokestatic 52, 3) := by decide +kernel
theorem dX3_settle_120 : decode cX3_settle 120 = .ok (.ifCond .eq 37, 3) := by decide +kernel
theorem dX3_settle_123 : decode cX3_settle 123 = .ok (.aload_n 0, 1) := by decide +kernel
theorem dX3_settle_124 : decode cX3_settle 124 = .ok (.getfield 12, 3) := by decide +kernel
theorem dX3_settle_127 : decode cX3_settle 127 = .ok (.aload_n 1, 1) := by decide +kernel
theorem dX3_settle_128 : decode cX3_settle 128 = .ok (.iload 7, 2) := by decide +kernel
theorem dX3_settle_130 : decode cX3_settle 130 = .ok (.invokevirtual 56, 3) := by decide +kernel
theorem dX3_settle_133 : decode cX3_settle 133 = .ok (.invokevirtual 59, 3) := by decide +kernel
theorem dX3_settle_136 : decode cX3_settle 136 = .ok (.istore 8, 2) := by decide +kernel
theorem dX3_settle_138 : decode cX3_settle 138 = .ok (.iload 8, 2) := by decide +kernel
theorem dX3_settle_140 : decode cX3_settle 140 = .ok (.iload 5, 2) := by decide +kernel
theorem dX3_settle_142 : decode cX3_settle 142 = .ok (.if_icmp .gt 15, 3) := by decide +kernel
theorem dX3_settle_145 : decode cX3_settle 145 = .ok (.aload_n 0, 1) := by decide +kernel
theorem dX3_settle_146 : decode cX3_settle 146 = .ok (.iload 7, 2) := by decide +kernel
theorem dX3_settle_148 : decode cX3_settle 148 = .ok (.iload 8, 2) := by decide +kernel
theorem dX3_settle_150 : decode cX3_settle 150 = .ok (.iload 6, 2) := by decide +kernel
theorem dX3_settle_152 : decode cX3_settle 152 = .ok (.iload 5, 2) := by decide +kernel
theorem dX3_settle_154 : decode cX3_settle 154 = .ok (.invokevirtual 63, 3) := by decide +kernel
theorem dX3_settle_157 : decode cX3_settle 157 = .ok (.iinc 7 1, 3) := by decide +kernel
theorem dX3_settle_160 : decode cX3_settle 160 = .ok (.goto (-56), 3) := by decide +kernel
theorem dX3_settle_163 : decode cX3_settle 163 = .ok (.return_, 1) := by decide +kernel
theorem dX3_tryWith_0 : decode cX3_tryWith 0 = .ok (.iconst 0, 1) := by decide +kernel
theorem dX3_tryWith_1 : decode cX3_tryWith 1 = .ok (.istore 5, 2) := by decide +kernel
theorem dX3_tryWith_3 : decode cX3_tryWith 3 = .ok (.iload 5, 2) := by decide +kernel
theorem dX3_tryWith_5 : decode cX3_tryWith 5 = .ok (.iload_n 3, 1) := by decide +kernel
theorem dX3_tryWith_6 : decode cX3_tryWith 6 = .ok (.if_icmp .ge 87, 3) := by decide +kernel
theorem dX3_tryWith_9 : decode cX3_tryWith 9 = .ok (.iload_n 2, 1) := by decide +kernel
theorem dX3_tryWith_10 : decode cX3_tryWith 10 = .ok (.aload_n 0, 1) := by decide +kernel
theorem dX3_tryWith_11 : decode cX3_tryWith 11 = .ok (.getfield 21, 3) := by decide +kernel
theorem dX3_tryWith_14 : decode cX3_tryWith 14 = .ok (.iload 5, 2) := by decide +kernel
theorem dX3_tryWith_16 : decode cX3_tryWith 16 = .ok (.iaload, 1) := by decide +kernel
theorem dX3_tryWith_17 : decode cX3_tryWith 17 = .ok (.iadd, 1) := by decide +kernel
theorem dX3_tryWith_18 : decode cX3_tryWith 18 = .ok (.istore 6, 2) := by decide +kernel
theorem dX3_tryWith_20 : decode cX3_tryWith 20 = .ok (.iload_n 1, 1) := by decide +kernel
theorem dX3_tryWith_21 : decode cX3_tryWith 21 = .ok (.iload 5, 2) := by decide +kernel
theorem dX3_tryWith_23 : decode cX3_tryWith 23 = .ok (.iand, 1) := by decide +kernel
theorem dX3_tryWith_24 : decode cX3_tryWith 24 = .ok (.ifCond .ne 63, 3) := by decide +kernel
theorem dX3_tryWith_27 : decode cX3_tryWith 27 = .ok (.iload 6, 2) := by decide +kernel
theorem dX3_tryWith_29 : decode cX3_tryWith 29 = .ok (.iload 4, 2) := by decide +kernel
theorem dX3_tryWith_31 : decode cX3_tryWith 31 = .ok (.if_icmp .gt 56, 3) := by decide +kernel
theorem dX3_tryWith_34 : decode cX3_tryWith 34 = .ok (.aload_n 0, 1) := by decide +kernel
theorem dX3_tryWith_35 : decode cX3_tryWith 35 = .ok (.aload_n 0, 1) := by decide +kernel
theorem dX3_tryWith_36 : decode cX3_tryWith 36 = .ok (.getfield 25, 3) := by decide +kernel
theorem dX3_tryWith_39 : decode cX3_tryWith 39 = .ok (.iload_n 1, 1) := by decide +kernel
theorem dX3_tryWith_40 : decode cX3_tryWith 40 = .ok (.iload 5, 2) := by decide +kernel
theorem dX3_tryWith_42 : decode cX3_tryWith 42 = .ok (.ior, 1) := by decide +kernel
theorem dX3_tryWith_43 : decode cX3_tryWith 43 = .ok (.iaload, 1) := by decide +kernel
theorem dX3_tryWith_44 : decode cX3_tryWith 44 = .ok (.iload 6, 2) := by decide +kernel
theorem dX3_tryWith_46 : decode cX3_tryWith 46 = .ok (.invokevirtual 67, 3) := by decide +kernel
theorem dX3_tryWith_49 : decode cX3_tryWith 49 = .ok (.ifCond .eq 38, 3) := by decide +kernel
theorem dX3_tryWith_52 : decode cX3_tryWith 52 = .ok (.aload_n 0, 1) := by decide +kernel
theorem dX3_tryWith_53 : decode cX3_tryWith 53 = .ok (.iconst 1, 1) := by decide +kernel
theorem dX3_tryWith_54 : decode cX3_tryWith 54 = .ok (.putfield 39, 3) := by decide +kernel
theorem dX3_tryWith_57 : decode cX3_tryWith 57 = .ok (.aload_n 0, 1) := by decide +kernel
theorem dX3_tryWith_58 : decode cX3_tryWith 58 = .ok (.aload_n 0, 1) := by decide +kernel
theorem dX3_tryWith_59 : decode cX3_tryWith 59 = .ok (.getfield 25, 3) := by decide +kernel
theorem dX3_tryWith_62 : decode cX3_tryWith 62 = .ok (.iload_n 1, 1) := by decide +kernel
theorem dX3_tryWith_63 : decode cX3_tryWith 63 = .ok (.iload 5, 2) := by decide +kernel
theorem dX3_tryWith_65 : decode cX3_tryWith 65 = .ok (.ior, 1) := by decide +kernel
theorem dX3_tryWith_66 : decode cX3_tryWith 66 = .ok (.iaload, 1) := by decide +kernel
theorem dX3_tryWith_67 : decode cX3_tryWith 67 = .ok (.putfield 70, 3) := by decide +kernel
theorem dX3_tryWith_70 : decode cX3_tryWith 70 = .ok (.aload_n 0, 1) := by decide +kernel
theorem dX3_tryWith_71 : decode cX3_tryWith 71 = .ok (.iload 6, 2) := by decide +kernel
theorem dX3_tryWith_73 : decode cX3_tryWith 73 = .ok (.putfield 73, 3) := by decide +kernel
theorem dX3_tryWith_76 : decode cX3_tryWith 76 = .ok (.aload_n 0, 1) := by decide +kernel
theorem dX3_tryWith_77 : decode cX3_tryWith 77 = .ok (.iload_n 1, 1) := by decide +kernel
theorem dX3_tryWith_78 : decode cX3_tryWith 78 = .ok (.putfield 76, 3) := by decide +kernel
theorem dX3_tryWith_81 : decode cX3_tryWith 81 = .ok (.aload_n 0, 1) := by decide +kernel
theorem dX3_tryWith_82 : decode cX3_tryWith 82 = .ok (.iload 5, 2) := by decide +kernel
theorem dX3_tryWith_84 : decode cX3_tryWith 84 = .ok (.putfield 79, 3) := by decide +kernel
theorem dX3_tryWith_87 : decode cX3_tryWith 87 = .ok (.iinc 5 1, 3) := by decide +kernel
theorem dX3_tryWith_90 : decode cX3_tryWith 90 = .ok (.goto (-87), 3) := by decide +kernel
theorem dX3_tryWith_93 : decode cX3_tryWith 93 = .ok (.return_, 1) := by decide +kernel
theorem dX3_isBetter_0 : decode cX3_isBetter 0 = .ok (.aload_n 0, 1) := by decide +kernel
theorem dX3_isBetter_1 : decode cX3_isBetter 1 = .ok (.getfield 39, 3) := by decide +kernel
theorem dX3_isBetter_4 : decode cX3_isBetter 4 = .ok (.ifCond .eq 11, 3) := by decide +kernel
theorem dX3_isBetter_7 : decode cX3_isBetter 7 = .ok (.iload_n 1, 1) := by decide +kernel
theorem dX3_isBetter_8 : decode cX3_isBetter 8 = .ok (.aload_n 0, 1) := by decide +kernel
theorem dX3_isBetter_9 : decode cX3_isBetter 9 = .ok (.getfield 70, 3) := by decide +kernel
theorem dX3_isBetter_12 : decode cX3_isBetter 12 = .ok (.if_icmp .le 5, 3) := by decide +kernel
theorem dX3_isBetter_15 : decode cX3_isBetter 15 = .ok (.iconst 1, 1) := by decide +kernel
theorem dX3_isBetter_16 : decode cX3_isBetter 16 = .ok (.ireturn, 1) := by decide +kernel
theorem dX3_isBetter_17 : decode cX3_isBetter 17 = .ok (.iload_n 1, 1) := by decide +kernel
theorem dX3_isBetter_18 : decode cX3_isBetter 18 = .ok (.aload_n 0, 1) := by decide +kernel
theorem dX3_isBetter_19 : decode cX3_isBetter 19 = .ok (.getfield 70, 3) := by decide +kernel
theorem dX3_isBetter_22 : decode cX3_isBetter 22 = .ok (.if_icmp .ne 15, 3) := by decide +kernel
theorem dX3_isBetter_25 : decode cX3_isBetter 25 = .ok (.iload_n 2, 1) := by decide +kernel
theorem dX3_isBetter_26 : decode cX3_isBetter 26 = .ok (.aload_n 0, 1) := by decide +kernel
theorem dX3_isBetter_27 : decode cX3_isBetter 27 = .ok (.getfield 73, 3) := by decide +kernel
theorem dX3_isBetter_30 : decode cX3_isBetter 30 = .ok (.if_icmp .ge 7, 3) := by decide +kernel
theorem dX3_isBetter_33 : decode cX3_isBetter 33 = .ok (.iconst 1, 1) := by decide +kernel
theorem dX3_isBetter_34 : decode cX3_isBetter 34 = .ok (.goto 4, 3) := by decide +kernel
theorem dX3_isBetter_37 : decode cX3_isBetter 37 = .ok (.iconst 0, 1) := by decide +kernel
theorem dX3_isBetter_38 : decode cX3_isBetter 38 = .ok (.ireturn, 1) := by decide +kernel
theorem dX3_isPartOf_0 : decode cX3_isPartOf 0 = .ok (.iload_n 0, 1) := by decide +kernel
theorem dX3_isPartOf_1 : decode cX3_isPartOf 1 = .ok (.iload_n 1, 1) := by decide +kernel
theorem dX3_isPartOf_2 : decode cX3_isPartOf 2 = .ok (.iconst (-1), 1) := by decide +kernel
theorem dX3_isPartOf_3 : decode cX3_isPartOf 3 = .ok (.ixor, 1) := by decide +kernel
theorem dX3_isPartOf_4 : decode cX3_isPartOf 4 = .ok (.iand, 1) := by decide +kernel
theorem dX3_isPartOf_5 : decode cX3_isPartOf 5 = .ok (.ifCond .ne 7, 3) := by decide +kernel
theorem dX3_isPartOf_8 : decode cX3_isPartOf 8 = .ok (.iconst 1, 1) := by decide +kernel
theorem dX3_isPartOf_9 : decode cX3_isPartOf 9 = .ok (.goto 4, 3) := by decide +kernel
theorem dX3_isPartOf_12 : decode cX3_isPartOf 12 = .ok (.iconst 0, 1) := by decide +kernel
theorem dX3_isPartOf_13 : decode cX3_isPartOf 13 = .ok (.ireturn, 1) := by decide +kernel
theorem dX4_firstFault_0 : decode cX4_firstFault 0 = .ok (.aload_n 0, 1) := by decide +kernel
theorem dX4_firstFault_1 : decode cX4_firstFault 1 = .ok (.invokevirtual 9, 3) := by decide +kernel
theorem dX4_firstFault_4 : decode cX4_firstFault 4 = .ok (.istore_n 2, 1) := by decide +kernel
theorem dX4_firstFault_5 : decode cX4_firstFault 5 = .ok (.aload_n 0, 1) := by decide +kernel
theorem dX4_firstFault_6 : decode cX4_firstFault 6 = .ok (.invokestatic 15, 3) := by decide +kernel
theorem dX4_firstFault_9 : decode cX4_firstFault 9 = .ok (.istore_n 3, 1) := by decide +kernel
theorem dX4_firstFault_10 : decode cX4_firstFault 10 = .ok (.iload_n 3, 1) := by decide +kernel
theorem dX4_firstFault_11 : decode cX4_firstFault 11 = .ok (.bipush (-9), 2) := by decide +kernel
theorem dX4_firstFault_13 : decode cX4_firstFault 13 = .ok (.if_icmp .eq 5, 3) := by decide +kernel
theorem dX4_firstFault_16 : decode cX4_firstFault 16 = .ok (.iload_n 3, 1) := by decide +kernel
theorem dX4_firstFault_17 : decode cX4_firstFault 17 = .ok (.ireturn, 1) := by decide +kernel
theorem dX4_firstFault_18 : decode cX4_firstFault 18 = .ok (.aload_n 0, 1) := by decide +kernel
theorem dX4_firstFault_19 : decode cX4_firstFault 19 = .ok (.iconst 1, 1) := by decide +kernel
theorem dX4_firstFault_20 : decode cX4_firstFault 20 = .ok (.invokevirtual 21, 3) := by decide +kernel
theorem dX4_firstFault_23 : decode cX4_firstFault 23 = .ok (.bipush 100, 2) := by decide +kernel
theorem dX4_firstFault_25 : decode cX4_firstFault 25 = .ok (.imul, 1) := by decide +kernel
theorem dX4_firstFault_26 : decode cX4_firstFault 26 = .ok (.aload_n 0, 1) := by decide +kernel
theorem dX4_firstFault_27 : decode cX4_firstFault 27 = .ok (.iconst 2, 1) := by decide +kernel
theorem dX4_firstFault_28 : decode cX4_firstFault 28 = .ok (.invokevirtual 21, 3) := by decide +kernel
theorem dX4_firstFault_31 : decode cX4_firstFault 31 = .ok (.bipush 10, 2) := by decide +kernel
theorem dX4_firstFault_33 : decode cX4_firstFault 33 = .ok (.imul, 1) := by decide +kernel
theorem dX4_firstFault_34 : decode cX4_firstFault 34 = .ok (.iadd, 1) := by decide +kernel
theorem dX4_firstFault_35 : decode cX4_firstFault 35 = .ok (.aload_n 0, 1) := by decide +kernel
theorem dX4_firstFault_36 : decode cX4_firstFault 36 = .ok (.iconst 3, 1) := by decide +kernel
theorem dX4_firstFault_37 : decode cX4_firstFault 37 = .ok (.invokevirtual 21, 3) := by decide +kernel
theorem dX4_firstFault_40 : decode cX4_firstFault 40 = .ok (.iadd, 1) := by decide +kernel
theorem dX4_firstFault_41 : decode cX4_firstFault 41 = .ok (.istore 4, 2) := by decide +kernel
theorem dX4_firstFault_43 : decode cX4_firstFault 43 = .ok (.aload_n 1, 1) := by decide +kernel
theorem dX4_firstFault_44 : decode cX4_firstFault 44 = .ok (.aload_n 0, 1) := by decide +kernel
theorem dX4_firstFault_45 : decode cX4_firstFault 45 = .ok (.iconst 4, 1) := by decide +kernel
theorem dX4_firstFault_46 : decode cX4_firstFault 46 = .ok (.invokevirtual 21, 3) := by decide +kernel
theorem dX4_firstFault_49 : decode cX4_firstFault 49 = .ok (.iload 4, 2) := by decide +kernel
theorem dX4_firstFault_51 : decode cX4_firstFault 51 = .ok (.invokevirtual 25, 3) := by decide +kernel
theorem dX4_firstFault_54 : decode cX4_firstFault 54 = .ok (.iconst 5, 1) := by decide +kernel
theorem dX4_firstFault_55 : decode cX4_firstFault 55 = .ok (.istore 5, 2) := by decide +kernel
theorem dX4_firstFault_57 : decode cX4_firstFault 57 = .ok (.iconst 5, 1) := by decide +kernel
theorem dX4_firstFault_58 : decode cX4_firstFault 58 = .ok (.istore 6, 2) := by decide +kernel
theorem dX4_firstFault_60 : decode cX4_firstFault 60 = .ok (.iload 6, 2) := by decide +kernel
theorem dX4_firstFault_62 : decode cX4_firstFault 62 = .ok (.iload_n 2, 1) := by decide +kernel
theorem dX4_firstFault_63 : decode cX4_firstFault 63 = .ok (.if_icmp .ge 74, 3) := by decide +kernel
theorem dX4_firstFault_66 : decode cX4_firstFault 66 = .ok (.aload_n 0, 1) := by decide +kernel
theorem dX4_firstFault_67 : decode cX4_firstFault 67 = .ok (.iload 6, 2) := by decide +kernel
theorem dX4_firstFault_69 : decode cX4_firstFault 69 = .ok (.invokevirtual 31, 3) := by decide +kernel
theorem dX4_firstFault_72 : decode cX4_firstFault 72 = .ok (.bipush 82, 2) := by decide +kernel
theorem dX4_firstFault_74 : decode cX4_firstFault 74 = .ok (.if_icmp .ne 7, 3) := by decide +kernel
theorem dX4_firstFault_77 : decode cX4_firstFault 77 = .ok (.iconst 1, 1) := by decide +kernel
theorem dX4_firstFault_78 : decode cX4_firstFault 78 = .ok (.goto 4, 3) := by decide +kernel
theorem dX4_firstFault_81 : decode cX4_firstFault 81 = .ok (.iconst 0, 1) := by decide +kernel
theorem dX4_firstFault_82 : decode cX4_firstFault 82 = .ok (.istore 7, 2) := by decide +kernel
theorem dX4_firstFault_84 : decode cX4_firstFault 84 = .ok (.iload 7, 2) := by decide +kernel
theorem dX4_firstFault_86 : decode cX4_firstFault 86 = .ok (.ifCond .eq 7, 3) := by decide +kernel
theorem dX4_firstFault_89 : decode cX4_firstFault 89 = .ok (.iconst 5, 1) := by decide +kernel
theorem dX4_firstFault_90 : decode cX4_firstFault 90 = .ok (.goto 4, 3) := by decide +kernel
theorem dX4_firstFault_93 : decode cX4_firstFault 93 = .ok (.iconst 4, 1) := by decide +kernel
theorem dX4_firstFault_94 : decode cX4_firstFault 94 = .ok (.istore 5, 2) := by decide +kernel
theorem dX4_firstFault_96 : decode cX4_firstFault 96 = .ok (.iload 7, 2) := by decide +kernel
theorem dX4_firstFault_98 : decode cX4_firstFault 98 = .ok (.ifCond .eq 13, 3) := by decide +kernel
theorem dX4_firstFault_101 : decode cX4_firstFault 101 = .ok (.aload_n 0, 1) := by decide +kernel
theorem dX4_firstFault_102 : decode cX4_firstFault 102 = .ok (.aload_n 1, 1) := by decide +kernel
theorem dX4_firstFault_103 : decode cX4_firstFault 103 = .ok (.iload 6, 2) := by decide +kernel
theorem dX4_firstFault_105 : decode cX4_firstFault 105 = .ok (.invokestatic 34, 3) := by decide +kernel
theorem dX4_firstFault_108 : decode cX4_firstFault 108 = .ok (.goto 10, 3) := by decide +kernel
theorem dX4_firstFault_111 : decode cX4_firstFault 111 = .ok (.aload_n 0, 1) := by decide +kernel
theorem dX4_firstFault_112 : decode cX4_firstFault 112 = .ok (.aload_n 1, 1) := by decide +kernel
theorem dX4_firstFault_113 : decode cX4_firstFault 113 = .ok (.iload 6, 2) := by decide +kernel
theorem dX4_firstFault_115 : decode cX4_firstFault 115 = .ok (.invokestatic 38, 3) := by decide +kernel
theorem dX4_firstFault_118 : decode cX4_firstFault 118 = .ok (.istore_n 3, 1) := by decide +kernel
theorem dX4_firstFault_119 : decode cX4_firstFault 119 = .ok (.iload_n 3, 1) := by decide +kernel
theorem dX4_firstFault_120 : decode cX4_firstFault 120 = .ok (.bipush (-9), 2) := by decide +kernel
theorem dX4_firstFault_122 : decode cX4_firstFault 122 = .ok (.if_icmp .eq 5, 3) := by decide +kernel
theorem dX4_firstFault_125 : decode cX4_firstFault 125 = .ok (.iload_n 3, 1) := by decide +kernel
theorem dX4_firstFault_126 : decode cX4_firstFault 126 = .ok (.ireturn, 1) := by decide +kernel
theorem dX4_firstFault_127 : decode cX4_firstFault 127 = .ok (.iload 6, 2) := by decide +kernel
theorem dX4_firstFault_129 : decode cX4_firstFault 129 = .ok (.iload 5, 2) := by decide +kernel
theorem dX4_firstFault_131 : decode cX4_firstFault 131 = .ok (.iadd, 1) := by decide +kernel
theorem dX4_firstFault_132 : decode cX4_firstFault 132 = .ok (.istore 6, 2) := by decide +kernel
theorem dX4_firstFault_134 : decode cX4_firstFault 134 = .ok (.goto (-74), 3) := by decide +kernel
theorem dX4_firstFault_137 : decode cX4_firstFault 137 = .ok (.bipush (-9), 2) := by decide +kernel
theorem dX4_firstFault_139 : decode cX4_firstFault 139 = .ok (.ireturn, 1) := by decide +kernel
theorem dX4_headFault_0 : decode cX4_headFault 0 = .ok (.iconst 0, 1) := by decide +kernel
theorem dX4_headFault_1 : decode cX4_headFault 1 = .ok (.istore_n 1, 1) := by decide +kernel
theorem dX4_headFault_2 : decode cX4_headFault 2 = .ok (.iload_n 1, 1) := by decide +kernel
theorem dX4_headFault_3 : decode cX4_headFault 3 = .ok (.iconst 5, 1) := by decide +kernel
theorem dX4_headFault_4 : decode cX4_headFault 4 = .ok (.if_icmp .ge 19, 3) := by decide +kernel
theorem dX4_headFault_7 : decode cX4_headFault 7 = .ok (.aload_n 0, 1) := by decide +kernel
theorem dX4_headFault_8 : decode cX4_headFault 8 = .ok (.iload_n 1, 1) := by decide +kernel
theorem dX4_headFault_9 : decode cX4_headFault 9 = .ok (.invokestatic 41, 3) := by decide +kernel
theorem dX4_headFault_12 : decode cX4_headFault 12 = .ok (.ifCond .ne 5, 3) := by decide +kernel
theorem dX4_headFault_15 : decode cX4_headFault 15 = .ok (.iload_n 1, 1) := by decide +kernel
theorem dX4_headFault_16 : decode cX4_headFault 16 = .ok (.ireturn, 1) := by decide +kernel
theorem dX4_headFault_17 : decode cX4_headFault 17 = .ok (.iinc 1 1, 3) := by decide +kernel
theorem dX4_headFault_20 : decode cX4_headFault 20 = .ok (.goto (-18), 3) := by decide +kernel
theorem dX4_headFault_23 : decode cX4_headFault 23 = .ok (.bipush (-9), 2) := by decide +kernel
theorem dX4_headFault_25 : decode cX4_headFault 25 = .ok (.ireturn, 1) := by decide +kernel
theorem dX4_fitsHead_0 : decode cX4_fitsHead 0 = .ok (.iload_n 1, 1) := by decide +kernel
theorem dX4_fitsHead_1 : decode cX4_fitsHead 1 = .ok (.ifCond .ne 19, 3) := by decide +kernel
theorem dX4_fitsHead_4 : decode cX4_fitsHead 4 = .ok (.aload_n 0, 1) := by decide +kernel
theorem dX4_fitsHead_5 : decode cX4_fitsHead 5 = .ok (.iconst 0, 1) := by decide +kernel
theorem dX4_fitsHead_6 : decode cX4_fitsHead 6 = .ok (.invokevirtual 31, 3) := by decide +kernel
theorem dX4_fitsHead_9 : decode cX4_fitsHead 9 = .ok (.bipush 86, 2) := by decide +kernel
theorem dX4_fitsHead_11 : decode cX4_fitsHead 11 = .ok (.if_icmp .ne 7, 3) := by decide +kernel
theorem dX4_fitsHead_14 : decode cX4_fitsHead 14 = .ok (.iconst 1, 1) := by decide +kernel
theorem dX4_fitsHead_15 : decode cX4_fitsHead 15 = .ok (.goto 4, 3) := by decide +kernel
theorem dX4_fitsHead_18 : decode cX4_fitsHead 18 = .ok (.iconst 0, 1) := by decide +kernel
theorem dX4_fitsHead_19 : decode cX4_fitsHead 19 = .ok (.ireturn, 1) := by decide +kernel
theorem dX4_fitsHead_20 : decode cX4_fitsHead 20 = .ok (.aload_n 0, 1) := by decide +kernel
theorem dX4_fitsHead_21 : decode cX4_fitsHead 21 = .ok (.iload_n 1, 1) := by decide +kernel
theorem dX4_fitsHead_22 : decode cX4_fitsHead 22 = .ok (.invokevirtual 21, 3) := by decide +kernel
theorem dX4_fitsHead_25 : decode cX4_fitsHead 25 = .ok (.istore_n 2, 1) := by decide +kernel
theorem dX4_fitsHead_26 : decode cX4_fitsHead 26 = .ok (.iload_n 1, 1) := by decide +kernel
theorem dX4_fitsHead_27 : decode cX4_fitsHead 27 = .ok (.iconst 4, 1) := by decide +kernel
theorem dX4_fitsHead_28 : decode cX4_fitsHead 28 = .ok (.if_icmp .ge 13, 3) := by decide +kernel
theorem dX4_fitsHead_31 : decode cX4_fitsHead 31 = .ok (.iload_n 2, 1) := by decide +kernel
theorem dX4_fitsHead_32 : decode cX4_fitsHead 32 = .ok (.ifCond .lt 7, 3) := by decide +kernel
theorem dX4_fitsHead_35 : decode cX4_fitsHead 35 = .ok (.iconst 1, 1) := by decide +kernel
theorem dX4_fitsHead_36 : decode cX4_fitsHead 36 = .ok (.goto 4, 3) := by decide +kernel
theorem dX4_fitsHead_39 : decode cX4_fitsHead 39 = .ok (.iconst 0, 1) := by decide +kernel
theorem dX4_fitsHead_40 : decode cX4_fitsHead 40 = .ok (.ireturn, 1) := by decide +kernel
theorem dX4_fitsHead_41 : decode cX4_fitsHead 41 = .ok (.iload_n 2, 1) := by decide +kernel
theorem dX4_fitsHead_42 : decode cX4_fitsHead 42 = .ok (.iconst 2, 1) := by decide +kernel
theorem dX4_fitsHead_43 : decode cX4_fitsHead 43 = .ok (.if_icmp .lt 13, 3) := by decide +kernel
theorem dX4_fitsHead_46 : decode cX4_fitsHead 46 = .ok (.iload_n 2, 1) := by decide +kernel
theorem dX4_fitsHead_47 : decode cX4_fitsHead 47 = .ok (.bipush 6, 2) := by decide +kernel
theorem dX4_fitsHead_49 : decode cX4_fitsHead 49 = .ok (.if_icmp .gt 7, 3) := by decide +kernel
theorem dX4_fitsHead_52 : decode cX4_fitsHead 52 = .ok (.iconst 1, 1) := by decide +kernel
theorem dX4_fitsHead_53 : decode cX4_fitsHead 53 = .ok (.goto 4, 3) := by decide +kernel
theorem dX4_fitsHead_56 : decode cX4_fitsHead 56 = .ok (.iconst 0, 1) := by decide +kernel
theorem dX4_fitsHead_57 : decode cX4_fitsHead 57 = .ok (.ireturn, 1) := by decide +kernel
theorem dX4_readRoad_0 : decode cX4_readRoad 0 = .ok (.aload_n 1, 1) := by decide +kernel
theorem dX4_readRoad_1 : decode cX4_readRoad 1 = .ok (.invokevirtual 45, 3) := by decide +kernel
theorem dX4_readRoad_4 : decode cX4_readRoad 4 = .ok (.ifCond .ne 5, 3) := by decide +kernel
theorem dX4_readRoad_7 : decode cX4_readRoad 7 = .ok (.iload_n 2, 1) := by decide +kernel
theorem dX4_readRoad_8 : decode cX4_readRoad 8 = .ok (.ireturn, 1) := by decide +kernel
theorem dX4_readRoad_9 : decode cX4_readRoad 9 = .ok (.aload_n 0, 1) := by decide +kernel
theorem dX4_readRoad_10 : decode cX4_readRoad 10 = .ok (.iload_n 2, 1) := by decide +kernel
theorem dX4_readRoad_11 : decode cX4_readRoad 11 = .ok (.iconst 1, 1) := by decide +kernel
theorem dX4_readRoad_12 : decode cX4_readRoad 12 = .ok (.iadd, 1) := by decide +kernel
theorem dX4_readRoad_13 : decode cX4_readRoad 13 = .ok (.invokevirtual 21, 3) := by decide +kernel
theorem dX4_readRoad_16 : decode cX4_readRoad 16 = .ok (.istore_n 3, 1) := by decide +kernel
theorem dX4_readRoad_17 : decode cX4_readRoad 17 = .ok (.aload_n 1, 1) := by decide +kernel
theorem dX4_readRoad_18 : decode cX4_readRoad 18 = .ok (.iload_n 3, 1) := by decide +kernel
theorem dX4_readRoad_19 : decode cX4_readRoad 19 = .ok (.invokevirtual 49, 3) := by decide +kernel
theorem dX4_readRoad_22 : decode cX4_readRoad 22 = .ok (.ifCond .ne 7, 3) := by decide +kernel
theorem dX4_readRoad_25 : decode cX4_readRoad 25 = .ok (.iload_n 2, 1) := by decide +kernel
theorem dX4_readRoad_26 : decode cX4_readRoad 26 = .ok (.iconst 1, 1) := by decide +kernel
theorem dX4_readRoad_27 : decode cX4_readRoad 27 = .ok (.iadd, 1) := by decide +kernel
theorem dX4_readRoad_28 : decode cX4_readRoad 28 = .ok (.ireturn, 1) := by decide +kernel
theorem dX4_readRoad_29 : decode cX4_readRoad 29 = .ok (.aload_n 0, 1) := by decide +kernel
theorem dX4_readRoad_30 : decode cX4_readRoad 30 = .ok (.iload_n 2, 1) := by decide +kernel
theorem dX4_readRoad_31 : decode cX4_readRoad 31 = .ok (.iconst 2, 1) := by decide +kernel
theorem dX4_readRoad_32 : decode cX4_readRoad 32 = .ok (.iadd, 1) := by decide +kernel
theorem dX4_readRoad_33 : decode cX4_readRoad 33 = .ok (.invokevirtual 21, 3) := by decide +kernel
theorem dX4_readRoad_36 : decode cX4_readRoad 36 = .ok (.istore 4, 2) := by decide +kernel
theorem dX4_readRoad_38 : decode cX4_readRoad 38 = .ok (.aload_n 1, 1) := by decide +kernel
theorem dX4_readRoad_39 : decode cX4_readRoad 39 = .ok (.iload_n 3, 1) := by decide +kernel
theorem dX4_readRoad_40 : decode cX4_readRoad 40 = .ok (.iload 4, 2) := by decide +kernel
theorem dX4_readRoad_42 : decode cX4_readRoad 42 = .ok (.invokevirtual 53, 3) := by decide +kernel
theorem dX4_readRoad_45 : decode cX4_readRoad 45 = .ok (.ifCond .ne 7, 3) := by decide +kernel
theorem dX4_readRoad_48 : decode cX4_readRoad 48 = .ok (.iload_n 2, 1) := by decide +kernel
theorem dX4_readRoad_49 : decode cX4_readRoad 49 = .ok (.iconst 2, 1) := by decide +kernel
theorem dX4_readRoad_50 : decode cX4_readRoad 50 = .ok (.iadd, 1) := by decide +kernel
theorem dX4_readRoad_51 : decode cX4_readRoad 51 = .ok (.ireturn, 1) := by decide +kernel
theorem dX4_readRoad_52 : decode cX4_readRoad 52 = .ok (.aload_n 0, 1) := by decide +kernel
theorem dX4_readRoad_53 : decode cX4_readRoad 53 = .ok (.iload_n 2, 1) := by decide +kernel
theorem dX4_readRoad_54 : decode cX4_readRoad 54 = .ok (.iconst 3, 1) := by decide +kernel
theorem dX4_readRoad_55 : decode cX4_readRoad 55 = .ok (.iadd, 1) := by decide +kernel
theorem dX4_readRoad_56 : decode cX4_readRoad 56 = .ok (.invokevirtual 21, 3) := by decide +kernel
theorem dX4_readRoad_59 : decode cX4_readRoad 59 = .ok (.istore 5, 2) := by decide +kernel
theorem dX4_readRoad_61 : decode cX4_readRoad 61 = .ok (.iload 5, 2) := by decide +kernel
theorem dX4_readRoad_63 : decode cX4_readRoad 63 = .ok (.ifCond .ge 7, 3) := by decide +kernel
theorem dX4_readRoad_66 : decode cX4_readRoad 66 = .ok (.iload_n 2, 1) := by decide +kernel
theorem dX4_readRoad_67 : decode cX4_readRoad 67 = .ok (.iconst 3, 1) := by decide +kernel
theorem dX4_readRoad_68 : decode cX4_readRoad 68 = .ok (.iadd, 1) := by decide +kernel
theorem dX4_readRoad_69 : decode cX4_readRoad 69 = .ok (.ireturn, 1) := by decide +kernel
theorem dX4_readRoad_70 : decode cX4_readRoad 70 = .ok (.aload_n 0, 1) := by decide +kernel
theorem dX4_readRoad_71 : decode cX4_readRoad 71 = .ok (.iload_n 2, 1) := by decide +kernel
theorem dX4_readRoad_72 : decode cX4_readRoad 72 = .ok (.iconst 4, 1) := by decide +kernel
theorem dX4_readRoad_73 : decode cX4_readRoad 73 = .ok (.iadd, 1) := by decide +kernel
theorem dX4_readRoad_74 : decode cX4_readRoad 74 = .ok (.invokevirtual 21, 3) := by decide +kernel
theorem dX4_readRoad_77 : decode cX4_readRoad 77 = .ok (.istore 6, 2) := by decide +kernel
theorem dX4_readRoad_79 : decode cX4_readRoad 79 = .ok (.iload 6, 2) := by decide +kernel
theorem dX4_readRoad_81 : decode cX4_readRoad 81 = .ok (.ifCond .lt 11, 3) := by decide +kernel
theorem dX4_readRoad_84 : decode cX4_readRoad 84 = .ok (.iload 5, 2) := by decide +kernel
theorem dX4_readRoad_86 : decode cX4_readRoad 86 = .ok (.iload 6, 2) := by decide +kernel
theorem dX4_readRoad_88 : decode cX4_readRoad 88 = .ok (.iadd, 1) := by decide +kernel
theorem dX4_readRoad_89 : decode cX4_readRoad 89 = .ok (.ifCond .ne 7, 3) := by decide +kernel
theorem dX4_readRoad_92 : decode cX4_readRoad 92 = .ok (.iload_n 2, 1) := by decide +kernel
theorem dX4_readRoad_93 : decode cX4_readRoad 93 = .ok (.iconst 4, 1) := by decide +kernel
theorem dX4_readRoad_94 : decode cX4_readRoad 94 = .ok (.iadd, 1) := by decide +kernel
theorem dX4_readRoad_95 : decode cX4_readRoad 95 = .ok (.ireturn, 1) := by decide +kernel
theorem dX4_readRoad_96 : decode cX4_readRoad 96 = .ok (.aload_n 1, 1) := by decide +kernel
theorem dX4_readRoad_97 : decode cX4_readRoad 97 = .ok (.iload_n 3, 1) := by decide +kernel
theorem dX4_readRoad_98 : decode cX4_readRoad 98 = .ok (.iload 4, 2) := by decide +kernel
theorem dX4_readRoad_100 : decode cX4_readRoad 100 = .ok (.iload 5, 2) := by decide +kernel
theorem dX4_readRoad_102 : decode cX4_readRoad 102 = .ok (.bipush 10, 2) := by decide +kernel
theorem dX4_readRoad_104 : decode cX4_readRoad 104 = .ok (.imul, 1) := by decide +kernel
theorem dX4_readRoad_105 : decode cX4_readRoad 105 = .ok (.iload 6, 2) := by decide +kernel
theorem dX4_readRoad_107 : decode cX4_readRoad 107 = .ok (.iadd, 1) := by decide +kernel
theorem dX4_readRoad_108 : decode cX4_readRoad 108 = .ok (.invokevirtual 57, 3) := by decide +kernel
theorem dX4_readRoad_111 : decode cX4_readRoad 111 = .ok (.bipush (-9), 2) := by decide +kernel
theorem dX4_readRoad_113 : decode cX4_readRoad 113 = .ok (.ireturn, 1) := by decide +kernel
theorem dX4_readErrand_0 : decode cX4_readErrand 0 = .ok (.aload_n 0, 1) := by decide +kernel
theorem dX4_readErrand_1 : decode cX4_readErrand 1 = .ok (.iload_n 2, 1) := by decide +kernel
theorem dX4_readErrand_2 : decode cX4_readErrand 2 = .ok (.invokevirtual 31, 3) := by decide +kernel
theorem dX4_readErrand_5 : decode cX4_readErrand 5 = .ok (.bipush 69, 2) := by decide +kernel
theorem dX4_readErrand_7 : decode cX4_readErrand 7 = .ok (.if_icmp .ne 10, 3) := by decide +kernel
theorem dX4_readErrand_10 : decode cX4_readErrand 10 = .ok (.aload_n 1, 1) := by decide +kernel
theorem dX4_readErrand_11 : decode cX4_readErrand 11 = .ok (.invokevirtual 61, 3) := by decide +kernel
theorem dX4_readErrand_14 : decode cX4_readErrand 14 = .ok (.ifCond .ne 5, 3) := by decide +kernel
theorem dX4_readErrand_17 : decode cX4_readErrand 17 = .ok (.iload_n 2, 1) := by decide +kernel
theorem dX4_readErrand_18 : decode cX4_readErrand 18 = .ok (.ireturn, 1) := by decide +kernel
theorem dX4_readErrand_19 : decode cX4_readErrand 19 = .ok (.aload_n 0, 1) := by decide +kernel
theorem dX4_readErrand_20 : decode cX4_readErrand 20 = .ok (.iload_n 2, 1) := by decide +kernel
theorem dX4_readErrand_21 : decode cX4_readErrand 21 = .ok (.iconst 1, 1) := by decide +kernel
theorem dX4_readErrand_22 : decode cX4_readErrand 22 = .ok (.iadd, 1) := by decide +kernel
theorem dX4_readErrand_23 : decode cX4_readErrand 23 = .ok (.invokevirtual 21, 3) := by decide +kernel
theorem dX4_readErrand_26 : decode cX4_readErrand 26 = .ok (.istore_n 3, 1) := by decide +kernel
theorem dX4_readErrand_27 : decode cX4_readErrand 27 = .ok (.aload_n 1, 1) := by decide +kernel
theorem dX4_readErrand_28 : decode cX4_readErrand 28 = .ok (.iload_n 3, 1) := by decide +kernel
theorem dX4_readErrand_29 : decode cX4_readErrand 29 = .ok (.invokevirtual 64, 3) := by decide +kernel
theorem dX4_readErrand_32 : decode cX4_readErrand 32 = .ok (.ifCond .ne 7, 3) := by decide +kernel
theorem dX4_readErrand_35 : decode cX4_readErrand 35 = .ok (.iload_n 2, 1) := by decide +kernel
theorem dX4_readErrand_36 : decode cX4_readErrand 36 = .ok (.iconst 1, 1) := by decide +kernel
theorem dX4_readErrand_37 : decode cX4_readErrand 37 = .ok (.iadd, 1) := by decide +kernel
theorem dX4_readErrand_38 : decode cX4_readErrand 38 = .ok (.ireturn, 1) := by decide +kernel
theorem dX4_readErrand_39 : decode cX4_readErrand 39 = .ok (.aload_n 0, 1) := by decide +kernel
theorem dX4_readErrand_40 : decode cX4_readErrand 40 = .ok (.iload_n 2, 1) := by decide +kernel
theorem dX4_readErrand_41 : decode cX4_readErrand 41 = .ok (.iconst 2, 1) := by decide +kernel
theorem dX4_readErrand_42 : decode cX4_readErrand 42 = .ok (.iadd, 1) := by decide +kernel
theorem dX4_readErrand_43 : decode cX4_readErrand 43 = .ok (.invokevirtual 21, 3) := by decide +kernel
theorem dX4_readErrand_46 : decode cX4_readErrand 46 = .ok (.istore 4, 2) := by decide +kernel
theorem dX4_readErrand_48 : decode cX4_readErrand 48 = .ok (.iload 4, 2) := by decide +kernel
theorem dX4_readErrand_50 : decode cX4_readErrand 50 = .ok (.ifCond .ge 7, 3) := by decide +kernel
theorem dX4_readErrand_53 : decode cX4_readErrand 53 = .ok (.iload_n 2, 1) := by decide +kernel
theorem dX4_readErrand_54 : decode cX4_readErrand 54 = .ok (.iconst 2, 1) := by decide +kernel
theorem dX4_readErrand_55 : decode cX4_readErrand 55 = .ok (.iadd, 1) := by decide +kernel
theorem dX4_readErrand_56 : decode cX4_readErrand 56 = .ok (.ireturn, 1) := by decide +kernel
theorem dX4_readErrand_57 : decode cX4_readErrand 57 = .ok (.aload_n 0, 1) := by decide +kernel
theorem dX4_readErrand_58 : decode cX4_readErrand 58 = .ok (.iload_n 2, 1) := by decide +kernel
theorem dX4_readErrand_59 : decode cX4_readErrand 59 = .ok (.iconst 3, 1) := by decide +kernel
theorem dX4_readErrand_60 : decode cX4_readErrand 60 = .ok (.iadd, 1) := by decide +kernel
theorem dX4_readErrand_61 : decode cX4_readErrand 61 = .ok (.invokevirtual 21, 3) := by decide +kernel
theorem dX4_readErrand_64 : decode cX4_readErrand 64 = .ok (.istore 5, 2) := by decide +kernel
theorem dX4_readErrand_66 : decode cX4_readErrand 66 = .ok (.iload 5, 2) := by decide +kernel
theorem dX4_readErrand_68 : decode cX4_readErrand 68 = .ok (.ifCond .lt 9, 3) := by decide +kernel
theorem dX4_readErrand_71 : decode cX4_readErrand 71 = .ok (.iload 5, 2) := by decide +kernel
theorem dX4_readErrand_73 : decode cX4_readErrand 73 = .ok (.iconst 2, 1) := by decide +kernel
theorem dX4_readErrand_74 : decode cX4_readErrand 74 = .ok (.if_icmp .le 7, 3) := by decide +kernel
theorem dX4_readErrand_77 : decode cX4_readErrand 77 = .ok (.iload_n 2, 1) := by decide +kernel
theorem dX4_readErrand_78 : decode cX4_readErrand 78 = .ok (.iconst 3, 1) := by decide +kernel
theorem dX4_readErrand_79 : decode cX4_readErrand 79 = .ok (.iadd, 1) := by decide +kernel
theorem dX4_readErrand_80 : decode cX4_readErrand 80 = .ok (.ireturn, 1) := by decide +kernel
theorem dX4_readErrand_81 : decode cX4_readErrand 81 = .ok (.aload_n 1, 1) := by decide +kernel
theorem dX4_readErrand_82 : decode cX4_readErrand 82 = .ok (.iload_n 3, 1) := by decide +kernel
theorem dX4_readErrand_83 : decode cX4_readErrand 83 = .ok (.iload 4, 2) := by decide +kernel
theorem dX4_readErrand_85 : decode cX4_readErrand 85 = .ok (.iload 5, 2) := by decide +kernel
theorem dX4_readErrand_87 : decode cX4_readErrand 87 = .ok (.invokevirtual 67, 3) := by decide +kernel
theorem dX4_readErrand_90 : decode cX4_readErrand 90 = .ok (.bipush (-9), 2) := by decide +kernel
theorem dX4_readErrand_92 : decode cX4_readErrand 92 = .ok (.ireturn, 1) := by decide +kernel
theorem dX5_init_0 : decode cX5_init 0 = .ok (.aload_n 0, 1) := by decide +kernel
theorem dX5_init_1 : decode cX5_init 1 = .ok (.invokespecial 3, 3) := by decide +kernel
theorem dX5_init_4 : decode cX5_init 4 = .ok (.aload_n 0, 1) := by decide +kernel
theorem dX5_init_5 : decode cX5_init 5 = .ok (.sipush 6000, 3) := by decide +kernel
theorem dX5_init_8 : decode cX5_init 8 = .ok (.newarray .int, 2) := by decide +kernel
theorem dX5_init_10 : decode cX5_init 10 = .ok (.putfield 11, 3) := by decide +kernel
theorem dX5_init_13 : decode cX5_init 13 = .ok (.aload_n 0, 1) := by decide +kernel
theorem dX5_init_14 : decode cX5_init 14 = .ok (.sipush 6000, 3) := by decide +kernel
theorem dX5_init_17 : decode cX5_init 17 = .ok (.newarray .int, 2) := by decide +kernel
theorem dX5_init_19 : decode cX5_init 19 = .ok (.putfield 15, 3) := by decide +kernel
theorem dX5_init_22 : decode cX5_init 22 = .ok (.return_, 1) := by decide +kernel
theorem dX5_count_0 : decode cX5_count 0 = .ok (.aload_n 0, 1) := by decide +kernel
theorem dX5_count_1 : decode cX5_count 1 = .ok (.iconst 0, 1) := by decide +kernel
theorem dX5_count_2 : decode cX5_count 2 = .ok (.putfield 18, 3) := by decide +kernel
theorem dX5_count_5 : decode cX5_count 5 = .ok (.aload_n 0, 1) := by decide +kernel
theorem dX5_count_6 : decode cX5_count 6 = .ok (.aload_n 0, 1) := by decide +kernel
theorem dX5_count_7 : decode cX5_count 7 = .ok (.getfield 11, 3) := by decide +kernel
theorem dX5_count_10 : decode cX5_count 10 = .ok (.invokevirtual 22, 3) := by decide +kernel
theorem dX5_count_13 : decode cX5_count 13 = .ok (.aload_n 1, 1) := by decide +kernel
theorem dX5_count_14 : decode cX5_count 14 = .ok (.iload_n 2, 1) := by decide +kernel
theorem dX5_count_15 : decode cX5_count 15 = .ok (.invokevirtual 26, 3) := by decide +kernel
theorem dX5_count_18 : decode cX5_count 18 = .ok (.ifCond .eq 14, 3) := by decide +kernel
theorem dX5_count_21 : decode cX5_count 21 = .ok (.aload_n 0, 1) := by decide +kernel
theorem dX5_count_22 : decode cX5_count 22 = .ok (.getfield 11, 3) := by decide +kernel
theorem dX5_count_25 : decode cX5_count 25 = .ok (.iload_n 2, 1) := by decide +kernel
theorem dX5_count_26 : decode cX5_count 26 = .ok (.sipush 1000, 3) := by decide +kernel
theorem dX5_count_29 : decode cX5_count 29 = .ok (.imul, 1) := by decide +kernel
theorem dX5_count_30 : decode cX5_count 30 = .ok (.iconst 1, 1) := by decide +kernel
theorem dX5_count_31 : decode cX5_count 31 = .ok (.iastore, 1) := by decide +kernel
theorem dX5_count_32 : decode cX5_count 32 = .ok (.iconst 0, 1) := by decide +kernel
theorem dX5_count_33 : decode cX5_count 33 = .ok (.istore 5, 2) := by decide +kernel
theorem dX5_count_35 : decode cX5_count 35 = .ok (.iload 5, 2) := by decide +kernel
theorem dX5_count_37 : decode cX5_count 37 = .ok (.iload_n 3, 1) := by decide +kernel
theorem dX5_count_38 : decode cX5_count 38 = .ok (.if_icmp .ge 99, 3) := by decide +kernel
theorem dX5_count_41 : decode cX5_count 41 = .ok (.iload 5, 2) := by decide +kernel
theorem dX5_count_43 : decode cX5_count 43 = .ok (.bipush 8, 2) := by decide +kernel
theorem dX5_count_45 : decode cX5_count 45 = .ok (.if_icmp .ge 92, 3) := by decide +kernel
theorem dX5_count_48 : decode cX5_count 48 = .ok (.aload_n 0, 1) := by decide +kernel
theorem dX5_count_49 : decode cX5_count 49 = .ok (.getfield 18, 3) := by decide +kernel
theorem dX5_count_52 : decode cX5_count 52 = .ok (.istore 6, 2) := by decide +kernel
theorem dX5_count_54 : decode cX5_count 54 = .ok (.aload_n 0, 1) := by decide +kernel
theorem dX5_count_55 : decode cX5_count 55 = .ok (.iload 4, 2) := by decide +kernel
theorem dX5_count_57 : decode cX5_count 57 = .ok (.sipush 999, 3) := by decide +kernel
theorem dX5_count_60 : decode cX5_count 60 = .ok (.invokestatic 32, 3) := by decide +kernel
theorem dX5_count_63 : decode cX5_count 63 = .ok (.iload 6, 2) := by decide +kernel
theorem dX5_count_65 : decode cX5_count 65 = .ok (.aload_n 1, 1) := by decide +kernel
theorem dX5_count_66 : decode cX5_count 66 = .ok (.invokevirtual 38, 3) := by decide +kernel
theorem dX5_count_69 : decode cX5_count 69 = .ok (.iadd, 1) := by decide +kernel
theorem dX5_count_70 : decode cX5_count 70 = .ok (.invokestatic 32, 3) := by decide +kernel
theorem dX5_count_73 : decode cX5_count 73 = .ok (.putfield 18, 3) := by decide +kernel
theorem dX5_count_76 : decode cX5_count 76 = .ok (.aload_n 0, 1) := by decide +kernel
theorem dX5_count_77 : decode cX5_count 77 = .ok (.aload_n 0, 1) := by decide +kernel
theorem dX5_count_78 : decode cX5_count 78 = .ok (.getfield 15, 3) := by decide +kernel
theorem dX5_count_81 : decode cX5_count 81 = .ok (.invokevirtual 22, 3) := by decide +kernel
theorem dX5_count_84 : decode cX5_count 84 = .ok (.iconst 0, 1) := by decide +kernel
theorem dX5_count_85 : decode cX5_count 85 = .ok (.istore 7, 2) := by decide +kernel
theorem dX5_count_87 : decode cX5_count 87 = .ok (.iload 7, 2) := by decide +kernel
theorem dX5_count_89 : decode cX5_count 89 = .ok (.aload_n 1, 1) := by decide +kernel
theorem dX5_count_90 : decode cX5_count 90 = .ok (.getfield 42, 3) := by decide +kernel
theorem dX5_count_93 : decode cX5_count 93 = .ok (.if_icmp .ge 18, 3) := by decide +kernel
theorem dX5_count_96 : decode cX5_count 96 = .ok (.aload_n 0, 1) := by decide +kernel
theorem dX5_count_97 : decode cX5_count 97 = .ok (.aload_n 1, 1) := by decide +kernel
theorem dX5_count_98 : decode cX5_count 98 = .ok (.iload 7, 2) := by decide +kernel
theorem dX5_count_100 : decode cX5_count 100 = .ok (.iload 6, 2) := by decide +kernel
theorem dX5_count_102 : decode cX5_count 102 = .ok (.invokevirtual 45, 3) := by decide +kernel
theorem dX5_count_105 : decode cX5_count 105 = .ok (.iinc 7 1, 3) := by decide +kernel
theorem dX5_count_108 : decode cX5_count 108 = .ok (.goto (-21), 3) := by decide +kernel
theorem dX5_count_111 : decode cX5_count 111 = .ok (.aload_n 0, 1) := by decide +kernel
theorem dX5_count_112 : decode cX5_count 112 = .ok (.getfield 11, 3) := by decide +kernel
theorem dX5_count_115 : decode cX5_count 115 = .ok (.astore 7, 2) := by decide +kernel
theorem dX5_count_117 : decode cX5_count 117 = .ok (.aload_n 0, 1) := by decide +kernel
theorem dX5_count_118 : decode cX5_count 118 = .ok (.aload_n 0, 1) := by decide +kernel
theorem dX5_count_119 : decode cX5_count 119 = .ok (.getfield 15, 3) := by decide +kernel
theorem dX5_count_122 : decode cX5_count 122 = .ok (.putfield 11, 3) := by decide +kernel
theorem dX5_count_125 : decode cX5_count 125 = .ok (.aload_n 0, 1) := by decide +kernel
theorem dX5_count_126 : decode cX5_count 126 = .ok (.aload 7, 2) := by decide +kernel
theorem dX5_count_128 : decode cX5_count 128 = .ok (.putfield 15, 3) := by decide +kernel
theorem dX5_count_131 : decode cX5_count 131 = .ok (.iinc 5 1, 3) := by decide +kernel
theorem dX5_count_134 : decode cX5_count 134 = .ok (.goto (-99), 3) := by decide +kernel
theorem dX5_count_137 : decode cX5_count 137 = .ok (.return_, 1) := by decide +kernel
theorem dX5_goOn_0 : decode cX5_goOn 0 = .ok (.iconst 0, 1) := by decide +kernel
theorem dX5_goOn_1 : decode cX5_goOn 1 = .ok (.istore 4, 2) := by decide +kernel
theorem dX5_goOn_3 : decode cX5_goOn 3 = .ok (.iload 4, 2) := by decide +kernel
theorem dX5_goOn_5 : decode cX5_goOn 5 = .ok (.aload_n 1, 1) := by decide +kernel
theorem dX5_goOn_6 : decode cX5_goOn 6 = .ok (.getfield 42, 3) := by decide +kernel
theorem dX5_goOn_9 : decode cX5_goOn 9 = .ok (.if_icmp .ge 91, 3) := by decide +kernel
theorem dX5_goOn_12 : decode cX5_goOn 12 = .ok (.aload_n 1, 1) := by decide +kernel
theorem dX5_goOn_13 : decode cX5_goOn 13 = .ok (.iload_n 2, 1) := by decide +kernel
theorem dX5_goOn_14 : decode cX5_goOn 14 = .ok (.iload 4, 2) := by decide +kernel
theorem dX5_goOn_16 : decode cX5_goOn 16 = .ok (.invokevirtual 49, 3) := by decide +kernel
theorem dX5_goOn_19 : decode cX5_goOn 19 = .ok (.istore 5, 2) := by decide +kernel
theorem dX5_goOn_21 : decode cX5_goOn 21 = .ok (.iload 4, 2) := by decide +kernel
theorem dX5_goOn_23 : decode cX5_goOn 23 = .ok (.iload_n 2, 1) := by decide +kernel
theorem dX5_goOn_24 : decode cX5_goOn 24 = .ok (.if_icmp .eq 70, 3) := by decide +kernel
theorem dX5_goOn_27 : decode cX5_goOn 27 = .ok (.iload 5, 2) := by decide +kernel
theorem dX5_goOn_29 : decode cX5_goOn 29 = .ok (.ldc 52, 2) := by decide +kernel
theorem dX5_goOn_31 : decode cX5_goOn 31 = .ok (.if_icmp .ge 63, 3) := by decide +kernel
theorem dX5_goOn_34 : decode cX5_goOn 34 = .ok (.iconst 0, 1) := by decide +kernel
theorem dX5_goOn_35 : decode cX5_goOn 35 = .ok (.istore 6, 2) := by decide +kernel
theorem dX5_goOn_37 : decode cX5_goOn 37 = .ok (.iload 6, 2) := by decide +kernel
theorem dX5_goOn_39 : decode cX5_goOn 39 = .ok (.iload_n 3, 1) := by decide +kernel
theorem dX5_goOn_40 : decode cX5_goOn 40 = .ok (.if_icmp .gt 54, 3) := by decide +kernel
theorem dX5_goOn_43 : decode cX5_goOn 43 = .ok (.iload 6, 2) := by decide +kernel
theorem dX5_goOn_45 : decode cX5_goOn 45 = .ok (.iload 5, 2) := by decide +kernel
theorem dX5_goOn_47 : decode cX5_goOn 47 = .ok (.iadd, 1) := by decide +kernel
theorem dX5_goOn_48 : decode cX5_goOn 48 = .ok (.aload_n 0, 1) := by decide +kernel
theorem dX5_goOn_49 : decode cX5_goOn 49 = .ok (.getfield 18, 3) := by decide +kernel
theorem dX5_goOn_52 : decode cX5_goOn 52 = .ok (.if_icmp .gt 42, 3) := by decide +kernel
theorem dX5_goOn_55 : decode cX5_goOn 55 = .ok (.aload_n 0, 1) := by decide +kernel
theorem dX5_goOn_56 : decode cX5_goOn 56 = .ok (.getfield 15, 3) := by decide +kernel
theorem dX5_goOn_59 : decode cX5_goOn 59 = .ok (.iload 4, 2) := by decide +kernel
theorem dX5_goOn_61 : decode cX5_goOn 61 = .ok (.sipush 1000, 3) := by decide +kernel
theorem dX5_goOn_64 : decode cX5_goOn 64 = .ok (.imul, 1) := by decide +kernel
theorem dX5_goOn_65 : decode cX5_goOn 65 = .ok (.iload 6, 2) := by decide +kernel
theorem dX5_goOn_67 : decode cX5_goOn 67 = .ok (.iadd, 1) := by decide +kernel
theorem dX5_goOn_68 : decode cX5_goOn 68 = .ok (.iload 5, 2) := by decide +kernel
theorem dX5_goOn_70 : decode cX5_goOn 70 = .ok (.iadd, 1) := by decide +kernel
theorem dX5_goOn_71 : decode cX5_goOn 71 = .ok (.dup2, 1) := by decide +kernel
theorem dX5_goOn_72 : decode cX5_goOn 72 = .ok (.iaload, 1) := by decide +kernel
theorem dX5_goOn_73 : decode cX5_goOn 73 = .ok (.aload_n 0, 1) := by decide +kernel
theorem dX5_goOn_74 : decode cX5_goOn 74 = .ok (.getfield 11, 3) := by decide +kernel
theorem dX5_goOn_77 : decode cX5_goOn 77 = .ok (.iload_n 2, 1) := by decide +kernel
theorem dX5_goOn_78 : decode cX5_goOn 78 = .ok (.sipush 1000, 3) := by decide +kernel
theorem dX5_goOn_81 : decode cX5_goOn 81 = .ok (.imul, 1) := by decide +kernel
theorem dX5_goOn_82 : decode cX5_goOn 82 = .ok (.iload 6, 2) := by decide +kernel
theorem dX5_goOn_84 : decode cX5_goOn 84 = .ok (.iadd, 1) := by decide +kernel
theorem dX5_goOn_85 : decode cX5_goOn 85 = .ok (.iaload, 1) := by decide +kernel
theorem dX5_goOn_86 : decode cX5_goOn 86 = .ok (.iadd, 1) := by decide +kernel
theorem dX5_goOn_87 : decode cX5_goOn 87 = .ok (.iastore, 1) := by decide +kernel
theorem dX5_goOn_88 : decode cX5_goOn 88 = .ok (.iinc 6 1, 3) := by decide +kernel
theorem dX5_goOn_91 : decode cX5_goOn 91 = .ok (.goto (-54), 3) := by decide +kernel
theorem dX5_goOn_94 : decode cX5_goOn 94 = .ok (.iinc 4 1, 3) := by decide +kernel
theorem dX5_goOn_97 : decode cX5_goOn 97 = .ok (.goto (-94), 3) := by decide +kernel
theorem dX5_goOn_100 : decode cX5_goOn 100 = .ok (.return_, 1) := by decide +kernel
theorem dX5_clear_0 : decode cX5_clear 0 = .ok (.iconst 0, 1) := by decide +kernel
theorem dX5_clear_1 : decode cX5_clear 1 = .ok (.istore_n 2, 1) := by decide +kernel
theorem dX5_clear_2 : decode cX5_clear 2 = .ok (.iload_n 2, 1) := by decide +kernel
theorem dX5_clear_3 : decode cX5_clear 3 = .ok (.bipush 6, 2) := by decide +kernel
theorem dX5_clear_5 : decode cX5_clear 5 = .ok (.if_icmp .ge 35, 3) := by decide +kernel
theorem dX5_clear_8 : decode cX5_clear 8 = .ok (.iconst 0, 1) := by decide +kernel
theorem dX5_clear_9 : decode cX5_clear 9 = .ok (.istore_n 3, 1) := by decide +kernel
theorem dX5_clear_10 : decode cX5_clear 10 = .ok (.iload_n 3, 1) := by decide +kernel
theorem dX5_clear_11 : decode cX5_clear 11 = .ok (.aload_n 0, 1) := by decide +kernel
theorem dX5_clear_12 : decode cX5_clear 12 = .ok (.getfield 18, 3) := by decide +kernel
theorem dX5_clear_15 : decode cX5_clear 15 = .ok (.if_icmp .gt 19, 3) := by decide +kernel
theorem dX5_clear_18 : decode cX5_clear 18 = .ok (.aload_n 1, 1) := by decide +kernel
theorem dX5_clear_19 : decode cX5_clear 19 = .ok (.iload_n 2, 1) := by decide +kernel
theorem dX5_clear_20 : decode cX5_clear 20 = .ok (.sipush 1000, 3) := by decide +kernel
theorem dX5_clear_23 : decode cX5_clear 23 = .ok (.imul, 1) := by decide +kernel
theorem dX5_clear_24 : decode cX5_clear 24 = .ok (.iload_n 3, 1) := by decide +kernel
theorem dX5_clear_25 : decode cX5_clear 25 = .ok (.iadd, 1) := by decide +kernel
theorem dX5_clear_26 : decode cX5_clear 26 = .ok (.iconst 0, 1) := by decide +kernel
theorem dX5_clear_27 : decode cX5_clear 27 = .ok (.iastore, 1) := by decide +kernel
theorem dX5_clear_28 : decode cX5_clear 28 = .ok (.iinc 3 1, 3) := by decide +kernel
theorem dX5_clear_31 : decode cX5_clear 31 = .ok (.goto (-21), 3) := by decide +kernel
theorem dX5_clear_34 : decode cX5_clear 34 = .ok (.iinc 2 1, 3) := by decide +kernel
theorem dX5_clear_37 : decode cX5_clear 37 = .ok (.goto (-35), 3) := by decide +kernel
theorem dX5_clear_40 : decode cX5_clear 40 = .ok (.return_, 1) := by decide +kernel
theorem dX5_endingAt_0 : decode cX5_endingAt 0 = .ok (.iload_n 1, 1) := by decide +kernel
theorem dX5_endingAt_1 : decode cX5_endingAt 1 = .ok (.ifCond .lt 21, 3) := by decide +kernel
theorem dX5_endingAt_4 : decode cX5_endingAt 4 = .ok (.iload_n 1, 1) := by decide +kernel
theorem dX5_endingAt_5 : decode cX5_endingAt 5 = .ok (.bipush 6, 2) := by decide +kernel
theorem dX5_endingAt_7 : decode cX5_endingAt 7 = .ok (.if_icmp .ge 15, 3) := by decide +kernel
theorem dX5_endingAt_10 : decode cX5_endingAt 10 = .ok (.iload_n 2, 1) := by decide +kernel
theorem dX5_endingAt_11 : decode cX5_endingAt 11 = .ok (.ifCond .lt 11, 3) := by decide +kernel
theorem dX5_endingAt_14 : decode cX5_endingAt 14 = .ok (.iload_n 2, 1) := by decide +kernel
theorem dX5_endingAt_15 : decode cX5_endingAt 15 = .ok (.aload_n 0, 1) := by decide +kernel
theorem dX5_endingAt_16 : decode cX5_endingAt 16 = .ok (.getfield 18, 3) := by decide +kernel
theorem dX5_endingAt_19 : decode cX5_endingAt 19 = .ok (.if_icmp .le 5, 3) := by decide +kernel
theorem dX5_endingAt_22 : decode cX5_endingAt 22 = .ok (.iconst 0, 1) := by decide +kernel
theorem dX5_endingAt_23 : decode cX5_endingAt 23 = .ok (.ireturn, 1) := by decide +kernel
theorem dX5_endingAt_24 : decode cX5_endingAt 24 = .ok (.aload_n 0, 1) := by decide +kernel
theorem dX5_endingAt_25 : decode cX5_endingAt 25 = .ok (.getfield 11, 3) := by decide +kernel
theorem dX5_endingAt_28 : decode cX5_endingAt 28 = .ok (.iload_n 1, 1) := by decide +kernel
theorem dX5_endingAt_29 : decode cX5_endingAt 29 = .ok (.sipush 1000, 3) := by decide +kernel
theorem dX5_endingAt_32 : decode cX5_endingAt 32 = .ok (.imul, 1) := by decide +kernel
theorem dX5_endingAt_33 : decode cX5_endingAt 33 = .ok (.iload_n 2, 1) := by decide +kernel
theorem dX5_endingAt_34 : decode cX5_endingAt 34 = .ok (.iadd, 1) := by decide +kernel
theorem dX5_endingAt_35 : decode cX5_endingAt 35 = .ok (.iaload, 1) := by decide +kernel
theorem dX5_endingAt_36 : decode cX5_endingAt 36 = .ok (.ireturn, 1) := by decide +kernel
theorem dX6_init_0 : decode cX6_init 0 = .ok (.aload_n 0, 1) := by decide +kernel
theorem dX6_init_1 : decode cX6_init 1 = .ok (.invokespecial 3, 3) := by decide +kernel
theorem dX6_init_4 : decode cX6_init 4 = .ok (.aload_n 0, 1) := by decide +kernel
theorem dX6_init_5 : decode cX6_init 5 = .ok (.iconst 2, 1) := by decide +kernel
theorem dX6_init_6 : decode cX6_init 6 = .ok (.anewarray 9, 3) := by decide +kernel
theorem dX6_init_9 : decode cX6_init 9 = .ok (.putfield 11, 3) := by decide +kernel
theorem dX6_init_12 : decode cX6_init 12 = .ok (.aload_n 0, 1) := by decide +kernel
theorem dX6_init_13 : decode cX6_init 13 = .ok (.iconst 2, 1) := by decide +kernel
theorem dX6_init_14 : decode cX6_init 14 = .ok (.newarray .boolean, 2) := by decide +kernel
theorem dX6_init_16 : decode cX6_init 16 = .ok (.putfield 17, 3) := by decide +kernel
theorem dX6_init_19 : decode cX6_init 19 = .ok (.iconst 0, 1) := by decide +kernel
theorem dX6_init_20 : decode cX6_init 20 = .ok (.istore_n 1, 1) := by decide +kernel
theorem dX6_init_21 : decode cX6_init 21 = .ok (.iload_n 1, 1) := by decide +kernel
theorem dX6_init_22 : decode cX6_init 22 = .ok (.iconst 2, 1) := by decide +kernel
theorem dX6_init_23 : decode cX6_init 23 = .ok (.if_icmp .ge 22, 3) := by decide +kernel
theorem dX6_init_26 : decode cX6_init 26 = .ok (.aload_n 0, 1) := by decide +kernel
theorem dX6_init_27 : decode cX6_init 27 = .ok (.getfield 11, 3) := by decide +kernel
theorem dX6_init_30 : decode cX6_init 30 = .ok (.iload_n 1, 1) := by decide +kernel
theorem dX6_init_31 : decode cX6_init 31 = .ok (.new 9, 3) := by decide +kernel
theorem dX6_init_34 : decode cX6_init 34 = .ok (.dup, 1) := by decide +kernel
theorem dX6_init_35 : decode cX6_init 35 = .ok (.invokespecial 21, 3) := by decide +kernel
theorem dX6_init_38 : decode cX6_init 38 = .ok (.aastore, 1) := by decide +kernel
theorem dX6_init_39 : decode cX6_init 39 = .ok (.iinc 1 1, 3) := by decide +kernel
theorem dX6_init_42 : decode cX6_init 42 = .ok (.goto (-21), 3) := by decide +kernel
theorem dX6_init_45 : decode cX6_init 45 = .ok (.return_, 1) := by decide +kernel
theorem dX6_holds_0 : decode cX6_holds 0 = .ok (.iload_n 1, 1) := by decide +kernel
theorem dX6_holds_1 : decode cX6_holds 1 = .ok (.ifCond .lt 21, 3) := by decide +kernel
theorem dX6_holds_4 : decode cX6_holds 4 = .ok (.iload_n 1, 1) := by decide +kernel
theorem dX6_holds_5 : decode cX6_holds 5 = .ok (.iconst 2, 1) := by decide +kernel
theorem dX6_holds_6 : decode cX6_holds 6 = .ok (.if_icmp .ge 16, 3) := by decide +kernel
theorem dX6_holds_9 : decode cX6_holds 9 = .ok (.aload_n 0, 1) := by decide +kernel
theorem dX6_holds_10 : decode cX6_holds 10 = .ok (.getfield 17, 3) := by decide +kernel
theorem dX6_holds_13 : decode cX6_holds 13 = .ok (.iload_n 1, 1) := by decide +kernel
theorem dX6_holds_14 : decode cX6_holds 14 = .ok (.baload, 1) := by decide +kernel
theorem dX6_holds_15 : decode cX6_holds 15 = .ok (.ifCond .eq 7, 3) := by decide +kernel
theorem dX6_holds_18 : decode cX6_holds 18 = .ok (.iconst 1, 1) := by decide +kernel
theorem dX6_holds_19 : decode cX6_holds 19 = .ok (.goto 4, 3) := by decide +kernel
theorem dX6_holds_22 : decode cX6_holds 22 = .ok (.iconst 0, 1) := by decide +kernel
theorem dX6_holds_23 : decode cX6_holds 23 = .ok (.ireturn, 1) := by decide +kernel
theorem dX6_put_0 : decode cX6_put 0 = .ok (.iload_n 1, 1) := by decide +kernel
theorem dX6_put_1 : decode cX6_put 1 = .ok (.ifCond .lt 8, 3) := by decide +kernel
theorem dX6_put_4 : decode cX6_put 4 = .ok (.iload_n 1, 1) := by decide +kernel
theorem dX6_put_5 : decode cX6_put 5 = .ok (.iconst 2, 1) := by decide +kernel
theorem dX6_put_6 : decode cX6_put 6 = .ok (.if_icmp .lt 4, 3) := by decide +kernel
theorem dX6_put_9 : decode cX6_put 9 = .ok (.return_, 1) := by decide +kernel
theorem dX6_put_10 : decode cX6_put 10 = .ok (.aload_n 0, 1) := by decide +kernel
theorem dX6_put_11 : decode cX6_put 11 = .ok (.getfield 11, 3) := by decide +kernel
theorem dX6_put_14 : decode cX6_put 14 = .ok (.iload_n 1, 1) := by decide +kernel
theorem dX6_put_15 : decode cX6_put 15 = .ok (.aaload, 1) := by decide +kernel
theorem dX6_put_16 : decode cX6_put 16 = .ok (.aload_n 2, 1) := by decide +kernel
theorem dX6_put_17 : decode cX6_put 17 = .ok (.invokevirtual 22, 3) := by decide +kernel
theorem dX6_put_20 : decode cX6_put 20 = .ok (.aload_n 0, 1) := by decide +kernel
theorem dX6_put_21 : decode cX6_put 21 = .ok (.getfield 17, 3) := by decide +kernel
theorem dX6_put_24 : decode cX6_put 24 = .ok (.iload_n 1, 1) := by decide +kernel
theorem dX6_put_25 : decode cX6_put 25 = .ok (.iconst 1, 1) := by decide +kernel
theorem dX6_put_26 : decode cX6_put 26 = .ok (.bastore, 1) := by decide +kernel
theorem dX6_put_27 : decode cX6_put 27 = .ok (.return_, 1) := by decide +kernel
theorem dX6_fetch_0 : decode cX6_fetch 0 = .ok (.aload_n 0, 1) := by decide +kernel
theorem dX6_fetch_1 : decode cX6_fetch 1 = .ok (.iload_n 1, 1) := by decide +kernel
theorem dX6_fetch_2 : decode cX6_fetch 2 = .ok (.invokevirtual 26, 3) := by decide +kernel
theorem dX6_fetch_5 : decode cX6_fetch 5 = .ok (.ifCond .eq 13, 3) := by decide +kernel
theorem dX6_fetch_8 : decode cX6_fetch 8 = .ok (.aload_n 2, 1) := by decide +kernel
theorem dX6_fetch_9 : decode cX6_fetch 9 = .ok (.aload_n 0, 1) := by decide +kernel
theorem dX6_fetch_10 : decode cX6_fetch 10 = .ok (.getfield 11, 3) := by decide +kernel
theorem dX6_fetch_13 : decode cX6_fetch 13 = .ok (.iload_n 1, 1) := by decide +kernel
theorem dX6_fetch_14 : decode cX6_fetch 14 = .ok (.aaload, 1) := by decide +kernel
theorem dX6_fetch_15 : decode cX6_fetch 15 = .ok (.invokevirtual 22, 3) := by decide +kernel
theorem dX6_fetch_18 : decode cX6_fetch 18 = .ok (.return_, 1) := by decide +kernel
theorem dX6_forget_0 : decode cX6_forget 0 = .ok (.iconst 0, 1) := by decide +kernel
theorem dX6_forget_1 : decode cX6_forget 1 = .ok (.istore_n 1, 1) := by decide +kernel
theorem dX6_forget_2 : decode cX6_forget 2 = .ok (.iload_n 1, 1) := by decide +kernel
theorem dX6_forget_3 : decode cX6_forget 3 = .ok (.iconst 2, 1) := by decide +kernel
theorem dX6_forget_4 : decode cX6_forget 4 = .ok (.if_icmp .ge 16, 3) := by decide +kernel
theorem dX6_forget_7 : decode cX6_forget 7 = .ok (.aload_n 0, 1) := by decide +kernel
theorem dX6_forget_8 : decode cX6_forget 8 = .ok (.getfield 17, 3) := by decide +kernel
theorem dX6_forget_11 : decode cX6_forget 11 = .ok (.iload_n 1, 1) := by decide +kernel
theorem dX6_forget_12 : decode cX6_forget 12 = .ok (.iconst 0, 1) := by decide +kernel
theorem dX6_forget_13 : decode cX6_forget 13 = .ok (.bastore, 1) := by decide +kernel
theorem dX6_forget_14 : decode cX6_forget 14 = .ok (.iinc 1 1, 3) := by decide +kernel
theorem dX6_forget_17 : decode cX6_forget 17 = .ok (.goto (-15), 3) := by decide +kernel
theorem dX6_forget_20 : decode cX6_forget 20 = .ok (.return_, 1) := by decide +kernel
theorem dX7_init_0 : decode cX7_init 0 = .ok (.aload_n 0, 1) := by decide +kernel
theorem dX7_init_1 : decode cX7_init 1 = .ok (.invokespecial 3, 3) := by decide +kernel
theorem dX7_init_4 : decode cX7_init 4 = .ok (.aload_n 0, 1) := by decide +kernel
theorem dX7_init_5 : decode cX7_init 5 = .ok (.bipush 8, 2) := by decide +kernel
theorem dX7_init_7 : decode cX7_init 7 = .ok (.newarray .int, 2) := by decide +kernel
theorem dX7_init_9 : decode cX7_init 9 = .ok (.putfield 9, 3) := by decide +kernel
theorem dX7_init_12 : decode cX7_init 12 = .ok (.return_, 1) := by decide +kernel
theorem dX7_begin_0 : decode cX7_begin 0 = .ok (.aload_n 0, 1) := by decide +kernel
theorem dX7_begin_1 : decode cX7_begin 1 = .ok (.iconst 0, 1) := by decide +kernel
theorem dX7_begin_2 : decode cX7_begin 2 = .ok (.putfield 15, 3) := by decide +kernel
theorem dX7_begin_5 : decode cX7_begin 5 = .ok (.aload_n 0, 1) := by decide +kernel
theorem dX7_begin_6 : decode cX7_begin 6 = .ok (.iconst 0, 1) := by decide +kernel
theorem dX7_begin_7 : decode cX7_begin 7 = .ok (.putfield 19, 3) := by decide +kernel
theorem dX7_begin_10 : decode cX7_begin 10 = .ok (.aload_n 0, 1) := by decide +kernel
theorem dX7_begin_11 : decode cX7_begin 11 = .ok (.iload_n 1, 1) := by decide +kernel
theorem dX7_begin_12 : decode cX7_begin 12 = .ok (.putfield 22, 3) := by decide +kernel
theorem dX7_begin_15 : decode cX7_begin 15 = .ok (.aload_n 0, 1) := by decide +kernel
theorem dX7_begin_16 : decode cX7_begin 16 = .ok (.iconst 0, 1) := by decide +kernel
theorem dX7_begin_17 : decode cX7_begin 17 = .ok (.putfield 25, 3) := by decide +kernel
theorem dX7_begin_20 : decode cX7_begin 20 = .ok (.aload_n 0, 1) := by decide +kernel
theorem dX7_begin_21 : decode cX7_begin 21 = .ok (.iconst 0, 1) := by decide +kernel
theorem dX7_begin_22 : decode cX7_begin 22 = .ok (.putfield 28, 3) := by decide +kernel
theorem dX7_begin_25 : decode cX7_begin 25 = .ok (.aload_n 0, 1) := by decide +kernel
theorem dX7_begin_26 : decode cX7_begin 26 = .ok (.iconst 0, 1) := by decide +kernel
theorem dX7_begin_27 : decode cX7_begin 27 = .ok (.putfield 31, 3) := by decide +kernel
theorem dX7_begin_30 : decode cX7_begin 30 = .ok (.return_, 1) := by decide +kernel
theorem dX7_copyOf_0 : decode cX7_copyOf 0 = .ok (.aload_n 0, 1) := by decide +kernel
theorem dX7_copyOf_1 : decode cX7_copyOf 1 = .ok (.aload_n 1, 1) := by decide +kernel
theorem dX7_copyOf_2 : decode cX7_copyOf 2 = .ok (.getfield 15, 3) := by decide +kernel
theorem dX7_copyOf_5 : decode cX7_copyOf 5 = .ok (.putfield 15, 3) := by decide +kernel
theorem dX7_copyOf_8 : decode cX7_copyOf 8 = .ok (.aload_n 0, 1) := by decide +kernel
theorem dX7_copyOf_9 : decode cX7_copyOf 9 = .ok (.aload_n 1, 1) := by decide +kernel
theorem dX7_copyOf_10 : decode cX7_copyOf 10 = .ok (.getfield 19, 3) := by decide +kernel
theorem dX7_copyOf_13 : decode cX7_copyOf 13 = .ok (.putfield 19, 3) := by decide +kernel
theorem dX7_copyOf_16 : decode cX7_copyOf 16 = .ok (.aload_n 0, 1) := by decide +kernel
theorem dX7_copyOf_17 : decode cX7_copyOf 17 = .ok (.aload_n 1, 1) := by decide +kernel
theorem dX7_copyOf_18 : decode cX7_copyOf 18 = .ok (.getfield 22, 3) := by decide +kernel
theorem dX7_copyOf_21 : decode cX7_copyOf 21 = .ok (.putfield 22, 3) := by decide +kernel
theorem dX7_copyOf_24 : decode cX7_copyOf 24 = .ok (.aload_n 0, 1) := by decide +kernel
theorem dX7_copyOf_25 : decode cX7_copyOf 25 = .ok (.aload_n 1, 1) := by decide +kernel
theorem dX7_copyOf_26 : decode cX7_copyOf 26 = .ok (.getfield 25, 3) := by decide +kernel
theorem dX7_copyOf_29 : decode cX7_copyOf 29 = .ok (.putfield 25, 3) := by decide +kernel
theorem dX7_copyOf_32 : decode cX7_copyOf 32 = .ok (.aload_n 0, 1) := by decide +kernel
theorem dX7_copyOf_33 : decode cX7_copyOf 33 = .ok (.aload_n 1, 1) := by decide +kernel
theorem dX7_copyOf_34 : decode cX7_copyOf 34 = .ok (.getfield 28, 3) := by decide +kernel
theorem dX7_copyOf_37 : decode cX7_copyOf 37 = .ok (.putfield 28, 3) := by decide +kernel
theorem dX7_copyOf_40 : decode cX7_copyOf 40 = .ok (.aload_n 0, 1) := by decide +kernel
theorem dX7_copyOf_41 : decode cX7_copyOf 41 = .ok (.aload_n 1, 1) := by decide +kernel
theorem dX7_copyOf_42 : decode cX7_copyOf 42 = .ok (.getfield 31, 3) := by decide +kernel
theorem dX7_copyOf_45 : decode cX7_copyOf 45 = .ok (.putfield 31, 3) := by decide +kernel
theorem dX7_copyOf_48 : decode cX7_copyOf 48 = .ok (.iconst 0, 1) := by decide +kernel
theorem dX7_copyOf_49 : decode cX7_copyOf 49 = .ok (.istore_n 2, 1) := by decide +kernel
theorem dX7_copyOf_50 : decode cX7_copyOf 50 = .ok (.iload_n 2, 1) := by decide +kernel
theorem dX7_copyOf_51 : decode cX7_copyOf 51 = .ok (.bipush 8, 2) := by decide +kernel
theorem dX7_copyOf_53 : decode cX7_copyOf 53 = .ok (.if_icmp .ge 21, 3) := by decide +kernel
theorem dX7_copyOf_56 : decode cX7_copyOf 56 = .ok (.aload_n 0, 1) := by decide +kernel
theorem dX7_copyOf_57 : decode cX7_copyOf 57 = .ok (.getfield 9, 3) := by decide +kernel
theorem dX7_copyOf_60 : decode cX7_copyOf 60 = .ok (.iload_n 2, 1) := by decide +kernel
theorem dX7_copyOf_61 : decode cX7_copyOf 61 = .ok (.aload_n 1, 1) := by decide +kernel
theorem dX7_copyOf_62 : decode cX7_copyOf 62 = .ok (.getfield 9, 3) := by decide +kernel
theorem dX7_copyOf_65 : decode cX7_copyOf 65 = .ok (.iload_n 2, 1) := by decide +kernel
theorem dX7_copyOf_66 : decode cX7_copyOf 66 = .ok (.iaload, 1) := by decide +kernel
theorem dX7_copyOf_67 : decode cX7_copyOf 67 = .ok (.iastore, 1) := by decide +kernel
theorem dX7_copyOf_68 : decode cX7_copyOf 68 = .ok (.iinc 2 1, 3) := by decide +kernel
theorem dX7_copyOf_71 : decode cX7_copyOf 71 = .ok (.goto (-21), 3) := by decide +kernel
theorem dX7_copyOf_74 : decode cX7_copyOf 74 = .ok (.return_, 1) := by decide +kernel
theorem dX7_placeOf_0 : decode cX7_placeOf 0 = .ok (.iload_n 1, 1) := by decide +kernel
theorem dX7_placeOf_1 : decode cX7_placeOf 1 = .ok (.ifCond .ne 10, 3) := by decide +kernel
theorem dX7_placeOf_4 : decode cX7_placeOf 4 = .ok (.aload_n 0, 1) := by decide +kernel
theorem dX7_placeOf_5 : decode cX7_placeOf 5 = .ok (.getfield 15, 3) := by decide +kernel
theorem dX7_placeOf_8 : decode cX7_placeOf 8 = .ok (.goto 7, 3) := by decide +kernel
theorem dX7_placeOf_11 : decode cX7_placeOf 11 = .ok (.aload_n 0, 1) := by decide +kernel
theorem dX7_placeOf_12 : decode cX7_placeOf 12 = .ok (.getfield 19, 3) := by decide +kernel
theorem dX7_placeOf_15 : decode cX7_placeOf 15 = .ok (.ireturn, 1) := by decide +kernel
theorem dX7_move_0 : decode cX7_move 0 = .ok (.iload_n 1, 1) := by decide +kernel
theorem dX7_move_1 : decode cX7_move 1 = .ok (.ifCond .ne 11, 3) := by decide +kernel
theorem dX7_move_4 : decode cX7_move 4 = .ok (.aload_n 0, 1) := by decide +kernel
theorem dX7_move_5 : decode cX7_move 5 = .ok (.iload_n 2, 1) := by decide +kernel
theorem dX7_move_6 : decode cX7_move 6 = .ok (.putfield 15, 3) := by decide +kernel
theorem dX7_move_9 : decode cX7_move 9 = .ok (.goto 8, 3) := by decide +kernel
theorem dX7_move_12 : decode cX7_move 12 = .ok (.aload_n 0, 1) := by decide +kernel
theorem dX7_move_13 : decode cX7_move 13 = .ok (.iload_n 2, 1) := by decide +kernel
theorem dX7_move_14 : decode cX7_move 14 = .ok (.putfield 19, 3) := by decide +kernel
theorem dX7_move_17 : decode cX7_move 17 = .ok (.return_, 1) := by decide +kernel
theorem dX7_isDone_0 : decode cX7_isDone 0 = .ok (.aload_n 0, 1) := by decide +kernel
theorem dX7_isDone_1 : decode cX7_isDone 1 = .ok (.getfield 25, 3) := by decide +kernel
theorem dX7_isDone_4 : decode cX7_isDone 4 = .ok (.iload_n 1, 1) := by decide +kernel
theorem dX7_isDone_5 : decode cX7_isDone 5 = .ok (.ishr, 1) := by decide +kernel
theorem dX7_isDone_6 : decode cX7_isDone 6 = .ok (.iconst 1, 1) := by decide +kernel
theorem dX7_isDone_7 : decode cX7_isDone 7 = .ok (.iand, 1) := by decide +kernel
theorem dX7_isDone_8 : decode cX7_isDone 8 = .ok (.iconst 1, 1) := by decide +kernel
theorem dX7_isDone_9 : decode cX7_isDone 9 = .ok (.if_icmp .ne 7, 3) := by decide +kernel
theorem dX7_isDone_12 : decode cX7_isDone 12 = .ok (.iconst 1, 1) := by decide +kernel
theorem dX7_isDone_13 : decode cX7_isDone 13 = .ok (.goto 4, 3) := by decide +kernel
theorem dX7_isDone_16 : decode cX7_isDone 16 = .ok (.iconst 0, 1) := by decide +kernel
theorem dX7_isDone_17 : decode cX7_isDone 17 = .ok (.ireturn, 1) := by decide +kernel
theorem dX7_whoDid_0 : decode cX7_whoDid 0 = .ok (.aload_n 0, 1) := by decide +kernel
theorem dX7_whoDid_1 : decode cX7_whoDid 1 = .ok (.getfield 28, 3) := by decide +kernel
theorem dX7_whoDid_4 : decode cX7_whoDid 4 = .ok (.iload_n 1, 1) := by decide +kernel
theorem dX7_whoDid_5 : decode cX7_whoDid 5 = .ok (.ishr, 1) := by decide +kernel
theorem dX7_whoDid_6 : decode cX7_whoDid 6 = .ok (.iconst 1, 1) := by decide +kernel
theorem dX7_whoDid_7 : decode cX7_whoDid 7 = .ok (.iand, 1) := by decide +kernel
theorem dX7_whoDid_8 : decode cX7_whoDid 8 = .ok (.iconst 1, 1) := by decide +kernel
theorem dX7_whoDid_9 : decode cX7_whoDid 9 = .ok (.if_icmp .ne 7, 3) := by decide +kernel
theorem dX7_whoDid_12 : decode cX7_whoDid 12 = .ok (.iconst 1, 1) := by decide +kernel
theorem dX7_whoDid_13 : decode cX7_whoDid 13 = .ok (.goto 4, 3) := by decide +kernel
theorem dX7_whoDid_16 : decode cX7_whoDid 16 = .ok (.iconst 0, 1) := by decide +kernel
theorem dX7_whoDid_17 : decode cX7_whoDid 17 = .ok (.ireturn, 1) := by decide +kernel
theorem dX7_markDone_0 : decode cX7_markDone 0 = .ok (.aload_n 0, 1) := by decide +kernel
theorem dX7_markDone_1 : decode cX7_markDone 1 = .ok (.dup, 1) := by decide +kernel
theorem dX7_markDone_2 : decode cX7_markDone 2 = .ok (.getfield 25, 3) := by decide +kernel
theorem dX7_markDone_5 : decode cX7_markDone 5 = .ok (.iconst 1, 1) := by decide +kernel
theorem dX7_markDone_6 : decode cX7_markDone 6 = .ok (.iload_n 2, 1) := by decide +kernel
theorem dX7_markDone_7 : decode cX7_markDone 7 = .ok (.ishl, 1) := by decide +kernel
theorem dX7_markDone_8 : decode cX7_markDone 8 = .ok (.ior, 1) := by decide +kernel
theorem dX7_markDone_9 : decode cX7_markDone 9 = .ok (.putfield 25, 3) := by decide +kernel
theorem dX7_markDone_12 : decode cX7_markDone 12 = .ok (.iload_n 1, 1) := by decide +kernel
theorem dX7_markDone_13 : decode cX7_markDone 13 = .ok (.iconst 1, 1) := by decide +kernel
theorem dX7_markDone_14 : decode cX7_markDone 14 = .ok (.if_icmp .ne 15, 3) := by decide +kernel
theorem dX7_markDone_17 : decode cX7_markDone 17 = .ok (.aload_n 0, 1) := by decide +kernel
theorem dX7_markDone_18 : decode cX7_markDone 18 = .ok (.dup, 1) := by decide +kernel
theorem dX7_markDone_19 : decode cX7_markDone 19 = .ok (.getfield 28, 3) := by decide +kernel
theorem dX7_markDone_22 : decode cX7_markDone 22 = .ok (.iconst 1, 1) := by decide +kernel
theorem dX7_markDone_23 : decode cX7_markDone 23 = .ok (.iload_n 2, 1) := by decide +kernel
theorem dX7_markDone_24 : decode cX7_markDone 24 = .ok (.ishl, 1) := by decide +kernel
theorem dX7_markDone_25 : decode cX7_markDone 25 = .ok (.ior, 1) := by decide +kernel
theorem dX7_markDone_26 : decode cX7_markDone 26 = .ok (.putfield 28, 3) := by decide +kernel
theorem dX7_markDone_29 : decode cX7_markDone 29 = .ok (.return_, 1) := by decide +kernel
theorem dX7_addLoan_0 : decode cX7_addLoan 0 = .ok (.aload_n 0, 1) := by decide +kernel
theorem dX7_addLoan_1 : decode cX7_addLoan 1 = .ok (.getfield 31, 3) := by decide +kernel
theorem dX7_addLoan_4 : decode cX7_addLoan 4 = .ok (.ifCond .lt 12, 3) := by decide +kernel
theorem dX7_addLoan_7 : decode cX7_addLoan 7 = .ok (.aload_n 0, 1) := by decide +kernel
theorem dX7_addLoan_8 : decode cX7_addLoan 8 = .ok (.getfield 31, 3) := by decide +kernel
theorem dX7_addLoan_11 : decode cX7_addLoan 11 = .ok (.bipush 8, 2) := by decide +kernel
theorem dX7_addLoan_13 : decode cX7_addLoan 13 = .ok (.if_icmp .lt 4, 3) := by decide +kernel
theorem dX7_addLoan_16 : decode cX7_addLoan 16 = .ok (.return_, 1) := by decide +kernel
theorem dX7_addLoan_17 : decode cX7_addLoan 17 = .ok (.aload_n 0, 1) := by decide +kernel
theorem dX7_addLoan_18 : decode cX7_addLoan 18 = .ok (.getfield 9, 3) := by decide +kernel
theorem dX7_addLoan_21 : decode cX7_addLoan 21 = .ok (.aload_n 0, 1) := by decide +kernel
theorem dX7_addLoan_22 : decode cX7_addLoan 22 = .ok (.getfield 31, 3) := by decide +kernel
theorem dX7_addLoan_25 : decode cX7_addLoan 25 = .ok (.iload_n 1, 1) := by decide +kernel
theorem dX7_addLoan_26 : decode cX7_addLoan 26 = .ok (.iastore, 1) := by decide +kernel
theorem dX7_addLoan_27 : decode cX7_addLoan 27 = .ok (.aload_n 0, 1) := by decide +kernel
theorem dX7_addLoan_28 : decode cX7_addLoan 28 = .ok (.dup, 1) := by decide +kernel
theorem dX7_addLoan_29 : decode cX7_addLoan 29 = .ok (.getfield 31, 3) := by decide +kernel
theorem dX7_addLoan_32 : decode cX7_addLoan 32 = .ok (.iconst 1, 1) := by decide +kernel
theorem dX7_addLoan_33 : decode cX7_addLoan 33 = .ok (.iadd, 1) := by decide +kernel
theorem dX7_addLoan_34 : decode cX7_addLoan 34 = .ok (.putfield 31, 3) := by decide +kernel
theorem dX7_addLoan_37 : decode cX7_addLoan 37 = .ok (.aload_n 0, 1) := by decide +kernel
theorem dX7_addLoan_38 : decode cX7_addLoan 38 = .ok (.dup, 1) := by decide +kernel
theorem dX7_addLoan_39 : decode cX7_addLoan 39 = .ok (.getfield 22, 3) := by decide +kernel
theorem dX7_addLoan_42 : decode cX7_addLoan 42 = .ok (.iload_n 1, 1) := by decide +kernel
theorem dX7_addLoan_43 : decode cX7_addLoan 43 = .ok (.isub, 1) := by decide +kernel
theorem dX7_addLoan_44 : decode cX7_addLoan 44 = .ok (.putfield 22, 3) := by decide +kernel
theorem dX7_addLoan_47 : decode cX7_addLoan 47 = .ok (.return_, 1) := by decide +kernel
theorem dX7_owedFor_0 : decode cX7_owedFor 0 = .ok (.iload_n 0, 1) := by decide +kernel
theorem dX7_owedFor_1 : decode cX7_owedFor 1 = .ok (.invokestatic 34, 3) := by decide +kernel
theorem dX7_owedFor_4 : decode cX7_owedFor 4 = .ok (.istore_n 1, 1) := by decide +kernel
theorem dX7_owedFor_5 : decode cX7_owedFor 5 = .ok (.iload_n 1, 1) := by decide +kernel
theorem dX7_owedFor_6 : decode cX7_owedFor 6 = .ok (.iload_n 1, 1) := by decide +kernel
theorem dX7_owedFor_7 : decode cX7_owedFor 7 = .ok (.bipush 9, 2) := by decide +kernel
theorem dX7_owedFor_9 : decode cX7_owedFor 9 = .ok (.iadd, 1) := by decide +kernel
theorem dX7_owedFor_10 : decode cX7_owedFor 10 = .ok (.bipush 10, 2) := by decide +kernel
theorem dX7_owedFor_12 : decode cX7_owedFor 12 = .ok (.idiv, 1) := by decide +kernel
theorem dX7_owedFor_13 : decode cX7_owedFor 13 = .ok (.iadd, 1) := by decide +kernel
theorem dX7_owedFor_14 : decode cX7_owedFor 14 = .ok (.istore_n 2, 1) := by decide +kernel
theorem dX7_owedFor_15 : decode cX7_owedFor 15 = .ok (.iload_n 0, 1) := by decide +kernel
theorem dX7_owedFor_16 : decode cX7_owedFor 16 = .ok (.ifCond .ge 8, 3) := by decide +kernel
theorem dX7_owedFor_19 : decode cX7_owedFor 19 = .ok (.iload_n 2, 1) := by decide +kernel
theorem dX7_owedFor_20 : decode cX7_owedFor 20 = .ok (.ineg, 1) := by decide +kernel
theorem dX7_owedFor_21 : decode cX7_owedFor 21 = .ok (.goto 4, 3) := by decide +kernel
theorem dX7_owedFor_24 : decode cX7_owedFor 24 = .ok (.iload_n 2, 1) := by decide +kernel
theorem dX7_owedFor_25 : decode cX7_owedFor 25 = .ok (.ireturn, 1) := by decide +kernel
theorem dX7_owedForFirstLoan_0 : decode cX7_owedForFirstLoan 0 = .ok (.aload_n 0, 1) := by decide +kernel
theorem dX7_owedForFirstLoan_1 : decode cX7_owedForFirstLoan 1 = .ok (.getfield 31, 3) := by decide +kernel
theorem dX7_owedForFirstLoan_4 : decode cX7_owedForFirstLoan 4 = .ok (.iconst 1, 1) := by decide +kernel
theorem dX7_owedForFirstLoan_5 : decode cX7_owedForFirstLoan 5 = .ok (.if_icmp .ge 7, 3) := by decide +kernel
theorem dX7_owedForFirstLoan_8 : decode cX7_owedForFirstLoan 8 = .ok (.iconst 0, 1) := by decide +kernel
theorem dX7_owedForFirstLoan_9 : decode cX7_owedForFirstLoan 9 = .ok (.goto 12, 3) := by decide +kernel
theorem dX7_owedForFirstLoan_12 : decode cX7_owedForFirstLoan 12 = .ok (.aload_n 0, 1) := by decide +kernel
theorem dX7_owedForFirstLoan_13 : decode cX7_owedForFirstLoan 13 = .ok (.getfield 9, 3) := by decide +kernel
theorem dX7_owedForFirstLoan_16 : decode cX7_owedForFirstLoan 16 = .ok (.iconst 0, 1) := by decide +kernel
theorem dX7_owedForFirstLoan_17 : decode cX7_owedForFirstLoan 17 = .ok (.iaload, 1) := by decide +kernel
theorem dX7_owedForFirstLoan_18 : decode cX7_owedForFirstLoan 18 = .ok (.invokestatic 40, 3) := by decide +kernel
theorem dX7_owedForFirstLoan_21 : decode cX7_owedForFirstLoan 21 = .ok (.ireturn, 1) := by decide +kernel
theorem dX7_owedToThem_0 : decode cX7_owedToThem 0 = .ok (.iconst 0, 1) := by decide +kernel
theorem dX7_owedToThem_1 : decode cX7_owedToThem 1 = .ok (.istore_n 1, 1) := by decide +kernel
theorem dX7_owedToThem_2 : decode cX7_owedToThem 2 = .ok (.iconst 0, 1) := by decide +kernel
theorem dX7_owedToThem_3 : decode cX7_owedToThem 3 = .ok (.istore_n 2, 1) := by decide +kernel
theorem dX7_owedToThem_4 : decode cX7_owedToThem 4 = .ok (.iload_n 2, 1) := by decide +kernel
theorem dX7_owedToThem_5 : decode cX7_owedToThem 5 = .ok (.aload_n 0, 1) := by decide +kernel
theorem dX7_owedToThem_6 : decode cX7_owedToThem 6 = .ok (.getfield 31, 3) := by decide +kernel
theorem dX7_owedToThem_9 : decode cX7_owedToThem 9 = .ok (.if_icmp .ge 27, 3) := by decide +kernel
theorem dX7_owedToThem_12 : decode cX7_owedToThem 12 = .ok (.iload_n 2, 1) := by decide +kernel
theorem dX7_owedToThem_13 : decode cX7_owedToThem 13 = .ok (.bipush 8, 2) := by decide +kernel
theorem dX7_owedToThem_15 : decode cX7_owedToThem 15 = .ok (.if_icmp .ge 21, 3) := by decide +kernel
theorem dX7_owedToThem_18 : decode cX7_owedToThem 18 = .ok (.iload_n 1, 1) := by decide +kernel
theorem dX7_owedToThem_19 : decode cX7_owedToThem 19 = .ok (.aload_n 0, 1) := by decide +kernel
theorem dX7_owedToThem_20 : decode cX7_owedToThem 20 = .ok (.getfield 9, 3) := by decide +kernel
theorem dX7_owedToThem_23 : decode cX7_owedToThem 23 = .ok (.iload_n 2, 1) := by decide +kernel
theorem dX7_owedToThem_24 : decode cX7_owedToThem 24 = .ok (.iaload, 1) := by decide +kernel
theorem dX7_owedToThem_25 : decode cX7_owedToThem 25 = .ok (.invokestatic 40, 3) := by decide +kernel
theorem dX7_owedToThem_28 : decode cX7_owedToThem 28 = .ok (.iadd, 1) := by decide +kernel
theorem dX7_owedToThem_29 : decode cX7_owedToThem 29 = .ok (.istore_n 1, 1) := by decide +kernel
theorem dX7_owedToThem_30 : decode cX7_owedToThem 30 = .ok (.iinc 2 1, 3) := by decide +kernel

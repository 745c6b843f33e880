theorem dX1_init_0 : decode cX1_init 0 = .ok (.aload_n 0, 1) := by decide +kernel
theorem dX1_init_1 : decode cX1_init 1 = .ok (.invokespecial 1, 3) := by decide +kernel
theorem dX1_init_4 : decode cX1_init 4 = .ok (.aload_n 0, 1) := by decide +kernel
theorem dX1_init_5 : decode cX1_init 5 = .ok (.getstatic 7, 3) := by decide +kernel
theorem dX1_init_8 : decode cX1_init 8 = .ok (.putfield 13, 3) := by decide +kernel
theorem dX1_init_11 : decode cX1_init 11 = .ok (.aload_n 0, 1) := by decide +kernel
theorem dX1_init_12 : decode cX1_init 12 = .ok (.iconst 0, 1) := by decide +kernel
theorem dX1_init_13 : decode cX1_init 13 = .ok (.putfield 18, 3) := by decide +kernel
theorem dX1_init_16 : decode cX1_init 16 = .ok (.aload_n 0, 1) := by decide +kernel
theorem dX1_init_17 : decode cX1_init 17 = .ok (.iconst 0, 1) := by decide +kernel
theorem dX1_init_18 : decode cX1_init 18 = .ok (.putfield 22, 3) := by decide +kernel
theorem dX1_init_21 : decode cX1_init 21 = .ok (.return_, 1) := by decide +kernel
theorem dX2_init_0 : decode cX2_init 0 = .ok (.aload_n 0, 1) := by decide +kernel
theorem dX2_init_1 : decode cX2_init 1 = .ok (.invokespecial 1, 3) := by decide +kernel
theorem dX2_init_4 : decode cX2_init 4 = .ok (.aload_n 0, 1) := by decide +kernel
theorem dX2_init_5 : decode cX2_init 5 = .ok (.iconst 0, 1) := by decide +kernel
theorem dX2_init_6 : decode cX2_init 6 = .ok (.putfield 7, 3) := by decide +kernel
theorem dX2_init_9 : decode cX2_init 9 = .ok (.aload_n 0, 1) := by decide +kernel
theorem dX2_init_10 : decode cX2_init 10 = .ok (.iconst 0, 1) := by decide +kernel
theorem dX2_init_11 : decode cX2_init 11 = .ok (.putfield 13, 3) := by decide +kernel
theorem dX2_init_14 : decode cX2_init 14 = .ok (.aload_n 0, 1) := by decide +kernel
theorem dX2_init_15 : decode cX2_init 15 = .ok (.iconst 0, 1) := by decide +kernel
theorem dX2_init_16 : decode cX2_init 16 = .ok (.putfield 17, 3) := by decide +kernel
theorem dX2_init_19 : decode cX2_init 19 = .ok (.return_, 1) := by decide +kernel
theorem dX2_copyFrom_0 : decode cX2_copyFrom 0 = .ok (.aload_n 0, 1) := by decide +kernel
theorem dX2_copyFrom_1 : decode cX2_copyFrom 1 = .ok (.aload_n 1, 1) := by decide +kernel
theorem dX2_copyFrom_2 : decode cX2_copyFrom 2 = .ok (.getfield 7, 3) := by decide +kernel
theorem dX2_copyFrom_5 : decode cX2_copyFrom 5 = .ok (.putfield 7, 3) := by decide +kernel
theorem dX2_copyFrom_8 : decode cX2_copyFrom 8 = .ok (.aload_n 0, 1) := by decide +kernel
theorem dX2_copyFrom_9 : decode cX2_copyFrom 9 = .ok (.aload_n 1, 1) := by decide +kernel
theorem dX2_copyFrom_10 : decode cX2_copyFrom 10 = .ok (.getfield 13, 3) := by decide +kernel
theorem dX2_copyFrom_13 : decode cX2_copyFrom 13 = .ok (.putfield 13, 3) := by decide +kernel
theorem dX2_copyFrom_16 : decode cX2_copyFrom 16 = .ok (.aload_n 0, 1) := by decide +kernel
theorem dX2_copyFrom_17 : decode cX2_copyFrom 17 = .ok (.aload_n 1, 1) := by decide +kernel
theorem dX2_copyFrom_18 : decode cX2_copyFrom 18 = .ok (.getfield 17, 3) := by decide +kernel
theorem dX2_copyFrom_21 : decode cX2_copyFrom 21 = .ok (.putfield 17, 3) := by decide +kernel
theorem dX2_copyFrom_24 : decode cX2_copyFrom 24 = .ok (.return_, 1) := by decide +kernel
theorem dX4_init_0 : decode cX4_init 0 = .ok (.aload_n 0, 1) := by decide +kernel
theorem dX4_init_1 : decode cX4_init 1 = .ok (.invokespecial 3, 3) := by decide +kernel
theorem dX4_init_4 : decode cX4_init 4 = .ok (.aload_n 0, 1) := by decide +kernel
theorem dX4_init_5 : decode cX4_init 5 = .ok (.bipush 8, 2) := by decide +kernel
theorem dX4_init_7 : decode cX4_init 7 = .ok (.anewarray 9, 3) := by decide +kernel
theorem dX4_init_10 : decode cX4_init 10 = .ok (.putfield 11, 3) := by decide +kernel
theorem dX4_init_13 : decode cX4_init 13 = .ok (.aload_n 0, 1) := by decide +kernel
theorem dX4_init_14 : decode cX4_init 14 = .ok (.iconst 0, 1) := by decide +kernel
theorem dX4_init_15 : decode cX4_init 15 = .ok (.putfield 17, 3) := by decide +kernel
theorem dX4_init_18 : decode cX4_init 18 = .ok (.aload_n 0, 1) := by decide +kernel
theorem dX4_init_19 : decode cX4_init 19 = .ok (.iconst 0, 1) := by decide +kernel
theorem dX4_init_20 : decode cX4_init 20 = .ok (.putfield 21, 3) := by decide +kernel
theorem dX4_init_23 : decode cX4_init 23 = .ok (.iconst 0, 1) := by decide +kernel
theorem dX4_init_24 : decode cX4_init 24 = .ok (.istore_n 1, 1) := by decide +kernel
theorem dX4_init_25 : decode cX4_init 25 = .ok (.iload_n 1, 1) := by decide +kernel
theorem dX4_init_26 : decode cX4_init 26 = .ok (.bipush 8, 2) := by decide +kernel
theorem dX4_init_28 : decode cX4_init 28 = .ok (.if_icmp .ge 22, 3) := by decide +kernel
theorem dX4_init_31 : decode cX4_init 31 = .ok (.aload_n 0, 1) := by decide +kernel
theorem dX4_init_32 : decode cX4_init 32 = .ok (.getfield 11, 3) := by decide +kernel
theorem dX4_init_35 : decode cX4_init 35 = .ok (.iload_n 1, 1) := by decide +kernel
theorem dX4_init_36 : decode cX4_init 36 = .ok (.new 9, 3) := by decide +kernel
theorem dX4_init_39 : decode cX4_init 39 = .ok (.dup, 1) := by decide +kernel
theorem dX4_init_40 : decode cX4_init 40 = .ok (.invokespecial 24, 3) := by decide +kernel
theorem dX4_init_43 : decode cX4_init 43 = .ok (.aastore, 1) := by decide +kernel
theorem dX4_init_44 : decode cX4_init 44 = .ok (.iinc 1 1, 3) := by decide +kernel
theorem dX4_init_47 : decode cX4_init 47 = .ok (.goto (-22), 3) := by decide +kernel
theorem dX4_init_50 : decode cX4_init 50 = .ok (.return_, 1) := by decide +kernel
theorem dX4_remember_0 : decode cX4_remember 0 = .ok (.aload_n 0, 1) := by decide +kernel
theorem dX4_remember_1 : decode cX4_remember 1 = .ok (.getfield 11, 3) := by decide +kernel
theorem dX4_remember_4 : decode cX4_remember 4 = .ok (.aload_n 0, 1) := by decide +kernel
theorem dX4_remember_5 : decode cX4_remember 5 = .ok (.getfield 17, 3) := by decide +kernel
theorem dX4_remember_8 : decode cX4_remember 8 = .ok (.aaload, 1) := by decide +kernel
theorem dX4_remember_9 : decode cX4_remember 9 = .ok (.aload_n 1, 1) := by decide +kernel
theorem dX4_remember_10 : decode cX4_remember 10 = .ok (.invokevirtual 25, 3) := by decide +kernel
theorem dX4_remember_13 : decode cX4_remember 13 = .ok (.aload_n 0, 1) := by decide +kernel
theorem dX4_remember_14 : decode cX4_remember 14 = .ok (.aload_n 0, 1) := by decide +kernel
theorem dX4_remember_15 : decode cX4_remember 15 = .ok (.getfield 17, 3) := by decide +kernel
theorem dX4_remember_18 : decode cX4_remember 18 = .ok (.iconst 1, 1) := by decide +kernel
theorem dX4_remember_19 : decode cX4_remember 19 = .ok (.iadd, 1) := by decide +kernel
theorem dX4_remember_20 : decode cX4_remember 20 = .ok (.bipush 8, 2) := by decide +kernel
theorem dX4_remember_22 : decode cX4_remember 22 = .ok (.irem, 1) := by decide +kernel
theorem dX4_remember_23 : decode cX4_remember 23 = .ok (.putfield 17, 3) := by decide +kernel
theorem dX4_remember_26 : decode cX4_remember 26 = .ok (.aload_n 0, 1) := by decide +kernel
theorem dX4_remember_27 : decode cX4_remember 27 = .ok (.getfield 21, 3) := by decide +kernel
theorem dX4_remember_30 : decode cX4_remember 30 = .ok (.bipush 8, 2) := by decide +kernel
theorem dX4_remember_32 : decode cX4_remember 32 = .ok (.if_icmp .ge 13, 3) := by decide +kernel
theorem dX4_remember_35 : decode cX4_remember 35 = .ok (.aload_n 0, 1) := by decide +kernel
theorem dX4_remember_36 : decode cX4_remember 36 = .ok (.dup, 1) := by decide +kernel
theorem dX4_remember_37 : decode cX4_remember 37 = .ok (.getfield 21, 3) := by decide +kernel
theorem dX4_remember_40 : decode cX4_remember 40 = .ok (.iconst 1, 1) := by decide +kernel
theorem dX4_remember_41 : decode cX4_remember 41 = .ok (.iadd, 1) := by decide +kernel
theorem dX4_remember_42 : decode cX4_remember 42 = .ok (.putfield 21, 3) := by decide +kernel
theorem dX4_remember_45 : decode cX4_remember 45 = .ok (.return_, 1) := by decide +kernel
theorem dX4_takeBackInto_0 : decode cX4_takeBackInto 0 = .ok (.aload_n 0, 1) := by decide +kernel
theorem dX4_takeBackInto_1 : decode cX4_takeBackInto 1 = .ok (.aload_n 0, 1) := by decide +kernel
theorem dX4_takeBackInto_2 : decode cX4_takeBackInto 2 = .ok (.getfield 17, 3) := by decide +kernel
theorem dX4_takeBackInto_5 : decode cX4_takeBackInto 5 = .ok (.bipush 8, 2) := by decide +kernel
theorem dX4_takeBackInto_7 : decode cX4_takeBackInto 7 = .ok (.iadd, 1) := by decide +kernel
theorem dX4_takeBackInto_8 : decode cX4_takeBackInto 8 = .ok (.iconst 1, 1) := by decide +kernel
theorem dX4_takeBackInto_9 : decode cX4_takeBackInto 9 = .ok (.isub, 1) := by decide +kernel
theorem dX4_takeBackInto_10 : decode cX4_takeBackInto 10 = .ok (.bipush 8, 2) := by decide +kernel
theorem dX4_takeBackInto_12 : decode cX4_takeBackInto 12 = .ok (.irem, 1) := by decide +kernel
theorem dX4_takeBackInto_13 : decode cX4_takeBackInto 13 = .ok (.putfield 17, 3) := by decide +kernel
theorem dX4_takeBackInto_16 : decode cX4_takeBackInto 16 = .ok (.aload_n 0, 1) := by decide +kernel
theorem dX4_takeBackInto_17 : decode cX4_takeBackInto 17 = .ok (.dup, 1) := by decide +kernel
theorem dX4_takeBackInto_18 : decode cX4_takeBackInto 18 = .ok (.getfield 21, 3) := by decide +kernel
theorem dX4_takeBackInto_21 : decode cX4_takeBackInto 21 = .ok (.iconst 1, 1) := by decide +kernel
theorem dX4_takeBackInto_22 : decode cX4_takeBackInto 22 = .ok (.isub, 1) := by decide +kernel
theorem dX4_takeBackInto_23 : decode cX4_takeBackInto 23 = .ok (.putfield 21, 3) := by decide +kernel
theorem dX4_takeBackInto_26 : decode cX4_takeBackInto 26 = .ok (.aload_n 1, 1) := by decide +kernel
theorem dX4_takeBackInto_27 : decode cX4_takeBackInto 27 = .ok (.aload_n 0, 1) := by decide +kernel
theorem dX4_takeBackInto_28 : decode cX4_takeBackInto 28 = .ok (.getfield 11, 3) := by decide +kernel
theorem dX4_takeBackInto_31 : decode cX4_takeBackInto 31 = .ok (.aload_n 0, 1) := by decide +kernel
theorem dX4_takeBackInto_32 : decode cX4_takeBackInto 32 = .ok (.getfield 17, 3) := by decide +kernel
theorem dX4_takeBackInto_35 : decode cX4_takeBackInto 35 = .ok (.aaload, 1) := by decide +kernel
theorem dX4_takeBackInto_36 : decode cX4_takeBackInto 36 = .ok (.invokevirtual 25, 3) := by decide +kernel
theorem dX4_takeBackInto_39 : decode cX4_takeBackInto 39 = .ok (.return_, 1) := by decide +kernel
theorem dX5_init_0 : decode cX5_init 0 = .ok (.aload_n 0, 1) := by decide +kernel
theorem dX5_init_1 : decode cX5_init 1 = .ok (.invokespecial 3, 3) := by decide +kernel
theorem dX5_init_4 : decode cX5_init 4 = .ok (.aload_n 0, 1) := by decide +kernel
theorem dX5_init_5 : decode cX5_init 5 = .ok (.iconst 0, 1) := by decide +kernel
theorem dX5_init_6 : decode cX5_init 6 = .ok (.putfield 9, 3) := by decide +kernel
theorem dX5_init_9 : decode cX5_init 9 = .ok (.aload_n 0, 1) := by decide +kernel
theorem dX5_init_10 : decode cX5_init 10 = .ok (.iconst 0, 1) := by decide +kernel
theorem dX5_init_11 : decode cX5_init 11 = .ok (.putfield 15, 3) := by decide +kernel
theorem dX5_init_14 : decode cX5_init 14 = .ok (.aload_n 0, 1) := by decide +kernel
theorem dX5_init_15 : decode cX5_init 15 = .ok (.iconst 0, 1) := by decide +kernel
theorem dX5_init_16 : decode cX5_init 16 = .ok (.putfield 18, 3) := by decide +kernel
theorem dX5_init_19 : decode cX5_init 19 = .ok (.aload_n 0, 1) := by decide +kernel
theorem dX5_init_20 : decode cX5_init 20 = .ok (.iconst 0, 1) := by decide +kernel
theorem dX5_init_21 : decode cX5_init 21 = .ok (.putfield 21, 3) := by decide +kernel
theorem dX5_init_24 : decode cX5_init 24 = .ok (.aload_n 0, 1) := by decide +kernel
theorem dX5_init_25 : decode cX5_init 25 = .ok (.bipush 119, 2) := by decide +kernel
theorem dX5_init_27 : decode cX5_init 27 = .ok (.putfield 24, 3) := by decide +kernel
theorem dX5_init_30 : decode cX5_init 30 = .ok (.aload_n 0, 1) := by decide +kernel
theorem dX5_init_31 : decode cX5_init 31 = .ok (.iconst 0, 1) := by decide +kernel
theorem dX5_init_32 : decode cX5_init 32 = .ok (.putfield 28, 3) := by decide +kernel
theorem dX5_init_35 : decode cX5_init 35 = .ok (.return_, 1) := by decide +kernel
theorem dX5_write_0 : decode cX5_write 0 = .ok (.aload_n 0, 1) := by decide +kernel
theorem dX5_write_1 : decode cX5_write 1 = .ok (.iload_n 1, 1) := by decide +kernel
theorem dX5_write_2 : decode cX5_write 2 = .ok (.putfield 9, 3) := by decide +kernel
theorem dX5_write_5 : decode cX5_write 5 = .ok (.aload_n 0, 1) := by decide +kernel
theorem dX5_write_6 : decode cX5_write 6 = .ok (.iload_n 2, 1) := by decide +kernel
theorem dX5_write_7 : decode cX5_write 7 = .ok (.putfield 15, 3) := by decide +kernel
theorem dX5_write_10 : decode cX5_write 10 = .ok (.aload_n 0, 1) := by decide +kernel
theorem dX5_write_11 : decode cX5_write 11 = .ok (.iload_n 3, 1) := by decide +kernel
theorem dX5_write_12 : decode cX5_write 12 = .ok (.putfield 18, 3) := by decide +kernel
theorem dX5_write_15 : decode cX5_write 15 = .ok (.aload_n 0, 1) := by decide +kernel
theorem dX5_write_16 : decode cX5_write 16 = .ok (.iconst 0, 1) := by decide +kernel
theorem dX5_write_17 : decode cX5_write 17 = .ok (.putfield 21, 3) := by decide +kernel
theorem dX5_write_20 : decode cX5_write 20 = .ok (.aload_n 0, 1) := by decide +kernel
theorem dX5_write_21 : decode cX5_write 21 = .ok (.bipush 119, 2) := by decide +kernel
theorem dX5_write_23 : decode cX5_write 23 = .ok (.putfield 24, 3) := by decide +kernel
theorem dX5_write_26 : decode cX5_write 26 = .ok (.aload_n 0, 1) := by decide +kernel
theorem dX5_write_27 : decode cX5_write 27 = .ok (.iconst 0, 1) := by decide +kernel
theorem dX5_write_28 : decode cX5_write 28 = .ok (.putfield 28, 3) := by decide +kernel
theorem dX5_write_31 : decode cX5_write 31 = .ok (.return_, 1) := by decide +kernel
theorem dX5_copyFrom_0 : decode cX5_copyFrom 0 = .ok (.aload_n 0, 1) := by decide +kernel
theorem dX5_copyFrom_1 : decode cX5_copyFrom 1 = .ok (.aload_n 1, 1) := by decide +kernel
theorem dX5_copyFrom_2 : decode cX5_copyFrom 2 = .ok (.getfield 9, 3) := by decide +kernel
theorem dX5_copyFrom_5 : decode cX5_copyFrom 5 = .ok (.putfield 9, 3) := by decide +kernel
theorem dX5_copyFrom_8 : decode cX5_copyFrom 8 = .ok (.aload_n 0, 1) := by decide +kernel
theorem dX5_copyFrom_9 : decode cX5_copyFrom 9 = .ok (.aload_n 1, 1) := by decide +kernel
theorem dX5_copyFrom_10 : decode cX5_copyFrom 10 = .ok (.getfield 15, 3) := by decide +kernel
theorem dX5_copyFrom_13 : decode cX5_copyFrom 13 = .ok (.putfield 15, 3) := by decide +kernel
theorem dX5_copyFrom_16 : decode cX5_copyFrom 16 = .ok (.aload_n 0, 1) := by decide +kernel
theorem dX5_copyFrom_17 : decode cX5_copyFrom 17 = .ok (.aload_n 1, 1) := by decide +kernel
theorem dX5_copyFrom_18 : decode cX5_copyFrom 18 = .ok (.getfield 18, 3) := by decide +kernel
theorem dX5_copyFrom_21 : decode cX5_copyFrom 21 = .ok (.putfield 18, 3) := by decide +kernel
theorem dX5_copyFrom_24 : decode cX5_copyFrom 24 = .ok (.aload_n 0, 1) := by decide +kernel
theorem dX5_copyFrom_25 : decode cX5_copyFrom 25 = .ok (.aload_n 1, 1) := by decide +kernel
theorem dX5_copyFrom_26 : decode cX5_copyFrom 26 = .ok (.getfield 21, 3) := by decide +kernel
theorem dX5_copyFrom_29 : decode cX5_copyFrom 29 = .ok (.putfield 21, 3) := by decide +kernel
theorem dX5_copyFrom_32 : decode cX5_copyFrom 32 = .ok (.aload_n 0, 1) := by decide +kernel
theorem dX5_copyFrom_33 : decode cX5_copyFrom 33 = .ok (.aload_n 1, 1) := by decide +kernel
theorem dX5_copyFrom_34 : decode cX5_copyFrom 34 = .ok (.getfield 24, 3) := by decide +kernel
theorem dX5_copyFrom_37 : decode cX5_copyFrom 37 = .ok (.putfield 24, 3) := by decide +kernel
theorem dX5_copyFrom_40 : decode cX5_copyFrom 40 = .ok (.aload_n 0, 1) := by decide +kernel
theorem dX5_copyFrom_41 : decode cX5_copyFrom 41 = .ok (.aload_n 1, 1) := by decide +kernel
theorem dX5_copyFrom_42 : decode cX5_copyFrom 42 = .ok (.getfield 28, 3) := by decide +kernel
theorem dX5_copyFrom_45 : decode cX5_copyFrom 45 = .ok (.putfield 28, 3) := by decide +kernel
theorem dX5_copyFrom_48 : decode cX5_copyFrom 48 = .ok (.return_, 1) := by decide +kernel
theorem dX6_init_0 : decode cX6_init 0 = .ok (.aload_n 0, 1) := by decide +kernel
theorem dX6_init_1 : decode cX6_init 1 = .ok (.invokespecial 3, 3) := by decide +kernel
theorem dX6_init_4 : decode cX6_init 4 = .ok (.aload_n 0, 1) := by decide +kernel
theorem dX6_init_5 : decode cX6_init 5 = .ok (.bipush 8, 2) := by decide +kernel
theorem dX6_init_7 : decode cX6_init 7 = .ok (.newarray .int, 2) := by decide +kernel
theorem dX6_init_9 : decode cX6_init 9 = .ok (.putfield 9, 3) := by decide +kernel
theorem dX6_init_12 : decode cX6_init 12 = .ok (.aload_n 0, 1) := by decide +kernel
theorem dX6_init_13 : decode cX6_init 13 = .ok (.bipush 8, 2) := by decide +kernel
theorem dX6_init_15 : decode cX6_init 15 = .ok (.newarray .int, 2) := by decide +kernel
theorem dX6_init_17 : decode cX6_init 17 = .ok (.putfield 15, 3) := by decide +kernel
theorem dX6_init_20 : decode cX6_init 20 = .ok (.aload_n 0, 1) := by decide +kernel
theorem dX6_init_21 : decode cX6_init 21 = .ok (.iconst 0, 1) := by decide +kernel
theorem dX6_init_22 : decode cX6_init 22 = .ok (.putfield 18, 3) := by decide +kernel
theorem dX6_init_25 : decode cX6_init 25 = .ok (.aload_n 0, 1) := by decide +kernel
theorem dX6_init_26 : decode cX6_init 26 = .ok (.iconst 0, 1) := by decide +kernel
theorem dX6_init_27 : decode cX6_init 27 = .ok (.putfield 22, 3) := by decide +kernel
theorem dX6_init_30 : decode cX6_init 30 = .ok (.aload_n 0, 1) := by decide +kernel
theorem dX6_init_31 : decode cX6_init 31 = .ok (.iconst 0, 1) := by decide +kernel
theorem dX6_init_32 : decode cX6_init 32 = .ok (.putfield 25, 3) := by decide +kernel
theorem dX6_init_35 : decode cX6_init 35 = .ok (.aload_n 0, 1) := by decide +kernel
theorem dX6_init_36 : decode cX6_init 36 = .ok (.iconst 0, 1) := by decide +kernel
theorem dX6_init_37 : decode cX6_init 37 = .ok (.putfield 28, 3) := by decide +kernel
theorem dX6_init_40 : decode cX6_init 40 = .ok (.aload_n 0, 1) := by decide +kernel
theorem dX6_init_41 : decode cX6_init 41 = .ok (.iconst 0, 1) := by decide +kernel
theorem dX6_init_42 : decode cX6_init 42 = .ok (.putfield 31, 3) := by decide +kernel
theorem dX6_init_45 : decode cX6_init 45 = .ok (.return_, 1) := by decide +kernel
theorem dX6_open_0 : decode cX6_open 0 = .ok (.aload_n 0, 1) := by decide +kernel
theorem dX6_open_1 : decode cX6_open 1 = .ok (.iload_n 1, 1) := by decide +kernel
theorem dX6_open_2 : decode cX6_open 2 = .ok (.putfield 18, 3) := by decide +kernel
theorem dX6_open_5 : decode cX6_open 5 = .ok (.aload_n 0, 1) := by decide +kernel
theorem dX6_open_6 : decode cX6_open 6 = .ok (.iload_n 2, 1) := by decide +kernel
theorem dX6_open_7 : decode cX6_open 7 = .ok (.putfield 22, 3) := by decide +kernel
theorem dX6_open_10 : decode cX6_open 10 = .ok (.aload_n 0, 1) := by decide +kernel
theorem dX6_open_11 : decode cX6_open 11 = .ok (.iconst 0, 1) := by decide +kernel
theorem dX6_open_12 : decode cX6_open 12 = .ok (.putfield 25, 3) := by decide +kernel
theorem dX6_open_15 : decode cX6_open 15 = .ok (.aload_n 0, 1) := by decide +kernel
theorem dX6_open_16 : decode cX6_open 16 = .ok (.iconst 0, 1) := by decide +kernel
theorem dX6_open_17 : decode cX6_open 17 = .ok (.putfield 28, 3) := by decide +kernel
theorem dX6_open_20 : decode cX6_open 20 = .ok (.aload_n 0, 1) := by decide +kernel
theorem dX6_open_21 : decode cX6_open 21 = .ok (.iconst 0, 1) := by decide +kernel
theorem dX6_open_22 : decode cX6_open 22 = .ok (.putfield 31, 3) := by decide +kernel
theorem dX6_open_25 : decode cX6_open 25 = .ok (.return_, 1) := by decide +kernel
theorem dX6_copyFrom_0 : decode cX6_copyFrom 0 = .ok (.aload_n 1, 1) := by decide +kernel
theorem dX6_copyFrom_1 : decode cX6_copyFrom 1 = .ok (.getfield 9, 3) := by decide +kernel
theorem dX6_copyFrom_4 : decode cX6_copyFrom 4 = .ok (.iconst 0, 1) := by decide +kernel
theorem dX6_copyFrom_5 : decode cX6_copyFrom 5 = .ok (.aload_n 0, 1) := by decide +kernel
theorem dX6_copyFrom_6 : decode cX6_copyFrom 6 = .ok (.getfield 9, 3) := by decide +kernel
theorem dX6_copyFrom_9 : decode cX6_copyFrom 9 = .ok (.iconst 0, 1) := by decide +kernel
theorem dX6_copyFrom_10 : decode cX6_copyFrom 10 = .ok (.bipush 8, 2) := by decide +kernel
theorem dX6_copyFrom_12 : decode cX6_copyFrom 12 = .ok (.invokestatic 34, 3) := by decide +kernel
theorem dX6_copyFrom_15 : decode cX6_copyFrom 15 = .ok (.aload_n 1, 1) := by decide +kernel
theorem dX6_copyFrom_16 : decode cX6_copyFrom 16 = .ok (.getfield 15, 3) := by decide +kernel
theorem dX6_copyFrom_19 : decode cX6_copyFrom 19 = .ok (.iconst 0, 1) := by decide +kernel
theorem dX6_copyFrom_20 : decode cX6_copyFrom 20 = .ok (.aload_n 0, 1) := by decide +kernel
theorem dX6_copyFrom_21 : decode cX6_copyFrom 21 = .ok (.getfield 15, 3) := by decide +kernel
theorem dX6_copyFrom_24 : decode cX6_copyFrom 24 = .ok (.iconst 0, 1) := by decide +kernel
theorem dX6_copyFrom_25 : decode cX6_copyFrom 25 = .ok (.bipush 8, 2) := by decide +kernel
theorem dX6_copyFrom_27 : decode cX6_copyFrom 27 = .ok (.invokestatic 34, 3) := by decide +kernel
theorem dX6_copyFrom_30 : decode cX6_copyFrom 30 = .ok (.aload_n 0, 1) := by decide +kernel
theorem dX6_copyFrom_31 : decode cX6_copyFrom 31 = .ok (.aload_n 1, 1) := by decide +kernel
theorem dX6_copyFrom_32 : decode cX6_copyFrom 32 = .ok (.getfield 18, 3) := by decide +kernel
theorem dX6_copyFrom_35 : decode cX6_copyFrom 35 = .ok (.putfield 18, 3) := by decide +kernel
theorem dX6_copyFrom_38 : decode cX6_copyFrom 38 = .ok (.aload_n 0, 1) := by decide +kernel
theorem dX6_copyFrom_39 : decode cX6_copyFrom 39 = .ok (.aload_n 1, 1) := by decide +kernel
theorem dX6_copyFrom_40 : decode cX6_copyFrom 40 = .ok (.getfield 22, 3) := by decide +kernel
theorem dX6_copyFrom_43 : decode cX6_copyFrom 43 = .ok (.putfield 22, 3) := by decide +kernel
theorem dX6_copyFrom_46 : decode cX6_copyFrom 46 = .ok (.aload_n 0, 1) := by decide +kernel
theorem dX6_copyFrom_47 : decode cX6_copyFrom 47 = .ok (.aload_n 1, 1) := by decide +kernel
theorem dX6_copyFrom_48 : decode cX6_copyFrom 48 = .ok (.getfield 25, 3) := by decide +kernel
theorem dX6_copyFrom_51 : decode cX6_copyFrom 51 = .ok (.putfield 25, 3) := by decide +kernel
theorem dX6_copyFrom_54 : decode cX6_copyFrom 54 = .ok (.aload_n 0, 1) := by decide +kernel
theorem dX6_copyFrom_55 : decode cX6_copyFrom 55 = .ok (.aload_n 1, 1) := by decide +kernel
theorem dX6_copyFrom_56 : decode cX6_copyFrom 56 = .ok (.getfield 28, 3) := by decide +kernel
theorem dX6_copyFrom_59 : decode cX6_copyFrom 59 = .ok (.putfield 28, 3) := by decide +kernel
theorem dX6_copyFrom_62 : decode cX6_copyFrom 62 = .ok (.aload_n 0, 1) := by decide +kernel
theorem dX6_copyFrom_63 : decode cX6_copyFrom 63 = .ok (.aload_n 1, 1) := by decide +kernel
theorem dX6_copyFrom_64 : decode cX6_copyFrom 64 = .ok (.getfield 31, 3) := by decide +kernel
theorem dX6_copyFrom_67 : decode cX6_copyFrom 67 = .ok (.putfield 31, 3) := by decide +kernel
theorem dX6_copyFrom_70 : decode cX6_copyFrom 70 = .ok (.return_, 1) := by decide +kernel
theorem dX6_hasRoom_0 : decode cX6_hasRoom 0 = .ok (.aload_n 0, 1) := by decide +kernel
theorem dX6_hasRoom_1 : decode cX6_hasRoom 1 = .ok (.getfield 28, 3) := by decide +kernel
theorem dX6_hasRoom_4 : decode cX6_hasRoom 4 = .ok (.bipush 8, 2) := by decide +kernel
theorem dX6_hasRoom_6 : decode cX6_hasRoom 6 = .ok (.if_icmp .ge 7, 3) := by decide +kernel
theorem dX6_hasRoom_9 : decode cX6_hasRoom 9 = .ok (.iconst 1, 1) := by decide +kernel
theorem dX6_hasRoom_10 : decode cX6_hasRoom 10 = .ok (.goto 4, 3) := by decide +kernel
theorem dX6_hasRoom_13 : decode cX6_hasRoom 13 = .ok (.iconst 0, 1) := by decide +kernel
theorem dX6_hasRoom_14 : decode cX6_hasRoom 14 = .ok (.ireturn, 1) := by decide +kernel
theorem dX6_knows_0 : decode cX6_knows 0 = .ok (.iconst 0, 1) := by decide +kernel
theorem dX6_knows_1 : decode cX6_knows 1 = .ok (.istore_n 2, 1) := by decide +kernel
theorem dX6_knows_2 : decode cX6_knows 2 = .ok (.iload_n 2, 1) := by decide +kernel
theorem dX6_knows_3 : decode cX6_knows 3 = .ok (.aload_n 0, 1) := by decide +kernel
theorem dX6_knows_4 : decode cX6_knows 4 = .ok (.getfield 31, 3) := by decide +kernel
theorem dX6_knows_7 : decode cX6_knows 7 = .ok (.if_icmp .ge 21, 3) := by decide +kernel
theorem dX6_knows_10 : decode cX6_knows 10 = .ok (.aload_n 0, 1) := by decide +kernel
theorem dX6_knows_11 : decode cX6_knows 11 = .ok (.getfield 15, 3) := by decide +kernel
theorem dX6_knows_14 : decode cX6_knows 14 = .ok (.iload_n 2, 1) := by decide +kernel
theorem dX6_knows_15 : decode cX6_knows 15 = .ok (.iaload, 1) := by decide +kernel
theorem dX6_knows_16 : decode cX6_knows 16 = .ok (.iload_n 1, 1) := by decide +kernel
theorem dX6_knows_17 : decode cX6_knows 17 = .ok (.if_icmp .ne 5, 3) := by decide +kernel
theorem dX6_knows_20 : decode cX6_knows 20 = .ok (.iconst 1, 1) := by decide +kernel
theorem dX6_knows_21 : decode cX6_knows 21 = .ok (.ireturn, 1) := by decide +kernel
theorem dX6_knows_22 : decode cX6_knows 22 = .ok (.iinc 2 1, 3) := by decide +kernel
theorem dX6_knows_25 : decode cX6_knows 25 = .ok (.goto (-23), 3) := by decide +kernel
theorem dX6_knows_28 : decode cX6_knows 28 = .ok (.iconst 0, 1) := by decide +kernel
theorem dX6_knows_29 : decode cX6_knows 29 = .ok (.ireturn, 1) := by decide +kernel
theorem dX6_accept_0 : decode cX6_accept 0 = .ok (.aload_n 0, 1) := by decide +kernel
theorem dX6_accept_1 : decode cX6_accept 1 = .ok (.invokevirtual 40, 3) := by decide +kernel
theorem dX6_accept_4 : decode cX6_accept 4 = .ok (.ifCond .ne 4, 3) := by decide +kernel
theorem dX6_accept_7 : decode cX6_accept 7 = .ok (.return_, 1) := by decide +kernel
theorem dX6_accept_8 : decode cX6_accept 8 = .ok (.aload_n 0, 1) := by decide +kernel
theorem dX6_accept_9 : decode cX6_accept 9 = .ok (.getfield 9, 3) := by decide +kernel
theorem dX6_accept_12 : decode cX6_accept 12 = .ok (.aload_n 0, 1) := by decide +kernel
theorem dX6_accept_13 : decode cX6_accept 13 = .ok (.getfield 28, 3) := by decide +kernel
theorem dX6_accept_16 : decode cX6_accept 16 = .ok (.iload_n 1, 1) := by decide +kernel
theorem dX6_accept_17 : decode cX6_accept 17 = .ok (.iastore, 1) := by decide +kernel
theorem dX6_accept_18 : decode cX6_accept 18 = .ok (.aload_n 0, 1) := by decide +kernel
theorem dX6_accept_19 : decode cX6_accept 19 = .ok (.dup, 1) := by decide +kernel
theorem dX6_accept_20 : decode cX6_accept 20 = .ok (.getfield 28, 3) := by decide +kernel
theorem dX6_accept_23 : decode cX6_accept 23 = .ok (.iconst 1, 1) := by decide +kernel
theorem dX6_accept_24 : decode cX6_accept 24 = .ok (.iadd, 1) := by decide +kernel
theorem dX6_accept_25 : decode cX6_accept 25 = .ok (.putfield 28, 3) := by decide +kernel
theorem dX6_accept_28 : decode cX6_accept 28 = .ok (.aload_n 0, 1) := by decide +kernel
theorem dX6_accept_29 : decode cX6_accept 29 = .ok (.dup, 1) := by decide +kernel
theorem dX6_accept_30 : decode cX6_accept 30 = .ok (.getfield 25, 3) := by decide +kernel
theorem dX6_accept_33 : decode cX6_accept 33 = .ok (.iconst 1, 1) := by decide +kernel
theorem dX6_accept_34 : decode cX6_accept 34 = .ok (.iadd, 1) := by decide +kernel
theorem dX6_accept_35 : decode cX6_accept 35 = .ok (.putfield 25, 3) := by decide +kernel
theorem dX6_accept_38 : decode cX6_accept 38 = .ok (.aload_n 0, 1) := by decide +kernel
theorem dX6_accept_39 : decode cX6_accept 39 = .ok (.iload_n 2, 1) := by decide +kernel
theorem dX6_accept_40 : decode cX6_accept 40 = .ok (.invokevirtual 44, 3) := by decide +kernel
theorem dX6_accept_43 : decode cX6_accept 43 = .ok (.return_, 1) := by decide +kernel
theorem dX6_learn_0 : decode cX6_learn 0 = .ok (.aload_n 0, 1) := by decide +kernel
theorem dX6_learn_1 : decode cX6_learn 1 = .ok (.getfield 31, 3) := by decide +kernel
theorem dX6_learn_4 : decode cX6_learn 4 = .ok (.bipush 8, 2) := by decide +kernel
theorem dX6_learn_6 : decode cX6_learn 6 = .ok (.if_icmp .lt 24, 3) := by decide +kernel
theorem dX6_learn_9 : decode cX6_learn 9 = .ok (.aload_n 0, 1) := by decide +kernel
theorem dX6_learn_10 : decode cX6_learn 10 = .ok (.getfield 15, 3) := by decide +kernel
theorem dX6_learn_13 : decode cX6_learn 13 = .ok (.iconst 1, 1) := by decide +kernel
theorem dX6_learn_14 : decode cX6_learn 14 = .ok (.aload_n 0, 1) := by decide +kernel
theorem dX6_learn_15 : decode cX6_learn 15 = .ok (.getfield 15, 3) := by decide +kernel
theorem dX6_learn_18 : decode cX6_learn 18 = .ok (.iconst 0, 1) := by decide +kernel
theorem dX6_learn_19 : decode cX6_learn 19 = .ok (.bipush 7, 2) := by decide +kernel
theorem dX6_learn_21 : decode cX6_learn 21 = .ok (.invokestatic 34, 3) := by decide +kernel
theorem dX6_learn_24 : decode cX6_learn 24 = .ok (.aload_n 0, 1) := by decide +kernel
theorem dX6_learn_25 : decode cX6_learn 25 = .ok (.bipush 7, 2) := by decide +kernel
theorem dX6_learn_27 : decode cX6_learn 27 = .ok (.putfield 31, 3) := by decide +kernel
theorem dX6_learn_30 : decode cX6_learn 30 = .ok (.aload_n 0, 1) := by decide +kernel
theorem dX6_learn_31 : decode cX6_learn 31 = .ok (.getfield 15, 3) := by decide +kernel
theorem dX6_learn_34 : decode cX6_learn 34 = .ok (.aload_n 0, 1) := by decide +kernel
theorem dX6_learn_35 : decode cX6_learn 35 = .ok (.getfield 31, 3) := by decide +kernel
theorem dX6_learn_38 : decode cX6_learn 38 = .ok (.iload_n 1, 1) := by decide +kernel
theorem dX6_learn_39 : decode cX6_learn 39 = .ok (.iastore, 1) := by decide +kernel
theorem dX6_learn_40 : decode cX6_learn 40 = .ok (.aload_n 0, 1) := by decide +kernel
theorem dX6_learn_41 : decode cX6_learn 41 = .ok (.dup, 1) := by decide +kernel
theorem dX6_learn_42 : decode cX6_learn 42 = .ok (.getfield 31, 3) := by decide +kernel
theorem dX6_learn_45 : decode cX6_learn 45 = .ok (.iconst 1, 1) := by decide +kernel
theorem dX6_learn_46 : decode cX6_learn 46 = .ok (.iadd, 1) := by decide +kernel
theorem dX6_learn_47 : decode cX6_learn 47 = .ok (.putfield 31, 3) := by decide +kernel
theorem dX6_learn_50 : decode cX6_learn 50 = .ok (.return_, 1) := by decide +kernel
theorem dX6_takeFirst_0 : decode cX6_takeFirst 0 = .ok (.aload_n 0, 1) := by decide +kernel
theorem dX6_takeFirst_1 : decode cX6_takeFirst 1 = .ok (.getfield 28, 3) := by decide +kernel
theorem dX6_takeFirst_4 : decode cX6_takeFirst 4 = .ok (.ifCond .gt 5, 3) := by decide +kernel
theorem dX6_takeFirst_7 : decode cX6_takeFirst 7 = .ok (.iconst (-1), 1) := by decide +kernel
theorem dX6_takeFirst_8 : decode cX6_takeFirst 8 = .ok (.ireturn, 1) := by decide +kernel
theorem dX6_takeFirst_9 : decode cX6_takeFirst 9 = .ok (.aload_n 0, 1) := by decide +kernel
theorem dX6_takeFirst_10 : decode cX6_takeFirst 10 = .ok (.getfield 9, 3) := by decide +kernel
theorem dX6_takeFirst_13 : decode cX6_takeFirst 13 = .ok (.iconst 0, 1) := by decide +kernel
theorem dX6_takeFirst_14 : decode cX6_takeFirst 14 = .ok (.iaload, 1) := by decide +kernel
theorem dX6_takeFirst_15 : decode cX6_takeFirst 15 = .ok (.istore_n 1, 1) := by decide +kernel
theorem dX6_takeFirst_16 : decode cX6_takeFirst 16 = .ok (.aload_n 0, 1) := by decide +kernel
theorem dX6_takeFirst_17 : decode cX6_takeFirst 17 = .ok (.getfield 9, 3) := by decide +kernel
theorem dX6_takeFirst_20 : decode cX6_takeFirst 20 = .ok (.iconst 1, 1) := by decide +kernel
theorem dX6_takeFirst_21 : decode cX6_takeFirst 21 = .ok (.aload_n 0, 1) := by decide +kernel
theorem dX6_takeFirst_22 : decode cX6_takeFirst 22 = .ok (.getfield 9, 3) := by decide +kernel
theorem dX6_takeFirst_25 : decode cX6_takeFirst 25 = .ok (.iconst 0, 1) := by decide +kernel
theorem dX6_takeFirst_26 : decode cX6_takeFirst 26 = .ok (.bipush 7, 2) := by decide +kernel
theorem dX6_takeFirst_28 : decode cX6_takeFirst 28 = .ok (.invokestatic 34, 3) := by decide +kernel
theorem dX6_takeFirst_31 : decode cX6_takeFirst 31 = .ok (.aload_n 0, 1) := by decide +kernel
theorem dX6_takeFirst_32 : decode cX6_takeFirst 32 = .ok (.dup, 1) := by decide +kernel
theorem dX6_takeFirst_33 : decode cX6_takeFirst 33 = .ok (.getfield 28, 3) := by decide +kernel
theorem dX6_takeFirst_36 : decode cX6_takeFirst 36 = .ok (.iconst 1, 1) := by decide +kernel
theorem dX6_takeFirst_37 : decode cX6_takeFirst 37 = .ok (.isub, 1) := by decide +kernel
theorem dX6_takeFirst_38 : decode cX6_takeFirst 38 = .ok (.putfield 28, 3) := by decide +kernel
theorem dX6_takeFirst_41 : decode cX6_takeFirst 41 = .ok (.iload_n 1, 1) := by decide +kernel
theorem dX6_takeFirst_42 : decode cX6_takeFirst 42 = .ok (.ireturn, 1) := by decide +kernel
theorem dX7_init_0 : decode cX7_init 0 = .ok (.aload_n 0, 1) := by decide +kernel
theorem dX7_init_1 : decode cX7_init 1 = .ok (.invokespecial 3, 3) := by decide +kernel
theorem dX7_init_4 : decode cX7_init 4 = .ok (.aload_n 0, 1) := by decide +kernel
theorem dX7_init_5 : decode cX7_init 5 = .ok (.bipush 60, 2) := by decide +kernel
theorem dX7_init_7 : decode cX7_init 7 = .ok (.newarray .char, 2) := by decide +kernel
theorem dX7_init_9 : decode cX7_init 9 = .ok (.putfield 9, 3) := by decide +kernel
theorem dX7_init_12 : decode cX7_init 12 = .ok (.aload_n 0, 1) := by decide +kernel
theorem dX7_init_13 : decode cX7_init 13 = .ok (.bipush 60, 2) := by decide +kernel
theorem dX7_init_15 : decode cX7_init 15 = .ok (.anewarray 15, 3) := by decide +kernel
theorem dX7_init_18 : decode cX7_init 18 = .ok (.putfield 17, 3) := by decide +kernel
theorem dX7_init_21 : decode cX7_init 21 = .ok (.aload_n 0, 1) := by decide +kernel
theorem dX7_init_22 : decode cX7_init 22 = .ok (.iconst 0, 1) := by decide +kernel
theorem dX7_init_23 : decode cX7_init 23 = .ok (.putfield 21, 3) := by decide +kernel
theorem dX7_init_26 : decode cX7_init 26 = .ok (.aload_n 0, 1) := by decide +kernel
theorem dX7_init_27 : decode cX7_init 27 = .ok (.iconst 0, 1) := by decide +kernel
theorem dX7_init_28 : decode cX7_init 28 = .ok (.putfield 25, 3) := by decide +kernel
theorem dX7_init_31 : decode cX7_init 31 = .ok (.aload_n 0, 1) := by decide +kernel
theorem dX7_init_32 : decode cX7_init 32 = .ok (.iconst 0, 1) := by decide +kernel
theorem dX7_init_33 : decode cX7_init 33 = .ok (.putfield 28, 3) := by decide +kernel
theorem dX7_init_36 : decode cX7_init 36 = .ok (.aload_n 0, 1) := by decide +kernel
theorem dX7_init_37 : decode cX7_init 37 = .ok (.iconst 0, 1) := by decide +kernel
theorem dX7_init_38 : decode cX7_init 38 = .ok (.putfield 31, 3) := by decide +kernel
theorem dX7_init_41 : decode cX7_init 41 = .ok (.aload_n 0, 1) := by decide +kernel
theorem dX7_init_42 : decode cX7_init 42 = .ok (.iconst 0, 1) := by decide +kernel
theorem dX7_init_43 : decode cX7_init 43 = .ok (.putfield 34, 3) := by decide +kernel
theorem dX7_init_46 : decode cX7_init 46 = .ok (.aload_n 0, 1) := by decide +kernel
theorem dX7_init_47 : decode cX7_init 47 = .ok (.iconst 0, 1) := by decide +kernel
theorem dX7_init_48 : decode cX7_init 48 = .ok (.putfield 37, 3) := by decide +kernel
theorem dX7_init_51 : decode cX7_init 51 = .ok (.aload_n 0, 1) := by decide +kernel
theorem dX7_init_52 : decode cX7_init 52 = .ok (.iconst 0, 1) := by decide +kernel
theorem dX7_init_53 : decode cX7_init 53 = .ok (.putfield 40, 3) := by decide +kernel
theorem dX7_init_56 : decode cX7_init 56 = .ok (.iconst 0, 1) := by decide +kernel
theorem dX7_init_57 : decode cX7_init 57 = .ok (.istore_n 1, 1) := by decide +kernel
theorem dX7_init_58 : decode cX7_init 58 = .ok (.iload_n 1, 1) := by decide +kernel
theorem dX7_init_59 : decode cX7_init 59 = .ok (.bipush 60, 2) := by decide +kernel
theorem dX7_init_61 : decode cX7_init 61 = .ok (.if_icmp .ge 22, 3) := by decide +kernel
theorem dX7_init_64 : decode cX7_init 64 = .ok (.aload_n 0, 1) := by decide +kernel
theorem dX7_init_65 : decode cX7_init 65 = .ok (.getfield 17, 3) := by decide +kernel
theorem dX7_init_68 : decode cX7_init 68 = .ok (.iload_n 1, 1) := by decide +kernel
theorem dX7_init_69 : decode cX7_init 69 = .ok (.new 15, 3) := by decide +kernel
theorem dX7_init_72 : decode cX7_init 72 = .ok (.dup, 1) := by decide +kernel
theorem dX7_init_73 : decode cX7_init 73 = .ok (.invokespecial 44, 3) := by decide +kernel
theorem dX7_init_76 : decode cX7_init 76 = .ok (.aastore, 1) := by decide +kernel
theorem dX7_init_77 : decode cX7_init 77 = .ok (.iinc 1 1, 3) := by decide +kernel
theorem dX7_init_80 : decode cX7_init 80 = .ok (.goto (-22), 3) := by decide +kernel
theorem dX7_init_83 : decode cX7_init 83 = .ok (.return_, 1) := by decide +kernel
theorem dX7_append_0 : decode cX7_append 0 = .ok (.aload_n 0, 1) := by decide +kernel
theorem dX7_append_1 : decode cX7_append 1 = .ok (.getfield 21, 3) := by decide +kernel
theorem dX7_append_4 : decode cX7_append 4 = .ok (.bipush 60, 2) := by decide +kernel
theorem dX7_append_6 : decode cX7_append 6 = .ok (.if_icmp .ge 23, 3) := by decide +kernel
theorem dX7_append_9 : decode cX7_append 9 = .ok (.aload_n 0, 1) := by decide +kernel
theorem dX7_append_10 : decode cX7_append 10 = .ok (.getfield 9, 3) := by decide +kernel
theorem dX7_append_13 : decode cX7_append 13 = .ok (.aload_n 0, 1) := by decide +kernel
theorem dX7_append_14 : decode cX7_append 14 = .ok (.getfield 21, 3) := by decide +kernel
theorem dX7_append_17 : decode cX7_append 17 = .ok (.iload_n 1, 1) := by decide +kernel
theorem dX7_append_18 : decode cX7_append 18 = .ok (.castore, 1) := by decide +kernel
theorem dX7_append_19 : decode cX7_append 19 = .ok (.aload_n 0, 1) := by decide +kernel
theorem dX7_append_20 : decode cX7_append 20 = .ok (.dup, 1) := by decide +kernel
theorem dX7_append_21 : decode cX7_append 21 = .ok (.getfield 21, 3) := by decide +kernel
theorem dX7_append_24 : decode cX7_append 24 = .ok (.iconst 1, 1) := by decide +kernel
theorem dX7_append_25 : decode cX7_append 25 = .ok (.iadd, 1) := by decide +kernel
theorem dX7_append_26 : decode cX7_append 26 = .ok (.putfield 21, 3) := by decide +kernel
theorem dX7_append_29 : decode cX7_append 29 = .ok (.aload_n 0, 1) := by decide +kernel
theorem dX7_append_30 : decode cX7_append 30 = .ok (.getfield 21, 3) := by decide +kernel
theorem dX7_append_33 : decode cX7_append 33 = .ok (.ireturn, 1) := by decide +kernel
theorem dX7_split_0 : decode cX7_split 0 = .ok (.iconst 0, 1) := by decide +kernel
theorem dX7_split_1 : decode cX7_split 1 = .ok (.istore_n 1, 1) := by decide +kernel
theorem dX7_split_2 : decode cX7_split 2 = .ok (.iconst 0, 1) := by decide +kernel
theorem dX7_split_3 : decode cX7_split 3 = .ok (.istore_n 2, 1) := by decide +kernel
theorem dX7_split_4 : decode cX7_split 4 = .ok (.iload_n 2, 1) := by decide +kernel
theorem dX7_split_5 : decode cX7_split 5 = .ok (.bipush 60, 2) := by decide +kernel
theorem dX7_split_7 : decode cX7_split 7 = .ok (.if_icmp .ge 68, 3) := by decide +kernel
theorem dX7_split_10 : decode cX7_split 10 = .ok (.aload_n 0, 1) := by decide +kernel
theorem dX7_split_11 : decode cX7_split 11 = .ok (.aload_n 0, 1) := by decide +kernel
theorem dX7_split_12 : decode cX7_split 12 = .ok (.getfield 17, 3) := by decide +kernel
theorem dX7_split_15 : decode cX7_split 15 = .ok (.iload_n 2, 1) := by decide +kernel
theorem dX7_split_16 : decode cX7_split 16 = .ok (.aaload, 1) := by decide +kernel
theorem dX7_split_17 : decode cX7_split 17 = .ok (.iload_n 1, 1) := by decide +kernel
theorem dX7_split_18 : decode cX7_split 18 = .ok (.invokevirtual 45, 3) := by decide +kernel
theorem dX7_split_21 : decode cX7_split 21 = .ok (.ifCond .ne 5, 3) := by decide +kernel
theorem dX7_split_24 : decode cX7_split 24 = .ok (.iconst 0, 1) := by decide +kernel
theorem dX7_split_25 : decode cX7_split 25 = .ok (.ireturn, 1) := by decide +kernel
theorem dX7_split_26 : decode cX7_split 26 = .ok (.aload_n 0, 1) := by decide +kernel
theorem dX7_split_27 : decode cX7_split 27 = .ok (.iload_n 2, 1) := by decide +kernel
theorem dX7_split_28 : decode cX7_split 28 = .ok (.iconst 1, 1) := by decide +kernel
theorem dX7_split_29 : decode cX7_split 29 = .ok (.iadd, 1) := by decide +kernel
theorem dX7_split_30 : decode cX7_split 30 = .ok (.putfield 25, 3) := by decide +kernel
theorem dX7_split_33 : decode cX7_split 33 = .ok (.aload_n 0, 1) := by decide +kernel
theorem dX7_split_34 : decode cX7_split 34 = .ok (.getfield 28, 3) := by decide +kernel
theorem dX7_split_37 : decode cX7_split 37 = .ok (.aload_n 0, 1) := by decide +kernel
theorem dX7_split_38 : decode cX7_split 38 = .ok (.getfield 21, 3) := by decide +kernel
theorem dX7_split_41 : decode cX7_split 41 = .ok (.if_icmp .lt 5, 3) := by decide +kernel
theorem dX7_split_44 : decode cX7_split 44 = .ok (.iconst 1, 1) := by decide +kernel
theorem dX7_split_45 : decode cX7_split 45 = .ok (.ireturn, 1) := by decide +kernel
theorem dX7_split_46 : decode cX7_split 46 = .ok (.aload_n 0, 1) := by decide +kernel
theorem dX7_split_47 : decode cX7_split 47 = .ok (.getfield 9, 3) := by decide +kernel
theorem dX7_split_50 : decode cX7_split 50 = .ok (.aload_n 0, 1) := by decide +kernel
theorem dX7_split_51 : decode cX7_split 51 = .ok (.getfield 28, 3) := by decide +kernel
theorem dX7_split_54 : decode cX7_split 54 = .ok (.caload, 1) := by decide +kernel
theorem dX7_split_55 : decode cX7_split 55 = .ok (.bipush 59, 2) := by decide +kernel
theorem dX7_split_57 : decode cX7_split 57 = .ok (.if_icmp .eq 5, 3) := by decide +kernel
theorem dX7_split_60 : decode cX7_split 60 = .ok (.iconst 0, 1) := by decide +kernel
theorem dX7_split_61 : decode cX7_split 61 = .ok (.ireturn, 1) := by decide +kernel
theorem dX7_split_62 : decode cX7_split 62 = .ok (.aload_n 0, 1) := by decide +kernel
theorem dX7_split_63 : decode cX7_split 63 = .ok (.getfield 28, 3) := by decide +kernel
theorem dX7_split_66 : decode cX7_split 66 = .ok (.iconst 1, 1) := by decide +kernel
theorem dX7_split_67 : decode cX7_split 67 = .ok (.iadd, 1) := by decide +kernel
theorem dX7_split_68 : decode cX7_split 68 = .ok (.istore_n 1, 1) := by decide +kernel
theorem dX7_split_69 : decode cX7_split 69 = .ok (.iinc 2 1, 3) := by decide +kernel
theorem dX7_split_72 : decode cX7_split 72 = .ok (.goto (-68), 3) := by decide +kernel
theorem dX7_split_75 : decode cX7_split 75 = .ok (.iconst 0, 1) := by decide +kernel
theorem dX7_split_76 : decode cX7_split 76 = .ok (.ireturn, 1) := by decide +kernel
theorem dX7_readCommand_0 : decode cX7_readCommand 0 = .ok (.iconst (-1), 1) := by decide +kernel
theorem dX7_readCommand_1 : decode cX7_readCommand 1 = .ok (.istore_n 3, 1) := by decide +kernel
theorem dX7_readCommand_2 : decode cX7_readCommand 2 = .ok (.aload_n 0, 1) := by decide +kernel
theorem dX7_readCommand_3 : decode cX7_readCommand 3 = .ok (.iload_n 2, 1) := by decide +kernel
theorem dX7_readCommand_4 : decode cX7_readCommand 4 = .ok (.putfield 28, 3) := by decide +kernel
theorem dX7_readCommand_7 : decode cX7_readCommand 7 = .ok (.getstatic 49, 3) := by decide +kernel
theorem dX7_readCommand_10 : decode cX7_readCommand 10 = .ok (.astore 4, 2) := by decide +kernel
theorem dX7_readCommand_12 : decode cX7_readCommand 12 = .ok (.aload 4, 2) := by decide +kernel
theorem dX7_readCommand_14 : decode cX7_readCommand 14 = .ok (.arraylength, 1) := by decide +kernel
theorem dX7_readCommand_15 : decode cX7_readCommand 15 = .ok (.istore 5, 2) := by decide +kernel
theorem dX7_readCommand_17 : decode cX7_readCommand 17 = .ok (.iconst 0, 1) := by decide +kernel
theorem dX7_readCommand_18 : decode cX7_readCommand 18 = .ok (.istore 6, 2) := by decide +kernel
theorem dX7_readCommand_20 : decode cX7_readCommand 20 = .ok (.iload 6, 2) := by decide +kernel
theorem dX7_readCommand_22 : decode cX7_readCommand 22 = .ok (.iload 5, 2) := by decide +kernel
theorem dX7_readCommand_24 : decode cX7_readCommand 24 = .ok (.if_icmp .ge 73, 3) := by decide +kernel
theorem dX7_readCommand_27 : decode cX7_readCommand 27 = .ok (.aload 4, 2) := by decide +kernel
theorem dX7_readCommand_29 : decode cX7_readCommand 29 = .ok (.iload 6, 2) := by decide +kernel
theorem dX7_readCommand_31 : decode cX7_readCommand 31 = .ok (.aaload, 1) := by decide +kernel
theorem dX7_readCommand_32 : decode cX7_readCommand 32 = .ok (.astore 7, 2) := by decide +kernel
theorem dX7_readCommand_34 : decode cX7_readCommand 34 = .ok (.aload_n 0, 1) := by decide +kernel
theorem dX7_readCommand_35 : decode cX7_readCommand 35 = .ok (.aload 7, 2) := by decide +kernel
theorem dX7_readCommand_37 : decode cX7_readCommand 37 = .ok (.getfield 53, 3) := by decide +kernel
theorem dX7_readCommand_40 : decode cX7_readCommand 40 = .ok (.iload_n 2, 1) := by decide +kernel
theorem dX7_readCommand_41 : decode cX7_readCommand 41 = .ok (.invokevirtual 59, 3) := by decide +kernel
theorem dX7_readCommand_44 : decode cX7_readCommand 44 = .ok (.istore 8, 2) := by decide +kernel
theorem dX7_readCommand_46 : decode cX7_readCommand 46 = .ok (.aload_n 0, 1) := by decide +kernel
theorem dX7_readCommand_47 : decode cX7_readCommand 47 = .ok (.getfield 40, 3) := by decide +kernel
theorem dX7_readCommand_50 : decode cX7_readCommand 50 = .ok (.ifCond .eq 28, 3) := by decide +kernel
theorem dX7_readCommand_53 : decode cX7_readCommand 53 = .ok (.aload_n 1, 1) := by decide +kernel
theorem dX7_readCommand_54 : decode cX7_readCommand 54 = .ok (.aload 7, 2) := by decide +kernel
theorem dX7_readCommand_56 : decode cX7_readCommand 56 = .ok (.putfield 63, 3) := by decide +kernel
theorem dX7_readCommand_59 : decode cX7_readCommand 59 = .ok (.aload_n 1, 1) := by decide +kernel
theorem dX7_readCommand_60 : decode cX7_readCommand 60 = .ok (.aload_n 0, 1) := by decide +kernel
theorem dX7_readCommand_61 : decode cX7_readCommand 61 = .ok (.getfield 34, 3) := by decide +kernel
theorem dX7_readCommand_64 : decode cX7_readCommand 64 = .ok (.putfield 67, 3) := by decide +kernel
theorem dX7_readCommand_67 : decode cX7_readCommand 67 = .ok (.aload_n 1, 1) := by decide +kernel
theorem dX7_readCommand_68 : decode cX7_readCommand 68 = .ok (.aload_n 0, 1) := by decide +kernel
theorem dX7_readCommand_69 : decode cX7_readCommand 69 = .ok (.getfield 37, 3) := by decide +kernel
theorem dX7_readCommand_72 : decode cX7_readCommand 72 = .ok (.putfield 70, 3) := by decide +kernel
theorem dX7_readCommand_75 : decode cX7_readCommand 75 = .ok (.iload 8, 2) := by decide +kernel
theorem dX7_readCommand_77 : decode cX7_readCommand 77 = .ok (.istore_n 3, 1) := by decide +kernel
theorem dX7_readCommand_78 : decode cX7_readCommand 78 = .ok (.aload_n 0, 1) := by decide +kernel
theorem dX7_readCommand_79 : decode cX7_readCommand 79 = .ok (.aload_n 0, 1) := by decide +kernel
theorem dX7_readCommand_80 : decode cX7_readCommand 80 = .ok (.getfield 28, 3) := by decide +kernel
theorem dX7_readCommand_83 : decode cX7_readCommand 83 = .ok (.iload 8, 2) := by decide +kernel
theorem dX7_readCommand_85 : decode cX7_readCommand 85 = .ok (.invokestatic 73, 3) := by decide +kernel
theorem dX7_readCommand_88 : decode cX7_readCommand 88 = .ok (.putfield 28, 3) := by decide +kernel
theorem dX7_readCommand_91 : decode cX7_readCommand 91 = .ok (.iinc 6 1, 3) := by decide +kernel
theorem dX7_readCommand_94 : decode cX7_readCommand 94 = .ok (.goto (-74), 3) := by decide +kernel
theorem dX7_readCommand_97 : decode cX7_readCommand 97 = .ok (.iload_n 3, 1) := by decide +kernel
theorem dX7_readCommand_98 : decode cX7_readCommand 98 = .ok (.aload_n 0, 1) := by decide +kernel
theorem dX7_readCommand_99 : decode cX7_readCommand 99 = .ok (.getfield 28, 3) := by decide +kernel
theorem dX7_readCommand_102 : decode cX7_readCommand 102 = .ok (.if_icmp .ne 7, 3) := by decide +kernel
theorem dX7_readCommand_105 : decode cX7_readCommand 105 = .ok (.iconst 1, 1) := by decide +kernel
theorem dX7_readCommand_106 : decode cX7_readCommand 106 = .ok (.goto 4, 3) := by decide +kernel
theorem dX7_readCommand_109 : decode cX7_readCommand 109 = .ok (.iconst 0, 1) := by decide +kernel
theorem dX7_readCommand_110 : decode cX7_readCommand 110 = .ok (.ireturn, 1) := by decide +kernel
theorem dX7_match_0 : decode cX7_match 0 = .ok (.iload_n 2, 1) := by decide +kernel
theorem dX7_match_1 : decode cX7_match 1 = .ok (.istore_n 3, 1) := by decide +kernel
theorem dX7_match_2 : decode cX7_match 2 = .ok (.aload_n 0, 1) := by decide +kernel
theorem dX7_match_3 : decode cX7_match 3 = .ok (.iconst 0, 1) := by decide +kernel
theorem dX7_match_4 : decode cX7_match 4 = .ok (.putfield 31, 3) := by decide +kernel
theorem dX7_match_7 : decode cX7_match 7 = .ok (.aload_n 0, 1) := by decide +kernel
theorem dX7_match_8 : decode cX7_match 8 = .ok (.iconst 0, 1) := by decide +kernel
theorem dX7_match_9 : decode cX7_match 9 = .ok (.putfield 40, 3) := by decide +kernel
theorem dX7_match_12 : decode cX7_match 12 = .ok (.iconst 0, 1) := by decide +kernel
theorem dX7_match_13 : decode cX7_match 13 = .ok (.istore 4, 2) := by decide +kernel
theorem dX7_match_15 : decode cX7_match 15 = .ok (.iload 4, 2) := by decide +kernel
theorem dX7_match_17 : decode cX7_match 17 = .ok (.aload_n 1, 1) := by decide +kernel
theorem dX7_match_18 : decode cX7_match 18 = .ok (.invokevirtual 79, 3) := by decide +kernel
theorem dX7_match_21 : decode cX7_match 21 = .ok (.if_icmp .ge 34, 3) := by decide +kernel
theorem dX7_match_24 : decode cX7_match 24 = .ok (.aload_n 0, 1) := by decide +kernel
theorem dX7_match_25 : decode cX7_match 25 = .ok (.aload_n 1, 1) := by decide +kernel
theorem dX7_match_26 : decode cX7_match 26 = .ok (.iload 4, 2) := by decide +kernel
theorem dX7_match_28 : decode cX7_match 28 = .ok (.invokevirtual 84, 3) := by decide +kernel
theorem dX7_match_31 : decode cX7_match 31 = .ok (.iload_n 3, 1) := by decide +kernel
theorem dX7_match_32 : decode cX7_match 32 = .ok (.invokevirtual 88, 3) := by decide +kernel
theorem dX7_match_35 : decode cX7_match 35 = .ok (.istore 5, 2) := by decide +kernel
theorem dX7_match_37 : decode cX7_match 37 = .ok (.iload 5, 2) := by decide +kernel
theorem dX7_match_39 : decode cX7_match 39 = .ok (.ifCond .ne 5, 3) := by decide +kernel
theorem dX7_match_42 : decode cX7_match 42 = .ok (.iload_n 3, 1) := by decide +kernel
theorem dX7_match_43 : decode cX7_match 43 = .ok (.ireturn, 1) := by decide +kernel
theorem dX7_match_44 : decode cX7_match 44 = .ok (.iload_n 3, 1) := by decide +kernel
theorem dX7_match_45 : decode cX7_match 45 = .ok (.iload 5, 2) := by decide +kernel
theorem dX7_match_47 : decode cX7_match 47 = .ok (.iadd, 1) := by decide +kernel
theorem dX7_match_48 : decode cX7_match 48 = .ok (.istore_n 3, 1) := by decide +kernel
theorem dX7_match_49 : decode cX7_match 49 = .ok (.iinc 4 1, 3) := by decide +kernel
theorem dX7_match_52 : decode cX7_match 52 = .ok (.goto (-37), 3) := by decide +kernel
theorem dX7_match_55 : decode cX7_match 55 = .ok (.aload_n 0, 1) := by decide +kernel
theorem dX7_match_56 : decode cX7_match 56 = .ok (.iconst 1, 1) := by decide +kernel
theorem dX7_match_57 : decode cX7_match 57 = .ok (.putfield 40, 3) := by decide +kernel
theorem dX7_match_60 : decode cX7_match 60 = .ok (.iload_n 3, 1) := by decide +kernel
theorem dX7_match_61 : decode cX7_match 61 = .ok (.ireturn, 1) := by decide +kernel
theorem dX7_widthOf_0 : decode cX7_widthOf 0 = .ok (.iload_n 1, 1) := by decide +kernel
theorem dX7_widthOf_1 : decode cX7_widthOf 1 = .ok (.bipush 35, 2) := by decide +kernel
theorem dX7_widthOf_3 : decode cX7_widthOf 3 = .ok (.if_icmp .ne 10, 3) := by decide +kernel
theorem dX7_widthOf_6 : decode cX7_widthOf 6 = .ok (.aload_n 0, 1) := by decide +kernel
theorem dX7_widthOf_7 : decode cX7_widthOf 7 = .ok (.iload_n 2, 1) := by decide +kernel
theorem dX7_widthOf_8 : decode cX7_widthOf 8 = .ok (.iconst 1, 1) := by decide +kernel
theorem dX7_widthOf_9 : decode cX7_widthOf 9 = .ok (.invokevirtual 92, 3) := by decide +kernel
theorem dX7_widthOf_12 : decode cX7_widthOf 12 = .ok (.ireturn, 1) := by decide +kernel
theorem dX7_widthOf_13 : decode cX7_widthOf 13 = .ok (.iload_n 1, 1) := by decide +kernel
theorem dX7_widthOf_14 : decode cX7_widthOf 14 = .ok (.bipush 37, 2) := by decide +kernel
theorem dX7_widthOf_16 : decode cX7_widthOf 16 = .ok (.if_icmp .ne 10, 3) := by decide +kernel
theorem dX7_widthOf_19 : decode cX7_widthOf 19 = .ok (.aload_n 0, 1) := by decide +kernel
theorem dX7_widthOf_20 : decode cX7_widthOf 20 = .ok (.iload_n 2, 1) := by decide +kernel
theorem dX7_widthOf_21 : decode cX7_widthOf 21 = .ok (.iconst 3, 1) := by decide +kernel
theorem dX7_widthOf_22 : decode cX7_widthOf 22 = .ok (.invokevirtual 92, 3) := by decide +kernel
theorem dX7_widthOf_25 : decode cX7_widthOf 25 = .ok (.ireturn, 1) := by decide +kernel
theorem dX7_widthOf_26 : decode cX7_widthOf 26 = .ok (.iload_n 2, 1) := by decide +kernel
theorem dX7_widthOf_27 : decode cX7_widthOf 27 = .ok (.ifCond .lt 25, 3) := by decide +kernel
theorem dX7_widthOf_30 : decode cX7_widthOf 30 = .ok (.iload_n 2, 1) := by decide +kernel
theorem dX7_widthOf_31 : decode cX7_widthOf 31 = .ok (.aload_n 0, 1) := by decide +kernel
theorem dX7_widthOf_32 : decode cX7_widthOf 32 = .ok (.getfield 21, 3) := by decide +kernel
theorem dX7_widthOf_35 : decode cX7_widthOf 35 = .ok (.if_icmp .ge 17, 3) := by decide +kernel
theorem dX7_widthOf_38 : decode cX7_widthOf 38 = .ok (.aload_n 0, 1) := by decide +kernel
theorem dX7_widthOf_39 : decode cX7_widthOf 39 = .ok (.getfield 9, 3) := by decide +kernel
theorem dX7_widthOf_42 : decode cX7_widthOf 42 = .ok (.iload_n 2, 1) := by decide +kernel
theorem dX7_widthOf_43 : decode cX7_widthOf 43 = .ok (.caload, 1) := by decide +kernel
theorem dX7_widthOf_44 : decode cX7_widthOf 44 = .ok (.iload_n 1, 1) := by decide +kernel
theorem dX7_widthOf_45 : decode cX7_widthOf 45 = .ok (.if_icmp .ne 7, 3) := by decide +kernel
theorem dX7_widthOf_48 : decode cX7_widthOf 48 = .ok (.iconst 1, 1) := by decide +kernel
theorem dX7_widthOf_49 : decode cX7_widthOf 49 = .ok (.goto 4, 3) := by decide +kernel
theorem dX7_widthOf_52 : decode cX7_widthOf 52 = .ok (.iconst 0, 1) := by decide +kernel
theorem dX7_widthOf_53 : decode cX7_widthOf 53 = .ok (.ireturn, 1) := by decide +kernel
theorem dX7_readNumber_0 : decode cX7_readNumber 0 = .ok (.iconst 0, 1) := by decide +kernel
theorem dX7_readNumber_1 : decode cX7_readNumber 1 = .ok (.istore_n 3, 1) := by decide +kernel
theorem dX7_readNumber_2 : decode cX7_readNumber 2 = .ok (.iconst 0, 1) := by decide +kernel
theorem dX7_readNumber_3 : decode cX7_readNumber 3 = .ok (.istore 4, 2) := by decide +kernel
theorem dX7_readNumber_5 : decode cX7_readNumber 5 = .ok (.iload_n 1, 1) := by decide +kernel
theorem dX7_readNumber_6 : decode cX7_readNumber 6 = .ok (.istore 5, 2) := by decide +kernel
theorem dX7_readNumber_8 : decode cX7_readNumber 8 = .ok (.iload_n 3, 1) := by decide +kernel
theorem dX7_readNumber_9 : decode cX7_readNumber 9 = .ok (.iload_n 2, 1) := by decide +kernel
theorem dX7_readNumber_10 : decode cX7_readNumber 10 = .ok (.if_icmp .ge 39, 3) := by decide +kernel
theorem dX7_readNumber_13 : decode cX7_readNumber 13 = .ok (.aload_n 0, 1) := by decide +kernel
theorem dX7_readNumber_14 : decode cX7_readNumber 14 = .ok (.iload 5, 2) := by decide +kernel
theorem dX7_readNumber_16 : decode cX7_readNumber 16 = .ok (.invokevirtual 95, 3) := by decide +kernel
theorem dX7_readNumber_19 : decode cX7_readNumber 19 = .ok (.ifCond .eq 30, 3) := by decide +kernel
theorem dX7_readNumber_22 : decode cX7_readNumber 22 = .ok (.iload 4, 2) := by decide +kernel
theorem dX7_readNumber_24 : decode cX7_readNumber 24 = .ok (.bipush 10, 2) := by decide +kernel
theorem dX7_readNumber_26 : decode cX7_readNumber 26 = .ok (.imul, 1) := by decide +kernel
theorem dX7_readNumber_27 : decode cX7_readNumber 27 = .ok (.aload_n 0, 1) := by decide +kernel
theorem dX7_readNumber_28 : decode cX7_readNumber 28 = .ok (.getfield 9, 3) := by decide +kernel
theorem dX7_readNumber_31 : decode cX7_readNumber 31 = .ok (.iload 5, 2) := by decide +kernel
theorem dX7_readNumber_33 : decode cX7_readNumber 33 = .ok (.caload, 1) := by decide +kernel
theorem dX7_readNumber_34 : decode cX7_readNumber 34 = .ok (.iadd, 1) := by decide +kernel
theorem dX7_readNumber_35 : decode cX7_readNumber 35 = .ok (.bipush 48, 2) := by decide +kernel
theorem dX7_readNumber_37 : decode cX7_readNumber 37 = .ok (.isub, 1) := by decide +kernel
theorem dX7_readNumber_38 : decode cX7_readNumber 38 = .ok (.istore 4, 2) := by decide +kernel
theorem dX7_readNumber_40 : decode cX7_readNumber 40 = .ok (.iinc 3 1, 3) := by decide +kernel
theorem dX7_readNumber_43 : decode cX7_readNumber 43 = .ok (.iinc 5 1, 3) := by decide +kernel
theorem dX7_readNumber_46 : decode cX7_readNumber 46 = .ok (.goto (-38), 3) := by decide +kernel
theorem dX7_readNumber_49 : decode cX7_readNumber 49 = .ok (.aload_n 0, 1) := by decide +kernel
theorem dX7_readNumber_50 : decode cX7_readNumber 50 = .ok (.getfield 31, 3) := by decide +kernel
theorem dX7_readNumber_53 : decode cX7_readNumber 53 = .ok (.ifCond .ne 12, 3) := by decide +kernel
theorem dX7_readNumber_56 : decode cX7_readNumber 56 = .ok (.aload_n 0, 1) := by decide +kernel
theorem dX7_readNumber_57 : decode cX7_readNumber 57 = .ok (.iload 4, 2) := by decide +kernel
theorem dX7_readNumber_59 : decode cX7_readNumber 59 = .ok (.putfield 34, 3) := by decide +kernel
theorem dX7_readNumber_62 : decode cX7_readNumber 62 = .ok (.goto 9, 3) := by decide +kernel
theorem dX7_readNumber_65 : decode cX7_readNumber 65 = .ok (.aload_n 0, 1) := by decide +kernel
theorem dX7_readNumber_66 : decode cX7_readNumber 66 = .ok (.iload 4, 2) := by decide +kernel
theorem dX7_readNumber_68 : decode cX7_readNumber 68 = .ok (.putfield 37, 3) := by decide +kernel
theorem dX7_readNumber_71 : decode cX7_readNumber 71 = .ok (.aload_n 0, 1) := by decide +kernel
theorem dX7_readNumber_72 : decode cX7_readNumber 72 = .ok (.dup, 1) := by decide +kernel
theorem dX7_readNumber_73 : decode cX7_readNumber 73 = .ok (.getfield 31, 3) := by decide +kernel
theorem dX7_readNumber_76 : decode cX7_readNumber 76 = .ok (.iconst 1, 1) := by decide +kernel
theorem dX7_readNumber_77 : decode cX7_readNumber 77 = .ok (.iadd, 1) := by decide +kernel
theorem dX7_readNumber_78 : decode cX7_readNumber 78 = .ok (.putfield 31, 3) := by decide +kernel
theorem dX7_readNumber_81 : decode cX7_readNumber 81 = .ok (.iload_n 3, 1) := by decide +kernel
theorem dX7_readNumber_82 : decode cX7_readNumber 82 = .ok (.ireturn, 1) := by decide +kernel
theorem dX7_isDigitAt_0 : decode cX7_isDigitAt 0 = .ok (.iload_n 1, 1) := by decide +kernel
theorem dX7_isDigitAt_1 : decode cX7_isDigitAt 1 = .ok (.ifCond .lt 37, 3) := by decide +kernel
theorem dX7_isDigitAt_4 : decode cX7_isDigitAt 4 = .ok (.iload_n 1, 1) := by decide +kernel
theorem dX7_isDigitAt_5 : decode cX7_isDigitAt 5 = .ok (.aload_n 0, 1) := by decide +kernel
theorem dX7_isDigitAt_6 : decode cX7_isDigitAt 6 = .ok (.getfield 21, 3) := by decide +kernel
theorem dX7_isDigitAt_9 : decode cX7_isDigitAt 9 = .ok (.if_icmp .ge 29, 3) := by decide +kernel
theorem dX7_isDigitAt_12 : decode cX7_isDigitAt 12 = .ok (.aload_n 0, 1) := by decide +kernel
theorem dX7_isDigitAt_13 : decode cX7_isDigitAt 13 = .ok (.getfield 9, 3) := by decide +kernel
theorem dX7_isDigitAt_16 : decode cX7_isDigitAt 16 = .ok (.iload_n 1, 1) := by decide +kernel
theorem dX7_isDigitAt_17 : decode cX7_isDigitAt 17 = .ok (.caload, 1) := by decide +kernel
theorem dX7_isDigitAt_18 : decode cX7_isDigitAt 18 = .ok (.bipush 48, 2) := by decide +kernel
theorem dX7_isDigitAt_20 : decode cX7_isDigitAt 20 = .ok (.if_icmp .lt 18, 3) := by decide +kernel
theorem dX7_isDigitAt_23 : decode cX7_isDigitAt 23 = .ok (.aload_n 0, 1) := by decide +kernel
theorem dX7_isDigitAt_24 : decode cX7_isDigitAt 24 = .ok (.getfield 9, 3) := by decide +kernel
theorem dX7_isDigitAt_27 : decode cX7_isDigitAt 27 = .ok (.iload_n 1, 1) := by decide +kernel
theorem dX7_isDigitAt_28 : decode cX7_isDigitAt 28 = .ok (.caload, 1) := by decide +kernel
theorem dX7_isDigitAt_29 : decode cX7_isDigitAt 29 = .ok (.bipush 57, 2) := by decide +kernel
theorem dX7_isDigitAt_31 : decode cX7_isDigitAt 31 = .ok (.if_icmp .gt 7, 3) := by decide +kernel
theorem dX7_isDigitAt_34 : decode cX7_isDigitAt 34 = .ok (.iconst 1, 1) := by decide +kernel
theorem dX7_isDigitAt_35 : decode cX7_isDigitAt 35 = .ok (.goto 4, 3) := by decide +kernel
theorem dX7_isDigitAt_38 : decode cX7_isDigitAt 38 = .ok (.iconst 0, 1) := by decide +kernel
theorem dX7_isDigitAt_39 : decode cX7_isDigitAt 39 = .ok (.ireturn, 1) := by decide +kernel
theorem dX8_init_0 : decode cX8_init 0 = .ok (.aload_n 0, 1) := by decide +kernel
theorem dX8_init_1 : decode cX8_init 1 = .ok (.invokespecial 3, 3) := by decide +kernel
theorem dX8_init_4 : decode cX8_init 4 = .ok (.aload_n 0, 1) := by decide +kernel
theorem dX8_init_5 : decode cX8_init 5 = .ok (.bipush 6, 2) := by decide +kernel
theorem dX8_init_7 : decode cX8_init 7 = .ok (.anewarray 9, 3) := by decide +kernel
theorem dX8_init_10 : decode cX8_init 10 = .ok (.putfield 11, 3) := by decide +kernel
theorem dX8_init_13 : decode cX8_init 13 = .ok (.aload_n 0, 1) := by decide +kernel
theorem dX8_init_14 : decode cX8_init 14 = .ok (.iconst 4, 1) := by decide +kernel
theorem dX8_init_15 : decode cX8_init 15 = .ok (.anewarray 17, 3) := by decide +kernel
theorem dX8_init_18 : decode cX8_init 18 = .ok (.putfield 19, 3) := by decide +kernel
theorem dX8_init_21 : decode cX8_init 21 = .ok (.aload_n 0, 1) := by decide +kernel
theorem dX8_init_22 : decode cX8_init 22 = .ok (.bipush 16, 2) := by decide +kernel
theorem dX8_init_24 : decode cX8_init 24 = .ok (.anewarray 23, 3) := by decide +kernel
theorem dX8_init_27 : decode cX8_init 27 = .ok (.putfield 25, 3) := by decide +kernel
theorem dX8_init_30 : decode cX8_init 30 = .ok (.aload_n 0, 1) := by decide +kernel
theorem dX8_init_31 : decode cX8_init 31 = .ok (.new 29, 3) := by decide +kernel
theorem dX8_init_34 : decode cX8_init 34 = .ok (.dup, 1) := by decide +kernel
theorem dX8_init_35 : decode cX8_init 35 = .ok (.invokespecial 31, 3) := by decide +kernel
theorem dX8_init_38 : decode cX8_init 38 = .ok (.putfield 32, 3) := by decide +kernel
theorem dX8_init_41 : decode cX8_init 41 = .ok (.aload_n 0, 1) := by decide +kernel
theorem dX8_init_42 : decode cX8_init 42 = .ok (.iconst 0, 1) := by decide +kernel
theorem dX8_init_43 : decode cX8_init 43 = .ok (.putfield 36, 3) := by decide +kernel
theorem dX8_init_46 : decode cX8_init 46 = .ok (.aload_n 0, 1) := by decide +kernel
theorem dX8_init_47 : decode cX8_init 47 = .ok (.iconst 0, 1) := by decide +kernel
theorem dX8_init_48 : decode cX8_init 48 = .ok (.putfield 40, 3) := by decide +kernel
theorem dX8_init_51 : decode cX8_init 51 = .ok (.aload_n 0, 1) := by decide +kernel
theorem dX8_init_52 : decode cX8_init 52 = .ok (.iconst 0, 1) := by decide +kernel
theorem dX8_init_53 : decode cX8_init 53 = .ok (.putfield 43, 3) := by decide +kernel
theorem dX8_init_56 : decode cX8_init 56 = .ok (.aload_n 0, 1) := by decide +kernel
theorem dX8_init_57 : decode cX8_init 57 = .ok (.iconst 0, 1) := by decide +kernel
theorem dX8_init_58 : decode cX8_init 58 = .ok (.putfield 46, 3) := by decide +kernel
theorem dX8_init_61 : decode cX8_init 61 = .ok (.aload_n 0, 1) := by decide +kernel
theorem dX8_init_62 : decode cX8_init 62 = .ok (.iconst 0, 1) := by decide +kernel
theorem dX8_init_63 : decode cX8_init 63 = .ok (.putfield 49, 3) := by decide +kernel
theorem dX8_init_66 : decode cX8_init 66 = .ok (.iconst 0, 1) := by decide +kernel
theorem dX8_init_67 : decode cX8_init 67 = .ok (.istore_n 1, 1) := by decide +kernel
theorem dX8_init_68 : decode cX8_init 68 = .ok (.iload_n 1, 1) := by decide +kernel
theorem dX8_init_69 : decode cX8_init 69 = .ok (.bipush 6, 2) := by decide +kernel
theorem dX8_init_71 : decode cX8_init 71 = .ok (.if_icmp .ge 22, 3) := by decide +kernel
theorem dX8_init_74 : decode cX8_init 74 = .ok (.aload_n 0, 1) := by decide +kernel
theorem dX8_init_75 : decode cX8_init 75 = .ok (.getfield 11, 3) := by decide +kernel
theorem dX8_init_78 : decode cX8_init 78 = .ok (.iload_n 1, 1) := by decide +kernel
theorem dX8_init_79 : decode cX8_init 79 = .ok (.new 9, 3) := by decide +kernel
theorem dX8_init_82 : decode cX8_init 82 = .ok (.dup, 1) := by decide +kernel
theorem dX8_init_83 : decode cX8_init 83 = .ok (.invokespecial 52, 3) := by decide +kernel
theorem dX8_init_86 : decode cX8_init 86 = .ok (.aastore, 1) := by decide +kernel
theorem dX8_init_87 : decode cX8_init 87 = .ok (.iinc 1 1, 3) := by decide +kernel
theorem dX8_init_90 : decode cX8_init 90 = .ok (.goto (-22), 3) := by decide +kernel
theorem dX8_init_93 : decode cX8_init 93 = .ok (.iconst 0, 1) := by decide +kernel
theorem dX8_init_94 : decode cX8_init 94 = .ok (.istore_n 1, 1) := by decide +kernel
theorem dX8_init_95 : decode cX8_init 95 = .ok (.iload_n 1, 1) := by decide +kernel
theorem dX8_init_96 : decode cX8_init 96 = .ok (.iconst 4, 1) := by decide +kernel
theorem dX8_init_97 : decode cX8_init 97 = .ok (.if_icmp .ge 22, 3) := by decide +kernel
theorem dX8_init_100 : decode cX8_init 100 = .ok (.aload_n 0, 1) := by decide +kernel
theorem dX8_init_101 : decode cX8_init 101 = .ok (.getfield 19, 3) := by decide +kernel
theorem dX8_init_104 : decode cX8_init 104 = .ok (.iload_n 1, 1) := by decide +kernel
theorem dX8_init_105 : decode cX8_init 105 = .ok (.new 17, 3) := by decide +kernel
theorem dX8_init_108 : decode cX8_init 108 = .ok (.dup, 1) := by decide +kernel
theorem dX8_init_109 : decode cX8_init 109 = .ok (.invokespecial 53, 3) := by decide +kernel
theorem dX8_init_112 : decode cX8_init 112 = .ok (.aastore, 1) := by decide +kernel
theorem dX8_init_113 : decode cX8_init 113 = .ok (.iinc 1 1, 3) := by decide +kernel
theorem dX8_init_116 : decode cX8_init 116 = .ok (.goto (-21), 3) := by decide +kernel
theorem dX8_init_119 : decode cX8_init 119 = .ok (.iconst 0, 1) := by decide +kernel
theorem dX8_init_120 : decode cX8_init 120 = .ok (.istore_n 1, 1) := by decide +kernel
theorem dX8_init_121 : decode cX8_init 121 = .ok (.iload_n 1, 1) := by decide +kernel
theorem dX8_init_122 : decode cX8_init 122 = .ok (.bipush 16, 2) := by decide +kernel
theorem dX8_init_124 : decode cX8_init 124 = .ok (.if_icmp .ge 22, 3) := by decide +kernel
theorem dX8_init_127 : decode cX8_init 127 = .ok (.aload_n 0, 1) := by decide +kernel
theorem dX8_init_128 : decode cX8_init 128 = .ok (.getfield 25, 3) := by decide +kernel
theorem dX8_init_131 : decode cX8_init 131 = .ok (.iload_n 1, 1) := by decide +kernel
theorem dX8_init_132 : decode cX8_init 132 = .ok (.new 23, 3) := by decide +kernel
theorem dX8_init_135 : decode cX8_init 135 = .ok (.dup, 1) := by decide +kernel
theorem dX8_init_136 : decode cX8_init 136 = .ok (.invokespecial 54, 3) := by decide +kernel
theorem dX8_init_139 : decode cX8_init 139 = .ok (.aastore, 1) := by decide +kernel
theorem dX8_init_140 : decode cX8_init 140 = .ok (.iinc 1 1, 3) := by decide +kernel
theorem dX8_init_143 : decode cX8_init 143 = .ok (.goto (-22), 3) := by decide +kernel
theorem dX8_init_146 : decode cX8_init 146 = .ok (.return_, 1) := by decide +kernel
theorem dX8_copyFrom_0 : decode cX8_copyFrom 0 = .ok (.iconst 0, 1) := by decide +kernel
theorem dX8_copyFrom_1 : decode cX8_copyFrom 1 = .ok (.istore_n 2, 1) := by decide +kernel
theorem dX8_copyFrom_2 : decode cX8_copyFrom 2 = .ok (.iload_n 2, 1) := by decide +kernel
theorem dX8_copyFrom_3 : decode cX8_copyFrom 3 = .ok (.bipush 6, 2) := by decide +kernel
theorem dX8_copyFrom_5 : decode cX8_copyFrom 5 = .ok (.if_icmp .ge 24, 3) := by decide +kernel
theorem dX8_copyFrom_8 : decode cX8_copyFrom 8 = .ok (.aload_n 0, 1) := by decide +kernel
theorem dX8_copyFrom_9 : decode cX8_copyFrom 9 = .ok (.getfield 11, 3) := by decide +kernel
theorem dX8_copyFrom_12 : decode cX8_copyFrom 12 = .ok (.iload_n 2, 1) := by decide +kernel
theorem dX8_copyFrom_13 : decode cX8_copyFrom 13 = .ok (.aaload, 1) := by decide +kernel
theorem dX8_copyFrom_14 : decode cX8_copyFrom 14 = .ok (.aload_n 1, 1) := by decide +kernel
theorem dX8_copyFrom_15 : decode cX8_copyFrom 15 = .ok (.getfield 11, 3) := by decide +kernel
theorem dX8_copyFrom_18 : decode cX8_copyFrom 18 = .ok (.iload_n 2, 1) := by decide +kernel
theorem dX8_copyFrom_19 : decode cX8_copyFrom 19 = .ok (.aaload, 1) := by decide +kernel
theorem dX8_copyFrom_20 : decode cX8_copyFrom 20 = .ok (.invokevirtual 55, 3) := by decide +kernel
theorem dX8_copyFrom_23 : decode cX8_copyFrom 23 = .ok (.iinc 2 1, 3) := by decide +kernel
theorem dX8_copyFrom_26 : decode cX8_copyFrom 26 = .ok (.goto (-24), 3) := by decide +kernel
theorem dX8_copyFrom_29 : decode cX8_copyFrom 29 = .ok (.iconst 0, 1) := by decide +kernel
theorem dX8_copyFrom_30 : decode cX8_copyFrom 30 = .ok (.istore_n 2, 1) := by decide +kernel
theorem dX8_copyFrom_31 : decode cX8_copyFrom 31 = .ok (.iload_n 2, 1) := by decide +kernel
theorem dX8_copyFrom_32 : decode cX8_copyFrom 32 = .ok (.iconst 4, 1) := by decide +kernel
theorem dX8_copyFrom_33 : decode cX8_copyFrom 33 = .ok (.if_icmp .ge 24, 3) := by decide +kernel
theorem dX8_copyFrom_36 : decode cX8_copyFrom 36 = .ok (.aload_n 0, 1) := by decide +kernel
theorem dX8_copyFrom_37 : decode cX8_copyFrom 37 = .ok (.getfield 19, 3) := by decide +kernel
theorem dX8_copyFrom_40 : decode cX8_copyFrom 40 = .ok (.iload_n 2, 1) := by decide +kernel
theorem dX8_copyFrom_41 : decode cX8_copyFrom 41 = .ok (.aaload, 1) := by decide +kernel
theorem dX8_copyFrom_42 : decode cX8_copyFrom 42 = .ok (.aload_n 1, 1) := by decide +kernel
theorem dX8_copyFrom_43 : decode cX8_copyFrom 43 = .ok (.getfield 19, 3) := by decide +kernel
theorem dX8_copyFrom_46 : decode cX8_copyFrom 46 = .ok (.iload_n 2, 1) := by decide +kernel
theorem dX8_copyFrom_47 : decode cX8_copyFrom 47 = .ok (.aaload, 1) := by decide +kernel
theorem dX8_copyFrom_48 : decode cX8_copyFrom 48 = .ok (.invokevirtual 59, 3) := by decide +kernel
theorem dX8_copyFrom_51 : decode cX8_copyFrom 51 = .ok (.iinc 2 1, 3) := by decide +kernel
theorem dX8_copyFrom_54 : decode cX8_copyFrom 54 = .ok (.goto (-23), 3) := by decide +kernel
theorem dX8_copyFrom_57 : decode cX8_copyFrom 57 = .ok (.iconst 0, 1) := by decide +kernel
theorem dX8_copyFrom_58 : decode cX8_copyFrom 58 = .ok (.istore_n 2, 1) := by decide +kernel
theorem dX8_copyFrom_59 : decode cX8_copyFrom 59 = .ok (.iload_n 2, 1) := by decide +kernel
theorem dX8_copyFrom_60 : decode cX8_copyFrom 60 = .ok (.bipush 16, 2) := by decide +kernel
theorem dX8_copyFrom_62 : decode cX8_copyFrom 62 = .ok (.if_icmp .ge 24, 3) := by decide +kernel
theorem dX8_copyFrom_65 : decode cX8_copyFrom 65 = .ok (.aload_n 0, 1) := by decide +kernel
theorem dX8_copyFrom_66 : decode cX8_copyFrom 66 = .ok (.getfield 25, 3) := by decide +kernel
theorem dX8_copyFrom_69 : decode cX8_copyFrom 69 = .ok (.iload_n 2, 1) := by decide +kernel
theorem dX8_copyFrom_70 : decode cX8_copyFrom 70 = .ok (.aaload, 1) := by decide +kernel
theorem dX8_copyFrom_71 : decode cX8_copyFrom 71 = .ok (.aload_n 1, 1) := by decide +kernel
theorem dX8_copyFrom_72 : decode cX8_copyFrom 72 = .ok (.getfield 25, 3) := by decide +kernel
theorem dX8_copyFrom_75 : decode cX8_copyFrom 75 = .ok (.iload_n 2, 1) := by decide +kernel
theorem dX8_copyFrom_76 : decode cX8_copyFrom 76 = .ok (.aaload, 1) := by decide +kernel
theorem dX8_copyFrom_77 : decode cX8_copyFrom 77 = .ok (.invokevirtual 62, 3) := by decide +kernel
theorem dX8_copyFrom_80 : decode cX8_copyFrom 80 = .ok (.iinc 2 1, 3) := by decide +kernel
theorem dX8_copyFrom_83 : decode cX8_copyFrom 83 = .ok (.goto (-24), 3) := by decide +kernel
theorem dX8_copyFrom_86 : decode cX8_copyFrom 86 = .ok (.aload_n 0, 1) := by decide +kernel
theorem dX8_copyFrom_87 : decode cX8_copyFrom 87 = .ok (.getfield 32, 3) := by decide +kernel
theorem dX8_copyFrom_90 : decode cX8_copyFrom 90 = .ok (.aload_n 1, 1) := by decide +kernel
theorem dX8_copyFrom_91 : decode cX8_copyFrom 91 = .ok (.getfield 32, 3) := by decide +kernel
theorem dX8_copyFrom_94 : decode cX8_copyFrom 94 = .ok (.invokevirtual 65, 3) := by decide +kernel
theorem dX8_copyFrom_97 : decode cX8_copyFrom 97 = .ok (.aload_n 0, 1) := by decide +kernel
theorem dX8_copyFrom_98 : decode cX8_copyFrom 98 = .ok (.aload_n 1, 1) := by decide +kernel
theorem dX8_copyFrom_99 : decode cX8_copyFrom 99 = .ok (.getfield 36, 3) := by decide +kernel
theorem dX8_copyFrom_102 : decode cX8_copyFrom 102 = .ok (.putfield 36, 3) := by decide +kernel
theorem dX8_copyFrom_105 : decode cX8_copyFrom 105 = .ok (.aload_n 0, 1) := by decide +kernel
theorem dX8_copyFrom_106 : decode cX8_copyFrom 106 = .ok (.aload_n 1, 1) := by decide +kernel
theorem dX8_copyFrom_107 : decode cX8_copyFrom 107 = .ok (.getfield 40, 3) := by decide +kernel
theorem dX8_copyFrom_110 : decode cX8_copyFrom 110 = .ok (.putfield 40, 3) := by decide +kernel
theorem dX8_copyFrom_113 : decode cX8_copyFrom 113 = .ok (.aload_n 0, 1) := by decide +kernel
theorem dX8_copyFrom_114 : decode cX8_copyFrom 114 = .ok (.aload_n 1, 1) := by decide +kernel
theorem dX8_copyFrom_115 : decode cX8_copyFrom 115 = .ok (.getfield 43, 3) := by decide +kernel
theorem dX8_copyFrom_118 : decode cX8_copyFrom 118 = .ok (.putfield 43, 3) := by decide +kernel
theorem dX8_copyFrom_121 : decode cX8_copyFrom 121 = .ok (.aload_n 0, 1) := by decide +kernel
theorem dX8_copyFrom_122 : decode cX8_copyFrom 122 = .ok (.aload_n 1, 1) := by decide +kernel
theorem dX8_copyFrom_123 : decode cX8_copyFrom 123 = .ok (.getfield 46, 3) := by decide +kernel
theorem dX8_copyFrom_126 : decode cX8_copyFrom 126 = .ok (.putfield 46, 3) := by decide +kernel
theorem dX8_copyFrom_129 : decode cX8_copyFrom 129 = .ok (.aload_n 0, 1) := by decide +kernel
theorem dX8_copyFrom_130 : decode cX8_copyFrom 130 = .ok (.aload_n 1, 1) := by decide +kernel
theorem dX8_copyFrom_131 : decode cX8_copyFrom 131 = .ok (.getfield 49, 3) := by decide +kernel
theorem dX8_copyFrom_134 : decode cX8_copyFrom 134 = .ok (.putfield 49, 3) := by decide +kernel
theorem dX8_copyFrom_137 : decode cX8_copyFrom 137 = .ok (.return_, 1) := by decide +kernel
theorem dX8_perform_0 : decode cX8_perform 0 = .ok (.getstatic 68, 3) := by decide +kernel
theorem dX8_perform_3 : decode cX8_perform 3 = .ok (.aload_n 1, 1) := by decide +kernel
theorem dX8_perform_4 : decode cX8_perform 4 = .ok (.getfield 74, 3) := by decide +kernel
theorem dX8_perform_7 : decode cX8_perform 7 = .ok (.invokevirtual 80, 3) := by decide +kernel
theorem dX8_perform_10 : decode cX8_perform 10 = .ok (.iaload, 1) := by decide +kernel
theorem dX8_perform_11 : decode cX8_perform 11 = .ok (.tableswitch 121 1 8 #[45, 58, 63, 76, 85, 94, 103, 112], 45) := by decide +kernel
theorem dX8_perform_56 : decode cX8_perform 56 = .ok (.aload_n 0, 1) := by decide +kernel
theorem dX8_perform_57 : decode cX8_perform 57 = .ok (.aload_n 1, 1) := by decide +kernel
theorem dX8_perform_58 : decode cX8_perform 58 = .ok (.getfield 86, 3) := by decide +kernel
theorem dX8_perform_61 : decode cX8_perform 61 = .ok (.aload_n 1, 1) := by decide +kernel
theorem dX8_perform_62 : decode cX8_perform 62 = .ok (.getfield 89, 3) := by decide +kernel
theorem dX8_perform_65 : decode cX8_perform 65 = .ok (.invokevirtual 92, 3) := by decide +kernel
theorem dX8_perform_68 : decode cX8_perform 68 = .ok (.ireturn, 1) := by decide +kernel
theorem dX8_perform_69 : decode cX8_perform 69 = .ok (.aload_n 0, 1) := by decide +kernel
theorem dX8_perform_70 : decode cX8_perform 70 = .ok (.invokevirtual 96, 3) := by decide +kernel
theorem dX8_perform_73 : decode cX8_perform 73 = .ok (.ireturn, 1) := by decide +kernel
theorem dX8_perform_74 : decode cX8_perform 74 = .ok (.aload_n 0, 1) := by decide +kernel
theorem dX8_perform_75 : decode cX8_perform 75 = .ok (.aload_n 1, 1) := by decide +kernel
theorem dX8_perform_76 : decode cX8_perform 76 = .ok (.getfield 86, 3) := by decide +kernel
theorem dX8_perform_79 : decode cX8_perform 79 = .ok (.aload_n 1, 1) := by decide +kernel
theorem dX8_perform_80 : decode cX8_perform 80 = .ok (.getfield 89, 3) := by decide +kernel
theorem dX8_perform_83 : decode cX8_perform 83 = .ok (.invokevirtual 99, 3) := by decide +kernel
theorem dX8_perform_86 : decode cX8_perform 86 = .ok (.ireturn, 1) := by decide +kernel
theorem dX8_perform_87 : decode cX8_perform 87 = .ok (.aload_n 0, 1) := by decide +kernel
theorem dX8_perform_88 : decode cX8_perform 88 = .ok (.aload_n 1, 1) := by decide +kernel
theorem dX8_perform_89 : decode cX8_perform 89 = .ok (.getfield 86, 3) := by decide +kernel
theorem dX8_perform_92 : decode cX8_perform 92 = .ok (.invokevirtual 102, 3) := by decide +kernel
theorem dX8_perform_95 : decode cX8_perform 95 = .ok (.ireturn, 1) := by decide +kernel
theorem dX8_perform_96 : decode cX8_perform 96 = .ok (.aload_n 0, 1) := by decide +kernel
theorem dX8_perform_97 : decode cX8_perform 97 = .ok (.aload_n 1, 1) := by decide +kernel
theorem dX8_perform_98 : decode cX8_perform 98 = .ok (.getfield 86, 3) := by decide +kernel
theorem dX8_perform_101 : decode cX8_perform 101 = .ok (.invokevirtual 106, 3) := by decide +kernel
theorem dX8_perform_104 : decode cX8_perform 104 = .ok (.ireturn, 1) := by decide +kernel
theorem dX8_perform_105 : decode cX8_perform 105 = .ok (.aload_n 0, 1) := by decide +kernel
theorem dX8_perform_106 : decode cX8_perform 106 = .ok (.aload_n 1, 1) := by decide +kernel
theorem dX8_perform_107 : decode cX8_perform 107 = .ok (.getfield 86, 3) := by decide +kernel
theorem dX8_perform_110 : decode cX8_perform 110 = .ok (.invokevirtual 109, 3) := by decide +kernel
theorem dX8_perform_113 : decode cX8_perform 113 = .ok (.ireturn, 1) := by decide +kernel
theorem dX8_perform_114 : decode cX8_perform 114 = .ok (.aload_n 0, 1) := by decide +kernel
theorem dX8_perform_115 : decode cX8_perform 115 = .ok (.aload_n 1, 1) := by decide +kernel
theorem dX8_perform_116 : decode cX8_perform 116 = .ok (.getfield 86, 3) := by decide +kernel
theorem dX8_perform_119 : decode cX8_perform 119 = .ok (.invokevirtual 112, 3) := by decide +kernel
theorem dX8_perform_122 : decode cX8_perform 122 = .ok (.ireturn, 1) := by decide +kernel
theorem dX8_perform_123 : decode cX8_perform 123 = .ok (.aload_n 0, 1) := by decide +kernel
theorem dX8_perform_124 : decode cX8_perform 124 = .ok (.aload_n 1, 1) := by decide +kernel
theorem dX8_perform_125 : decode cX8_perform 125 = .ok (.getfield 86, 3) := by decide +kernel
theorem dX8_perform_128 : decode cX8_perform 128 = .ok (.invokevirtual 115, 3) := by decide +kernel
theorem dX8_perform_131 : decode cX8_perform 131 = .ok (.ireturn, 1) := by decide +kernel
theorem dX8_perform_132 : decode cX8_perform 132 = .ok (.aload_n 0, 1) := by decide +kernel
theorem dX8_perform_133 : decode cX8_perform 133 = .ok (.iconst 1, 1) := by decide +kernel
theorem dX8_perform_134 : decode cX8_perform 134 = .ok (.invokevirtual 115, 3) := by decide +kernel
theorem dX8_perform_137 : decode cX8_perform 137 = .ok (.ireturn, 1) := by decide +kernel
theorem dX8_openNest_0 : decode cX8_openNest 0 = .ok (.iload_n 1, 1) := by decide +kernel
theorem dX8_openNest_1 : decode cX8_openNest 1 = .ok (.iconst 1, 1) := by decide +kernel
theorem dX8_openNest_2 : decode cX8_openNest 2 = .ok (.if_icmp .lt 18, 3) := by decide +kernel
theorem dX8_openNest_5 : decode cX8_openNest 5 = .ok (.iload_n 1, 1) := by decide +kernel
theorem dX8_openNest_6 : decode cX8_openNest 6 = .ok (.bipush 9, 2) := by decide +kernel
theorem dX8_openNest_8 : decode cX8_openNest 8 = .ok (.if_icmp .gt 12, 3) := by decide +kernel
theorem dX8_openNest_11 : decode cX8_openNest 11 = .ok (.iload_n 2, 1) := by decide +kernel
theorem dX8_openNest_12 : decode cX8_openNest 12 = .ok (.ifCond .lt 8, 3) := by decide +kernel
theorem dX8_openNest_15 : decode cX8_openNest 15 = .ok (.iload_n 2, 1) := by decide +kernel
theorem dX8_openNest_16 : decode cX8_openNest 16 = .ok (.iconst 4, 1) := by decide +kernel
theorem dX8_openNest_17 : decode cX8_openNest 17 = .ok (.if_icmp .le 5, 3) := by decide +kernel
theorem dX8_openNest_20 : decode cX8_openNest 20 = .ok (.iconst (-1), 1) := by decide +kernel
theorem dX8_openNest_21 : decode cX8_openNest 21 = .ok (.ireturn, 1) := by decide +kernel
theorem dX8_openNest_22 : decode cX8_openNest 22 = .ok (.aload_n 0, 1) := by decide +kernel
theorem dX8_openNest_23 : decode cX8_openNest 23 = .ok (.getfield 36, 3) := by decide +kernel
theorem dX8_openNest_26 : decode cX8_openNest 26 = .ok (.bipush 6, 2) := by decide +kernel
theorem dX8_openNest_28 : decode cX8_openNest 28 = .ok (.if_icmp .lt 6, 3) := by decide +kernel
theorem dX8_openNest_31 : decode cX8_openNest 31 = .ok (.bipush (-2), 2) := by decide +kernel
theorem dX8_openNest_33 : decode cX8_openNest 33 = .ok (.ireturn, 1) := by decide +kernel
theorem dX8_openNest_34 : decode cX8_openNest 34 = .ok (.aload_n 0, 1) := by decide +kernel
theorem dX8_openNest_35 : decode cX8_openNest 35 = .ok (.getfield 36, 3) := by decide +kernel
theorem dX8_openNest_38 : decode cX8_openNest 38 = .ok (.istore_n 3, 1) := by decide +kernel
theorem dX8_openNest_39 : decode cX8_openNest 39 = .ok (.aload_n 0, 1) := by decide +kernel
theorem dX8_openNest_40 : decode cX8_openNest 40 = .ok (.getfield 11, 3) := by decide +kernel
theorem dX8_openNest_43 : decode cX8_openNest 43 = .ok (.iload_n 3, 1) := by decide +kernel
theorem dX8_openNest_44 : decode cX8_openNest 44 = .ok (.aaload, 1) := by decide +kernel
theorem dX8_openNest_45 : decode cX8_openNest 45 = .ok (.iload_n 1, 1) := by decide +kernel
theorem dX8_openNest_46 : decode cX8_openNest 46 = .ok (.iload_n 2, 1) := by decide +kernel
theorem dX8_openNest_47 : decode cX8_openNest 47 = .ok (.invokevirtual 118, 3) := by decide +kernel
theorem dX8_openNest_50 : decode cX8_openNest 50 = .ok (.aload_n 0, 1) := by decide +kernel
theorem dX8_openNest_51 : decode cX8_openNest 51 = .ok (.dup, 1) := by decide +kernel
theorem dX8_openNest_52 : decode cX8_openNest 52 = .ok (.getfield 36, 3) := by decide +kernel
theorem dX8_openNest_55 : decode cX8_openNest 55 = .ok (.iconst 1, 1) := by decide +kernel
theorem dX8_openNest_56 : decode cX8_openNest 56 = .ok (.iadd, 1) := by decide +kernel
theorem dX8_openNest_57 : decode cX8_openNest 57 = .ok (.putfield 36, 3) := by decide +kernel
theorem dX8_openNest_60 : decode cX8_openNest 60 = .ok (.iload_n 3, 1) := by decide +kernel
theorem dX8_openNest_61 : decode cX8_openNest 61 = .ok (.ireturn, 1) := by decide +kernel
theorem dX8_hireCrow_0 : decode cX8_hireCrow 0 = .ok (.aload_n 0, 1) := by decide +kernel
theorem dX8_hireCrow_1 : decode cX8_hireCrow 1 = .ok (.getfield 40, 3) := by decide +kernel
theorem dX8_hireCrow_4 : decode cX8_hireCrow 4 = .ok (.iconst 4, 1) := by decide +kernel
theorem dX8_hireCrow_5 : decode cX8_hireCrow 5 = .ok (.if_icmp .lt 6, 3) := by decide +kernel
theorem dX8_hireCrow_8 : decode cX8_hireCrow 8 = .ok (.bipush (-2), 2) := by decide +kernel
theorem dX8_hireCrow_10 : decode cX8_hireCrow 10 = .ok (.ireturn, 1) := by decide +kernel
theorem dX8_hireCrow_11 : decode cX8_hireCrow 11 = .ok (.aload_n 0, 1) := by decide +kernel
theorem dX8_hireCrow_12 : decode cX8_hireCrow 12 = .ok (.getfield 40, 3) := by decide +kernel
theorem dX8_hireCrow_15 : decode cX8_hireCrow 15 = .ok (.istore_n 1, 1) := by decide +kernel
theorem dX8_hireCrow_16 : decode cX8_hireCrow 16 = .ok (.aload_n 0, 1) := by decide +kernel
theorem dX8_hireCrow_17 : decode cX8_hireCrow 17 = .ok (.getfield 19, 3) := by decide +kernel
theorem dX8_hireCrow_20 : decode cX8_hireCrow 20 = .ok (.iload_n 1, 1) := by decide +kernel
theorem dX8_hireCrow_21 : decode cX8_hireCrow 21 = .ok (.aaload, 1) := by decide +kernel
theorem dX8_hireCrow_22 : decode cX8_hireCrow 22 = .ok (.iconst 0, 1) := by decide +kernel
theorem dX8_hireCrow_23 : decode cX8_hireCrow 23 = .ok (.putfield 122, 3) := by decide +kernel
theorem dX8_hireCrow_26 : decode cX8_hireCrow 26 = .ok (.aload_n 0, 1) := by decide +kernel
theorem dX8_hireCrow_27 : decode cX8_hireCrow 27 = .ok (.dup, 1) := by decide +kernel
theorem dX8_hireCrow_28 : decode cX8_hireCrow 28 = .ok (.getfield 40, 3) := by decide +kernel
theorem dX8_hireCrow_31 : decode cX8_hireCrow 31 = .ok (.iconst 1, 1) := by decide +kernel
theorem dX8_hireCrow_32 : decode cX8_hireCrow 32 = .ok (.iadd, 1) := by decide +kernel
theorem dX8_hireCrow_33 : decode cX8_hireCrow 33 = .ok (.putfield 40, 3) := by decide +kernel
theorem dX8_hireCrow_36 : decode cX8_hireCrow 36 = .ok (.iload_n 1, 1) := by decide +kernel
theorem dX8_hireCrow_37 : decode cX8_hireCrow 37 = .ok (.ireturn, 1) := by decide +kernel
theorem dX8_post_0 : decode cX8_post 0 = .ok (.aload_n 0, 1) := by decide +kernel
theorem dX8_post_1 : decode cX8_post 1 = .ok (.iload_n 1, 1) := by decide +kernel
theorem dX8_post_2 : decode cX8_post 2 = .ok (.invokevirtual 126, 3) := by decide +kernel
theorem dX8_post_5 : decode cX8_post 5 = .ok (.ifnonnull 6, 3) := by decide +kernel
theorem dX8_post_8 : decode cX8_post 8 = .ok (.bipush (-3), 2) := by decide +kernel
theorem dX8_post_10 : decode cX8_post 10 = .ok (.ireturn, 1) := by decide +kernel
theorem dX8_post_11 : decode cX8_post 11 = .ok (.iload_n 2, 1) := by decide +kernel
theorem dX8_post_12 : decode cX8_post 12 = .ok (.ifCond .lt 9, 3) := by decide +kernel
theorem dX8_post_15 : decode cX8_post 15 = .ok (.iload_n 2, 1) := by decide +kernel
theorem dX8_post_16 : decode cX8_post 16 = .ok (.bipush 99, 2) := by decide +kernel
theorem dX8_post_18 : decode cX8_post 18 = .ok (.if_icmp .le 5, 3) := by decide +kernel
theorem dX8_post_21 : decode cX8_post 21 = .ok (.iconst (-1), 1) := by decide +kernel
theorem dX8_post_22 : decode cX8_post 22 = .ok (.ireturn, 1) := by decide +kernel
theorem dX8_post_23 : decode cX8_post 23 = .ok (.aload_n 0, 1) := by decide +kernel
theorem dX8_post_24 : decode cX8_post 24 = .ok (.getfield 43, 3) := by decide +kernel
theorem dX8_post_27 : decode cX8_post 27 = .ok (.bipush 16, 2) := by decide +kernel
theorem dX8_post_29 : decode cX8_post 29 = .ok (.if_icmp .lt 6, 3) := by decide +kernel
theorem dX8_post_32 : decode cX8_post 32 = .ok (.bipush (-2), 2) := by decide +kernel
theorem dX8_post_34 : decode cX8_post 34 = .ok (.ireturn, 1) := by decide +kernel
theorem dX8_post_35 : decode cX8_post 35 = .ok (.aload_n 0, 1) := by decide +kernel
theorem dX8_post_36 : decode cX8_post 36 = .ok (.getfield 32, 3) := by decide +kernel
theorem dX8_post_39 : decode cX8_post 39 = .ok (.getfield 130, 3) := by decide +kernel
theorem dX8_post_42 : decode cX8_post 42 = .ok (.istore_n 3, 1) := by decide +kernel
theorem dX8_post_43 : decode cX8_post 43 = .ok (.aload_n 0, 1) := by decide +kernel
theorem dX8_post_44 : decode cX8_post 44 = .ok (.getfield 25, 3) := by decide +kernel
theorem dX8_post_47 : decode cX8_post 47 = .ok (.aload_n 0, 1) := by decide +kernel
theorem dX8_post_48 : decode cX8_post 48 = .ok (.getfield 43, 3) := by decide +kernel
theorem dX8_post_51 : decode cX8_post 51 = .ok (.aaload, 1) := by decide +kernel
theorem dX8_post_52 : decode cX8_post 52 = .ok (.iload_n 3, 1) := by decide +kernel
theorem dX8_post_53 : decode cX8_post 53 = .ok (.iload_n 1, 1) := by decide +kernel
theorem dX8_post_54 : decode cX8_post 54 = .ok (.iload_n 2, 1) := by decide +kernel
theorem dX8_post_55 : decode cX8_post 55 = .ok (.invokevirtual 133, 3) := by decide +kernel
theorem dX8_post_58 : decode cX8_post 58 = .ok (.aload_n 0, 1) := by decide +kernel
theorem dX8_post_59 : decode cX8_post 59 = .ok (.dup, 1) := by decide +kernel
theorem dX8_post_60 : decode cX8_post 60 = .ok (.getfield 43, 3) := by decide +kernel
theorem dX8_post_63 : decode cX8_post 63 = .ok (.iconst 1, 1) := by decide +kernel
theorem dX8_post_64 : decode cX8_post 64 = .ok (.iadd, 1) := by decide +kernel
theorem dX8_post_65 : decode cX8_post 65 = .ok (.putfield 43, 3) := by decide +kernel
theorem dX8_post_68 : decode cX8_post 68 = .ok (.aload_n 0, 1) := by decide +kernel
theorem dX8_post_69 : decode cX8_post 69 = .ok (.getfield 32, 3) := by decide +kernel
theorem dX8_post_72 : decode cX8_post 72 = .ok (.dup, 1) := by decide +kernel
theorem dX8_post_73 : decode cX8_post 73 = .ok (.getfield 130, 3) := by decide +kernel
theorem dX8_post_76 : decode cX8_post 76 = .ok (.iconst 1, 1) := by decide +kernel
theorem dX8_post_77 : decode cX8_post 77 = .ok (.iadd, 1) := by decide +kernel
theorem dX8_post_78 : decode cX8_post 78 = .ok (.putfield 130, 3) := by decide +kernel
theorem dX8_post_81 : decode cX8_post 81 = .ok (.iload_n 3, 1) := by decide +kernel
theorem dX8_post_82 : decode cX8_post 82 = .ok (.ireturn, 1) := by decide +kernel
theorem dX8_handOver_0 : decode cX8_handOver 0 = .ok (.aload_n 0, 1) := by decide +kernel
theorem dX8_handOver_1 : decode cX8_handOver 1 = .ok (.iload_n 1, 1) := by decide +kernel
theorem dX8_handOver_2 : decode cX8_handOver 2 = .ok (.invokevirtual 126, 3) := by decide +kernel
theorem dX8_handOver_5 : decode cX8_handOver 5 = .ok (.astore_n 2, 1) := by decide +kernel
theorem dX8_handOver_6 : decode cX8_handOver 6 = .ok (.aload_n 2, 1) := by decide +kernel
theorem dX8_handOver_7 : decode cX8_handOver 7 = .ok (.ifnonnull 6, 3) := by decide +kernel
theorem dX8_handOver_10 : decode cX8_handOver 10 = .ok (.bipush (-3), 2) := by decide +kernel
theorem dX8_handOver_12 : decode cX8_handOver 12 = .ok (.ireturn, 1) := by decide +kernel
theorem dX8_handOver_13 : decode cX8_handOver 13 = .ok (.aload_n 2, 1) := by decide +kernel
theorem dX8_handOver_14 : decode cX8_handOver 14 = .ok (.getfield 137, 3) := by decide +kernel
theorem dX8_handOver_17 : decode cX8_handOver 17 = .ok (.ifCond .ne 6, 3) := by decide +kernel
theorem dX8_handOver_20 : decode cX8_handOver 20 = .ok (.bipush (-4), 2) := by decide +kernel
theorem dX8_handOver_22 : decode cX8_handOver 22 = .ok (.ireturn, 1) := by decide +kernel
theorem dX8_handOver_23 : decode cX8_handOver 23 = .ok (.aload_n 2, 1) := by decide +kernel
theorem dX8_handOver_24 : decode cX8_handOver 24 = .ok (.invokevirtual 140, 3) := by decide +kernel
theorem dX8_handOver_27 : decode cX8_handOver 27 = .ok (.istore_n 3, 1) := by decide +kernel
theorem dX8_handOver_28 : decode cX8_handOver 28 = .ok (.aload_n 0, 1) := by decide +kernel
theorem dX8_handOver_29 : decode cX8_handOver 29 = .ok (.iload_n 3, 1) := by decide +kernel
theorem dX8_handOver_30 : decode cX8_handOver 30 = .ok (.invokevirtual 143, 3) := by decide +kernel
theorem dX8_handOver_33 : decode cX8_handOver 33 = .ok (.aload_n 0, 1) := by decide +kernel
theorem dX8_handOver_34 : decode cX8_handOver 34 = .ok (.getfield 32, 3) := by decide +kernel
theorem dX8_handOver_37 : decode cX8_handOver 37 = .ok (.dup, 1) := by decide +kernel
theorem dX8_handOver_38 : decode cX8_handOver 38 = .ok (.getfield 147, 3) := by decide +kernel
theorem dX8_handOver_41 : decode cX8_handOver 41 = .ok (.iconst 1, 1) := by decide +kernel
theorem dX8_handOver_42 : decode cX8_handOver 42 = .ok (.iadd, 1) := by decide +kernel
theorem dX8_handOver_43 : decode cX8_handOver 43 = .ok (.putfield 147, 3) := by decide +kernel
theorem dX8_handOver_46 : decode cX8_handOver 46 = .ok (.iload_n 3, 1) := by decide +kernel
theorem dX8_handOver_47 : decode cX8_handOver 47 = .ok (.ireturn, 1) := by decide +kernel
theorem dX8_withdraw_0 : decode cX8_withdraw 0 = .ok (.aload_n 0, 1) := by decide +kernel
theorem dX8_withdraw_1 : decode cX8_withdraw 1 = .ok (.iload_n 1, 1) := by decide +kernel
theorem dX8_withdraw_2 : decode cX8_withdraw 2 = .ok (.invokevirtual 150, 3) := by decide +kernel
theorem dX8_withdraw_5 : decode cX8_withdraw 5 = .ok (.astore_n 2, 1) := by decide +kernel
theorem dX8_withdraw_6 : decode cX8_withdraw 6 = .ok (.aload_n 2, 1) := by decide +kernel
theorem dX8_withdraw_7 : decode cX8_withdraw 7 = .ok (.ifnonnull 6, 3) := by decide +kernel
theorem dX8_withdraw_10 : decode cX8_withdraw 10 = .ok (.bipush (-4), 2) := by decide +kernel
theorem dX8_withdraw_12 : decode cX8_withdraw 12 = .ok (.ireturn, 1) := by decide +kernel
theorem dX8_withdraw_13 : decode cX8_withdraw 13 = .ok (.aload_n 2, 1) := by decide +kernel
theorem dX8_withdraw_14 : decode cX8_withdraw 14 = .ok (.getfield 154, 3) := by decide +kernel
theorem dX8_withdraw_17 : decode cX8_withdraw 17 = .ok (.bipush 102, 2) := by decide +kernel
theorem dX8_withdraw_19 : decode cX8_withdraw 19 = .ok (.if_icmp .eq 12, 3) := by decide +kernel
theorem dX8_withdraw_22 : decode cX8_withdraw 22 = .ok (.aload_n 2, 1) := by decide +kernel
theorem dX8_withdraw_23 : decode cX8_withdraw 23 = .ok (.getfield 154, 3) := by decide +kernel
theorem dX8_withdraw_26 : decode cX8_withdraw 26 = .ok (.bipush 100, 2) := by decide +kernel
theorem dX8_withdraw_28 : decode cX8_withdraw 28 = .ok (.if_icmp .ne 6, 3) := by decide +kernel
theorem dX8_withdraw_31 : decode cX8_withdraw 31 = .ok (.bipush (-2), 2) := by decide +kernel
theorem dX8_withdraw_33 : decode cX8_withdraw 33 = .ok (.ireturn, 1) := by decide +kernel
theorem dX8_withdraw_34 : decode cX8_withdraw 34 = .ok (.aload_n 0, 1) := by decide +kernel
theorem dX8_withdraw_35 : decode cX8_withdraw 35 = .ok (.iload_n 1, 1) := by decide +kernel
theorem dX8_withdraw_36 : decode cX8_withdraw 36 = .ok (.invokevirtual 143, 3) := by decide +kernel
theorem dX8_withdraw_39 : decode cX8_withdraw 39 = .ok (.aload_n 0, 1) := by decide +kernel
theorem dX8_withdraw_40 : decode cX8_withdraw 40 = .ok (.getfield 32, 3) := by decide +kernel
theorem dX8_withdraw_43 : decode cX8_withdraw 43 = .ok (.dup, 1) := by decide +kernel
theorem dX8_withdraw_44 : decode cX8_withdraw 44 = .ok (.getfield 158, 3) := by decide +kernel
theorem dX8_withdraw_47 : decode cX8_withdraw 47 = .ok (.iconst 1, 1) := by decide +kernel
theorem dX8_withdraw_48 : decode cX8_withdraw 48 = .ok (.iadd, 1) := by decide +kernel
theorem dX8_withdraw_49 : decode cX8_withdraw 49 = .ok (.putfield 158, 3) := by decide +kernel
theorem dX8_withdraw_52 : decode cX8_withdraw 52 = .ok (.aload_n 0, 1) := by decide +kernel
theorem dX8_withdraw_53 : decode cX8_withdraw 53 = .ok (.getfield 43, 3) := by decide +kernel
theorem dX8_withdraw_56 : decode cX8_withdraw 56 = .ok (.ireturn, 1) := by decide +kernel
theorem dX8_turnWind_0 : decode cX8_turnWind 0 = .ok (.iload_n 1, 1) := by decide +kernel
theorem dX8_turnWind_1 : decode cX8_turnWind 1 = .ok (.ifCond .lt 9, 3) := by decide +kernel
theorem dX8_turnWind_4 : decode cX8_turnWind 4 = .ok (.iload_n 1, 1) := by decide +kernel
theorem dX8_turnWind_5 : decode cX8_turnWind 5 = .ok (.bipush 9, 2) := by decide +kernel
theorem dX8_turnWind_7 : decode cX8_turnWind 7 = .ok (.if_icmp .le 5, 3) := by decide +kernel
theorem dX8_turnWind_10 : decode cX8_turnWind 10 = .ok (.iconst (-1), 1) := by decide +kernel
theorem dX8_turnWind_11 : decode cX8_turnWind 11 = .ok (.ireturn, 1) := by decide +kernel
theorem dX8_turnWind_12 : decode cX8_turnWind 12 = .ok (.aload_n 0, 1) := by decide +kernel
theorem dX8_turnWind_13 : decode cX8_turnWind 13 = .ok (.getfield 49, 3) := by decide +kernel
theorem dX8_turnWind_16 : decode cX8_turnWind 16 = .ok (.istore_n 2, 1) := by decide +kernel
theorem dX8_turnWind_17 : decode cX8_turnWind 17 = .ok (.aload_n 0, 1) := by decide +kernel
theorem dX8_turnWind_18 : decode cX8_turnWind 18 = .ok (.iload_n 1, 1) := by decide +kernel
theorem dX8_turnWind_19 : decode cX8_turnWind 19 = .ok (.putfield 49, 3) := by decide +kernel
theorem dX8_turnWind_22 : decode cX8_turnWind 22 = .ok (.iload_n 2, 1) := by decide +kernel
theorem dX8_turnWind_23 : decode cX8_turnWind 23 = .ok (.ireturn, 1) := by decide +kernel
theorem dX8_clearKeys_0 : decode cX8_clearKeys 0 = .ok (.aload_n 0, 1) := by decide +kernel
theorem dX8_clearKeys_1 : decode cX8_clearKeys 1 = .ok (.iload_n 1, 1) := by decide +kernel
theorem dX8_clearKeys_2 : decode cX8_clearKeys 2 = .ok (.invokevirtual 126, 3) := by decide +kernel
theorem dX8_clearKeys_5 : decode cX8_clearKeys 5 = .ok (.astore_n 2, 1) := by decide +kernel
theorem dX8_clearKeys_6 : decode cX8_clearKeys 6 = .ok (.aload_n 2, 1) := by decide +kernel
theorem dX8_clearKeys_7 : decode cX8_clearKeys 7 = .ok (.ifnonnull 6, 3) := by decide +kernel
theorem dX8_clearKeys_10 : decode cX8_clearKeys 10 = .ok (.bipush (-3), 2) := by decide +kernel
theorem dX8_clearKeys_12 : decode cX8_clearKeys 12 = .ok (.ireturn, 1) := by decide +kernel
theorem dX8_clearKeys_13 : decode cX8_clearKeys 13 = .ok (.aload_n 2, 1) := by decide +kernel
theorem dX8_clearKeys_14 : decode cX8_clearKeys 14 = .ok (.getfield 161, 3) := by decide +kernel
theorem dX8_clearKeys_17 : decode cX8_clearKeys 17 = .ok (.istore_n 3, 1) := by decide +kernel
theorem dX8_clearKeys_18 : decode cX8_clearKeys 18 = .ok (.aload_n 2, 1) := by decide +kernel
theorem dX8_clearKeys_19 : decode cX8_clearKeys 19 = .ok (.iconst 0, 1) := by decide +kernel
theorem dX8_clearKeys_20 : decode cX8_clearKeys 20 = .ok (.putfield 161, 3) := by decide +kernel
theorem dX8_clearKeys_23 : decode cX8_clearKeys 23 = .ok (.iload_n 3, 1) := by decide +kernel
theorem dX8_clearKeys_24 : decode cX8_clearKeys 24 = .ok (.ireturn, 1) := by decide +kernel
theorem dX8_pass_0 : decode cX8_pass 0 = .ok (.iload_n 1, 1) := by decide +kernel
theorem dX8_pass_1 : decode cX8_pass 1 = .ok (.iconst 1, 1) := by decide +kernel
theorem dX8_pass_2 : decode cX8_pass 2 = .ok (.if_icmp .lt 9, 3) := by decide +kernel
theorem dX8_pass_5 : decode cX8_pass 5 = .ok (.iload_n 1, 1) := by decide +kernel
theorem dX8_pass_6 : decode cX8_pass 6 = .ok (.bipush 100, 2) := by decide +kernel
theorem dX8_pass_8 : decode cX8_pass 8 = .ok (.if_icmp .le 5, 3) := by decide +kernel
theorem dX8_pass_11 : decode cX8_pass 11 = .ok (.iconst (-1), 1) := by decide +kernel
theorem dX8_pass_12 : decode cX8_pass 12 = .ok (.ireturn, 1) := by decide +kernel
theorem dX8_pass_13 : decode cX8_pass 13 = .ok (.aload_n 0, 1) := by decide +kernel
theorem dX8_pass_14 : decode cX8_pass 14 = .ok (.getfield 32, 3) := by decide +kernel
theorem dX8_pass_17 : decode cX8_pass 17 = .ok (.getfield 164, 3) := by decide +kernel
theorem dX8_pass_20 : decode cX8_pass 20 = .ok (.istore_n 2, 1) := by decide +kernel
theorem dX8_pass_21 : decode cX8_pass 21 = .ok (.iconst 0, 1) := by decide +kernel
theorem dX8_pass_22 : decode cX8_pass 22 = .ok (.istore_n 3, 1) := by decide +kernel
theorem dX8_pass_23 : decode cX8_pass 23 = .ok (.iload_n 3, 1) := by decide +kernel
theorem dX8_pass_24 : decode cX8_pass 24 = .ok (.iload_n 1, 1) := by decide +kernel
theorem dX8_pass_25 : decode cX8_pass 25 = .ok (.if_icmp .ge 31, 3) := by decide +kernel
theorem dX8_pass_28 : decode cX8_pass 28 = .ok (.aload_n 0, 1) := by decide +kernel
theorem dX8_pass_29 : decode cX8_pass 29 = .ok (.dup, 1) := by decide +kernel
theorem dX8_pass_30 : decode cX8_pass 30 = .ok (.getfield 46, 3) := by decide +kernel
theorem dX8_pass_33 : decode cX8_pass 33 = .ok (.iconst 1, 1) := by decide +kernel
theorem dX8_pass_34 : decode cX8_pass 34 = .ok (.iadd, 1) := by decide +kernel
theorem dX8_pass_35 : decode cX8_pass 35 = .ok (.putfield 46, 3) := by decide +kernel
theorem dX8_pass_38 : decode cX8_pass 38 = .ok (.aload_n 0, 1) := by decide +kernel
theorem dX8_pass_39 : decode cX8_pass 39 = .ok (.invokevirtual 167, 3) := by decide +kernel
theorem dX8_pass_42 : decode cX8_pass 42 = .ok (.aload_n 0, 1) := by decide +kernel
theorem dX8_pass_43 : decode cX8_pass 43 = .ok (.invokevirtual 170, 3) := by decide +kernel
theorem dX8_pass_46 : decode cX8_pass 46 = .ok (.aload_n 0, 1) := by decide +kernel
theorem dX8_pass_47 : decode cX8_pass 47 = .ok (.invokevirtual 173, 3) := by decide +kernel
theorem dX8_pass_50 : decode cX8_pass 50 = .ok (.iinc 3 1, 3) := by decide +kernel
theorem dX8_pass_53 : decode cX8_pass 53 = .ok (.goto (-30), 3) := by decide +kernel
theorem dX8_pass_56 : decode cX8_pass 56 = .ok (.aload_n 0, 1) := by decide +kernel
theorem dX8_pass_57 : decode cX8_pass 57 = .ok (.getfield 32, 3) := by decide +kernel
theorem dX8_pass_60 : decode cX8_pass 60 = .ok (.getfield 164, 3) := by decide +kernel
theorem dX8_pass_63 : decode cX8_pass 63 = .ok (.iload_n 2, 1) := by decide +kernel
theorem dX8_pass_64 : decode cX8_pass 64 = .ok (.isub, 1) := by decide +kernel
theorem dX8_pass_65 : decode cX8_pass 65 = .ok (.ireturn, 1) := by decide +kernel
theorem dX8_landCrows_0 : decode cX8_landCrows 0 = .ok (.iconst 0, 1) := by decide +kernel
theorem dX8_landCrows_1 : decode cX8_landCrows 1 = .ok (.istore_n 1, 1) := by decide +kernel
theorem dX8_landCrows_2 : decode cX8_landCrows 2 = .ok (.iload_n 1, 1) := by decide +kernel
theorem dX8_landCrows_3 : decode cX8_landCrows 3 = .ok (.aload_n 0, 1) := by decide +kernel
theorem dX8_landCrows_4 : decode cX8_landCrows 4 = .ok (.getfield 40, 3) := by decide +kernel
theorem dX8_landCrows_7 : decode cX8_landCrows 7 = .ok (.if_icmp .ge 47, 3) := by decide +kernel
theorem dX8_landCrows_10 : decode cX8_landCrows 10 = .ok (.aload_n 0, 1) := by decide +kernel
theorem dX8_landCrows_11 : decode cX8_landCrows 11 = .ok (.getfield 19, 3) := by decide +kernel
theorem dX8_landCrows_14 : decode cX8_landCrows 14 = .ok (.iload_n 1, 1) := by decide +kernel
theorem dX8_landCrows_15 : decode cX8_landCrows 15 = .ok (.aaload, 1) := by decide +kernel
theorem dX8_landCrows_16 : decode cX8_landCrows 16 = .ok (.astore_n 2, 1) := by decide +kernel
theorem dX8_landCrows_17 : decode cX8_landCrows 17 = .ok (.aload_n 2, 1) := by decide +kernel
theorem dX8_landCrows_18 : decode cX8_landCrows 18 = .ok (.getfield 122, 3) := by decide +kernel
theorem dX8_landCrows_21 : decode cX8_landCrows 21 = .ok (.ifCond .eq 27, 3) := by decide +kernel
theorem dX8_landCrows_24 : decode cX8_landCrows 24 = .ok (.aload_n 2, 1) := by decide +kernel
theorem dX8_landCrows_25 : decode cX8_landCrows 25 = .ok (.getfield 176, 3) := by decide +kernel
theorem dX8_landCrows_28 : decode cX8_landCrows 28 = .ok (.aload_n 0, 1) := by decide +kernel
theorem dX8_landCrows_29 : decode cX8_landCrows 29 = .ok (.getfield 46, 3) := by decide +kernel
theorem dX8_landCrows_32 : decode cX8_landCrows 32 = .ok (.if_icmp .ne 16, 3) := by decide +kernel
theorem dX8_landCrows_35 : decode cX8_landCrows 35 = .ok (.aload_n 2, 1) := by decide +kernel
theorem dX8_landCrows_36 : decode cX8_landCrows 36 = .ok (.iconst 0, 1) := by decide +kernel
theorem dX8_landCrows_37 : decode cX8_landCrows 37 = .ok (.putfield 122, 3) := by decide +kernel
theorem dX8_landCrows_40 : decode cX8_landCrows 40 = .ok (.aload_n 0, 1) := by decide +kernel
theorem dX8_landCrows_41 : decode cX8_landCrows 41 = .ok (.aload_n 2, 1) := by decide +kernel
theorem dX8_landCrows_42 : decode cX8_landCrows 42 = .ok (.getfield 179, 3) := by decide +kernel
theorem dX8_landCrows_45 : decode cX8_landCrows 45 = .ok (.invokevirtual 182, 3) := by decide +kernel
theorem dX8_landCrows_48 : decode cX8_landCrows 48 = .ok (.iinc 1 1, 3) := by decide +kernel
theorem dX8_landCrows_51 : decode cX8_landCrows 51 = .ok (.goto (-49), 3) := by decide +kernel
theorem dX8_landCrows_54 : decode cX8_landCrows 54 = .ok (.return_, 1) := by decide +kernel
theorem dX8_wakeMessages_0 : decode cX8_wakeMessages 0 = .ok (.iconst 0, 1) := by decide +kernel
theorem dX8_wakeMessages_1 : decode cX8_wakeMessages 1 = .ok (.istore_n 1, 1) := by decide +kernel
theorem dX8_wakeMessages_2 : decode cX8_wakeMessages 2 = .ok (.iload_n 1, 1) := by decide +kernel
theorem dX8_wakeMessages_3 : decode cX8_wakeMessages 3 = .ok (.aload_n 0, 1) := by decide +kernel
theorem dX8_wakeMessages_4 : decode cX8_wakeMessages 4 = .ok (.getfield 43, 3) := by decide +kernel
theorem dX8_wakeMessages_7 : decode cX8_wakeMessages 7 = .ok (.if_icmp .ge 42, 3) := by decide +kernel
theorem dX8_wakeMessages_10 : decode cX8_wakeMessages 10 = .ok (.aload_n 0, 1) := by decide +kernel
theorem dX8_wakeMessages_11 : decode cX8_wakeMessages 11 = .ok (.getfield 25, 3) := by decide +kernel
theorem dX8_wakeMessages_14 : decode cX8_wakeMessages 14 = .ok (.iload_n 1, 1) := by decide +kernel
theorem dX8_wakeMessages_15 : decode cX8_wakeMessages 15 = .ok (.aaload, 1) := by decide +kernel
theorem dX8_wakeMessages_16 : decode cX8_wakeMessages 16 = .ok (.astore_n 2, 1) := by decide +kernel
theorem dX8_wakeMessages_17 : decode cX8_wakeMessages 17 = .ok (.aload_n 2, 1) := by decide +kernel
theorem dX8_wakeMessages_18 : decode cX8_wakeMessages 18 = .ok (.getfield 154, 3) := by decide +kernel
theorem dX8_wakeMessages_21 : decode cX8_wakeMessages 21 = .ok (.bipush 110, 2) := by decide +kernel
theorem dX8_wakeMessages_23 : decode cX8_wakeMessages 23 = .ok (.if_icmp .ne 20, 3) := by decide +kernel
theorem dX8_wakeMessages_26 : decode cX8_wakeMessages 26 = .ok (.aload_n 2, 1) := by decide +kernel
theorem dX8_wakeMessages_27 : decode cX8_wakeMessages 27 = .ok (.getfield 185, 3) := by decide +kernel
theorem dX8_wakeMessages_30 : decode cX8_wakeMessages 30 = .ok (.aload_n 0, 1) := by decide +kernel
theorem dX8_wakeMessages_31 : decode cX8_wakeMessages 31 = .ok (.getfield 46, 3) := by decide +kernel
theorem dX8_wakeMessages_34 : decode cX8_wakeMessages 34 = .ok (.if_icmp .ne 9, 3) := by decide +kernel
theorem dX8_wakeMessages_37 : decode cX8_wakeMessages 37 = .ok (.aload_n 2, 1) := by decide +kernel
theorem dX8_wakeMessages_38 : decode cX8_wakeMessages 38 = .ok (.bipush 119, 2) := by decide +kernel
theorem dX8_wakeMessages_40 : decode cX8_wakeMessages 40 = .ok (.putfield 154, 3) := by decide +kernel
theorem dX8_wakeMessages_43 : decode cX8_wakeMessages 43 = .ok (.iinc 1 1, 3) := by decide +kernel
theorem dX8_wakeMessages_46 : decode cX8_wakeMessages 46 = .ok (.goto (-44), 3) := by decide +kernel
theorem dX8_wakeMessages_49 : decode cX8_wakeMessages 49 = .ok (.return_, 1) := by decide +kernel
theorem dX8_sendCrows_0 : decode cX8_sendCrows 0 = .ok (.iconst 0, 1) := by decide +kernel
theorem dX8_sendCrows_1 : decode cX8_sendCrows 1 = .ok (.istore_n 1, 1) := by decide +kernel
theorem dX8_sendCrows_2 : decode cX8_sendCrows 2 = .ok (.iload_n 1, 1) := by decide +kernel
theorem dX8_sendCrows_3 : decode cX8_sendCrows 3 = .ok (.aload_n 0, 1) := by decide +kernel
theorem dX8_sendCrows_4 : decode cX8_sendCrows 4 = .ok (.getfield 40, 3) := by decide +kernel
theorem dX8_sendCrows_7 : decode cX8_sendCrows 7 = .ok (.if_icmp .ge 83, 3) := by decide +kernel
theorem dX8_sendCrows_10 : decode cX8_sendCrows 10 = .ok (.aload_n 0, 1) := by decide +kernel
theorem dX8_sendCrows_11 : decode cX8_sendCrows 11 = .ok (.getfield 19, 3) := by decide +kernel
theorem dX8_sendCrows_14 : decode cX8_sendCrows 14 = .ok (.iload_n 1, 1) := by decide +kernel
theorem dX8_sendCrows_15 : decode cX8_sendCrows 15 = .ok (.aaload, 1) := by decide +kernel
theorem dX8_sendCrows_16 : decode cX8_sendCrows 16 = .ok (.getfield 122, 3) := by decide +kernel
theorem dX8_sendCrows_19 : decode cX8_sendCrows 19 = .ok (.ifCond .eq 7, 3) := by decide +kernel
theorem dX8_sendCrows_22 : decode cX8_sendCrows 22 = .ok (.aconst_null, 1) := by decide +kernel
theorem dX8_sendCrows_23 : decode cX8_sendCrows 23 = .ok (.goto 8, 3) := by decide +kernel
theorem dX8_sendCrows_26 : decode cX8_sendCrows 26 = .ok (.aload_n 0, 1) := by decide +kernel
theorem dX8_sendCrows_27 : decode cX8_sendCrows 27 = .ok (.iconst 0, 1) := by decide +kernel
theorem dX8_sendCrows_28 : decode cX8_sendCrows 28 = .ok (.invokevirtual 188, 3) := by decide +kernel
theorem dX8_sendCrows_31 : decode cX8_sendCrows 31 = .ok (.astore_n 2, 1) := by decide +kernel
theorem dX8_sendCrows_32 : decode cX8_sendCrows 32 = .ok (.aload_n 2, 1) := by decide +kernel
theorem dX8_sendCrows_33 : decode cX8_sendCrows 33 = .ok (.ifnull 51, 3) := by decide +kernel
theorem dX8_sendCrows_36 : decode cX8_sendCrows 36 = .ok (.aload_n 2, 1) := by decide +kernel
theorem dX8_sendCrows_37 : decode cX8_sendCrows 37 = .ok (.bipush 102, 2) := by decide +kernel
theorem dX8_sendCrows_39 : decode cX8_sendCrows 39 = .ok (.putfield 154, 3) := by decide +kernel
theorem dX8_sendCrows_42 : decode cX8_sendCrows 42 = .ok (.aload_n 0, 1) := by decide +kernel
theorem dX8_sendCrows_43 : decode cX8_sendCrows 43 = .ok (.getfield 19, 3) := by decide +kernel
theorem dX8_sendCrows_46 : decode cX8_sendCrows 46 = .ok (.iload_n 1, 1) := by decide +kernel
theorem dX8_sendCrows_47 : decode cX8_sendCrows 47 = .ok (.aaload, 1) := by decide +kernel
theorem dX8_sendCrows_48 : decode cX8_sendCrows 48 = .ok (.iconst 1, 1) := by decide +kernel
theorem dX8_sendCrows_49 : decode cX8_sendCrows 49 = .ok (.putfield 122, 3) := by decide +kernel
theorem dX8_sendCrows_52 : decode cX8_sendCrows 52 = .ok (.aload_n 0, 1) := by decide +kernel
theorem dX8_sendCrows_53 : decode cX8_sendCrows 53 = .ok (.getfield 19, 3) := by decide +kernel
theorem dX8_sendCrows_56 : decode cX8_sendCrows 56 = .ok (.iload_n 1, 1) := by decide +kernel
theorem dX8_sendCrows_57 : decode cX8_sendCrows 57 = .ok (.aaload, 1) := by decide +kernel
theorem dX8_sendCrows_58 : decode cX8_sendCrows 58 = .ok (.aload_n 2, 1) := by decide +kernel
theorem dX8_sendCrows_59 : decode cX8_sendCrows 59 = .ok (.getfield 191, 3) := by decide +kernel
theorem dX8_sendCrows_62 : decode cX8_sendCrows 62 = .ok (.putfield 179, 3) := by decide +kernel
theorem dX8_sendCrows_65 : decode cX8_sendCrows 65 = .ok (.aload_n 0, 1) := by decide +kernel
theorem dX8_sendCrows_66 : decode cX8_sendCrows 66 = .ok (.getfield 19, 3) := by decide +kernel
theorem dX8_sendCrows_69 : decode cX8_sendCrows 69 = .ok (.iload_n 1, 1) := by decide +kernel
theorem dX8_sendCrows_70 : decode cX8_sendCrows 70 = .ok (.aaload, 1) := by decide +kernel
theorem dX8_sendCrows_71 : decode cX8_sendCrows 71 = .ok (.aload_n 0, 1) := by decide +kernel
theorem dX8_sendCrows_72 : decode cX8_sendCrows 72 = .ok (.getfield 46, 3) := by decide +kernel
theorem dX8_sendCrows_75 : decode cX8_sendCrows 75 = .ok (.aload_n 0, 1) := by decide +kernel
theorem dX8_sendCrows_76 : decode cX8_sendCrows 76 = .ok (.aload_n 2, 1) := by decide +kernel
theorem dX8_sendCrows_77 : decode cX8_sendCrows 77 = .ok (.invokevirtual 194, 3) := by decide +kernel
theorem dX8_sendCrows_80 : decode cX8_sendCrows 80 = .ok (.iadd, 1) := by decide +kernel
theorem dX8_sendCrows_81 : decode cX8_sendCrows 81 = .ok (.putfield 176, 3) := by decide +kernel
theorem dX8_sendCrows_84 : decode cX8_sendCrows 84 = .ok (.iinc 1 1, 3) := by decide +kernel
theorem dX8_sendCrows_87 : decode cX8_sendCrows 87 = .ok (.goto (-85), 3) := by decide +kernel
theorem dX8_sendCrows_90 : decode cX8_sendCrows 90 = .ok (.return_, 1) := by decide +kernel
theorem dX8_flightLength_0 : decode cX8_flightLength 0 = .ok (.aload_n 0, 1) := by decide +kernel
theorem dX8_flightLength_1 : decode cX8_flightLength 1 = .ok (.aload_n 1, 1) := by decide +kernel
theorem dX8_flightLength_2 : decode cX8_flightLength 2 = .ok (.getfield 198, 3) := by decide +kernel
theorem dX8_flightLength_5 : decode cX8_flightLength 5 = .ok (.invokevirtual 126, 3) := by decide +kernel
theorem dX8_flightLength_8 : decode cX8_flightLength 8 = .ok (.astore_n 2, 1) := by decide +kernel
theorem dX8_flightLength_9 : decode cX8_flightLength 9 = .ok (.aload_n 2, 1) := by decide +kernel
theorem dX8_flightLength_10 : decode cX8_flightLength 10 = .ok (.ifnonnull 7, 3) := by decide +kernel
theorem dX8_flightLength_13 : decode cX8_flightLength 13 = .ok (.iconst 1, 1) := by decide +kernel
theorem dX8_flightLength_14 : decode cX8_flightLength 14 = .ok (.goto 7, 3) := by decide +kernel
theorem dX8_flightLength_17 : decode cX8_flightLength 17 = .ok (.aload_n 2, 1) := by decide +kernel
theorem dX8_flightLength_18 : decode cX8_flightLength 18 = .ok (.getfield 201, 3) := by decide +kernel
theorem dX8_flightLength_21 : decode cX8_flightLength 21 = .ok (.istore_n 3, 1) := by decide +kernel
theorem dX8_flightLength_22 : decode cX8_flightLength 22 = .ok (.aload_n 0, 1) := by decide +kernel
theorem dX8_flightLength_23 : decode cX8_flightLength 23 = .ok (.getfield 49, 3) := by decide +kernel
theorem dX8_flightLength_26 : decode cX8_flightLength 26 = .ok (.iconst 5, 1) := by decide +kernel
theorem dX8_flightLength_27 : decode cX8_flightLength 27 = .ok (.if_icmp .le 9, 3) := by decide +kernel
theorem dX8_flightLength_30 : decode cX8_flightLength 30 = .ok (.iload_n 3, 1) := by decide +kernel
theorem dX8_flightLength_31 : decode cX8_flightLength 31 = .ok (.iconst 1, 1) := by decide +kernel
theorem dX8_flightLength_32 : decode cX8_flightLength 32 = .ok (.iadd, 1) := by decide +kernel
theorem dX8_flightLength_33 : decode cX8_flightLength 33 = .ok (.goto 4, 3) := by decide +kernel
theorem dX8_flightLength_36 : decode cX8_flightLength 36 = .ok (.iload_n 3, 1) := by decide +kernel
theorem dX8_flightLength_37 : decode cX8_flightLength 37 = .ok (.ireturn, 1) := by decide +kernel
theorem dX8_arrive_0 : decode cX8_arrive 0 = .ok (.aload_n 0, 1) := by decide +kernel
theorem dX8_arrive_1 : decode cX8_arrive 1 = .ok (.iload_n 1, 1) := by decide +kernel
theorem dX8_arrive_2 : decode cX8_arrive 2 = .ok (.invokevirtual 150, 3) := by decide +kernel
theorem dX8_arrive_5 : decode cX8_arrive 5 = .ok (.astore_n 2, 1) := by decide +kernel
theorem dX8_arrive_6 : decode cX8_arrive 6 = .ok (.aload_n 2, 1) := by decide +kernel
theorem dX8_arrive_7 : decode cX8_arrive 7 = .ok (.ifnonnull 4, 3) := by decide +kernel
theorem dX8_arrive_10 : decode cX8_arrive 10 = .ok (.return_, 1) := by decide +kernel
theorem dX8_arrive_11 : decode cX8_arrive 11 = .ok (.aload_n 0, 1) := by decide +kernel
theorem dX8_arrive_12 : decode cX8_arrive 12 = .ok (.aload_n 2, 1) := by decide +kernel
theorem dX8_arrive_13 : decode cX8_arrive 13 = .ok (.getfield 198, 3) := by decide +kernel
theorem dX8_arrive_16 : decode cX8_arrive 16 = .ok (.invokevirtual 126, 3) := by decide +kernel
theorem dX8_arrive_19 : decode cX8_arrive 19 = .ok (.astore_n 3, 1) := by decide +kernel
theorem dX8_arrive_20 : decode cX8_arrive 20 = .ok (.aload_n 3, 1) := by decide +kernel
theorem dX8_arrive_21 : decode cX8_arrive 21 = .ok (.ifnonnull 4, 3) := by decide +kernel
theorem dX8_arrive_24 : decode cX8_arrive 24 = .ok (.return_, 1) := by decide +kernel
theorem dX8_arrive_25 : decode cX8_arrive 25 = .ok (.aload_n 2, 1) := by decide +kernel
theorem dX8_arrive_26 : decode cX8_arrive 26 = .ok (.dup, 1) := by decide +kernel
theorem dX8_arrive_27 : decode cX8_arrive 27 = .ok (.getfield 204, 3) := by decide +kernel
theorem dX8_arrive_30 : decode cX8_arrive 30 = .ok (.iconst 1, 1) := by decide +kernel
theorem dX8_arrive_31 : decode cX8_arrive 31 = .ok (.iadd, 1) := by decide +kernel
theorem dX8_arrive_32 : decode cX8_arrive 32 = .ok (.putfield 204, 3) := by decide +kernel
theorem dX8_arrive_35 : decode cX8_arrive 35 = .ok (.aload_n 0, 1) := by decide +kernel
theorem dX8_arrive_36 : decode cX8_arrive 36 = .ok (.getfield 32, 3) := by decide +kernel
theorem dX8_arrive_39 : decode cX8_arrive 39 = .ok (.dup, 1) := by decide +kernel
theorem dX8_arrive_40 : decode cX8_arrive 40 = .ok (.getfield 207, 3) := by decide +kernel
theorem dX8_arrive_43 : decode cX8_arrive 43 = .ok (.iconst 1, 1) := by decide +kernel
theorem dX8_arrive_44 : decode cX8_arrive 44 = .ok (.iadd, 1) := by decide +kernel
theorem dX8_arrive_45 : decode cX8_arrive 45 = .ok (.putfield 207, 3) := by decide +kernel
theorem dX8_arrive_48 : decode cX8_arrive 48 = .ok (.aload_n 0, 1) := by decide +kernel
theorem dX8_arrive_49 : decode cX8_arrive 49 = .ok (.aload_n 2, 1) := by decide +kernel
theorem dX8_arrive_50 : decode cX8_arrive 50 = .ok (.aload_n 2, 1) := by decide +kernel
theorem dX8_arrive_51 : decode cX8_arrive 51 = .ok (.getfield 204, 3) := by decide +kernel
theorem dX8_arrive_54 : decode cX8_arrive 54 = .ok (.invokevirtual 210, 3) := by decide +kernel
theorem dX8_arrive_57 : decode cX8_arrive 57 = .ok (.istore 4, 2) := by decide +kernel
theorem dX8_arrive_59 : decode cX8_arrive 59 = .ok (.iload 4, 2) := by decide +kernel
theorem dX8_arrive_61 : decode cX8_arrive 61 = .ok (.ifCond .ne 35, 3) := by decide +kernel
theorem dX8_arrive_64 : decode cX8_arrive 64 = .ok (.aload_n 3, 1) := by decide +kernel
theorem dX8_arrive_65 : decode cX8_arrive 65 = .ok (.aload_n 2, 1) := by decide +kernel
theorem dX8_arrive_66 : decode cX8_arrive 66 = .ok (.getfield 214, 3) := by decide +kernel
theorem dX8_arrive_69 : decode cX8_arrive 69 = .ok (.invokevirtual 217, 3) := by decide +kernel
theorem dX8_arrive_72 : decode cX8_arrive 72 = .ok (.ifCond .eq 24, 3) := by decide +kernel
theorem dX8_arrive_75 : decode cX8_arrive 75 = .ok (.aload_n 0, 1) := by decide +kernel
theorem dX8_arrive_76 : decode cX8_arrive 76 = .ok (.iload_n 1, 1) := by decide +kernel
theorem dX8_arrive_77 : decode cX8_arrive 77 = .ok (.invokevirtual 143, 3) := by decide +kernel
theorem dX8_arrive_80 : decode cX8_arrive 80 = .ok (.aload_n 0, 1) := by decide +kernel
theorem dX8_arrive_81 : decode cX8_arrive 81 = .ok (.getfield 32, 3) := by decide +kernel
theorem dX8_arrive_84 : decode cX8_arrive 84 = .ok (.dup, 1) := by decide +kernel
theorem dX8_arrive_85 : decode cX8_arrive 85 = .ok (.getfield 221, 3) := by decide +kernel
theorem dX8_arrive_88 : decode cX8_arrive 88 = .ok (.iconst 1, 1) := by decide +kernel
theorem dX8_arrive_89 : decode cX8_arrive 89 = .ok (.iadd, 1) := by decide +kernel
theorem dX8_arrive_90 : decode cX8_arrive 90 = .ok (.putfield 221, 3) := by decide +kernel
theorem dX8_arrive_93 : decode cX8_arrive 93 = .ok (.goto 98, 3) := by decide +kernel
theorem dX8_arrive_96 : decode cX8_arrive 96 = .ok (.iload 4, 2) := by decide +kernel
theorem dX8_arrive_98 : decode cX8_arrive 98 = .ok (.ifCond .ne 41, 3) := by decide +kernel
theorem dX8_arrive_101 : decode cX8_arrive 101 = .ok (.aload_n 3, 1) := by decide +kernel
theorem dX8_arrive_102 : decode cX8_arrive 102 = .ok (.invokevirtual 224, 3) := by decide +kernel
theorem dX8_arrive_105 : decode cX8_arrive 105 = .ok (.ifCond .eq 34, 3) := by decide +kernel
theorem dX8_arrive_108 : decode cX8_arrive 108 = .ok (.aload_n 3, 1) := by decide +kernel
theorem dX8_arrive_109 : decode cX8_arrive 109 = .ok (.iload_n 1, 1) := by decide +kernel
theorem dX8_arrive_110 : decode cX8_arrive 110 = .ok (.aload_n 2, 1) := by decide +kernel
theorem dX8_arrive_111 : decode cX8_arrive 111 = .ok (.getfield 214, 3) := by decide +kernel
theorem dX8_arrive_114 : decode cX8_arrive 114 = .ok (.invokevirtual 228, 3) := by decide +kernel
theorem dX8_arrive_117 : decode cX8_arrive 117 = .ok (.aload_n 2, 1) := by decide +kernel
theorem dX8_arrive_118 : decode cX8_arrive 118 = .ok (.bipush 100, 2) := by decide +kernel
theorem dX8_arrive_120 : decode cX8_arrive 120 = .ok (.putfield 154, 3) := by decide +kernel
theorem dX8_arrive_123 : decode cX8_arrive 123 = .ok (.aload_n 0, 1) := by decide +kernel
theorem dX8_arrive_124 : decode cX8_arrive 124 = .ok (.getfield 32, 3) := by decide +kernel
theorem dX8_arrive_127 : decode cX8_arrive 127 = .ok (.dup, 1) := by decide +kernel
theorem dX8_arrive_128 : decode cX8_arrive 128 = .ok (.getfield 164, 3) := by decide +kernel
theorem dX8_arrive_131 : decode cX8_arrive 131 = .ok (.iconst 1, 1) := by decide +kernel
theorem dX8_arrive_132 : decode cX8_arrive 132 = .ok (.iadd, 1) := by decide +kernel
theorem dX8_arrive_133 : decode cX8_arrive 133 = .ok (.putfield 164, 3) := by decide +kernel
theorem dX8_arrive_136 : decode cX8_arrive 136 = .ok (.goto 55, 3) := by decide +kernel
theorem dX8_arrive_139 : decode cX8_arrive 139 = .ok (.aload_n 2, 1) := by decide +kernel
theorem dX8_arrive_140 : decode cX8_arrive 140 = .ok (.getfield 204, 3) := by decide +kernel
theorem dX8_arrive_143 : decode cX8_arrive 143 = .ok (.iconst 5, 1) := by decide +kernel
theorem dX8_arrive_144 : decode cX8_arrive 144 = .ok (.if_icmp .lt 24, 3) := by decide +kernel
theorem dX8_arrive_147 : decode cX8_arrive 147 = .ok (.aload_n 0, 1) := by decide +kernel
theorem dX8_arrive_148 : decode cX8_arrive 148 = .ok (.iload_n 1, 1) := by decide +kernel
theorem dX8_arrive_149 : decode cX8_arrive 149 = .ok (.invokevirtual 143, 3) := by decide +kernel
theorem dX8_arrive_152 : decode cX8_arrive 152 = .ok (.aload_n 0, 1) := by decide +kernel
theorem dX8_arrive_153 : decode cX8_arrive 153 = .ok (.getfield 32, 3) := by decide +kernel
theorem dX8_arrive_156 : decode cX8_arrive 156 = .ok (.dup, 1) := by decide +kernel
theorem dX8_arrive_157 : decode cX8_arrive 157 = .ok (.getfield 231, 3) := by decide +kernel
theorem dX8_arrive_160 : decode cX8_arrive 160 = .ok (.iconst 1, 1) := by decide +kernel
theorem dX8_arrive_161 : decode cX8_arrive 161 = .ok (.iadd, 1) := by decide +kernel
theorem dX8_arrive_162 : decode cX8_arrive 162 = .ok (.putfield 231, 3) := by decide +kernel
theorem dX8_arrive_165 : decode cX8_arrive 165 = .ok (.goto 26, 3) := by decide +kernel
theorem dX8_arrive_168 : decode cX8_arrive 168 = .ok (.aload_n 2, 1) := by decide +kernel
theorem dX8_arrive_169 : decode cX8_arrive 169 = .ok (.bipush 110, 2) := by decide +kernel
theorem dX8_arrive_171 : decode cX8_arrive 171 = .ok (.putfield 154, 3) := by decide +kernel
theorem dX8_arrive_174 : decode cX8_arrive 174 = .ok (.aload_n 2, 1) := by decide +kernel
theorem dX8_arrive_175 : decode cX8_arrive 175 = .ok (.aload_n 0, 1) := by decide +kernel
theorem dX8_arrive_176 : decode cX8_arrive 176 = .ok (.getfield 46, 3) := by decide +kernel
theorem dX8_arrive_179 : decode cX8_arrive 179 = .ok (.aload_n 2, 1) := by decide +kernel
theorem dX8_arrive_180 : decode cX8_arrive 180 = .ok (.getfield 204, 3) := by decide +kernel
theorem dX8_arrive_183 : decode cX8_arrive 183 = .ok (.invokestatic 234, 3) := by decide +kernel
theorem dX8_arrive_186 : decode cX8_arrive 186 = .ok (.l2i, 1) := by decide +kernel
theorem dX8_arrive_187 : decode cX8_arrive 187 = .ok (.iadd, 1) := by decide +kernel
theorem dX8_arrive_188 : decode cX8_arrive 188 = .ok (.putfield 185, 3) := by decide +kernel
theorem dX8_arrive_191 : decode cX8_arrive 191 = .ok (.return_, 1) := by decide +kernel
theorem dX8_isLost_0 : decode cX8_isLost 0 = .ok (.aload_n 0, 1) := by decide +kernel
theorem dX8_isLost_1 : decode cX8_isLost 1 = .ok (.aload_n 1, 1) := by decide +kernel
theorem dX8_isLost_2 : decode cX8_isLost 2 = .ok (.getfield 198, 3) := by decide +kernel
theorem dX8_isLost_5 : decode cX8_isLost 5 = .ok (.invokevirtual 126, 3) := by decide +kernel
theorem dX8_isLost_8 : decode cX8_isLost 8 = .ok (.astore_n 3, 1) := by decide +kernel
theorem dX8_isLost_9 : decode cX8_isLost 9 = .ok (.aload_n 3, 1) := by decide +kernel
theorem dX8_isLost_10 : decode cX8_isLost 10 = .ok (.ifnull 27, 3) := by decide +kernel
theorem dX8_isLost_13 : decode cX8_isLost 13 = .ok (.aload_n 1, 1) := by decide +kernel
theorem dX8_isLost_14 : decode cX8_isLost 14 = .ok (.getfield 191, 3) := by decide +kernel
theorem dX8_isLost_17 : decode cX8_isLost 17 = .ok (.iload_n 2, 1) := by decide +kernel
theorem dX8_isLost_18 : decode cX8_isLost 18 = .ok (.iadd, 1) := by decide +kernel
theorem dX8_isLost_19 : decode cX8_isLost 19 = .ok (.aload_n 0, 1) := by decide +kernel
theorem dX8_isLost_20 : decode cX8_isLost 20 = .ok (.getfield 49, 3) := by decide +kernel
theorem dX8_isLost_23 : decode cX8_isLost 23 = .ok (.iadd, 1) := by decide +kernel
theorem dX8_isLost_24 : decode cX8_isLost 24 = .ok (.iconst 5, 1) := by decide +kernel
theorem dX8_isLost_25 : decode cX8_isLost 25 = .ok (.irem, 1) := by decide +kernel
theorem dX8_isLost_26 : decode cX8_isLost 26 = .ok (.aload_n 3, 1) := by decide +kernel
theorem dX8_isLost_27 : decode cX8_isLost 27 = .ok (.getfield 238, 3) := by decide +kernel
theorem dX8_isLost_30 : decode cX8_isLost 30 = .ok (.if_icmp .ge 7, 3) := by decide +kernel
theorem dX8_isLost_33 : decode cX8_isLost 33 = .ok (.iconst 1, 1) := by decide +kernel
theorem dX8_isLost_34 : decode cX8_isLost 34 = .ok (.goto 4, 3) := by decide +kernel
theorem dX8_isLost_37 : decode cX8_isLost 37 = .ok (.iconst 0, 1) := by decide +kernel
theorem dX8_isLost_38 : decode cX8_isLost 38 = .ok (.ireturn, 1) := by decide +kernel
theorem dX8_remove_0 : decode cX8_remove 0 = .ok (.aload_n 0, 1) := by decide +kernel
theorem dX8_remove_1 : decode cX8_remove 1 = .ok (.iload_n 1, 1) := by decide +kernel
theorem dX8_remove_2 : decode cX8_remove 2 = .ok (.invokevirtual 241, 3) := by decide +kernel
theorem dX8_remove_5 : decode cX8_remove 5 = .ok (.istore_n 2, 1) := by decide +kernel
theorem dX8_remove_6 : decode cX8_remove 6 = .ok (.iload_n 2, 1) := by decide +kernel
theorem dX8_remove_7 : decode cX8_remove 7 = .ok (.iconst (-1), 1) := by decide +kernel
theorem dX8_remove_8 : decode cX8_remove 8 = .ok (.if_icmp .ne 4, 3) := by decide +kernel
theorem dX8_remove_11 : decode cX8_remove 11 = .ok (.return_, 1) := by decide +kernel
theorem dX8_remove_12 : decode cX8_remove 12 = .ok (.aload_n 0, 1) := by decide +kernel
theorem dX8_remove_13 : decode cX8_remove 13 = .ok (.getfield 25, 3) := by decide +kernel
theorem dX8_remove_16 : decode cX8_remove 16 = .ok (.iload_n 2, 1) := by decide +kernel
theorem dX8_remove_17 : decode cX8_remove 17 = .ok (.aaload, 1) := by decide +kernel
theorem dX8_remove_18 : decode cX8_remove 18 = .ok (.astore_n 3, 1) := by decide +kernel
theorem dX8_remove_19 : decode cX8_remove 19 = .ok (.iload_n 2, 1) := by decide +kernel
theorem dX8_remove_20 : decode cX8_remove 20 = .ok (.istore 4, 2) := by decide +kernel
theorem dX8_remove_22 : decode cX8_remove 22 = .ok (.iload 4, 2) := by decide +kernel
theorem dX8_remove_24 : decode cX8_remove 24 = .ok (.iconst 1, 1) := by decide +kernel
theorem dX8_remove_25 : decode cX8_remove 25 = .ok (.iadd, 1) := by decide +kernel
theorem dX8_remove_26 : decode cX8_remove 26 = .ok (.aload_n 0, 1) := by decide +kernel
theorem dX8_remove_27 : decode cX8_remove 27 = .ok (.getfield 43, 3) := by decide +kernel
theorem dX8_remove_30 : decode cX8_remove 30 = .ok (.if_icmp .ge 25, 3) := by decide +kernel
theorem dX8_remove_33 : decode cX8_remove 33 = .ok (.aload_n 0, 1) := by decide +kernel
theorem dX8_remove_34 : decode cX8_remove 34 = .ok (.getfield 25, 3) := by decide +kernel
theorem dX8_remove_37 : decode cX8_remove 37 = .ok (.iload 4, 2) := by decide +kernel
theorem dX8_remove_39 : decode cX8_remove 39 = .ok (.aload_n 0, 1) := by decide +kernel
theorem dX8_remove_40 : decode cX8_remove 40 = .ok (.getfield 25, 3) := by decide +kernel
theorem dX8_remove_43 : decode cX8_remove 43 = .ok (.iload 4, 2) := by decide +kernel
theorem dX8_remove_45 : decode cX8_remove 45 = .ok (.iconst 1, 1) := by decide +kernel
theorem dX8_remove_46 : decode cX8_remove 46 = .ok (.iadd, 1) := by decide +kernel
theorem dX8_remove_47 : decode cX8_remove 47 = .ok (.aaload, 1) := by decide +kernel
theorem dX8_remove_48 : decode cX8_remove 48 = .ok (.aastore, 1) := by decide +kernel
theorem dX8_remove_49 : decode cX8_remove 49 = .ok (.iinc 4 1, 3) := by decide +kernel
theorem dX8_remove_52 : decode cX8_remove 52 = .ok (.goto (-30), 3) := by decide +kernel
theorem dX8_remove_55 : decode cX8_remove 55 = .ok (.aload_n 0, 1) := by decide +kernel
theorem dX8_remove_56 : decode cX8_remove 56 = .ok (.dup, 1) := by decide +kernel
theorem dX8_remove_57 : decode cX8_remove 57 = .ok (.getfield 43, 3) := by decide +kernel
theorem dX8_remove_60 : decode cX8_remove 60 = .ok (.iconst 1, 1) := by decide +kernel
theorem dX8_remove_61 : decode cX8_remove 61 = .ok (.isub, 1) := by decide +kernel
theorem dX8_remove_62 : decode cX8_remove 62 = .ok (.putfield 43, 3) := by decide +kernel
theorem dX8_remove_65 : decode cX8_remove 65 = .ok (.aload_n 0, 1) := by decide +kernel
theorem dX8_remove_66 : decode cX8_remove 66 = .ok (.getfield 25, 3) := by decide +kernel
theorem dX8_remove_69 : decode cX8_remove 69 = .ok (.aload_n 0, 1) := by decide +kernel
theorem dX8_remove_70 : decode cX8_remove 70 = .ok (.getfield 43, 3) := by decide +kernel
theorem dX8_remove_73 : decode cX8_remove 73 = .ok (.aload_n 3, 1) := by decide +kernel
theorem dX8_remove_74 : decode cX8_remove 74 = .ok (.aastore, 1) := by decide +kernel
theorem dX8_remove_75 : decode cX8_remove 75 = .ok (.return_, 1) := by decide +kernel
theorem dX8_rowOf_0 : decode cX8_rowOf 0 = .ok (.iconst 0, 1) := by decide +kernel
theorem dX8_rowOf_1 : decode cX8_rowOf 1 = .ok (.istore_n 2, 1) := by decide +kernel
theorem dX8_rowOf_2 : decode cX8_rowOf 2 = .ok (.iload_n 2, 1) := by decide +kernel
theorem dX8_rowOf_3 : decode cX8_rowOf 3 = .ok (.aload_n 0, 1) := by decide +kernel
theorem dX8_rowOf_4 : decode cX8_rowOf 4 = .ok (.getfield 43, 3) := by decide +kernel
theorem dX8_rowOf_7 : decode cX8_rowOf 7 = .ok (.if_icmp .ge 24, 3) := by decide +kernel
theorem dX8_rowOf_10 : decode cX8_rowOf 10 = .ok (.aload_n 0, 1) := by decide +kernel
theorem dX8_rowOf_11 : decode cX8_rowOf 11 = .ok (.getfield 25, 3) := by decide +kernel
theorem dX8_rowOf_14 : decode cX8_rowOf 14 = .ok (.iload_n 2, 1) := by decide +kernel
theorem dX8_rowOf_15 : decode cX8_rowOf 15 = .ok (.aaload, 1) := by decide +kernel
theorem dX8_rowOf_16 : decode cX8_rowOf 16 = .ok (.getfield 191, 3) := by decide +kernel
theorem dX8_rowOf_19 : decode cX8_rowOf 19 = .ok (.iload_n 1, 1) := by decide +kernel
theorem dX8_rowOf_20 : decode cX8_rowOf 20 = .ok (.if_icmp .ne 5, 3) := by decide +kernel
theorem dX8_rowOf_23 : decode cX8_rowOf 23 = .ok (.iload_n 2, 1) := by decide +kernel
theorem dX8_rowOf_24 : decode cX8_rowOf 24 = .ok (.ireturn, 1) := by decide +kernel
theorem dX8_rowOf_25 : decode cX8_rowOf 25 = .ok (.iinc 2 1, 3) := by decide +kernel
theorem dX8_rowOf_28 : decode cX8_rowOf 28 = .ok (.goto (-26), 3) := by decide +kernel
theorem dX8_rowOf_31 : decode cX8_rowOf 31 = .ok (.iconst (-1), 1) := by decide +kernel
theorem dX8_rowOf_32 : decode cX8_rowOf 32 = .ok (.ireturn, 1) := by decide +kernel
theorem dX8_nestAt_0 : decode cX8_nestAt 0 = .ok (.iload_n 1, 1) := by decide +kernel
theorem dX8_nestAt_1 : decode cX8_nestAt 1 = .ok (.ifCond .lt 11, 3) := by decide +kernel
theorem dX8_nestAt_4 : decode cX8_nestAt 4 = .ok (.iload_n 1, 1) := by decide +kernel
theorem dX8_nestAt_5 : decode cX8_nestAt 5 = .ok (.aload_n 0, 1) := by decide +kernel
theorem dX8_nestAt_6 : decode cX8_nestAt 6 = .ok (.getfield 36, 3) := by decide +kernel
theorem dX8_nestAt_9 : decode cX8_nestAt 9 = .ok (.if_icmp .lt 7, 3) := by decide +kernel
theorem dX8_nestAt_12 : decode cX8_nestAt 12 = .ok (.aconst_null, 1) := by decide +kernel
theorem dX8_nestAt_13 : decode cX8_nestAt 13 = .ok (.goto 9, 3) := by decide +kernel
theorem dX8_nestAt_16 : decode cX8_nestAt 16 = .ok (.aload_n 0, 1) := by decide +kernel
theorem dX8_nestAt_17 : decode cX8_nestAt 17 = .ok (.getfield 11, 3) := by decide +kernel
theorem dX8_nestAt_20 : decode cX8_nestAt 20 = .ok (.iload_n 1, 1) := by decide +kernel
theorem dX8_nestAt_21 : decode cX8_nestAt 21 = .ok (.aaload, 1) := by decide +kernel
theorem dX8_nestAt_22 : decode cX8_nestAt 22 = .ok (.areturn, 1) := by decide +kernel
theorem dX8_crowAt_0 : decode cX8_crowAt 0 = .ok (.iload_n 1, 1) := by decide +kernel
theorem dX8_crowAt_1 : decode cX8_crowAt 1 = .ok (.ifCond .lt 11, 3) := by decide +kernel
theorem dX8_crowAt_4 : decode cX8_crowAt 4 = .ok (.iload_n 1, 1) := by decide +kernel
theorem dX8_crowAt_5 : decode cX8_crowAt 5 = .ok (.aload_n 0, 1) := by decide +kernel
theorem dX8_crowAt_6 : decode cX8_crowAt 6 = .ok (.getfield 40, 3) := by decide +kernel
theorem dX8_crowAt_9 : decode cX8_crowAt 9 = .ok (.if_icmp .lt 7, 3) := by decide +kernel
theorem dX8_crowAt_12 : decode cX8_crowAt 12 = .ok (.aconst_null, 1) := by decide +kernel
theorem dX8_crowAt_13 : decode cX8_crowAt 13 = .ok (.goto 9, 3) := by decide +kernel
theorem dX8_crowAt_16 : decode cX8_crowAt 16 = .ok (.aload_n 0, 1) := by decide +kernel
theorem dX8_crowAt_17 : decode cX8_crowAt 17 = .ok (.getfield 19, 3) := by decide +kernel
theorem dX8_crowAt_20 : decode cX8_crowAt 20 = .ok (.iload_n 1, 1) := by decide +kernel
theorem dX8_crowAt_21 : decode cX8_crowAt 21 = .ok (.aaload, 1) := by decide +kernel
theorem dX8_crowAt_22 : decode cX8_crowAt 22 = .ok (.areturn, 1) := by decide +kernel
theorem dX8_messageWith_0 : decode cX8_messageWith 0 = .ok (.aload_n 0, 1) := by decide +kernel
theorem dX8_messageWith_1 : decode cX8_messageWith 1 = .ok (.iload_n 1, 1) := by decide +kernel
theorem dX8_messageWith_2 : decode cX8_messageWith 2 = .ok (.invokevirtual 241, 3) := by decide +kernel
theorem dX8_messageWith_5 : decode cX8_messageWith 5 = .ok (.istore_n 2, 1) := by decide +kernel
theorem dX8_messageWith_6 : decode cX8_messageWith 6 = .ok (.iload_n 2, 1) := by decide +kernel
theorem dX8_messageWith_7 : decode cX8_messageWith 7 = .ok (.iconst (-1), 1) := by decide +kernel
theorem dX8_messageWith_8 : decode cX8_messageWith 8 = .ok (.if_icmp .ne 7, 3) := by decide +kernel
theorem dX8_messageWith_11 : decode cX8_messageWith 11 = .ok (.aconst_null, 1) := by decide +kernel
theorem dX8_messageWith_12 : decode cX8_messageWith 12 = .ok (.goto 9, 3) := by decide +kernel
theorem dX8_messageWith_15 : decode cX8_messageWith 15 = .ok (.aload_n 0, 1) := by decide +kernel
theorem dX8_messageWith_16 : decode cX8_messageWith 16 = .ok (.getfield 25, 3) := by decide +kernel
theorem dX8_messageWith_19 : decode cX8_messageWith 19 = .ok (.iload_n 2, 1) := by decide +kernel
theorem dX8_messageWith_20 : decode cX8_messageWith 20 = .ok (.aaload, 1) := by decide +kernel
theorem dX8_messageWith_21 : decode cX8_messageWith 21 = .ok (.areturn, 1) := by decide +kernel
theorem dX8_waitingAtRank_0 : decode cX8_waitingAtRank 0 = .ok (.iconst 0, 1) := by decide +kernel
theorem dX8_waitingAtRank_1 : decode cX8_waitingAtRank 1 = .ok (.istore_n 2, 1) := by decide +kernel
theorem dX8_waitingAtRank_2 : decode cX8_waitingAtRank 2 = .ok (.iconst 0, 1) := by decide +kernel
theorem dX8_waitingAtRank_3 : decode cX8_waitingAtRank 3 = .ok (.istore_n 3, 1) := by decide +kernel
theorem dX8_waitingAtRank_4 : decode cX8_waitingAtRank 4 = .ok (.iload_n 3, 1) := by decide +kernel
theorem dX8_waitingAtRank_5 : decode cX8_waitingAtRank 5 = .ok (.iconst 5, 1) := by decide +kernel
theorem dX8_waitingAtRank_6 : decode cX8_waitingAtRank 6 = .ok (.if_icmp .ge 66, 3) := by decide +kernel
theorem dX8_waitingAtRank_9 : decode cX8_waitingAtRank 9 = .ok (.iconst 0, 1) := by decide +kernel
theorem dX8_waitingAtRank_10 : decode cX8_waitingAtRank 10 = .ok (.istore 4, 2) := by decide +kernel
theorem dX8_waitingAtRank_12 : decode cX8_waitingAtRank 12 = .ok (.iload 4, 2) := by decide +kernel
theorem dX8_waitingAtRank_14 : decode cX8_waitingAtRank 14 = .ok (.aload_n 0, 1) := by decide +kernel
theorem dX8_waitingAtRank_15 : decode cX8_waitingAtRank 15 = .ok (.getfield 43, 3) := by decide +kernel
theorem dX8_waitingAtRank_18 : decode cX8_waitingAtRank 18 = .ok (.if_icmp .ge 48, 3) := by decide +kernel
theorem dX8_waitingAtRank_21 : decode cX8_waitingAtRank 21 = .ok (.aload_n 0, 1) := by decide +kernel
theorem dX8_waitingAtRank_22 : decode cX8_waitingAtRank 22 = .ok (.getfield 25, 3) := by decide +kernel
theorem dX8_waitingAtRank_25 : decode cX8_waitingAtRank 25 = .ok (.iload 4, 2) := by decide +kernel
theorem dX8_waitingAtRank_27 : decode cX8_waitingAtRank 27 = .ok (.aaload, 1) := by decide +kernel
theorem dX8_waitingAtRank_28 : decode cX8_waitingAtRank 28 = .ok (.astore 5, 2) := by decide +kernel
theorem dX8_waitingAtRank_30 : decode cX8_waitingAtRank 30 = .ok (.aload 5, 2) := by decide +kernel
theorem dX8_waitingAtRank_32 : decode cX8_waitingAtRank 32 = .ok (.getfield 154, 3) := by decide +kernel
theorem dX8_waitingAtRank_35 : decode cX8_waitingAtRank 35 = .ok (.bipush 119, 2) := by decide +kernel
theorem dX8_waitingAtRank_37 : decode cX8_waitingAtRank 37 = .ok (.if_icmp .ne 23, 3) := by decide +kernel
theorem dX8_waitingAtRank_40 : decode cX8_waitingAtRank 40 = .ok (.aload 5, 2) := by decide +kernel
theorem dX8_waitingAtRank_42 : decode cX8_waitingAtRank 42 = .ok (.getfield 204, 3) := by decide +kernel
theorem dX8_waitingAtRank_45 : decode cX8_waitingAtRank 45 = .ok (.iload_n 3, 1) := by decide +kernel
theorem dX8_waitingAtRank_46 : decode cX8_waitingAtRank 46 = .ok (.if_icmp .ne 14, 3) := by decide +kernel
theorem dX8_waitingAtRank_49 : decode cX8_waitingAtRank 49 = .ok (.iload_n 2, 1) := by decide +kernel
theorem dX8_waitingAtRank_50 : decode cX8_waitingAtRank 50 = .ok (.iload_n 1, 1) := by decide +kernel
theorem dX8_waitingAtRank_51 : decode cX8_waitingAtRank 51 = .ok (.if_icmp .ne 6, 3) := by decide +kernel
theorem dX8_waitingAtRank_54 : decode cX8_waitingAtRank 54 = .ok (.aload 5, 2) := by decide +kernel
theorem dX8_waitingAtRank_56 : decode cX8_waitingAtRank 56 = .ok (.areturn, 1) := by decide +kernel
theorem dX8_waitingAtRank_57 : decode cX8_waitingAtRank 57 = .ok (.iinc 2 1, 3) := by decide +kernel
theorem dX8_waitingAtRank_60 : decode cX8_waitingAtRank 60 = .ok (.iinc 4 1, 3) := by decide +kernel
theorem dX8_waitingAtRank_63 : decode cX8_waitingAtRank 63 = .ok (.goto (-51), 3) := by decide +kernel
theorem dX8_waitingAtRank_66 : decode cX8_waitingAtRank 66 = .ok (.iinc 3 1, 3) := by decide +kernel
theorem dX8_waitingAtRank_69 : decode cX8_waitingAtRank 69 = .ok (.goto (-65), 3) := by decide +kernel
theorem dX8_waitingAtRank_72 : decode cX8_waitingAtRank 72 = .ok (.aconst_null, 1) := by decide +kernel
theorem dX8_waitingAtRank_73 : decode cX8_waitingAtRank 73 = .ok (.areturn, 1) := by decide +kernel
theorem dX8_nestAtRank_0 : decode cX8_nestAtRank 0 = .ok (.iconst 0, 1) := by decide +kernel
theorem dX8_nestAtRank_1 : decode cX8_nestAtRank 1 = .ok (.istore_n 2, 1) := by decide +kernel
theorem dX8_nestAtRank_2 : decode cX8_nestAtRank 2 = .ok (.iload_n 2, 1) := by decide +kernel
theorem dX8_nestAtRank_3 : decode cX8_nestAtRank 3 = .ok (.aload_n 0, 1) := by decide +kernel
theorem dX8_nestAtRank_4 : decode cX8_nestAtRank 4 = .ok (.getfield 36, 3) := by decide +kernel
theorem dX8_nestAtRank_7 : decode cX8_nestAtRank 7 = .ok (.if_icmp .ge 49, 3) := by decide +kernel
theorem dX8_nestAtRank_10 : decode cX8_nestAtRank 10 = .ok (.iconst 0, 1) := by decide +kernel
theorem dX8_nestAtRank_11 : decode cX8_nestAtRank 11 = .ok (.istore_n 3, 1) := by decide +kernel
theorem dX8_nestAtRank_12 : decode cX8_nestAtRank 12 = .ok (.iconst 0, 1) := by decide +kernel
theorem dX8_nestAtRank_13 : decode cX8_nestAtRank 13 = .ok (.istore 4, 2) := by decide +kernel
theorem dX8_nestAtRank_15 : decode cX8_nestAtRank 15 = .ok (.iload 4, 2) := by decide +kernel
theorem dX8_nestAtRank_17 : decode cX8_nestAtRank 17 = .ok (.aload_n 0, 1) := by decide +kernel
theorem dX8_nestAtRank_18 : decode cX8_nestAtRank 18 = .ok (.getfield 36, 3) := by decide +kernel
theorem dX8_nestAtRank_21 : decode cX8_nestAtRank 21 = .ok (.if_icmp .ge 22, 3) := by decide +kernel
theorem dX8_nestAtRank_24 : decode cX8_nestAtRank 24 = .ok (.aload_n 0, 1) := by decide +kernel
theorem dX8_nestAtRank_25 : decode cX8_nestAtRank 25 = .ok (.iload 4, 2) := by decide +kernel
theorem dX8_nestAtRank_27 : decode cX8_nestAtRank 27 = .ok (.iload_n 2, 1) := by decide +kernel
theorem dX8_nestAtRank_28 : decode cX8_nestAtRank 28 = .ok (.invokevirtual 244, 3) := by decide +kernel
theorem dX8_nestAtRank_31 : decode cX8_nestAtRank 31 = .ok (.ifCond .eq 6, 3) := by decide +kernel
theorem dX8_nestAtRank_34 : decode cX8_nestAtRank 34 = .ok (.iinc 3 1, 3) := by decide +kernel
theorem dX8_nestAtRank_37 : decode cX8_nestAtRank 37 = .ok (.iinc 4 1, 3) := by decide +kernel
theorem dX8_nestAtRank_40 : decode cX8_nestAtRank 40 = .ok (.goto (-25), 3) := by decide +kernel
theorem dX8_nestAtRank_43 : decode cX8_nestAtRank 43 = .ok (.iload_n 3, 1) := by decide +kernel
theorem dX8_nestAtRank_44 : decode cX8_nestAtRank 44 = .ok (.iload_n 1, 1) := by decide +kernel
theorem dX8_nestAtRank_45 : decode cX8_nestAtRank 45 = .ok (.if_icmp .ne 5, 3) := by decide +kernel
theorem dX8_nestAtRank_48 : decode cX8_nestAtRank 48 = .ok (.iload_n 2, 1) := by decide +kernel
theorem dX8_nestAtRank_49 : decode cX8_nestAtRank 49 = .ok (.ireturn, 1) := by decide +kernel
theorem dX8_nestAtRank_50 : decode cX8_nestAtRank 50 = .ok (.iinc 2 1, 3) := by decide +kernel
theorem dX8_nestAtRank_53 : decode cX8_nestAtRank 53 = .ok (.goto (-51), 3) := by decide +kernel
theorem dX8_nestAtRank_56 : decode cX8_nestAtRank 56 = .ok (.iconst (-1), 1) := by decide +kernel
theorem dX8_nestAtRank_57 : decode cX8_nestAtRank 57 = .ok (.ireturn, 1) := by decide +kernel
theorem dX8_ranksBefore_0 : decode cX8_ranksBefore 0 = .ok (.aload_n 0, 1) := by decide +kernel
theorem dX8_ranksBefore_1 : decode cX8_ranksBefore 1 = .ok (.getfield 11, 3) := by decide +kernel
theorem dX8_ranksBefore_4 : decode cX8_ranksBefore 4 = .ok (.iload_n 1, 1) := by decide +kernel
theorem dX8_ranksBefore_5 : decode cX8_ranksBefore 5 = .ok (.aaload, 1) := by decide +kernel
theorem dX8_ranksBefore_6 : decode cX8_ranksBefore 6 = .ok (.getfield 248, 3) := by decide +kernel
theorem dX8_ranksBefore_9 : decode cX8_ranksBefore 9 = .ok (.aload_n 0, 1) := by decide +kernel
theorem dX8_ranksBefore_10 : decode cX8_ranksBefore 10 = .ok (.getfield 11, 3) := by decide +kernel
theorem dX8_ranksBefore_13 : decode cX8_ranksBefore 13 = .ok (.iload_n 2, 1) := by decide +kernel
theorem dX8_ranksBefore_14 : decode cX8_ranksBefore 14 = .ok (.aaload, 1) := by decide +kernel
theorem dX8_ranksBefore_15 : decode cX8_ranksBefore 15 = .ok (.getfield 248, 3) := by decide +kernel
theorem dX8_ranksBefore_18 : decode cX8_ranksBefore 18 = .ok (.if_icmp .eq 30, 3) := by decide +kernel
theorem dX8_ranksBefore_21 : decode cX8_ranksBefore 21 = .ok (.aload_n 0, 1) := by decide +kernel
theorem dX8_ranksBefore_22 : decode cX8_ranksBefore 22 = .ok (.getfield 11, 3) := by decide +kernel
theorem dX8_ranksBefore_25 : decode cX8_ranksBefore 25 = .ok (.iload_n 1, 1) := by decide +kernel
theorem dX8_ranksBefore_26 : decode cX8_ranksBefore 26 = .ok (.aaload, 1) := by decide +kernel
theorem dX8_ranksBefore_27 : decode cX8_ranksBefore 27 = .ok (.getfield 248, 3) := by decide +kernel
theorem dX8_ranksBefore_30 : decode cX8_ranksBefore 30 = .ok (.aload_n 0, 1) := by decide +kernel
theorem dX8_ranksBefore_31 : decode cX8_ranksBefore 31 = .ok (.getfield 11, 3) := by decide +kernel
theorem dX8_ranksBefore_34 : decode cX8_ranksBefore 34 = .ok (.iload_n 2, 1) := by decide +kernel
theorem dX8_ranksBefore_35 : decode cX8_ranksBefore 35 = .ok (.aaload, 1) := by decide +kernel
theorem dX8_ranksBefore_36 : decode cX8_ranksBefore 36 = .ok (.getfield 248, 3) := by decide +kernel
theorem dX8_ranksBefore_39 : decode cX8_ranksBefore 39 = .ok (.if_icmp .le 7, 3) := by decide +kernel
theorem dX8_ranksBefore_42 : decode cX8_ranksBefore 42 = .ok (.iconst 1, 1) := by decide +kernel
theorem dX8_ranksBefore_43 : decode cX8_ranksBefore 43 = .ok (.goto 4, 3) := by decide +kernel
theorem dX8_ranksBefore_46 : decode cX8_ranksBefore 46 = .ok (.iconst 0, 1) := by decide +kernel
theorem dX8_ranksBefore_47 : decode cX8_ranksBefore 47 = .ok (.ireturn, 1) := by decide +kernel
theorem dX8_ranksBefore_48 : decode cX8_ranksBefore 48 = .ok (.aload_n 0, 1) := by decide +kernel
theorem dX8_ranksBefore_49 : decode cX8_ranksBefore 49 = .ok (.getfield 11, 3) := by decide +kernel
theorem dX8_ranksBefore_52 : decode cX8_ranksBefore 52 = .ok (.iload_n 1, 1) := by decide +kernel
theorem dX8_ranksBefore_53 : decode cX8_ranksBefore 53 = .ok (.aaload, 1) := by decide +kernel
theorem dX8_ranksBefore_54 : decode cX8_ranksBefore 54 = .ok (.getfield 201, 3) := by decide +kernel
theorem dX8_ranksBefore_57 : decode cX8_ranksBefore 57 = .ok (.aload_n 0, 1) := by decide +kernel
theorem dX8_ranksBefore_58 : decode cX8_ranksBefore 58 = .ok (.getfield 11, 3) := by decide +kernel
theorem dX8_ranksBefore_61 : decode cX8_ranksBefore 61 = .ok (.iload_n 2, 1) := by decide +kernel
theorem dX8_ranksBefore_62 : decode cX8_ranksBefore 62 = .ok (.aaload, 1) := by decide +kernel
theorem dX8_ranksBefore_63 : decode cX8_ranksBefore 63 = .ok (.getfield 201, 3) := by decide +kernel
theorem dX8_ranksBefore_66 : decode cX8_ranksBefore 66 = .ok (.if_icmp .eq 30, 3) := by decide +kernel
theorem dX8_ranksBefore_69 : decode cX8_ranksBefore 69 = .ok (.aload_n 0, 1) := by decide +kernel
theorem dX8_ranksBefore_70 : decode cX8_ranksBefore 70 = .ok (.getfield 11, 3) := by decide +kernel
theorem dX8_ranksBefore_73 : decode cX8_ranksBefore 73 = .ok (.iload_n 1, 1) := by decide +kernel
theorem dX8_ranksBefore_74 : decode cX8_ranksBefore 74 = .ok (.aaload, 1) := by decide +kernel
theorem dX8_ranksBefore_75 : decode cX8_ranksBefore 75 = .ok (.getfield 201, 3) := by decide +kernel
theorem dX8_ranksBefore_78 : decode cX8_ranksBefore 78 = .ok (.aload_n 0, 1) := by decide +kernel
theorem dX8_ranksBefore_79 : decode cX8_ranksBefore 79 = .ok (.getfield 11, 3) := by decide +kernel
theorem dX8_ranksBefore_82 : decode cX8_ranksBefore 82 = .ok (.iload_n 2, 1) := by decide +kernel
theorem dX8_ranksBefore_83 : decode cX8_ranksBefore 83 = .ok (.aaload, 1) := by decide +kernel
theorem dX8_ranksBefore_84 : decode cX8_ranksBefore 84 = .ok (.getfield 201, 3) := by decide +kernel
theorem dX8_ranksBefore_87 : decode cX8_ranksBefore 87 = .ok (.if_icmp .ge 7, 3) := by decide +kernel
theorem dX8_ranksBefore_90 : decode cX8_ranksBefore 90 = .ok (.iconst 1, 1) := by decide +kernel
theorem dX8_ranksBefore_91 : decode cX8_ranksBefore 91 = .ok (.goto 4, 3) := by decide +kernel
theorem dX8_ranksBefore_94 : decode cX8_ranksBefore 94 = .ok (.iconst 0, 1) := by decide +kernel
theorem dX8_ranksBefore_95 : decode cX8_ranksBefore 95 = .ok (.ireturn, 1) := by decide +kernel
theorem dX8_ranksBefore_96 : decode cX8_ranksBefore 96 = .ok (.iload_n 1, 1) := by decide +kernel
theorem dX8_ranksBefore_97 : decode cX8_ranksBefore 97 = .ok (.iload_n 2, 1) := by decide +kernel
theorem dX8_ranksBefore_98 : decode cX8_ranksBefore 98 = .ok (.if_icmp .ge 7, 3) := by decide +kernel
theorem dX8_ranksBefore_101 : decode cX8_ranksBefore 101 = .ok (.iconst 1, 1) := by decide +kernel
theorem dX8_ranksBefore_102 : decode cX8_ranksBefore 102 = .ok (.goto 4, 3) := by decide +kernel
theorem dX8_ranksBefore_105 : decode cX8_ranksBefore 105 = .ok (.iconst 0, 1) := by decide +kernel
theorem dX8_ranksBefore_106 : decode cX8_ranksBefore 106 = .ok (.ireturn, 1) := by decide +kernel
theorem dX8_sumOfAttempts_0 : decode cX8_sumOfAttempts 0 = .ok (.iconst 0, 1) := by decide +kernel
theorem dX8_sumOfAttempts_1 : decode cX8_sumOfAttempts 1 = .ok (.istore_n 1, 1) := by decide +kernel
theorem dX8_sumOfAttempts_2 : decode cX8_sumOfAttempts 2 = .ok (.iconst 0, 1) := by decide +kernel
theorem dX8_sumOfAttempts_3 : decode cX8_sumOfAttempts 3 = .ok (.istore_n 2, 1) := by decide +kernel
theorem dX8_sumOfAttempts_4 : decode cX8_sumOfAttempts 4 = .ok (.iload_n 2, 1) := by decide +kernel
theorem dX8_sumOfAttempts_5 : decode cX8_sumOfAttempts 5 = .ok (.aload_n 0, 1) := by decide +kernel
theorem dX8_sumOfAttempts_6 : decode cX8_sumOfAttempts 6 = .ok (.getfield 43, 3) := by decide +kernel
theorem dX8_sumOfAttempts_9 : decode cX8_sumOfAttempts 9 = .ok (.if_icmp .ge 21, 3) := by decide +kernel
theorem dX8_sumOfAttempts_12 : decode cX8_sumOfAttempts 12 = .ok (.iload_n 1, 1) := by decide +kernel
theorem dX8_sumOfAttempts_13 : decode cX8_sumOfAttempts 13 = .ok (.aload_n 0, 1) := by decide +kernel
theorem dX8_sumOfAttempts_14 : decode cX8_sumOfAttempts 14 = .ok (.getfield 25, 3) := by decide +kernel
theorem dX8_sumOfAttempts_17 : decode cX8_sumOfAttempts 17 = .ok (.iload_n 2, 1) := by decide +kernel
theorem dX8_sumOfAttempts_18 : decode cX8_sumOfAttempts 18 = .ok (.aaload, 1) := by decide +kernel
theorem dX8_sumOfAttempts_19 : decode cX8_sumOfAttempts 19 = .ok (.getfield 204, 3) := by decide +kernel
theorem dX8_sumOfAttempts_22 : decode cX8_sumOfAttempts 22 = .ok (.iadd, 1) := by decide +kernel
theorem dX8_sumOfAttempts_23 : decode cX8_sumOfAttempts 23 = .ok (.istore_n 1, 1) := by decide +kernel
theorem dX8_sumOfAttempts_24 : decode cX8_sumOfAttempts 24 = .ok (.iinc 2 1, 3) := by decide +kernel
theorem dX8_sumOfAttempts_27 : decode cX8_sumOfAttempts 27 = .ok (.goto (-23), 3) := by decide +kernel
theorem dX8_sumOfAttempts_30 : decode cX8_sumOfAttempts 30 = .ok (.iload_n 1, 1) := by decide +kernel
theorem dX8_sumOfAttempts_31 : decode cX8_sumOfAttempts 31 = .ok (.ireturn, 1) := by decide +kernel
theorem dX8_messagesWithStatus_0 : decode cX8_messagesWithStatus 0 = .ok (.iconst 0, 1) := by decide +kernel
theorem dX8_messagesWithStatus_1 : decode cX8_messagesWithStatus 1 = .ok (.istore_n 2, 1) := by decide +kernel
theorem dX8_messagesWithStatus_2 : decode cX8_messagesWithStatus 2 = .ok (.iconst 0, 1) := by decide +kernel
theorem dX8_messagesWithStatus_3 : decode cX8_messagesWithStatus 3 = .ok (.istore_n 3, 1) := by decide +kernel
theorem dX8_messagesWithStatus_4 : decode cX8_messagesWithStatus 4 = .ok (.iload_n 3, 1) := by decide +kernel
theorem dX8_messagesWithStatus_5 : decode cX8_messagesWithStatus 5 = .ok (.aload_n 0, 1) := by decide +kernel
theorem dX8_messagesWithStatus_6 : decode cX8_messagesWithStatus 6 = .ok (.getfield 43, 3) := by decide +kernel
theorem dX8_messagesWithStatus_9 : decode cX8_messagesWithStatus 9 = .ok (.if_icmp .ge 25, 3) := by decide +kernel
theorem dX8_messagesWithStatus_12 : decode cX8_messagesWithStatus 12 = .ok (.aload_n 0, 1) := by decide +kernel
theorem dX8_messagesWithStatus_13 : decode cX8_messagesWithStatus 13 = .ok (.getfield 25, 3) := by decide +kernel
theorem dX8_messagesWithStatus_16 : decode cX8_messagesWithStatus 16 = .ok (.iload_n 3, 1) := by decide +kernel
theorem dX8_messagesWithStatus_17 : decode cX8_messagesWithStatus 17 = .ok (.aaload, 1) := by decide +kernel
theorem dX8_messagesWithStatus_18 : decode cX8_messagesWithStatus 18 = .ok (.getfield 154, 3) := by decide +kernel
theorem dX8_messagesWithStatus_21 : decode cX8_messagesWithStatus 21 = .ok (.iload_n 1, 1) := by decide +kernel
theorem dX8_messagesWithStatus_22 : decode cX8_messagesWithStatus 22 = .ok (.if_icmp .ne 6, 3) := by decide +kernel
theorem dX8_messagesWithStatus_25 : decode cX8_messagesWithStatus 25 = .ok (.iinc 2 1, 3) := by decide +kernel
theorem dX8_messagesWithStatus_28 : decode cX8_messagesWithStatus 28 = .ok (.iinc 3 1, 3) := by decide +kernel
theorem dX8_messagesWithStatus_31 : decode cX8_messagesWithStatus 31 = .ok (.goto (-27), 3) := by decide +kernel
theorem dX8_messagesWithStatus_34 : decode cX8_messagesWithStatus 34 = .ok (.iload_n 2, 1) := by decide +kernel
theorem dX8_messagesWithStatus_35 : decode cX8_messagesWithStatus 35 = .ok (.ireturn, 1) := by decide +kernel
theorem dX8_flyingCrows_0 : decode cX8_flyingCrows 0 = .ok (.iconst 0, 1) := by decide +kernel
theorem dX8_flyingCrows_1 : decode cX8_flyingCrows 1 = .ok (.istore_n 1, 1) := by decide +kernel
theorem dX8_flyingCrows_2 : decode cX8_flyingCrows 2 = .ok (.iconst 0, 1) := by decide +kernel
theorem dX8_flyingCrows_3 : decode cX8_flyingCrows 3 = .ok (.istore_n 2, 1) := by decide +kernel
theorem dX8_flyingCrows_4 : decode cX8_flyingCrows 4 = .ok (.iload_n 2, 1) := by decide +kernel
theorem dX8_flyingCrows_5 : decode cX8_flyingCrows 5 = .ok (.aload_n 0, 1) := by decide +kernel
theorem dX8_flyingCrows_6 : decode cX8_flyingCrows 6 = .ok (.getfield 40, 3) := by decide +kernel
theorem dX8_flyingCrows_9 : decode cX8_flyingCrows 9 = .ok (.if_icmp .ge 24, 3) := by decide +kernel
theorem dX8_flyingCrows_12 : decode cX8_flyingCrows 12 = .ok (.aload_n 0, 1) := by decide +kernel
theorem dX8_flyingCrows_13 : decode cX8_flyingCrows 13 = .ok (.getfield 19, 3) := by decide +kernel
theorem dX8_flyingCrows_16 : decode cX8_flyingCrows 16 = .ok (.iload_n 2, 1) := by decide +kernel
theorem dX8_flyingCrows_17 : decode cX8_flyingCrows 17 = .ok (.aaload, 1) := by decide +kernel
theorem dX8_flyingCrows_18 : decode cX8_flyingCrows 18 = .ok (.getfield 122, 3) := by decide +kernel
theorem dX8_flyingCrows_21 : decode cX8_flyingCrows 21 = .ok (.ifCond .eq 6, 3) := by decide +kernel
theorem dX8_flyingCrows_24 : decode cX8_flyingCrows 24 = .ok (.iinc 1 1, 3) := by decide +kernel
theorem dX8_flyingCrows_27 : decode cX8_flyingCrows 27 = .ok (.iinc 2 1, 3) := by decide +kernel
theorem dX8_flyingCrows_30 : decode cX8_flyingCrows 30 = .ok (.goto (-26), 3) := by decide +kernel
theorem dX8_flyingCrows_33 : decode cX8_flyingCrows 33 = .ok (.iload_n 1, 1) := by decide +kernel
theorem dX8_flyingCrows_34 : decode cX8_flyingCrows 34 = .ok (.ireturn, 1) := by decide +kernel
theorem dX8_messagesInInboxes_0 : decode cX8_messagesInInboxes 0 = .ok (.iconst 0, 1) := by decide +kernel
theorem dX8_messagesInInboxes_1 : decode cX8_messagesInInboxes 1 = .ok (.istore_n 1, 1) := by decide +kernel
theorem dX8_messagesInInboxes_2 : decode cX8_messagesInInboxes 2 = .ok (.iconst 0, 1) := by decide +kernel
theorem dX8_messagesInInboxes_3 : decode cX8_messagesInInboxes 3 = .ok (.istore_n 2, 1) := by decide +kernel
theorem dX8_messagesInInboxes_4 : decode cX8_messagesInInboxes 4 = .ok (.iload_n 2, 1) := by decide +kernel
theorem dX8_messagesInInboxes_5 : decode cX8_messagesInInboxes 5 = .ok (.aload_n 0, 1) := by decide +kernel
theorem dX8_messagesInInboxes_6 : decode cX8_messagesInInboxes 6 = .ok (.getfield 36, 3) := by decide +kernel
theorem dX8_messagesInInboxes_9 : decode cX8_messagesInInboxes 9 = .ok (.if_icmp .ge 21, 3) := by decide +kernel
theorem dX8_messagesInInboxes_12 : decode cX8_messagesInInboxes 12 = .ok (.iload_n 1, 1) := by decide +kernel
theorem dX8_messagesInInboxes_13 : decode cX8_messagesInInboxes 13 = .ok (.aload_n 0, 1) := by decide +kernel
theorem dX8_messagesInInboxes_14 : decode cX8_messagesInInboxes 14 = .ok (.getfield 11, 3) := by decide +kernel
theorem dX8_messagesInInboxes_17 : decode cX8_messagesInInboxes 17 = .ok (.iload_n 2, 1) := by decide +kernel
theorem dX8_messagesInInboxes_18 : decode cX8_messagesInInboxes 18 = .ok (.aaload, 1) := by decide +kernel
theorem dX8_messagesInInboxes_19 : decode cX8_messagesInInboxes 19 = .ok (.getfield 137, 3) := by decide +kernel
theorem dX8_messagesInInboxes_22 : decode cX8_messagesInInboxes 22 = .ok (.iadd, 1) := by decide +kernel
theorem dX8_messagesInInboxes_23 : decode cX8_messagesInInboxes 23 = .ok (.istore_n 1, 1) := by decide +kernel
theorem dX8_messagesInInboxes_24 : decode cX8_messagesInInboxes 24 = .ok (.iinc 2 1, 3) := by decide +kernel
theorem dX8_messagesInInboxes_27 : decode cX8_messagesInInboxes 27 = .ok (.goto (-23), 3) := by decide +kernel
theorem dX8_messagesInInboxes_30 : decode cX8_messagesInInboxes 30 = .ok (.iload_n 1, 1) := by decide +kernel
theorem dX8_messagesInInboxes_31 : decode cX8_messagesInInboxes 31 = .ok (.ireturn, 1) := by decide +kernel
theorem dX9_init_0 : decode cX9_init 0 = .ok (.aload_n 0, 1) := by decide +kernel
theorem dX9_init_1 : decode cX9_init 1 = .ok (.invokespecial 1, 3) := by decide +kernel
theorem dX9_init_4 : decode cX9_init 4 = .ok (.aload_n 0, 1) := by decide +kernel
theorem dX9_init_5 : decode cX9_init 5 = .ok (.iconst 0, 1) := by decide +kernel
theorem dX9_init_6 : decode cX9_init 6 = .ok (.putfield 7, 3) := by decide +kernel
theorem dX9_init_9 : decode cX9_init 9 = .ok (.aload_n 0, 1) := by decide +kernel
theorem dX9_init_10 : decode cX9_init 10 = .ok (.iconst 0, 1) := by decide +kernel
theorem dX9_init_11 : decode cX9_init 11 = .ok (.putfield 13, 3) := by decide +kernel
theorem dX9_init_14 : decode cX9_init 14 = .ok (.aload_n 0, 1) := by decide +kernel
theorem dX9_init_15 : decode cX9_init 15 = .ok (.iconst 0, 1) := by decide +kernel
theorem dX9_init_16 : decode cX9_init 16 = .ok (.putfield 16, 3) := by decide +kernel
theorem dX9_init_19 : decode cX9_init 19 = .ok (.aload_n 0, 1) := by decide +kernel
theorem dX9_init_20 : decode cX9_init 20 = .ok (.iconst 0, 1) := by decide +kernel
theorem dX9_init_21 : decode cX9_init 21 = .ok (.putfield 19, 3) := by decide +kernel
theorem dX9_init_24 : decode cX9_init 24 = .ok (.aload_n 0, 1) := by decide +kernel
theorem dX9_init_25 : decode cX9_init 25 = .ok (.iconst 0, 1) := by decide +kernel
theorem dX9_init_26 : decode cX9_init 26 = .ok (.putfield 22, 3) := by decide +kernel
theorem dX9_init_29 : decode cX9_init 29 = .ok (.aload_n 0, 1) := by decide +kernel
theorem dX9_init_30 : decode cX9_init 30 = .ok (.iconst 0, 1) := by decide +kernel
theorem dX9_init_31 : decode cX9_init 31 = .ok (.putfield 25, 3) := by decide +kernel
theorem dX9_init_34 : decode cX9_init 34 = .ok (.aload_n 0, 1) := by decide +kernel
theorem dX9_init_35 : decode cX9_init 35 = .ok (.iconst 0, 1) := by decide +kernel
theorem dX9_init_36 : decode cX9_init 36 = .ok (.putfield 28, 3) := by decide +kernel
theorem dX9_init_39 : decode cX9_init 39 = .ok (.return_, 1) := by decide +kernel
theorem dX9_existing_0 : decode cX9_existing 0 = .ok (.aload_n 0, 1) := by decide +kernel
theorem dX9_existing_1 : decode cX9_existing 1 = .ok (.getfield 7, 3) := by decide +kernel
theorem dX9_existing_4 : decode cX9_existing 4 = .ok (.aload_n 0, 1) := by decide +kernel
theorem dX9_existing_5 : decode cX9_existing 5 = .ok (.getfield 16, 3) := by decide +kernel
theorem dX9_existing_8 : decode cX9_existing 8 = .ok (.isub, 1) := by decide +kernel
theorem dX9_existing_9 : decode cX9_existing 9 = .ok (.aload_n 0, 1) := by decide +kernel
theorem dX9_existing_10 : decode cX9_existing 10 = .ok (.getfield 19, 3) := by decide +kernel
theorem dX9_existing_13 : decode cX9_existing 13 = .ok (.isub, 1) := by decide +kernel
theorem dX9_existing_14 : decode cX9_existing 14 = .ok (.aload_n 0, 1) := by decide +kernel
theorem dX9_existing_15 : decode cX9_existing 15 = .ok (.getfield 22, 3) := by decide +kernel
theorem dX9_existing_18 : decode cX9_existing 18 = .ok (.isub, 1) := by decide +kernel
theorem dX9_existing_19 : decode cX9_existing 19 = .ok (.aload_n 0, 1) := by decide +kernel
theorem dX9_existing_20 : decode cX9_existing 20 = .ok (.getfield 25, 3) := by decide +kernel
theorem dX9_existing_23 : decode cX9_existing 23 = .ok (.isub, 1) := by decide +kernel
theorem dX9_existing_24 : decode cX9_existing 24 = .ok (.ireturn, 1) := by decide +kernel
theorem dX9_copyFrom_0 : decode cX9_copyFrom 0 = .ok (.aload_n 0, 1) := by decide +kernel
theorem dX9_copyFrom_1 : decode cX9_copyFrom 1 = .ok (.aload_n 1, 1) := by decide +kernel
theorem dX9_copyFrom_2 : decode cX9_copyFrom 2 = .ok (.getfield 7, 3) := by decide +kernel
theorem dX9_copyFrom_5 : decode cX9_copyFrom 5 = .ok (.putfield 7, 3) := by decide +kernel
theorem dX9_copyFrom_8 : decode cX9_copyFrom 8 = .ok (.aload_n 0, 1) := by decide +kernel
theorem dX9_copyFrom_9 : decode cX9_copyFrom 9 = .ok (.aload_n 1, 1) := by decide +kernel
theorem dX9_copyFrom_10 : decode cX9_copyFrom 10 = .ok (.getfield 13, 3) := by decide +kernel
theorem dX9_copyFrom_13 : decode cX9_copyFrom 13 = .ok (.putfield 13, 3) := by decide +kernel
theorem dX9_copyFrom_16 : decode cX9_copyFrom 16 = .ok (.aload_n 0, 1) := by decide +kernel
theorem dX9_copyFrom_17 : decode cX9_copyFrom 17 = .ok (.aload_n 1, 1) := by decide +kernel
theorem dX9_copyFrom_18 : decode cX9_copyFrom 18 = .ok (.getfield 16, 3) := by decide +kernel
theorem dX9_copyFrom_21 : decode cX9_copyFrom 21 = .ok (.putfield 16, 3) := by decide +kernel
theorem dX9_copyFrom_24 : decode cX9_copyFrom 24 = .ok (.aload_n 0, 1) := by decide +kernel
theorem dX9_copyFrom_25 : decode cX9_copyFrom 25 = .ok (.aload_n 1, 1) := by decide +kernel
theorem dX9_copyFrom_26 : decode cX9_copyFrom 26 = .ok (.getfield 19, 3) := by decide +kernel
theorem dX9_copyFrom_29 : decode cX9_copyFrom 29 = .ok (.putfield 19, 3) := by decide +kernel
theorem dX9_copyFrom_32 : decode cX9_copyFrom 32 = .ok (.aload_n 0, 1) := by decide +kernel
theorem dX9_copyFrom_33 : decode cX9_copyFrom 33 = .ok (.aload_n 1, 1) := by decide +kernel
theorem dX9_copyFrom_34 : decode cX9_copyFrom 34 = .ok (.getfield 22, 3) := by decide +kernel
theorem dX9_copyFrom_37 : decode cX9_copyFrom 37 = .ok (.putfield 22, 3) := by decide +kernel
theorem dX9_copyFrom_40 : decode cX9_copyFrom 40 = .ok (.aload_n 0, 1) := by decide +kernel
theorem dX9_copyFrom_41 : decode cX9_copyFrom 41 = .ok (.aload_n 1, 1) := by decide +kernel
theorem dX9_copyFrom_42 : decode cX9_copyFrom 42 = .ok (.getfield 25, 3) := by decide +kernel
theorem dX9_copyFrom_45 : decode cX9_copyFrom 45 = .ok (.putfield 25, 3) := by decide +kernel
theorem dX9_copyFrom_48 : decode cX9_copyFrom 48 = .ok (.aload_n 0, 1) := by decide +kernel
theorem dX9_copyFrom_49 : decode cX9_copyFrom 49 = .ok (.aload_n 1, 1) := by decide +kernel
theorem dX9_copyFrom_50 : decode cX9_copyFrom 50 = .ok (.getfield 28, 3) := by decide +kernel
theorem dX9_copyFrom_53 : decode cX9_copyFrom 53 = .ok (.putfield 28, 3) := by decide +kernel
theorem dX9_copyFrom_56 : decode cX9_copyFrom 56 = .ok (.return_, 1) := by decide +kernel
theorem dX10_init_0 : decode cX10_init 0 = .ok (.aload_n 0, 1) := by decide +kernel
theorem dX10_init_1 : decode cX10_init 1 = .ok (.invokespecial 1, 3) := by decide +kernel
theorem dX10_init_4 : decode cX10_init 4 = .ok (.aload_n 0, 1) := by decide +kernel
theorem dX10_init_5 : decode cX10_init 5 = .ok (.new 7, 3) := by decide +kernel
theorem dX10_init_8 : decode cX10_init 8 = .ok (.dup, 1) := by decide +kernel
theorem dX10_init_9 : decode cX10_init 9 = .ok (.invokespecial 9, 3) := by decide +kernel
theorem dX10_init_12 : decode cX10_init 12 = .ok (.putfield 10, 3) := by decide +kernel
theorem dX10_init_15 : decode cX10_init 15 = .ok (.aload_n 0, 1) := by decide +kernel
theorem dX10_init_16 : decode cX10_init 16 = .ok (.new 7, 3) := by decide +kernel
theorem dX10_init_19 : decode cX10_init 19 = .ok (.dup, 1) := by decide +kernel
theorem dX10_init_20 : decode cX10_init 20 = .ok (.invokespecial 9, 3) := by decide +kernel
theorem dX10_init_23 : decode cX10_init 23 = .ok (.putfield 16, 3) := by decide +kernel
theorem dX10_init_26 : decode cX10_init 26 = .ok (.aload_n 0, 1) := by decide +kernel
theorem dX10_init_27 : decode cX10_init 27 = .ok (.new 7, 3) := by decide +kernel
theorem dX10_init_30 : decode cX10_init 30 = .ok (.dup, 1) := by decide +kernel
theorem dX10_init_31 : decode cX10_init 31 = .ok (.invokespecial 9, 3) := by decide +kernel
theorem dX10_init_34 : decode cX10_init 34 = .ok (.putfield 19, 3) := by decide +kernel
theorem dX10_init_37 : decode cX10_init 37 = .ok (.aload_n 0, 1) := by decide +kernel
theorem dX10_init_38 : decode cX10_init 38 = .ok (.new 7, 3) := by decide +kernel
theorem dX10_init_41 : decode cX10_init 41 = .ok (.dup, 1) := by decide +kernel
theorem dX10_init_42 : decode cX10_init 42 = .ok (.invokespecial 9, 3) := by decide +kernel
theorem dX10_init_45 : decode cX10_init 45 = .ok (.putfield 22, 3) := by decide +kernel
theorem dX10_init_48 : decode cX10_init 48 = .ok (.aload_n 0, 1) := by decide +kernel
theorem dX10_init_49 : decode cX10_init 49 = .ok (.new 25, 3) := by decide +kernel
theorem dX10_init_52 : decode cX10_init 52 = .ok (.dup, 1) := by decide +kernel
theorem dX10_init_53 : decode cX10_init 53 = .ok (.invokespecial 27, 3) := by decide +kernel
theorem dX10_init_56 : decode cX10_init 56 = .ok (.putfield 28, 3) := by decide +kernel
theorem dX10_init_59 : decode cX10_init 59 = .ok (.aload_n 0, 1) := by decide +kernel
theorem dX10_init_60 : decode cX10_init 60 = .ok (.new 32, 3) := by decide +kernel
theorem dX10_init_63 : decode cX10_init 63 = .ok (.dup, 1) := by decide +kernel
theorem dX10_init_64 : decode cX10_init 64 = .ok (.invokespecial 34, 3) := by decide +kernel
theorem dX10_init_67 : decode cX10_init 67 = .ok (.putfield 35, 3) := by decide +kernel
theorem dX10_init_70 : decode cX10_init 70 = .ok (.aload_n 0, 1) := by decide +kernel
theorem dX10_init_71 : decode cX10_init 71 = .ok (.new 39, 3) := by decide +kernel
theorem dX10_init_74 : decode cX10_init 74 = .ok (.dup, 1) := by decide +kernel
theorem dX10_init_75 : decode cX10_init 75 = .ok (.invokespecial 41, 3) := by decide +kernel
theorem dX10_init_78 : decode cX10_init 78 = .ok (.putfield 42, 3) := by decide +kernel
theorem dX10_init_81 : decode cX10_init 81 = .ok (.aload_n 0, 1) := by decide +kernel
theorem dX10_init_82 : decode cX10_init 82 = .ok (.iconst 0, 1) := by decide +kernel
theorem dX10_init_83 : decode cX10_init 83 = .ok (.putfield 46, 3) := by decide +kernel
theorem dX10_init_86 : decode cX10_init 86 = .ok (.aload_n 0, 1) := by decide +kernel
theorem dX10_init_87 : decode cX10_init 87 = .ok (.iconst (-1), 1) := by decide +kernel
theorem dX10_init_88 : decode cX10_init 88 = .ok (.putfield 50, 3) := by decide +kernel
theorem dX10_init_91 : decode cX10_init 91 = .ok (.aload_n 0, 1) := by decide +kernel
theorem dX10_init_92 : decode cX10_init 92 = .ok (.iconst (-1), 1) := by decide +kernel
theorem dX10_init_93 : decode cX10_init 93 = .ok (.putfield 54, 3) := by decide +kernel
theorem dX10_init_96 : decode cX10_init 96 = .ok (.return_, 1) := by decide +kernel
theorem dX10_addNest_0 : decode cX10_addNest 0 = .ok (.aload_n 0, 1) := by decide +kernel
theorem dX10_addNest_1 : decode cX10_addNest 1 = .ok (.getfield 16, 3) := by decide +kernel
theorem dX10_addNest_4 : decode cX10_addNest 4 = .ok (.aload_n 0, 1) := by decide +kernel
theorem dX10_addNest_5 : decode cX10_addNest 5 = .ok (.getfield 10, 3) := by decide +kernel
theorem dX10_addNest_8 : decode cX10_addNest 8 = .ok (.invokevirtual 57, 3) := by decide +kernel
theorem dX10_addNest_11 : decode cX10_addNest 11 = .ok (.aload_n 0, 1) := by decide +kernel
theorem dX10_addNest_12 : decode cX10_addNest 12 = .ok (.aload_n 0, 1) := by decide +kernel
theorem dX10_addNest_13 : decode cX10_addNest 13 = .ok (.getfield 10, 3) := by decide +kernel
theorem dX10_addNest_16 : decode cX10_addNest 16 = .ok (.iload_n 1, 1) := by decide +kernel
theorem dX10_addNest_17 : decode cX10_addNest 17 = .ok (.iload_n 2, 1) := by decide +kernel
theorem dX10_addNest_18 : decode cX10_addNest 18 = .ok (.invokevirtual 61, 3) := by decide +kernel
theorem dX10_addNest_21 : decode cX10_addNest 21 = .ok (.invokevirtual 65, 3) := by decide +kernel
theorem dX10_addNest_24 : decode cX10_addNest 24 = .ok (.ireturn, 1) := by decide +kernel
theorem dX10_addCrow_0 : decode cX10_addCrow 0 = .ok (.aload_n 0, 1) := by decide +kernel
theorem dX10_addCrow_1 : decode cX10_addCrow 1 = .ok (.getfield 16, 3) := by decide +kernel
theorem dX10_addCrow_4 : decode cX10_addCrow 4 = .ok (.aload_n 0, 1) := by decide +kernel
theorem dX10_addCrow_5 : decode cX10_addCrow 5 = .ok (.getfield 10, 3) := by decide +kernel
theorem dX10_addCrow_8 : decode cX10_addCrow 8 = .ok (.invokevirtual 57, 3) := by decide +kernel
theorem dX10_addCrow_11 : decode cX10_addCrow 11 = .ok (.aload_n 0, 1) := by decide +kernel
theorem dX10_addCrow_12 : decode cX10_addCrow 12 = .ok (.aload_n 0, 1) := by decide +kernel
theorem dX10_addCrow_13 : decode cX10_addCrow 13 = .ok (.getfield 10, 3) := by decide +kernel
theorem dX10_addCrow_16 : decode cX10_addCrow 16 = .ok (.invokevirtual 69, 3) := by decide +kernel
theorem dX10_addCrow_19 : decode cX10_addCrow 19 = .ok (.invokevirtual 65, 3) := by decide +kernel
theorem dX10_addCrow_22 : decode cX10_addCrow 22 = .ok (.ireturn, 1) := by decide +kernel
theorem dX10_publish_0 : decode cX10_publish 0 = .ok (.aload_n 0, 1) := by decide +kernel
theorem dX10_publish_1 : decode cX10_publish 1 = .ok (.getfield 16, 3) := by decide +kernel
theorem dX10_publish_4 : decode cX10_publish 4 = .ok (.aload_n 0, 1) := by decide +kernel
theorem dX10_publish_5 : decode cX10_publish 5 = .ok (.getfield 10, 3) := by decide +kernel
theorem dX10_publish_8 : decode cX10_publish 8 = .ok (.invokevirtual 57, 3) := by decide +kernel
theorem dX10_publish_11 : decode cX10_publish 11 = .ok (.aload_n 0, 1) := by decide +kernel
theorem dX10_publish_12 : decode cX10_publish 12 = .ok (.aload_n 0, 1) := by decide +kernel
theorem dX10_publish_13 : decode cX10_publish 13 = .ok (.getfield 10, 3) := by decide +kernel
theorem dX10_publish_16 : decode cX10_publish 16 = .ok (.iload_n 1, 1) := by decide +kernel
theorem dX10_publish_17 : decode cX10_publish 17 = .ok (.iload_n 2, 1) := by decide +kernel
theorem dX10_publish_18 : decode cX10_publish 18 = .ok (.invokevirtual 73, 3) := by decide +kernel
theorem dX10_publish_21 : decode cX10_publish 21 = .ok (.invokevirtual 65, 3) := by decide +kernel
theorem dX10_publish_24 : decode cX10_publish 24 = .ok (.ireturn, 1) := by decide +kernel
theorem dX10_read_0 : decode cX10_read 0 = .ok (.aload_n 0, 1) := by decide +kernel
theorem dX10_read_1 : decode cX10_read 1 = .ok (.getfield 16, 3) := by decide +kernel
theorem dX10_read_4 : decode cX10_read 4 = .ok (.aload_n 0, 1) := by decide +kernel
theorem dX10_read_5 : decode cX10_read 5 = .ok (.getfield 10, 3) := by decide +kernel
theorem dX10_read_8 : decode cX10_read 8 = .ok (.invokevirtual 57, 3) := by decide +kernel
theorem dX10_read_11 : decode cX10_read 11 = .ok (.aload_n 0, 1) := by decide +kernel
theorem dX10_read_12 : decode cX10_read 12 = .ok (.aload_n 0, 1) := by decide +kernel
theorem dX10_read_13 : decode cX10_read 13 = .ok (.getfield 10, 3) := by decide +kernel
theorem dX10_read_16 : decode cX10_read 16 = .ok (.iload_n 1, 1) := by decide +kernel
theorem dX10_read_17 : decode cX10_read 17 = .ok (.invokevirtual 76, 3) := by decide +kernel
theorem dX10_read_20 : decode cX10_read 20 = .ok (.invokevirtual 65, 3) := by decide +kernel
theorem dX10_read_23 : decode cX10_read 23 = .ok (.ireturn, 1) := by decide +kernel
theorem dX10_cancel_0 : decode cX10_cancel 0 = .ok (.aload_n 0, 1) := by decide +kernel
theorem dX10_cancel_1 : decode cX10_cancel 1 = .ok (.getfield 16, 3) := by decide +kernel
theorem dX10_cancel_4 : decode cX10_cancel 4 = .ok (.aload_n 0, 1) := by decide +kernel
theorem dX10_cancel_5 : decode cX10_cancel 5 = .ok (.getfield 10, 3) := by decide +kernel
theorem dX10_cancel_8 : decode cX10_cancel 8 = .ok (.invokevirtual 57, 3) := by decide +kernel
theorem dX10_cancel_11 : decode cX10_cancel 11 = .ok (.aload_n 0, 1) := by decide +kernel
theorem dX10_cancel_12 : decode cX10_cancel 12 = .ok (.aload_n 0, 1) := by decide +kernel
theorem dX10_cancel_13 : decode cX10_cancel 13 = .ok (.getfield 10, 3) := by decide +kernel
theorem dX10_cancel_16 : decode cX10_cancel 16 = .ok (.iload_n 1, 1) := by decide +kernel
theorem dX10_cancel_17 : decode cX10_cancel 17 = .ok (.invokevirtual 79, 3) := by decide +kernel
theorem dX10_cancel_20 : decode cX10_cancel 20 = .ok (.invokevirtual 65, 3) := by decide +kernel
theorem dX10_cancel_23 : decode cX10_cancel 23 = .ok (.ireturn, 1) := by decide +kernel
theorem dX10_setWind_0 : decode cX10_setWind 0 = .ok (.aload_n 0, 1) := by decide +kernel
theorem dX10_setWind_1 : decode cX10_setWind 1 = .ok (.getfield 16, 3) := by decide +kernel
theorem dX10_setWind_4 : decode cX10_setWind 4 = .ok (.aload_n 0, 1) := by decide +kernel
theorem dX10_setWind_5 : decode cX10_setWind 5 = .ok (.getfield 10, 3) := by decide +kernel
theorem dX10_setWind_8 : decode cX10_setWind 8 = .ok (.invokevirtual 57, 3) := by decide +kernel
theorem dX10_setWind_11 : decode cX10_setWind 11 = .ok (.aload_n 0, 1) := by decide +kernel
theorem dX10_setWind_12 : decode cX10_setWind 12 = .ok (.aload_n 0, 1) := by decide +kernel
theorem dX10_setWind_13 : decode cX10_setWind 13 = .ok (.getfield 10, 3) := by decide +kernel
theorem dX10_setWind_16 : decode cX10_setWind 16 = .ok (.iload_n 1, 1) := by decide +kernel
theorem dX10_setWind_17 : decode cX10_setWind 17 = .ok (.invokevirtual 82, 3) := by decide +kernel
theorem dX10_setWind_20 : decode cX10_setWind 20 = .ok (.invokevirtual 65, 3) := by decide +kernel
theorem dX10_setWind_23 : decode cX10_setWind 23 = .ok (.ireturn, 1) := by decide +kernel
theorem dX10_forget_0 : decode cX10_forget 0 = .ok (.aload_n 0, 1) := by decide +kernel
theorem dX10_forget_1 : decode cX10_forget 1 = .ok (.getfield 16, 3) := by decide +kernel
theorem dX10_forget_4 : decode cX10_forget 4 = .ok (.aload_n 0, 1) := by decide +kernel
theorem dX10_forget_5 : decode cX10_forget 5 = .ok (.getfield 10, 3) := by decide +kernel
theorem dX10_forget_8 : decode cX10_forget 8 = .ok (.invokevirtual 57, 3) := by decide +kernel
theorem dX10_forget_11 : decode cX10_forget 11 = .ok (.aload_n 0, 1) := by decide +kernel
theorem dX10_forget_12 : decode cX10_forget 12 = .ok (.aload_n 0, 1) := by decide +kernel
theorem dX10_forget_13 : decode cX10_forget 13 = .ok (.getfield 10, 3) := by decide +kernel
theorem dX10_forget_16 : decode cX10_forget 16 = .ok (.iload_n 1, 1) := by decide +kernel
theorem dX10_forget_17 : decode cX10_forget 17 = .ok (.invokevirtual 85, 3) := by decide +kernel
theorem dX10_forget_20 : decode cX10_forget 20 = .ok (.invokevirtual 65, 3) := by decide +kernel
theorem dX10_forget_23 : decode cX10_forget 23 = .ok (.ireturn, 1) := by decide +kernel
theorem dX10_advance_0 : decode cX10_advance 0 = .ok (.aload_n 0, 1) := by decide +kernel
theorem dX10_advance_1 : decode cX10_advance 1 = .ok (.getfield 16, 3) := by decide +kernel
theorem dX10_advance_4 : decode cX10_advance 4 = .ok (.aload_n 0, 1) := by decide +kernel
theorem dX10_advance_5 : decode cX10_advance 5 = .ok (.getfield 10, 3) := by decide +kernel
theorem dX10_advance_8 : decode cX10_advance 8 = .ok (.invokevirtual 57, 3) := by decide +kernel
theorem dX10_advance_11 : decode cX10_advance 11 = .ok (.aload_n 0, 1) := by decide +kernel
theorem dX10_advance_12 : decode cX10_advance 12 = .ok (.aload_n 0, 1) := by decide +kernel
theorem dX10_advance_13 : decode cX10_advance 13 = .ok (.getfield 10, 3) := by decide +kernel
theorem dX10_advance_16 : decode cX10_advance 16 = .ok (.iload_n 1, 1) := by decide +kernel
theorem dX10_advance_17 : decode cX10_advance 17 = .ok (.invokevirtual 88, 3) := by decide +kernel
theorem dX10_advance_20 : decode cX10_advance 20 = .ok (.invokevirtual 65, 3) := by decide +kernel
theorem dX10_advance_23 : decode cX10_advance 23 = .ok (.ireturn, 1) := by decide +kernel
theorem dX10_settle_0 : decode cX10_settle 0 = .ok (.iload_n 1, 1) := by decide +kernel
theorem dX10_settle_1 : decode cX10_settle 1 = .ok (.iconst (-1), 1) := by decide +kernel
theorem dX10_settle_2 : decode cX10_settle 2 = .ok (.if_icmp .ne 13, 3) := by decide +kernel
theorem dX10_settle_5 : decode cX10_settle 5 = .ok (.new 91, 3) := by decide +kernel
theorem dX10_settle_8 : decode cX10_settle 8 = .ok (.dup, 1) := by decide +kernel
theorem dX10_settle_9 : decode cX10_settle 9 = .ok (.ldc 93, 2) := by decide +kernel
theorem dX10_settle_11 : decode cX10_settle 11 = .ok (.invokespecial 95, 3) := by decide +kernel
theorem dX10_settle_14 : decode cX10_settle 14 = .ok (.athrow, 1) := by decide +kernel
theorem dX10_settle_15 : decode cX10_settle 15 = .ok (.iload_n 1, 1) := by decide +kernel
theorem dX10_settle_16 : decode cX10_settle 16 = .ok (.bipush (-2), 2) := by decide +kernel
theorem dX10_settle_18 : decode cX10_settle 18 = .ok (.if_icmp .ne 13, 3) := by decide +kernel
theorem dX10_settle_21 : decode cX10_settle 21 = .ok (.new 98, 3) := by decide +kernel
theorem dX10_settle_24 : decode cX10_settle 24 = .ok (.dup, 1) := by decide +kernel
theorem dX10_settle_25 : decode cX10_settle 25 = .ok (.ldc 100, 2) := by decide +kernel
theorem dX10_settle_27 : decode cX10_settle 27 = .ok (.invokespecial 102, 3) := by decide +kernel
theorem dX10_settle_30 : decode cX10_settle 30 = .ok (.athrow, 1) := by decide +kernel
theorem dX10_settle_31 : decode cX10_settle 31 = .ok (.iload_n 1, 1) := by decide +kernel
theorem dX10_settle_32 : decode cX10_settle 32 = .ok (.bipush (-3), 2) := by decide +kernel
theorem dX10_settle_34 : decode cX10_settle 34 = .ok (.if_icmp .ne 13, 3) := by decide +kernel
theorem dX10_settle_37 : decode cX10_settle 37 = .ok (.new 103, 3) := by decide +kernel
theorem dX10_settle_40 : decode cX10_settle 40 = .ok (.dup, 1) := by decide +kernel
theorem dX10_settle_41 : decode cX10_settle 41 = .ok (.ldc 105, 2) := by decide +kernel
theorem dX10_settle_43 : decode cX10_settle 43 = .ok (.invokespecial 107, 3) := by decide +kernel
theorem dX10_settle_46 : decode cX10_settle 46 = .ok (.athrow, 1) := by decide +kernel
theorem dX10_settle_47 : decode cX10_settle 47 = .ok (.iload_n 1, 1) := by decide +kernel
theorem dX10_settle_48 : decode cX10_settle 48 = .ok (.bipush (-4), 2) := by decide +kernel
theorem dX10_settle_50 : decode cX10_settle 50 = .ok (.if_icmp .ne 13, 3) := by decide +kernel
theorem dX10_settle_53 : decode cX10_settle 53 = .ok (.new 108, 3) := by decide +kernel
theorem dX10_settle_56 : decode cX10_settle 56 = .ok (.dup, 1) := by decide +kernel
theorem dX10_settle_57 : decode cX10_settle 57 = .ok (.ldc 110, 2) := by decide +kernel
theorem dX10_settle_59 : decode cX10_settle 59 = .ok (.invokespecial 112, 3) := by decide +kernel
theorem dX10_settle_62 : decode cX10_settle 62 = .ok (.athrow, 1) := by decide +kernel
theorem dX10_settle_63 : decode cX10_settle 63 = .ok (.aload_n 0, 1) := by decide +kernel
theorem dX10_settle_64 : decode cX10_settle 64 = .ok (.getfield 28, 3) := by decide +kernel
theorem dX10_settle_67 : decode cX10_settle 67 = .ok (.aload_n 0, 1) := by decide +kernel
theorem dX10_settle_68 : decode cX10_settle 68 = .ok (.getfield 16, 3) := by decide +kernel
theorem dX10_settle_71 : decode cX10_settle 71 = .ok (.invokevirtual 113, 3) := by decide +kernel
theorem dX10_settle_74 : decode cX10_settle 74 = .ok (.iload_n 1, 1) := by decide +kernel
theorem dX10_settle_75 : decode cX10_settle 75 = .ok (.ireturn, 1) := by decide +kernel
theorem dX10_nestCount_0 : decode cX10_nestCount 0 = .ok (.aload_n 0, 1) := by decide +kernel
theorem dX10_nestCount_1 : decode cX10_nestCount 1 = .ok (.getfield 10, 3) := by decide +kernel
theorem dX10_nestCount_4 : decode cX10_nestCount 4 = .ok (.getfield 116, 3) := by decide +kernel
theorem dX10_nestCount_7 : decode cX10_nestCount 7 = .ok (.ireturn, 1) := by decide +kernel
theorem dX10_distance_0 : decode cX10_distance 0 = .ok (.aload_n 0, 1) := by decide +kernel
theorem dX10_distance_1 : decode cX10_distance 1 = .ok (.iload_n 1, 1) := by decide +kernel
theorem dX10_distance_2 : decode cX10_distance 2 = .ok (.invokevirtual 119, 3) := by decide +kernel
theorem dX10_distance_5 : decode cX10_distance 5 = .ok (.getfield 123, 3) := by decide +kernel
theorem dX10_distance_8 : decode cX10_distance 8 = .ok (.ireturn, 1) := by decide +kernel
theorem dX10_loss_0 : decode cX10_loss 0 = .ok (.aload_n 0, 1) := by decide +kernel
theorem dX10_loss_1 : decode cX10_loss 1 = .ok (.iload_n 1, 1) := by decide +kernel
theorem dX10_loss_2 : decode cX10_loss 2 = .ok (.invokevirtual 119, 3) := by decide +kernel
theorem dX10_loss_5 : decode cX10_loss 5 = .ok (.getfield 128, 3) := by decide +kernel
theorem dX10_loss_8 : decode cX10_loss 8 = .ok (.ireturn, 1) := by decide +kernel
theorem dX10_inboxSize_0 : decode cX10_inboxSize 0 = .ok (.aload_n 0, 1) := by decide +kernel
theorem dX10_inboxSize_1 : decode cX10_inboxSize 1 = .ok (.iload_n 1, 1) := by decide +kernel
theorem dX10_inboxSize_2 : decode cX10_inboxSize 2 = .ok (.invokevirtual 119, 3) := by decide +kernel
theorem dX10_inboxSize_5 : decode cX10_inboxSize 5 = .ok (.getfield 131, 3) := by decide +kernel
theorem dX10_inboxSize_8 : decode cX10_inboxSize 8 = .ok (.ireturn, 1) := by decide +kernel
theorem dX10_inboxMessage_0 : decode cX10_inboxMessage 0 = .ok (.aload_n 0, 1) := by decide +kernel
theorem dX10_inboxMessage_1 : decode cX10_inboxMessage 1 = .ok (.iload_n 1, 1) := by decide +kernel
theorem dX10_inboxMessage_2 : decode cX10_inboxMessage 2 = .ok (.invokevirtual 119, 3) := by decide +kernel
theorem dX10_inboxMessage_5 : decode cX10_inboxMessage 5 = .ok (.astore_n 3, 1) := by decide +kernel
theorem dX10_inboxMessage_6 : decode cX10_inboxMessage 6 = .ok (.iload_n 2, 1) := by decide +kernel
theorem dX10_inboxMessage_7 : decode cX10_inboxMessage 7 = .ok (.ifCond .lt 11, 3) := by decide +kernel
theorem dX10_inboxMessage_10 : decode cX10_inboxMessage 10 = .ok (.iload_n 2, 1) := by decide +kernel
theorem dX10_inboxMessage_11 : decode cX10_inboxMessage 11 = .ok (.aload_n 3, 1) := by decide +kernel
theorem dX10_inboxMessage_12 : decode cX10_inboxMessage 12 = .ok (.getfield 131, 3) := by decide +kernel
theorem dX10_inboxMessage_15 : decode cX10_inboxMessage 15 = .ok (.if_icmp .lt 13, 3) := by decide +kernel
theorem dX10_inboxMessage_18 : decode cX10_inboxMessage 18 = .ok (.new 108, 3) := by decide +kernel
theorem dX10_inboxMessage_21 : decode cX10_inboxMessage 21 = .ok (.dup, 1) := by decide +kernel
theorem dX10_inboxMessage_22 : decode cX10_inboxMessage 22 = .ok (.ldc 134, 2) := by decide +kernel
theorem dX10_inboxMessage_24 : decode cX10_inboxMessage 24 = .ok (.invokespecial 112, 3) := by decide +kernel
theorem dX10_inboxMessage_27 : decode cX10_inboxMessage 27 = .ok (.athrow, 1) := by decide +kernel
theorem dX10_inboxMessage_28 : decode cX10_inboxMessage 28 = .ok (.aload_n 3, 1) := by decide +kernel
theorem dX10_inboxMessage_29 : decode cX10_inboxMessage 29 = .ok (.getfield 136, 3) := by decide +kernel
theorem dX10_inboxMessage_32 : decode cX10_inboxMessage 32 = .ok (.iload_n 2, 1) := by decide +kernel
theorem dX10_inboxMessage_33 : decode cX10_inboxMessage 33 = .ok (.iaload, 1) := by decide +kernel
theorem dX10_inboxMessage_34 : decode cX10_inboxMessage 34 = .ok (.ireturn, 1) := by decide +kernel
theorem dX10_remembers_0 : decode cX10_remembers 0 = .ok (.aload_n 0, 1) := by decide +kernel
theorem dX10_remembers_1 : decode cX10_remembers 1 = .ok (.iload_n 1, 1) := by decide +kernel
theorem dX10_remembers_2 : decode cX10_remembers 2 = .ok (.invokevirtual 119, 3) := by decide +kernel
theorem dX10_remembers_5 : decode cX10_remembers 5 = .ok (.iload_n 2, 1) := by decide +kernel
theorem dX10_remembers_6 : decode cX10_remembers 6 = .ok (.invokevirtual 140, 3) := by decide +kernel
theorem dX10_remembers_9 : decode cX10_remembers 9 = .ok (.ireturn, 1) := by decide +kernel
theorem dX10_rememberedCount_0 : decode cX10_rememberedCount 0 = .ok (.aload_n 0, 1) := by decide +kernel
theorem dX10_rememberedCount_1 : decode cX10_rememberedCount 1 = .ok (.iload_n 1, 1) := by decide +kernel
theorem dX10_rememberedCount_2 : decode cX10_rememberedCount 2 = .ok (.invokevirtual 119, 3) := by decide +kernel
theorem dX10_rememberedCount_5 : decode cX10_rememberedCount 5 = .ok (.getfield 144, 3) := by decide +kernel
theorem dX10_rememberedCount_8 : decode cX10_rememberedCount 8 = .ok (.ireturn, 1) := by decide +kernel
theorem dX10_nestByDeliveries_0 : decode cX10_nestByDeliveries 0 = .ok (.aload_n 0, 1) := by decide +kernel
theorem dX10_nestByDeliveries_1 : decode cX10_nestByDeliveries 1 = .ok (.getfield 10, 3) := by decide +kernel
theorem dX10_nestByDeliveries_4 : decode cX10_nestByDeliveries 4 = .ok (.iload_n 1, 1) := by decide +kernel
theorem dX10_nestByDeliveries_5 : decode cX10_nestByDeliveries 5 = .ok (.invokevirtual 147, 3) := by decide +kernel
theorem dX10_nestByDeliveries_8 : decode cX10_nestByDeliveries 8 = .ok (.istore_n 2, 1) := by decide +kernel
theorem dX10_nestByDeliveries_9 : decode cX10_nestByDeliveries 9 = .ok (.iload_n 2, 1) := by decide +kernel
theorem dX10_nestByDeliveries_10 : decode cX10_nestByDeliveries 10 = .ok (.iconst (-1), 1) := by decide +kernel
theorem dX10_nestByDeliveries_11 : decode cX10_nestByDeliveries 11 = .ok (.if_icmp .ne 13, 3) := by decide +kernel
theorem dX10_nestByDeliveries_14 : decode cX10_nestByDeliveries 14 = .ok (.new 108, 3) := by decide +kernel
theorem dX10_nestByDeliveries_17 : decode cX10_nestByDeliveries 17 = .ok (.dup, 1) := by decide +kernel
theorem dX10_nestByDeliveries_18 : decode cX10_nestByDeliveries 18 = .ok (.ldc 150, 2) := by decide +kernel
theorem dX10_nestByDeliveries_20 : decode cX10_nestByDeliveries 20 = .ok (.invokespecial 112, 3) := by decide +kernel
theorem dX10_nestByDeliveries_23 : decode cX10_nestByDeliveries 23 = .ok (.athrow, 1) := by decide +kernel
theorem dX10_nestByDeliveries_24 : decode cX10_nestByDeliveries 24 = .ok (.iload_n 2, 1) := by decide +kernel
theorem dX10_nestByDeliveries_25 : decode cX10_nestByDeliveries 25 = .ok (.ireturn, 1) := by decide +kernel
theorem dX10_existingNest_0 : decode cX10_existingNest 0 = .ok (.aload_n 0, 1) := by decide +kernel
theorem dX10_existingNest_1 : decode cX10_existingNest 1 = .ok (.getfield 10, 3) := by decide +kernel
theorem dX10_existingNest_4 : decode cX10_existingNest 4 = .ok (.iload_n 1, 1) := by decide +kernel
theorem dX10_existingNest_5 : decode cX10_existingNest 5 = .ok (.invokevirtual 152, 3) := by decide +kernel
theorem dX10_existingNest_8 : decode cX10_existingNest 8 = .ok (.astore_n 2, 1) := by decide +kernel
theorem dX10_existingNest_9 : decode cX10_existingNest 9 = .ok (.aload_n 2, 1) := by decide +kernel
theorem dX10_existingNest_10 : decode cX10_existingNest 10 = .ok (.ifnonnull 13, 3) := by decide +kernel
theorem dX10_existingNest_13 : decode cX10_existingNest 13 = .ok (.new 103, 3) := by decide +kernel
theorem dX10_existingNest_16 : decode cX10_existingNest 16 = .ok (.dup, 1) := by decide +kernel
theorem dX10_existingNest_17 : decode cX10_existingNest 17 = .ok (.ldc 105, 2) := by decide +kernel
theorem dX10_existingNest_19 : decode cX10_existingNest 19 = .ok (.invokespecial 107, 3) := by decide +kernel
theorem dX10_existingNest_22 : decode cX10_existingNest 22 = .ok (.athrow, 1) := by decide +kernel
theorem dX10_existingNest_23 : decode cX10_existingNest 23 = .ok (.aload_n 2, 1) := by decide +kernel
theorem dX10_existingNest_24 : decode cX10_existingNest 24 = .ok (.areturn, 1) := by decide +kernel
theorem dX10_crowCount_0 : decode cX10_crowCount 0 = .ok (.aload_n 0, 1) := by decide +kernel
theorem dX10_crowCount_1 : decode cX10_crowCount 1 = .ok (.getfield 10, 3) := by decide +kernel
theorem dX10_crowCount_4 : decode cX10_crowCount 4 = .ok (.getfield 155, 3) := by decide +kernel
theorem dX10_crowCount_7 : decode cX10_crowCount 7 = .ok (.ireturn, 1) := by decide +kernel
theorem dX10_isFlying_0 : decode cX10_isFlying 0 = .ok (.aload_n 0, 1) := by decide +kernel
theorem dX10_isFlying_1 : decode cX10_isFlying 1 = .ok (.iload_n 1, 1) := by decide +kernel
theorem dX10_isFlying_2 : decode cX10_isFlying 2 = .ok (.invokevirtual 158, 3) := by decide +kernel
theorem dX10_isFlying_5 : decode cX10_isFlying 5 = .ok (.getfield 162, 3) := by decide +kernel
theorem dX10_isFlying_8 : decode cX10_isFlying 8 = .ok (.ireturn, 1) := by decide +kernel
theorem dX10_carriedMessage_0 : decode cX10_carriedMessage 0 = .ok (.aload_n 0, 1) := by decide +kernel
theorem dX10_carriedMessage_1 : decode cX10_carriedMessage 1 = .ok (.iload_n 1, 1) := by decide +kernel
theorem dX10_carriedMessage_2 : decode cX10_carriedMessage 2 = .ok (.invokevirtual 158, 3) := by decide +kernel
theorem dX10_carriedMessage_5 : decode cX10_carriedMessage 5 = .ok (.astore_n 2, 1) := by decide +kernel
theorem dX10_carriedMessage_6 : decode cX10_carriedMessage 6 = .ok (.aload_n 2, 1) := by decide +kernel
theorem dX10_carriedMessage_7 : decode cX10_carriedMessage 7 = .ok (.getfield 162, 3) := by decide +kernel
theorem dX10_carriedMessage_10 : decode cX10_carriedMessage 10 = .ok (.ifCond .ne 13, 3) := by decide +kernel
theorem dX10_carriedMessage_13 : decode cX10_carriedMessage 13 = .ok (.new 108, 3) := by decide +kernel
theorem dX10_carriedMessage_16 : decode cX10_carriedMessage 16 = .ok (.dup, 1) := by decide +kernel
theorem dX10_carriedMessage_17 : decode cX10_carriedMessage 17 = .ok (.ldc 167, 2) := by decide +kernel
theorem dX10_carriedMessage_19 : decode cX10_carriedMessage 19 = .ok (.invokespecial 112, 3) := by decide +kernel
theorem dX10_carriedMessage_22 : decode cX10_carriedMessage 22 = .ok (.athrow, 1) := by decide +kernel
theorem dX10_carriedMessage_23 : decode cX10_carriedMessage 23 = .ok (.aload_n 2, 1) := by decide +kernel
theorem dX10_carriedMessage_24 : decode cX10_carriedMessage 24 = .ok (.getfield 169, 3) := by decide +kernel
theorem dX10_carriedMessage_27 : decode cX10_carriedMessage 27 = .ok (.ireturn, 1) := by decide +kernel
theorem dX10_flightMinutes_0 : decode cX10_flightMinutes 0 = .ok (.aload_n 0, 1) := by decide +kernel
theorem dX10_flightMinutes_1 : decode cX10_flightMinutes 1 = .ok (.iload_n 1, 1) := by decide +kernel
theorem dX10_flightMinutes_2 : decode cX10_flightMinutes 2 = .ok (.invokevirtual 158, 3) := by decide +kernel
theorem dX10_flightMinutes_5 : decode cX10_flightMinutes 5 = .ok (.astore_n 2, 1) := by decide +kernel
theorem dX10_flightMinutes_6 : decode cX10_flightMinutes 6 = .ok (.aload_n 2, 1) := by decide +kernel
theorem dX10_flightMinutes_7 : decode cX10_flightMinutes 7 = .ok (.getfield 162, 3) := by decide +kernel
theorem dX10_flightMinutes_10 : decode cX10_flightMinutes 10 = .ok (.ifCond .eq 18, 3) := by decide +kernel
theorem dX10_flightMinutes_13 : decode cX10_flightMinutes 13 = .ok (.aload_n 2, 1) := by decide +kernel
theorem dX10_flightMinutes_14 : decode cX10_flightMinutes 14 = .ok (.getfield 172, 3) := by decide +kernel
theorem dX10_flightMinutes_17 : decode cX10_flightMinutes 17 = .ok (.aload_n 0, 1) := by decide +kernel
theorem dX10_flightMinutes_18 : decode cX10_flightMinutes 18 = .ok (.getfield 10, 3) := by decide +kernel
theorem dX10_flightMinutes_21 : decode cX10_flightMinutes 21 = .ok (.getfield 175, 3) := by decide +kernel
theorem dX10_flightMinutes_24 : decode cX10_flightMinutes 24 = .ok (.isub, 1) := by decide +kernel
theorem dX10_flightMinutes_25 : decode cX10_flightMinutes 25 = .ok (.goto 4, 3) := by decide +kernel
theorem dX10_flightMinutes_28 : decode cX10_flightMinutes 28 = .ok (.iconst 0, 1) := by decide +kernel
theorem dX10_flightMinutes_29 : decode cX10_flightMinutes 29 = .ok (.ireturn, 1) := by decide +kernel
theorem dX10_existingCrow_0 : decode cX10_existingCrow 0 = .ok (.aload_n 0, 1) := by decide +kernel
theorem dX10_existingCrow_1 : decode cX10_existingCrow 1 = .ok (.getfield 10, 3) := by decide +kernel
theorem dX10_existingCrow_4 : decode cX10_existingCrow 4 = .ok (.iload_n 1, 1) := by decide +kernel
theorem dX10_existingCrow_5 : decode cX10_existingCrow 5 = .ok (.invokevirtual 178, 3) := by decide +kernel
theorem dX10_existingCrow_8 : decode cX10_existingCrow 8 = .ok (.astore_n 2, 1) := by decide +kernel
theorem dX10_existingCrow_9 : decode cX10_existingCrow 9 = .ok (.aload_n 2, 1) := by decide +kernel
theorem dX10_existingCrow_10 : decode cX10_existingCrow 10 = .ok (.ifnonnull 13, 3) := by decide +kernel
theorem dX10_existingCrow_13 : decode cX10_existingCrow 13 = .ok (.new 103, 3) := by decide +kernel
theorem dX10_existingCrow_16 : decode cX10_existingCrow 16 = .ok (.dup, 1) := by decide +kernel
theorem dX10_existingCrow_17 : decode cX10_existingCrow 17 = .ok (.ldc 181, 2) := by decide +kernel
theorem dX10_existingCrow_19 : decode cX10_existingCrow 19 = .ok (.invokespecial 107, 3) := by decide +kernel
theorem dX10_existingCrow_22 : decode cX10_existingCrow 22 = .ok (.athrow, 1) := by decide +kernel
theorem dX10_existingCrow_23 : decode cX10_existingCrow 23 = .ok (.aload_n 2, 1) := by decide +kernel
theorem dX10_existingCrow_24 : decode cX10_existingCrow 24 = .ok (.areturn, 1) := by decide +kernel
theorem dX10_messageCount_0 : decode cX10_messageCount 0 = .ok (.aload_n 0, 1) := by decide +kernel
theorem dX10_messageCount_1 : decode cX10_messageCount 1 = .ok (.getfield 10, 3) := by decide +kernel
theorem dX10_messageCount_4 : decode cX10_messageCount 4 = .ok (.getfield 183, 3) := by decide +kernel
theorem dX10_messageCount_7 : decode cX10_messageCount 7 = .ok (.ireturn, 1) := by decide +kernel
theorem dX10_messageAt_0 : decode cX10_messageAt 0 = .ok (.iload_n 1, 1) := by decide +kernel
theorem dX10_messageAt_1 : decode cX10_messageAt 1 = .ok (.ifCond .lt 14, 3) := by decide +kernel
theorem dX10_messageAt_4 : decode cX10_messageAt 4 = .ok (.iload_n 1, 1) := by decide +kernel
theorem dX10_messageAt_5 : decode cX10_messageAt 5 = .ok (.aload_n 0, 1) := by decide +kernel
theorem dX10_messageAt_6 : decode cX10_messageAt 6 = .ok (.getfield 10, 3) := by decide +kernel
theorem dX10_messageAt_9 : decode cX10_messageAt 9 = .ok (.getfield 183, 3) := by decide +kernel
theorem dX10_messageAt_12 : decode cX10_messageAt 12 = .ok (.if_icmp .lt 13, 3) := by decide +kernel
theorem dX10_messageAt_15 : decode cX10_messageAt 15 = .ok (.new 108, 3) := by decide +kernel
theorem dX10_messageAt_18 : decode cX10_messageAt 18 = .ok (.dup, 1) := by decide +kernel
theorem dX10_messageAt_19 : decode cX10_messageAt 19 = .ok (.ldc 134, 2) := by decide +kernel
theorem dX10_messageAt_21 : decode cX10_messageAt 21 = .ok (.invokespecial 112, 3) := by decide +kernel
theorem dX10_messageAt_24 : decode cX10_messageAt 24 = .ok (.athrow, 1) := by decide +kernel
theorem dX10_messageAt_25 : decode cX10_messageAt 25 = .ok (.aload_n 0, 1) := by decide +kernel
theorem dX10_messageAt_26 : decode cX10_messageAt 26 = .ok (.getfield 10, 3) := by decide +kernel
theorem dX10_messageAt_29 : decode cX10_messageAt 29 = .ok (.getfield 186, 3) := by decide +kernel
theorem dX10_messageAt_32 : decode cX10_messageAt 32 = .ok (.iload_n 1, 1) := by decide +kernel
theorem dX10_messageAt_33 : decode cX10_messageAt 33 = .ok (.aaload, 1) := by decide +kernel
theorem dX10_messageAt_34 : decode cX10_messageAt 34 = .ok (.getfield 190, 3) := by decide +kernel
theorem dX10_messageAt_37 : decode cX10_messageAt 37 = .ok (.ireturn, 1) := by decide +kernel
theorem dX10_nestOf_0 : decode cX10_nestOf 0 = .ok (.aload_n 0, 1) := by decide +kernel
theorem dX10_nestOf_1 : decode cX10_nestOf 1 = .ok (.iload_n 1, 1) := by decide +kernel
theorem dX10_nestOf_2 : decode cX10_nestOf 2 = .ok (.invokevirtual 195, 3) := by decide +kernel
theorem dX10_nestOf_5 : decode cX10_nestOf 5 = .ok (.getfield 199, 3) := by decide +kernel
theorem dX10_nestOf_8 : decode cX10_nestOf 8 = .ok (.ireturn, 1) := by decide +kernel
theorem dX10_keyOf_0 : decode cX10_keyOf 0 = .ok (.aload_n 0, 1) := by decide +kernel
theorem dX10_keyOf_1 : decode cX10_keyOf 1 = .ok (.iload_n 1, 1) := by decide +kernel
theorem dX10_keyOf_2 : decode cX10_keyOf 2 = .ok (.invokevirtual 195, 3) := by decide +kernel
theorem dX10_keyOf_5 : decode cX10_keyOf 5 = .ok (.getfield 202, 3) := by decide +kernel
theorem dX10_keyOf_8 : decode cX10_keyOf 8 = .ok (.ireturn, 1) := by decide +kernel
theorem dX10_attempts_0 : decode cX10_attempts 0 = .ok (.aload_n 0, 1) := by decide +kernel
theorem dX10_attempts_1 : decode cX10_attempts 1 = .ok (.iload_n 1, 1) := by decide +kernel
theorem dX10_attempts_2 : decode cX10_attempts 2 = .ok (.invokevirtual 195, 3) := by decide +kernel
theorem dX10_attempts_5 : decode cX10_attempts 5 = .ok (.getfield 205, 3) := by decide +kernel
theorem dX10_attempts_8 : decode cX10_attempts 8 = .ok (.ireturn, 1) := by decide +kernel
theorem dX10_status_0 : decode cX10_status 0 = .ok (.aload_n 0, 1) := by decide +kernel
theorem dX10_status_1 : decode cX10_status 1 = .ok (.iload_n 1, 1) := by decide +kernel
theorem dX10_status_2 : decode cX10_status 2 = .ok (.invokevirtual 195, 3) := by decide +kernel
theorem dX10_status_5 : decode cX10_status 5 = .ok (.getfield 208, 3) := by decide +kernel
theorem dX10_status_8 : decode cX10_status 8 = .ok (.ireturn, 1) := by decide +kernel
theorem dX10_napMinutes_0 : decode cX10_napMinutes 0 = .ok (.aload_n 0, 1) := by decide +kernel
theorem dX10_napMinutes_1 : decode cX10_napMinutes 1 = .ok (.iload_n 1, 1) := by decide +kernel
theorem dX10_napMinutes_2 : decode cX10_napMinutes 2 = .ok (.invokevirtual 195, 3) := by decide +kernel
theorem dX10_napMinutes_5 : decode cX10_napMinutes 5 = .ok (.astore_n 2, 1) := by decide +kernel
theorem dX10_napMinutes_6 : decode cX10_napMinutes 6 = .ok (.aload_n 2, 1) := by decide +kernel
theorem dX10_napMinutes_7 : decode cX10_napMinutes 7 = .ok (.getfield 208, 3) := by decide +kernel
theorem dX10_napMinutes_10 : decode cX10_napMinutes 10 = .ok (.bipush 110, 2) := by decide +kernel
theorem dX10_napMinutes_12 : decode cX10_napMinutes 12 = .ok (.if_icmp .eq 13, 3) := by decide +kernel
theorem dX10_napMinutes_15 : decode cX10_napMinutes 15 = .ok (.new 98, 3) := by decide +kernel
theorem dX10_napMinutes_18 : decode cX10_napMinutes 18 = .ok (.dup, 1) := by decide +kernel
theorem dX10_napMinutes_19 : decode cX10_napMinutes 19 = .ok (.ldc 212, 2) := by decide +kernel
theorem dX10_napMinutes_21 : decode cX10_napMinutes 21 = .ok (.invokespecial 102, 3) := by decide +kernel
theorem dX10_napMinutes_24 : decode cX10_napMinutes 24 = .ok (.athrow, 1) := by decide +kernel
theorem dX10_napMinutes_25 : decode cX10_napMinutes 25 = .ok (.aload_n 2, 1) := by decide +kernel
theorem dX10_napMinutes_26 : decode cX10_napMinutes 26 = .ok (.getfield 214, 3) := by decide +kernel
theorem dX10_napMinutes_29 : decode cX10_napMinutes 29 = .ok (.aload_n 0, 1) := by decide +kernel
theorem dX10_napMinutes_30 : decode cX10_napMinutes 30 = .ok (.getfield 10, 3) := by decide +kernel
theorem dX10_napMinutes_33 : decode cX10_napMinutes 33 = .ok (.getfield 175, 3) := by decide +kernel
theorem dX10_napMinutes_36 : decode cX10_napMinutes 36 = .ok (.isub, 1) := by decide +kernel
theorem dX10_napMinutes_37 : decode cX10_napMinutes 37 = .ok (.ireturn, 1) := by decide +kernel
theorem dX10_waitingMessage_0 : decode cX10_waitingMessage 0 = .ok (.aload_n 0, 1) := by decide +kernel
theorem dX10_waitingMessage_1 : decode cX10_waitingMessage 1 = .ok (.getfield 10, 3) := by decide +kernel
theorem dX10_waitingMessage_4 : decode cX10_waitingMessage 4 = .ok (.iload_n 1, 1) := by decide +kernel
theorem dX10_waitingMessage_5 : decode cX10_waitingMessage 5 = .ok (.invokevirtual 217, 3) := by decide +kernel
theorem dX10_waitingMessage_8 : decode cX10_waitingMessage 8 = .ok (.astore_n 2, 1) := by decide +kernel
theorem dX10_waitingMessage_9 : decode cX10_waitingMessage 9 = .ok (.aload_n 2, 1) := by decide +kernel
theorem dX10_waitingMessage_10 : decode cX10_waitingMessage 10 = .ok (.ifnonnull 13, 3) := by decide +kernel
theorem dX10_waitingMessage_13 : decode cX10_waitingMessage 13 = .ok (.new 108, 3) := by decide +kernel
theorem dX10_waitingMessage_16 : decode cX10_waitingMessage 16 = .ok (.dup, 1) := by decide +kernel
theorem dX10_waitingMessage_17 : decode cX10_waitingMessage 17 = .ok (.ldc 150, 2) := by decide +kernel
theorem dX10_waitingMessage_19 : decode cX10_waitingMessage 19 = .ok (.invokespecial 112, 3) := by decide +kernel
theorem dX10_waitingMessage_22 : decode cX10_waitingMessage 22 = .ok (.athrow, 1) := by decide +kernel
theorem dX10_waitingMessage_23 : decode cX10_waitingMessage 23 = .ok (.aload_n 2, 1) := by decide +kernel
theorem dX10_waitingMessage_24 : decode cX10_waitingMessage 24 = .ok (.getfield 190, 3) := by decide +kernel
theorem dX10_waitingMessage_27 : decode cX10_waitingMessage 27 = .ok (.ireturn, 1) := by decide +kernel
theorem dX10_wouldBeLost_0 : decode cX10_wouldBeLost 0 = .ok (.aload_n 0, 1) := by decide +kernel
theorem dX10_wouldBeLost_1 : decode cX10_wouldBeLost 1 = .ok (.iload_n 1, 1) := by decide +kernel
theorem dX10_wouldBeLost_2 : decode cX10_wouldBeLost 2 = .ok (.invokevirtual 195, 3) := by decide +kernel
theorem dX10_wouldBeLost_5 : decode cX10_wouldBeLost 5 = .ok (.astore_n 2, 1) := by decide +kernel
theorem dX10_wouldBeLost_6 : decode cX10_wouldBeLost 6 = .ok (.aload_n 2, 1) := by decide +kernel
theorem dX10_wouldBeLost_7 : decode cX10_wouldBeLost 7 = .ok (.getfield 208, 3) := by decide +kernel
theorem dX10_wouldBeLost_10 : decode cX10_wouldBeLost 10 = .ok (.bipush 100, 2) := by decide +kernel
theorem dX10_wouldBeLost_12 : decode cX10_wouldBeLost 12 = .ok (.if_icmp .ne 13, 3) := by decide +kernel
theorem dX10_wouldBeLost_15 : decode cX10_wouldBeLost 15 = .ok (.new 98, 3) := by decide +kernel
theorem dX10_wouldBeLost_18 : decode cX10_wouldBeLost 18 = .ok (.dup, 1) := by decide +kernel
theorem dX10_wouldBeLost_19 : decode cX10_wouldBeLost 19 = .ok (.ldc 220, 2) := by decide +kernel
theorem dX10_wouldBeLost_21 : decode cX10_wouldBeLost 21 = .ok (.invokespecial 102, 3) := by decide +kernel
theorem dX10_wouldBeLost_24 : decode cX10_wouldBeLost 24 = .ok (.athrow, 1) := by decide +kernel
theorem dX10_wouldBeLost_25 : decode cX10_wouldBeLost 25 = .ok (.aload_n 0, 1) := by decide +kernel
theorem dX10_wouldBeLost_26 : decode cX10_wouldBeLost 26 = .ok (.getfield 10, 3) := by decide +kernel
theorem dX10_wouldBeLost_29 : decode cX10_wouldBeLost 29 = .ok (.aload_n 2, 1) := by decide +kernel
theorem dX10_wouldBeLost_30 : decode cX10_wouldBeLost 30 = .ok (.aload_n 2, 1) := by decide +kernel
theorem dX10_wouldBeLost_31 : decode cX10_wouldBeLost 31 = .ok (.getfield 205, 3) := by decide +kernel
theorem dX10_wouldBeLost_34 : decode cX10_wouldBeLost 34 = .ok (.iconst 1, 1) := by decide +kernel
theorem dX10_wouldBeLost_35 : decode cX10_wouldBeLost 35 = .ok (.iadd, 1) := by decide +kernel
theorem dX10_wouldBeLost_36 : decode cX10_wouldBeLost 36 = .ok (.invokevirtual 222, 3) := by decide +kernel
theorem dX10_wouldBeLost_39 : decode cX10_wouldBeLost 39 = .ok (.ireturn, 1) := by decide +kernel
theorem dX10_napLength_0 : decode cX10_napLength 0 = .ok (.iload_n 1, 1) := by decide +kernel
theorem dX10_napLength_1 : decode cX10_napLength 1 = .ok (.ifCond .lt 9, 3) := by decide +kernel
theorem dX10_napLength_4 : decode cX10_napLength 4 = .ok (.iload_n 1, 1) := by decide +kernel
theorem dX10_napLength_5 : decode cX10_napLength 5 = .ok (.bipush 40, 2) := by decide +kernel
theorem dX10_napLength_7 : decode cX10_napLength 7 = .ok (.if_icmp .le 13, 3) := by decide +kernel
theorem dX10_napLength_10 : decode cX10_napLength 10 = .ok (.new 91, 3) := by decide +kernel
theorem dX10_napLength_13 : decode cX10_napLength 13 = .ok (.dup, 1) := by decide +kernel
theorem dX10_napLength_14 : decode cX10_napLength 14 = .ok (.ldc 226, 2) := by decide +kernel
theorem dX10_napLength_16 : decode cX10_napLength 16 = .ok (.invokespecial 95, 3) := by decide +kernel
theorem dX10_napLength_19 : decode cX10_napLength 19 = .ok (.athrow, 1) := by decide +kernel
theorem dX10_napLength_20 : decode cX10_napLength 20 = .ok (.iload_n 1, 1) := by decide +kernel
theorem dX10_napLength_21 : decode cX10_napLength 21 = .ok (.invokestatic 228, 3) := by decide +kernel
theorem dX10_napLength_24 : decode cX10_napLength 24 = .ok (.lreturn, 1) := by decide +kernel
theorem dX10_napLengthByDoubling_0 : decode cX10_napLengthByDoubling 0 = .ok (.iload_n 1, 1) := by decide +kernel
theorem dX10_napLengthByDoubling_1 : decode cX10_napLengthByDoubling 1 = .ok (.ifCond .lt 9, 3) := by decide +kernel
theorem dX10_napLengthByDoubling_4 : decode cX10_napLengthByDoubling 4 = .ok (.iload_n 1, 1) := by decide +kernel
theorem dX10_napLengthByDoubling_5 : decode cX10_napLengthByDoubling 5 = .ok (.bipush 40, 2) := by decide +kernel
theorem dX10_napLengthByDoubling_7 : decode cX10_napLengthByDoubling 7 = .ok (.if_icmp .le 13, 3) := by decide +kernel
theorem dX10_napLengthByDoubling_10 : decode cX10_napLengthByDoubling 10 = .ok (.new 91, 3) := by decide +kernel
theorem dX10_napLengthByDoubling_13 : decode cX10_napLengthByDoubling 13 = .ok (.dup, 1) := by decide +kernel
theorem dX10_napLengthByDoubling_14 : decode cX10_napLengthByDoubling 14 = .ok (.ldc 226, 2) := by decide +kernel
theorem dX10_napLengthByDoubling_16 : decode cX10_napLengthByDoubling 16 = .ok (.invokespecial 95, 3) := by decide +kernel
theorem dX10_napLengthByDoubling_19 : decode cX10_napLengthByDoubling 19 = .ok (.athrow, 1) := by decide +kernel
theorem dX10_napLengthByDoubling_20 : decode cX10_napLengthByDoubling 20 = .ok (.iload_n 1, 1) := by decide +kernel
theorem dX10_napLengthByDoubling_21 : decode cX10_napLengthByDoubling 21 = .ok (.invokestatic 232, 3) := by decide +kernel
theorem dX10_napLengthByDoubling_24 : decode cX10_napLengthByDoubling 24 = .ok (.lreturn, 1) := by decide +kernel
theorem dX10_minutesUntilDelivered_0 : decode cX10_minutesUntilDelivered 0 = .ok (.aload_n 0, 1) := by decide +kernel
theorem dX10_minutesUntilDelivered_1 : decode cX10_minutesUntilDelivered 1 = .ok (.iload_n 1, 1) := by decide +kernel
theorem dX10_minutesUntilDelivered_2 : decode cX10_minutesUntilDelivered 2 = .ok (.invokevirtual 195, 3) := by decide +kernel
theorem dX10_minutesUntilDelivered_5 : decode cX10_minutesUntilDelivered 5 = .ok (.getfield 208, 3) := by decide +kernel
theorem dX10_minutesUntilDelivered_8 : decode cX10_minutesUntilDelivered 8 = .ok (.bipush 100, 2) := by decide +kernel
theorem dX10_minutesUntilDelivered_10 : decode cX10_minutesUntilDelivered 10 = .ok (.if_icmp .ne 13, 3) := by decide +kernel
theorem dX10_minutesUntilDelivered_13 : decode cX10_minutesUntilDelivered 13 = .ok (.new 98, 3) := by decide +kernel
theorem dX10_minutesUntilDelivered_16 : decode cX10_minutesUntilDelivered 16 = .ok (.dup, 1) := by decide +kernel
theorem dX10_minutesUntilDelivered_17 : decode cX10_minutesUntilDelivered 17 = .ok (.ldc 235, 2) := by decide +kernel
theorem dX10_minutesUntilDelivered_19 : decode cX10_minutesUntilDelivered 19 = .ok (.invokespecial 102, 3) := by decide +kernel
theorem dX10_minutesUntilDelivered_22 : decode cX10_minutesUntilDelivered 22 = .ok (.athrow, 1) := by decide +kernel
theorem dX10_minutesUntilDelivered_23 : decode cX10_minutesUntilDelivered 23 = .ok (.aload_n 0, 1) := by decide +kernel
theorem dX10_minutesUntilDelivered_24 : decode cX10_minutesUntilDelivered 24 = .ok (.iload_n 1, 1) := by decide +kernel
theorem dX10_minutesUntilDelivered_25 : decode cX10_minutesUntilDelivered 25 = .ok (.invokevirtual 237, 3) := by decide +kernel
theorem dX10_minutesUntilDelivered_28 : decode cX10_minutesUntilDelivered 28 = .ok (.istore_n 2, 1) := by decide +kernel
theorem dX10_minutesUntilDelivered_29 : decode cX10_minutesUntilDelivered 29 = .ok (.iload_n 2, 1) := by decide +kernel
theorem dX10_minutesUntilDelivered_30 : decode cX10_minutesUntilDelivered 30 = .ok (.iconst (-1), 1) := by decide +kernel
theorem dX10_minutesUntilDelivered_31 : decode cX10_minutesUntilDelivered 31 = .ok (.if_icmp .ne 13, 3) := by decide +kernel
theorem dX10_minutesUntilDelivered_34 : decode cX10_minutesUntilDelivered 34 = .ok (.new 98, 3) := by decide +kernel
theorem dX10_minutesUntilDelivered_37 : decode cX10_minutesUntilDelivered 37 = .ok (.dup, 1) := by decide +kernel
theorem dX10_minutesUntilDelivered_38 : decode cX10_minutesUntilDelivered 38 = .ok (.ldc 240, 2) := by decide +kernel
theorem dX10_minutesUntilDelivered_40 : decode cX10_minutesUntilDelivered 40 = .ok (.invokespecial 102, 3) := by decide +kernel
theorem dX10_minutesUntilDelivered_43 : decode cX10_minutesUntilDelivered 43 = .ok (.athrow, 1) := by decide +kernel
theorem dX10_minutesUntilDelivered_44 : decode cX10_minutesUntilDelivered 44 = .ok (.iload_n 2, 1) := by decide +kernel
theorem dX10_minutesUntilDelivered_45 : decode cX10_minutesUntilDelivered 45 = .ok (.ireturn, 1) := by decide +kernel
theorem dX10_existingMessage_0 : decode cX10_existingMessage 0 = .ok (.aload_n 0, 1) := by decide +kernel
theorem dX10_existingMessage_1 : decode cX10_existingMessage 1 = .ok (.getfield 10, 3) := by decide +kernel
theorem dX10_existingMessage_4 : decode cX10_existingMessage 4 = .ok (.iload_n 1, 1) := by decide +kernel
theorem dX10_existingMessage_5 : decode cX10_existingMessage 5 = .ok (.invokevirtual 242, 3) := by decide +kernel
theorem dX10_existingMessage_8 : decode cX10_existingMessage 8 = .ok (.astore_n 2, 1) := by decide +kernel
theorem dX10_existingMessage_9 : decode cX10_existingMessage 9 = .ok (.aload_n 2, 1) := by decide +kernel
theorem dX10_existingMessage_10 : decode cX10_existingMessage 10 = .ok (.ifnonnull 13, 3) := by decide +kernel
theorem dX10_existingMessage_13 : decode cX10_existingMessage 13 = .ok (.new 108, 3) := by decide +kernel
theorem dX10_existingMessage_16 : decode cX10_existingMessage 16 = .ok (.dup, 1) := by decide +kernel
theorem dX10_existingMessage_17 : decode cX10_existingMessage 17 = .ok (.ldc 110, 2) := by decide +kernel
theorem dX10_existingMessage_19 : decode cX10_existingMessage 19 = .ok (.invokespecial 112, 3) := by decide +kernel
theorem dX10_existingMessage_22 : decode cX10_existingMessage 22 = .ok (.athrow, 1) := by decide +kernel
theorem dX10_existingMessage_23 : decode cX10_existingMessage 23 = .ok (.aload_n 2, 1) := by decide +kernel
theorem dX10_existingMessage_24 : decode cX10_existingMessage 24 = .ok (.areturn, 1) := by decide +kernel
theorem dX10_foreseenMinutes_0 : decode cX10_foreseenMinutes 0 = .ok (.aload_n 0, 1) := by decide +kernel
theorem dX10_foreseenMinutes_1 : decode cX10_foreseenMinutes 1 = .ok (.getfield 19, 3) := by decide +kernel
theorem dX10_foreseenMinutes_4 : decode cX10_foreseenMinutes 4 = .ok (.aload_n 0, 1) := by decide +kernel
theorem dX10_foreseenMinutes_5 : decode cX10_foreseenMinutes 5 = .ok (.getfield 10, 3) := by decide +kernel
theorem dX10_foreseenMinutes_8 : decode cX10_foreseenMinutes 8 = .ok (.invokevirtual 57, 3) := by decide +kernel
theorem dX10_foreseenMinutes_11 : decode cX10_foreseenMinutes 11 = .ok (.iconst 1, 1) := by decide +kernel
theorem dX10_foreseenMinutes_12 : decode cX10_foreseenMinutes 12 = .ok (.istore_n 2, 1) := by decide +kernel
theorem dX10_foreseenMinutes_13 : decode cX10_foreseenMinutes 13 = .ok (.iload_n 2, 1) := by decide +kernel
theorem dX10_foreseenMinutes_14 : decode cX10_foreseenMinutes 14 = .ok (.bipush 100, 2) := by decide +kernel
theorem dX10_foreseenMinutes_16 : decode cX10_foreseenMinutes 16 = .ok (.if_icmp .gt 44, 3) := by decide +kernel
theorem dX10_foreseenMinutes_19 : decode cX10_foreseenMinutes 19 = .ok (.aload_n 0, 1) := by decide +kernel
theorem dX10_foreseenMinutes_20 : decode cX10_foreseenMinutes 20 = .ok (.getfield 19, 3) := by decide +kernel
theorem dX10_foreseenMinutes_23 : decode cX10_foreseenMinutes 23 = .ok (.iconst 1, 1) := by decide +kernel
theorem dX10_foreseenMinutes_24 : decode cX10_foreseenMinutes 24 = .ok (.invokevirtual 88, 3) := by decide +kernel
theorem dX10_foreseenMinutes_27 : decode cX10_foreseenMinutes 27 = .ok (.pop, 1) := by decide +kernel
theorem dX10_foreseenMinutes_28 : decode cX10_foreseenMinutes 28 = .ok (.aload_n 0, 1) := by decide +kernel
theorem dX10_foreseenMinutes_29 : decode cX10_foreseenMinutes 29 = .ok (.getfield 19, 3) := by decide +kernel
theorem dX10_foreseenMinutes_32 : decode cX10_foreseenMinutes 32 = .ok (.iload_n 1, 1) := by decide +kernel
theorem dX10_foreseenMinutes_33 : decode cX10_foreseenMinutes 33 = .ok (.invokevirtual 242, 3) := by decide +kernel
theorem dX10_foreseenMinutes_36 : decode cX10_foreseenMinutes 36 = .ok (.astore_n 3, 1) := by decide +kernel
theorem dX10_foreseenMinutes_37 : decode cX10_foreseenMinutes 37 = .ok (.aload_n 3, 1) := by decide +kernel
theorem dX10_foreseenMinutes_38 : decode cX10_foreseenMinutes 38 = .ok (.ifnonnull 5, 3) := by decide +kernel
theorem dX10_foreseenMinutes_41 : decode cX10_foreseenMinutes 41 = .ok (.iconst (-1), 1) := by decide +kernel
theorem dX10_foreseenMinutes_42 : decode cX10_foreseenMinutes 42 = .ok (.ireturn, 1) := by decide +kernel
theorem dX10_foreseenMinutes_43 : decode cX10_foreseenMinutes 43 = .ok (.aload_n 3, 1) := by decide +kernel
theorem dX10_foreseenMinutes_44 : decode cX10_foreseenMinutes 44 = .ok (.getfield 208, 3) := by decide +kernel
theorem dX10_foreseenMinutes_47 : decode cX10_foreseenMinutes 47 = .ok (.bipush 100, 2) := by decide +kernel
theorem dX10_foreseenMinutes_49 : decode cX10_foreseenMinutes 49 = .ok (.if_icmp .ne 5, 3) := by decide +kernel
theorem dX10_foreseenMinutes_52 : decode cX10_foreseenMinutes 52 = .ok (.iload_n 2, 1) := by decide +kernel
theorem dX10_foreseenMinutes_53 : decode cX10_foreseenMinutes 53 = .ok (.ireturn, 1) := by decide +kernel
theorem dX10_foreseenMinutes_54 : decode cX10_foreseenMinutes 54 = .ok (.iinc 2 1, 3) := by decide +kernel
theorem dX10_foreseenMinutes_57 : decode cX10_foreseenMinutes 57 = .ok (.goto (-44), 3) := by decide +kernel
theorem dX10_foreseenMinutes_60 : decode cX10_foreseenMinutes 60 = .ok (.iconst (-1), 1) := by decide +kernel
theorem dX10_foreseenMinutes_61 : decode cX10_foreseenMinutes 61 = .ok (.ireturn, 1) := by decide +kernel
theorem dX10_shiftedNap_0 : decode cX10_shiftedNap 0 = .ok (.lconst 1, 1) := by decide +kernel
theorem dX10_shiftedNap_1 : decode cX10_shiftedNap 1 = .ok (.iload_n 0, 1) := by decide +kernel
theorem dX10_shiftedNap_2 : decode cX10_shiftedNap 2 = .ok (.lshl, 1) := by decide +kernel
theorem dX10_shiftedNap_3 : decode cX10_shiftedNap 3 = .ok (.lreturn, 1) := by decide +kernel
theorem dX10_doubledNap_0 : decode cX10_doubledNap 0 = .ok (.lconst 1, 1) := by decide +kernel
theorem dX10_doubledNap_1 : decode cX10_doubledNap 1 = .ok (.lstore_n 1, 1) := by decide +kernel
theorem dX10_doubledNap_2 : decode cX10_doubledNap 2 = .ok (.iconst 0, 1) := by decide +kernel
theorem dX10_doubledNap_3 : decode cX10_doubledNap 3 = .ok (.istore_n 3, 1) := by decide +kernel
theorem dX10_doubledNap_4 : decode cX10_doubledNap 4 = .ok (.iload_n 3, 1) := by decide +kernel
theorem dX10_doubledNap_5 : decode cX10_doubledNap 5 = .ok (.iload_n 0, 1) := by decide +kernel
theorem dX10_doubledNap_6 : decode cX10_doubledNap 6 = .ok (.if_icmp .ge 13, 3) := by decide +kernel
theorem dX10_doubledNap_9 : decode cX10_doubledNap 9 = .ok (.lload_n 1, 1) := by decide +kernel
theorem dX10_doubledNap_10 : decode cX10_doubledNap 10 = .ok (.lload_n 1, 1) := by decide +kernel
theorem dX10_doubledNap_11 : decode cX10_doubledNap 11 = .ok (.ladd, 1) := by decide +kernel
theorem dX10_doubledNap_12 : decode cX10_doubledNap 12 = .ok (.lstore_n 1, 1) := by decide +kernel
theorem dX10_doubledNap_13 : decode cX10_doubledNap 13 = .ok (.iinc 3 1, 3) := by decide +kernel
theorem dX10_doubledNap_16 : decode cX10_doubledNap 16 = .ok (.goto (-12), 3) := by decide +kernel
theorem dX10_doubledNap_19 : decode cX10_doubledNap 19 = .ok (.lload_n 1, 1) := by decide +kernel
theorem dX10_doubledNap_20 : decode cX10_doubledNap 20 = .ok (.lreturn, 1) := by decide +kernel
theorem dX10_time_0 : decode cX10_time 0 = .ok (.aload_n 0, 1) := by decide +kernel
theorem dX10_time_1 : decode cX10_time 1 = .ok (.getfield 10, 3) := by decide +kernel
theorem dX10_time_4 : decode cX10_time 4 = .ok (.getfield 175, 3) := by decide +kernel
theorem dX10_time_7 : decode cX10_time 7 = .ok (.ireturn, 1) := by decide +kernel
theorem dX10_wind_0 : decode cX10_wind 0 = .ok (.aload_n 0, 1) := by decide +kernel
theorem dX10_wind_1 : decode cX10_wind 1 = .ok (.getfield 10, 3) := by decide +kernel
theorem dX10_wind_4 : decode cX10_wind 4 = .ok (.getfield 245, 3) := by decide +kernel
theorem dX10_wind_7 : decode cX10_wind 7 = .ok (.ireturn, 1) := by decide +kernel
theorem dX10_publishedTotal_0 : decode cX10_publishedTotal 0 = .ok (.aload_n 0, 1) := by decide +kernel
theorem dX10_publishedTotal_1 : decode cX10_publishedTotal 1 = .ok (.getfield 10, 3) := by decide +kernel
theorem dX10_publishedTotal_4 : decode cX10_publishedTotal 4 = .ok (.getfield 248, 3) := by decide +kernel
theorem dX10_publishedTotal_7 : decode cX10_publishedTotal 7 = .ok (.getfield 252, 3) := by decide +kernel
theorem dX10_publishedTotal_10 : decode cX10_publishedTotal 10 = .ok (.ireturn, 1) := by decide +kernel
theorem dX10_deliveredTotal_0 : decode cX10_deliveredTotal 0 = .ok (.aload_n 0, 1) := by decide +kernel
theorem dX10_deliveredTotal_1 : decode cX10_deliveredTotal 1 = .ok (.getfield 10, 3) := by decide +kernel
theorem dX10_deliveredTotal_4 : decode cX10_deliveredTotal 4 = .ok (.getfield 248, 3) := by decide +kernel
theorem dX10_deliveredTotal_7 : decode cX10_deliveredTotal 7 = .ok (.getfield 257, 3) := by decide +kernel
theorem dX10_deliveredTotal_10 : decode cX10_deliveredTotal 10 = .ok (.ireturn, 1) := by decide +kernel
theorem dX10_readTotal_0 : decode cX10_readTotal 0 = .ok (.aload_n 0, 1) := by decide +kernel
theorem dX10_readTotal_1 : decode cX10_readTotal 1 = .ok (.getfield 10, 3) := by decide +kernel
theorem dX10_readTotal_4 : decode cX10_readTotal 4 = .ok (.getfield 248, 3) := by decide +kernel
theorem dX10_readTotal_7 : decode cX10_readTotal 7 = .ok (.getfield 260, 3) := by decide +kernel
theorem dX10_readTotal_10 : decode cX10_readTotal 10 = .ok (.ireturn, 1) := by decide +kernel
theorem dX10_duplicateTotal_0 : decode cX10_duplicateTotal 0 = .ok (.aload_n 0, 1) := by decide +kernel
theorem dX10_duplicateTotal_1 : decode cX10_duplicateTotal 1 = .ok (.getfield 10, 3) := by decide +kernel
theorem dX10_duplicateTotal_4 : decode cX10_duplicateTotal 4 = .ok (.getfield 248, 3) := by decide +kernel
theorem dX10_duplicateTotal_7 : decode cX10_duplicateTotal 7 = .ok (.getfield 263, 3) := by decide +kernel
theorem dX10_duplicateTotal_10 : decode cX10_duplicateTotal 10 = .ok (.ireturn, 1) := by decide +kernel
theorem dX10_failedTotal_0 : decode cX10_failedTotal 0 = .ok (.aload_n 0, 1) := by decide +kernel
theorem dX10_failedTotal_1 : decode cX10_failedTotal 1 = .ok (.getfield 10, 3) := by decide +kernel
theorem dX10_failedTotal_4 : decode cX10_failedTotal 4 = .ok (.getfield 248, 3) := by decide +kernel
theorem dX10_failedTotal_7 : decode cX10_failedTotal 7 = .ok (.getfield 266, 3) := by decide +kernel
theorem dX10_failedTotal_10 : decode cX10_failedTotal 10 = .ok (.ireturn, 1) := by decide +kernel
theorem dX10_arrivalTotal_0 : decode cX10_arrivalTotal 0 = .ok (.aload_n 0, 1) := by decide +kernel
theorem dX10_arrivalTotal_1 : decode cX10_arrivalTotal 1 = .ok (.getfield 10, 3) := by decide +kernel
theorem dX10_arrivalTotal_4 : decode cX10_arrivalTotal 4 = .ok (.getfield 248, 3) := by decide +kernel
theorem dX10_arrivalTotal_7 : decode cX10_arrivalTotal 7 = .ok (.getfield 269, 3) := by decide +kernel
theorem dX10_arrivalTotal_10 : decode cX10_arrivalTotal 10 = .ok (.ireturn, 1) := by decide +kernel
theorem dX10_messageCountByTotals_0 : decode cX10_messageCountByTotals 0 = .ok (.aload_n 0, 1) := by decide +kernel
theorem dX10_messageCountByTotals_1 : decode cX10_messageCountByTotals 1 = .ok (.getfield 10, 3) := by decide +kernel
theorem dX10_messageCountByTotals_4 : decode cX10_messageCountByTotals 4 = .ok (.getfield 248, 3) := by decide +kernel
theorem dX10_messageCountByTotals_7 : decode cX10_messageCountByTotals 7 = .ok (.invokevirtual 272, 3) := by decide +kernel
theorem dX10_messageCountByTotals_10 : decode cX10_messageCountByTotals 10 = .ok (.ireturn, 1) := by decide +kernel
theorem dX10_meanAttempts_0 : decode cX10_meanAttempts 0 = .ok (.aload_n 0, 1) := by decide +kernel
theorem dX10_meanAttempts_1 : decode cX10_meanAttempts 1 = .ok (.getfield 10, 3) := by decide +kernel
theorem dX10_meanAttempts_4 : decode cX10_meanAttempts 4 = .ok (.getfield 183, 3) := by decide +kernel
theorem dX10_meanAttempts_7 : decode cX10_meanAttempts 7 = .ok (.ifCond .ne 14, 3) := by decide +kernel
theorem dX10_meanAttempts_10 : decode cX10_meanAttempts 10 = .ok (.new 275, 3) := by decide +kernel
theorem dX10_meanAttempts_13 : decode cX10_meanAttempts 13 = .ok (.dup, 1) := by decide +kernel
theorem dX10_meanAttempts_14 : decode cX10_meanAttempts 14 = .ok (.ldc_w 277, 3) := by decide +kernel
theorem dX10_meanAttempts_17 : decode cX10_meanAttempts 17 = .ok (.invokespecial 279, 3) := by decide +kernel
theorem dX10_meanAttempts_20 : decode cX10_meanAttempts 20 = .ok (.athrow, 1) := by decide +kernel
theorem dX10_meanAttempts_21 : decode cX10_meanAttempts 21 = .ok (.aload_n 0, 1) := by decide +kernel
theorem dX10_meanAttempts_22 : decode cX10_meanAttempts 22 = .ok (.invokevirtual 280, 3) := by decide +kernel
theorem dX10_meanAttempts_25 : decode cX10_meanAttempts 25 = .ok (.dreturn, 1) := by decide +kernel
theorem dX10_meanAttemptsBits_0 : decode cX10_meanAttemptsBits 0 = .ok (.aload_n 0, 1) := by decide +kernel
theorem dX10_meanAttemptsBits_1 : decode cX10_meanAttemptsBits 1 = .ok (.getfield 10, 3) := by decide +kernel
theorem dX10_meanAttemptsBits_4 : decode cX10_meanAttemptsBits 4 = .ok (.getfield 183, 3) := by decide +kernel
theorem dX10_meanAttemptsBits_7 : decode cX10_meanAttemptsBits 7 = .ok (.ifCond .ne 14, 3) := by decide +kernel
theorem dX10_meanAttemptsBits_10 : decode cX10_meanAttemptsBits 10 = .ok (.new 275, 3) := by decide +kernel
theorem dX10_meanAttemptsBits_13 : decode cX10_meanAttemptsBits 13 = .ok (.dup, 1) := by decide +kernel
theorem dX10_meanAttemptsBits_14 : decode cX10_meanAttemptsBits 14 = .ok (.ldc_w 277, 3) := by decide +kernel
theorem dX10_meanAttemptsBits_17 : decode cX10_meanAttemptsBits 17 = .ok (.invokespecial 279, 3) := by decide +kernel
theorem dX10_meanAttemptsBits_20 : decode cX10_meanAttemptsBits 20 = .ok (.athrow, 1) := by decide +kernel
theorem dX10_meanAttemptsBits_21 : decode cX10_meanAttemptsBits 21 = .ok (.aload_n 0, 1) := by decide +kernel
theorem dX10_meanAttemptsBits_22 : decode cX10_meanAttemptsBits 22 = .ok (.invokevirtual 280, 3) := by decide +kernel
theorem dX10_meanAttemptsBits_25 : decode cX10_meanAttemptsBits 25 = .ok (.bipush 52, 2) := by decide +kernel
theorem dX10_meanAttemptsBits_27 : decode cX10_meanAttemptsBits 27 = .ok (.sipush 1023, 3) := by decide +kernel
theorem dX10_meanAttemptsBits_30 : decode cX10_meanAttemptsBits 30 = .ok (.invokestatic 284, 3) := by decide +kernel
theorem dX10_meanAttemptsBits_33 : decode cX10_meanAttemptsBits 33 = .ok (.lreturn, 1) := by decide +kernel
theorem dX10_deliveryRate_0 : decode cX10_deliveryRate 0 = .ok (.aload_n 0, 1) := by decide +kernel
theorem dX10_deliveryRate_1 : decode cX10_deliveryRate 1 = .ok (.getfield 10, 3) := by decide +kernel
theorem dX10_deliveryRate_4 : decode cX10_deliveryRate 4 = .ok (.getfield 248, 3) := by decide +kernel
theorem dX10_deliveryRate_7 : decode cX10_deliveryRate 7 = .ok (.getfield 269, 3) := by decide +kernel
theorem dX10_deliveryRate_10 : decode cX10_deliveryRate 10 = .ok (.ifCond .ne 14, 3) := by decide +kernel
theorem dX10_deliveryRate_13 : decode cX10_deliveryRate 13 = .ok (.new 275, 3) := by decide +kernel
theorem dX10_deliveryRate_16 : decode cX10_deliveryRate 16 = .ok (.dup, 1) := by decide +kernel
theorem dX10_deliveryRate_17 : decode cX10_deliveryRate 17 = .ok (.ldc_w 288, 3) := by decide +kernel
theorem dX10_deliveryRate_20 : decode cX10_deliveryRate 20 = .ok (.invokespecial 279, 3) := by decide +kernel
theorem dX10_deliveryRate_23 : decode cX10_deliveryRate 23 = .ok (.athrow, 1) := by decide +kernel
theorem dX10_deliveryRate_24 : decode cX10_deliveryRate 24 = .ok (.aload_n 0, 1) := by decide +kernel
theorem dX10_deliveryRate_25 : decode cX10_deliveryRate 25 = .ok (.invokevirtual 290, 3) := by decide +kernel
theorem dX10_deliveryRate_28 : decode cX10_deliveryRate 28 = .ok (.freturn, 1) := by decide +kernel
theorem dX10_deliveryRateBits_0 : decode cX10_deliveryRateBits 0 = .ok (.aload_n 0, 1) := by decide +kernel
theorem dX10_deliveryRateBits_1 : decode cX10_deliveryRateBits 1 = .ok (.getfield 10, 3) := by decide +kernel
theorem dX10_deliveryRateBits_4 : decode cX10_deliveryRateBits 4 = .ok (.getfield 248, 3) := by decide +kernel
theorem dX10_deliveryRateBits_7 : decode cX10_deliveryRateBits 7 = .ok (.getfield 269, 3) := by decide +kernel
theorem dX10_deliveryRateBits_10 : decode cX10_deliveryRateBits 10 = .ok (.ifCond .ne 14, 3) := by decide +kernel
theorem dX10_deliveryRateBits_13 : decode cX10_deliveryRateBits 13 = .ok (.new 275, 3) := by decide +kernel
theorem dX10_deliveryRateBits_16 : decode cX10_deliveryRateBits 16 = .ok (.dup, 1) := by decide +kernel
theorem dX10_deliveryRateBits_17 : decode cX10_deliveryRateBits 17 = .ok (.ldc_w 288, 3) := by decide +kernel
theorem dX10_deliveryRateBits_20 : decode cX10_deliveryRateBits 20 = .ok (.invokespecial 279, 3) := by decide +kernel
theorem dX10_deliveryRateBits_23 : decode cX10_deliveryRateBits 23 = .ok (.athrow, 1) := by decide +kernel
theorem dX10_deliveryRateBits_24 : decode cX10_deliveryRateBits 24 = .ok (.aload_n 0, 1) := by decide +kernel
theorem dX10_deliveryRateBits_25 : decode cX10_deliveryRateBits 25 = .ok (.invokevirtual 290, 3) := by decide +kernel
theorem dX10_deliveryRateBits_28 : decode cX10_deliveryRateBits 28 = .ok (.f2d, 1) := by decide +kernel
theorem dX10_deliveryRateBits_29 : decode cX10_deliveryRateBits 29 = .ok (.bipush 23, 2) := by decide +kernel
theorem dX10_deliveryRateBits_31 : decode cX10_deliveryRateBits 31 = .ok (.bipush 127, 2) := by decide +kernel
theorem dX10_deliveryRateBits_33 : decode cX10_deliveryRateBits 33 = .ok (.invokestatic 284, 3) := by decide +kernel
theorem dX10_deliveryRateBits_36 : decode cX10_deliveryRateBits 36 = .ok (.l2i, 1) := by decide +kernel
theorem dX10_deliveryRateBits_37 : decode cX10_deliveryRateBits 37 = .ok (.ireturn, 1) := by decide +kernel
theorem dX10_isConsistent_0 : decode cX10_isConsistent 0 = .ok (.invokestatic 294, 3) := by decide +kernel
theorem dX10_isConsistent_3 : decode cX10_isConsistent 3 = .ok (.ifCond .eq 65, 3) := by decide +kernel
theorem dX10_isConsistent_6 : decode cX10_isConsistent 6 = .ok (.aload_n 0, 1) := by decide +kernel
theorem dX10_isConsistent_7 : decode cX10_isConsistent 7 = .ok (.getfield 10, 3) := by decide +kernel
theorem dX10_isConsistent_10 : decode cX10_isConsistent 10 = .ok (.getfield 183, 3) := by decide +kernel
theorem dX10_isConsistent_13 : decode cX10_isConsistent 13 = .ok (.aload_n 0, 1) := by decide +kernel
theorem dX10_isConsistent_14 : decode cX10_isConsistent 14 = .ok (.getfield 10, 3) := by decide +kernel
theorem dX10_isConsistent_17 : decode cX10_isConsistent 17 = .ok (.getfield 248, 3) := by decide +kernel
theorem dX10_isConsistent_20 : decode cX10_isConsistent 20 = .ok (.invokevirtual 272, 3) := by decide +kernel
theorem dX10_isConsistent_23 : decode cX10_isConsistent 23 = .ok (.if_icmp .ne 45, 3) := by decide +kernel
theorem dX10_isConsistent_26 : decode cX10_isConsistent 26 = .ok (.aload_n 0, 1) := by decide +kernel
theorem dX10_isConsistent_27 : decode cX10_isConsistent 27 = .ok (.getfield 10, 3) := by decide +kernel
theorem dX10_isConsistent_30 : decode cX10_isConsistent 30 = .ok (.bipush 102, 2) := by decide +kernel
theorem dX10_isConsistent_32 : decode cX10_isConsistent 32 = .ok (.invokevirtual 298, 3) := by decide +kernel
theorem dX10_isConsistent_35 : decode cX10_isConsistent 35 = .ok (.aload_n 0, 1) := by decide +kernel
theorem dX10_isConsistent_36 : decode cX10_isConsistent 36 = .ok (.getfield 10, 3) := by decide +kernel
theorem dX10_isConsistent_39 : decode cX10_isConsistent 39 = .ok (.invokevirtual 302, 3) := by decide +kernel
theorem dX10_isConsistent_42 : decode cX10_isConsistent 42 = .ok (.if_icmp .ne 26, 3) := by decide +kernel
theorem dX10_isConsistent_45 : decode cX10_isConsistent 45 = .ok (.aload_n 0, 1) := by decide +kernel
theorem dX10_isConsistent_46 : decode cX10_isConsistent 46 = .ok (.getfield 10, 3) := by decide +kernel
theorem dX10_isConsistent_49 : decode cX10_isConsistent 49 = .ok (.bipush 100, 2) := by decide +kernel
theorem dX10_isConsistent_51 : decode cX10_isConsistent 51 = .ok (.invokevirtual 298, 3) := by decide +kernel
theorem dX10_isConsistent_54 : decode cX10_isConsistent 54 = .ok (.aload_n 0, 1) := by decide +kernel
theorem dX10_isConsistent_55 : decode cX10_isConsistent 55 = .ok (.getfield 10, 3) := by decide +kernel
theorem dX10_isConsistent_58 : decode cX10_isConsistent 58 = .ok (.invokevirtual 305, 3) := by decide +kernel
theorem dX10_isConsistent_61 : decode cX10_isConsistent 61 = .ok (.if_icmp .ne 7, 3) := by decide +kernel
theorem dX10_isConsistent_64 : decode cX10_isConsistent 64 = .ok (.iconst 1, 1) := by decide +kernel
theorem dX10_isConsistent_65 : decode cX10_isConsistent 65 = .ok (.goto 4, 3) := by decide +kernel
theorem dX10_isConsistent_68 : decode cX10_isConsistent 68 = .ok (.iconst 0, 1) := by decide +kernel
theorem dX10_isConsistent_69 : decode cX10_isConsistent 69 = .ok (.ireturn, 1) := by decide +kernel
theorem dX10_meanOfAttempts_0 : decode cX10_meanOfAttempts 0 = .ok (.aload_n 0, 1) := by decide +kernel
theorem dX10_meanOfAttempts_1 : decode cX10_meanOfAttempts 1 = .ok (.getfield 10, 3) := by decide +kernel
theorem dX10_meanOfAttempts_4 : decode cX10_meanOfAttempts 4 = .ok (.invokevirtual 308, 3) := by decide +kernel
theorem dX10_meanOfAttempts_7 : decode cX10_meanOfAttempts 7 = .ok (.i2d, 1) := by decide +kernel
theorem dX10_meanOfAttempts_8 : decode cX10_meanOfAttempts 8 = .ok (.aload_n 0, 1) := by decide +kernel
theorem dX10_meanOfAttempts_9 : decode cX10_meanOfAttempts 9 = .ok (.getfield 10, 3) := by decide +kernel
theorem dX10_meanOfAttempts_12 : decode cX10_meanOfAttempts 12 = .ok (.getfield 183, 3) := by decide +kernel
theorem dX10_meanOfAttempts_15 : decode cX10_meanOfAttempts 15 = .ok (.i2d, 1) := by decide +kernel
theorem dX10_meanOfAttempts_16 : decode cX10_meanOfAttempts 16 = .ok (.ddiv, 1) := by decide +kernel
theorem dX10_meanOfAttempts_17 : decode cX10_meanOfAttempts 17 = .ok (.dreturn, 1) := by decide +kernel
theorem dX10_rateOfDeliveries_0 : decode cX10_rateOfDeliveries 0 = .ok (.aload_n 0, 1) := by decide +kernel
theorem dX10_rateOfDeliveries_1 : decode cX10_rateOfDeliveries 1 = .ok (.getfield 10, 3) := by decide +kernel
theorem dX10_rateOfDeliveries_4 : decode cX10_rateOfDeliveries 4 = .ok (.getfield 248, 3) := by decide +kernel
theorem dX10_rateOfDeliveries_7 : decode cX10_rateOfDeliveries 7 = .ok (.getfield 257, 3) := by decide +kernel
theorem dX10_rateOfDeliveries_10 : decode cX10_rateOfDeliveries 10 = .ok (.i2f, 1) := by decide +kernel
theorem dX10_rateOfDeliveries_11 : decode cX10_rateOfDeliveries 11 = .ok (.aload_n 0, 1) := by decide +kernel
theorem dX10_rateOfDeliveries_12 : decode cX10_rateOfDeliveries 12 = .ok (.getfield 10, 3) := by decide +kernel
theorem dX10_rateOfDeliveries_15 : decode cX10_rateOfDeliveries 15 = .ok (.getfield 248, 3) := by decide +kernel
theorem dX10_rateOfDeliveries_18 : decode cX10_rateOfDeliveries 18 = .ok (.getfield 269, 3) := by decide +kernel
theorem dX10_rateOfDeliveries_21 : decode cX10_rateOfDeliveries 21 = .ok (.i2f, 1) := by decide +kernel
theorem dX10_rateOfDeliveries_22 : decode cX10_rateOfDeliveries 22 = .ok (.fdiv, 1) := by decide +kernel
theorem dX10_rateOfDeliveries_23 : decode cX10_rateOfDeliveries 23 = .ok (.freturn, 1) := by decide +kernel
theorem dX10_bitsOf_0 : decode cX10_bitsOf 0 = .ok (.dload_n 0, 1) := by decide +kernel
theorem dX10_bitsOf_1 : decode cX10_bitsOf 1 = .ok (.dconst 0, 1) := by decide +kernel
theorem dX10_bitsOf_2 : decode cX10_bitsOf 2 = .ok (.dcmp .g, 1) := by decide +kernel
theorem dX10_bitsOf_3 : decode cX10_bitsOf 3 = .ok (.ifCond .gt 5, 3) := by decide +kernel
theorem dX10_bitsOf_6 : decode cX10_bitsOf 6 = .ok (.lconst 0, 1) := by decide +kernel
theorem dX10_bitsOf_7 : decode cX10_bitsOf 7 = .ok (.lreturn, 1) := by decide +kernel
theorem dX10_bitsOf_8 : decode cX10_bitsOf 8 = .ok (.dload_n 0, 1) := by decide +kernel
theorem dX10_bitsOf_9 : decode cX10_bitsOf 9 = .ok (.dstore 4, 2) := by decide +kernel
theorem dX10_bitsOf_11 : decode cX10_bitsOf 11 = .ok (.iconst 0, 1) := by decide +kernel
theorem dX10_bitsOf_12 : decode cX10_bitsOf 12 = .ok (.istore 6, 2) := by decide +kernel
theorem dX10_bitsOf_14 : decode cX10_bitsOf 14 = .ok (.iconst 0, 1) := by decide +kernel
theorem dX10_bitsOf_15 : decode cX10_bitsOf 15 = .ok (.istore 7, 2) := by decide +kernel
theorem dX10_bitsOf_17 : decode cX10_bitsOf 17 = .ok (.iload 7, 2) := by decide +kernel
theorem dX10_bitsOf_19 : decode cX10_bitsOf 19 = .ok (.sipush 1100, 3) := by decide +kernel
theorem dX10_bitsOf_22 : decode cX10_bitsOf 22 = .ok (.if_icmp .ge 29, 3) := by decide +kernel
theorem dX10_bitsOf_25 : decode cX10_bitsOf 25 = .ok (.dload 4, 2) := by decide +kernel
theorem dX10_bitsOf_27 : decode cX10_bitsOf 27 = .ok (.ldc2_w 311, 3) := by decide +kernel
theorem dX10_bitsOf_30 : decode cX10_bitsOf 30 = .ok (.dcmp .l, 1) := by decide +kernel
theorem dX10_bitsOf_31 : decode cX10_bitsOf 31 = .ok (.ifCond .lt 20, 3) := by decide +kernel
theorem dX10_bitsOf_34 : decode cX10_bitsOf 34 = .ok (.dload 4, 2) := by decide +kernel
theorem dX10_bitsOf_36 : decode cX10_bitsOf 36 = .ok (.ldc2_w 311, 3) := by decide +kernel
theorem dX10_bitsOf_39 : decode cX10_bitsOf 39 = .ok (.ddiv, 1) := by decide +kernel
theorem dX10_bitsOf_40 : decode cX10_bitsOf 40 = .ok (.dstore 4, 2) := by decide +kernel
theorem dX10_bitsOf_42 : decode cX10_bitsOf 42 = .ok (.iinc 6 1, 3) := by decide +kernel
theorem dX10_bitsOf_45 : decode cX10_bitsOf 45 = .ok (.iinc 7 1, 3) := by decide +kernel
theorem dX10_bitsOf_48 : decode cX10_bitsOf 48 = .ok (.goto (-31), 3) := by decide +kernel
theorem dX10_bitsOf_51 : decode cX10_bitsOf 51 = .ok (.iconst 0, 1) := by decide +kernel
theorem dX10_bitsOf_52 : decode cX10_bitsOf 52 = .ok (.istore 7, 2) := by decide +kernel
theorem dX10_bitsOf_54 : decode cX10_bitsOf 54 = .ok (.iload 7, 2) := by decide +kernel
theorem dX10_bitsOf_56 : decode cX10_bitsOf 56 = .ok (.sipush 1100, 3) := by decide +kernel
theorem dX10_bitsOf_59 : decode cX10_bitsOf 59 = .ok (.if_icmp .ge 27, 3) := by decide +kernel
theorem dX10_bitsOf_62 : decode cX10_bitsOf 62 = .ok (.dload 4, 2) := by decide +kernel
theorem dX10_bitsOf_64 : decode cX10_bitsOf 64 = .ok (.dconst 1, 1) := by decide +kernel
theorem dX10_bitsOf_65 : decode cX10_bitsOf 65 = .ok (.dcmp .g, 1) := by decide +kernel
theorem dX10_bitsOf_66 : decode cX10_bitsOf 66 = .ok (.ifCond .ge 20, 3) := by decide +kernel
theorem dX10_bitsOf_69 : decode cX10_bitsOf 69 = .ok (.dload 4, 2) := by decide +kernel
theorem dX10_bitsOf_71 : decode cX10_bitsOf 71 = .ok (.ldc2_w 311, 3) := by decide +kernel
theorem dX10_bitsOf_74 : decode cX10_bitsOf 74 = .ok (.dmul, 1) := by decide +kernel
theorem dX10_bitsOf_75 : decode cX10_bitsOf 75 = .ok (.dstore 4, 2) := by decide +kernel
theorem dX10_bitsOf_77 : decode cX10_bitsOf 77 = .ok (.iinc 6 (-1), 3) := by decide +kernel
theorem dX10_bitsOf_80 : decode cX10_bitsOf 80 = .ok (.iinc 7 1, 3) := by decide +kernel
theorem dX10_bitsOf_83 : decode cX10_bitsOf 83 = .ok (.goto (-29), 3) := by decide +kernel
theorem dX10_bitsOf_86 : decode cX10_bitsOf 86 = .ok (.dload 4, 2) := by decide +kernel
theorem dX10_bitsOf_88 : decode cX10_bitsOf 88 = .ok (.dconst 1, 1) := by decide +kernel
theorem dX10_bitsOf_89 : decode cX10_bitsOf 89 = .ok (.dsub, 1) := by decide +kernel
theorem dX10_bitsOf_90 : decode cX10_bitsOf 90 = .ok (.lconst 1, 1) := by decide +kernel
theorem dX10_bitsOf_91 : decode cX10_bitsOf 91 = .ok (.iload_n 2, 1) := by decide +kernel
theorem dX10_bitsOf_92 : decode cX10_bitsOf 92 = .ok (.lshl, 1) := by decide +kernel
theorem dX10_bitsOf_93 : decode cX10_bitsOf 93 = .ok (.l2d, 1) := by decide +kernel
theorem dX10_bitsOf_94 : decode cX10_bitsOf 94 = .ok (.dmul, 1) := by decide +kernel
theorem dX10_bitsOf_95 : decode cX10_bitsOf 95 = .ok (.d2l, 1) := by decide +kernel
theorem dX10_bitsOf_96 : decode cX10_bitsOf 96 = .ok (.lstore 7, 2) := by decide +kernel
theorem dX10_bitsOf_98 : decode cX10_bitsOf 98 = .ok (.iload 6, 2) := by decide +kernel
theorem dX10_bitsOf_100 : decode cX10_bitsOf 100 = .ok (.iload_n 3, 1) := by decide +kernel
theorem dX10_bitsOf_101 : decode cX10_bitsOf 101 = .ok (.iadd, 1) := by decide +kernel
theorem dX10_bitsOf_102 : decode cX10_bitsOf 102 = .ok (.i2l, 1) := by decide +kernel
theorem dX10_bitsOf_103 : decode cX10_bitsOf 103 = .ok (.iload_n 2, 1) := by decide +kernel
theorem dX10_bitsOf_104 : decode cX10_bitsOf 104 = .ok (.lshl, 1) := by decide +kernel
theorem dX10_bitsOf_105 : decode cX10_bitsOf 105 = .ok (.lload 7, 2) := by decide +kernel
theorem dX10_bitsOf_107 : decode cX10_bitsOf 107 = .ok (.ladd, 1) := by decide +kernel
theorem dX10_bitsOf_108 : decode cX10_bitsOf 108 = .ok (.lreturn, 1) := by decide +kernel
theorem dX10_napLengthsAgree_0 : decode cX10_napLengthsAgree 0 = .ok (.iconst 0, 1) := by decide +kernel
theorem dX10_napLengthsAgree_1 : decode cX10_napLengthsAgree 1 = .ok (.istore_n 0, 1) := by decide +kernel
theorem dX10_napLengthsAgree_2 : decode cX10_napLengthsAgree 2 = .ok (.iload_n 0, 1) := by decide +kernel
theorem dX10_napLengthsAgree_3 : decode cX10_napLengthsAgree 3 = .ok (.bipush 40, 2) := by decide +kernel
theorem dX10_napLengthsAgree_5 : decode cX10_napLengthsAgree 5 = .ok (.if_icmp .gt 23, 3) := by decide +kernel
theorem dX10_napLengthsAgree_8 : decode cX10_napLengthsAgree 8 = .ok (.iload_n 0, 1) := by decide +kernel
theorem dX10_napLengthsAgree_9 : decode cX10_napLengthsAgree 9 = .ok (.invokestatic 228, 3) := by decide +kernel
theorem dX10_napLengthsAgree_12 : decode cX10_napLengthsAgree 12 = .ok (.iload_n 0, 1) := by decide +kernel
theorem dX10_napLengthsAgree_13 : decode cX10_napLengthsAgree 13 = .ok (.invokestatic 232, 3) := by decide +kernel
theorem dX10_napLengthsAgree_16 : decode cX10_napLengthsAgree 16 = .ok (.lcmp, 1) := by decide +kernel
theorem dX10_napLengthsAgree_17 : decode cX10_napLengthsAgree 17 = .ok (.ifCond .eq 5, 3) := by decide +kernel
theorem dX10_napLengthsAgree_20 : decode cX10_napLengthsAgree 20 = .ok (.iconst 0, 1) := by decide +kernel
theorem dX10_napLengthsAgree_21 : decode cX10_napLengthsAgree 21 = .ok (.ireturn, 1) := by decide +kernel
theorem dX10_napLengthsAgree_22 : decode cX10_napLengthsAgree 22 = .ok (.iinc 0 1, 3) := by decide +kernel
theorem dX10_napLengthsAgree_25 : decode cX10_napLengthsAgree 25 = .ok (.goto (-23), 3) := by decide +kernel
theorem dX10_napLengthsAgree_28 : decode cX10_napLengthsAgree 28 = .ok (.iconst 1, 1) := by decide +kernel
theorem dX10_napLengthsAgree_29 : decode cX10_napLengthsAgree 29 = .ok (.ireturn, 1) := by decide +kernel
theorem dX10_renderMessage_0 : decode cX10_renderMessage 0 = .ok (.aload_n 0, 1) := by decide +kernel
theorem dX10_renderMessage_1 : decode cX10_renderMessage 1 = .ok (.iload_n 1, 1) := by decide +kernel
theorem dX10_renderMessage_2 : decode cX10_renderMessage 2 = .ok (.invokevirtual 195, 3) := by decide +kernel
theorem dX10_renderMessage_5 : decode cX10_renderMessage 5 = .ok (.astore_n 2, 1) := by decide +kernel
theorem dX10_renderMessage_6 : decode cX10_renderMessage 6 = .ok (.aload_n 0, 1) := by decide +kernel
theorem dX10_renderMessage_7 : decode cX10_renderMessage 7 = .ok (.getfield 42, 3) := by decide +kernel
theorem dX10_renderMessage_10 : decode cX10_renderMessage 10 = .ok (.iconst 0, 1) := by decide +kernel
theorem dX10_renderMessage_11 : decode cX10_renderMessage 11 = .ok (.invokevirtual 313, 3) := by decide +kernel
theorem dX10_renderMessage_14 : decode cX10_renderMessage 14 = .ok (.aload_n 0, 1) := by decide +kernel
theorem dX10_renderMessage_15 : decode cX10_renderMessage 15 = .ok (.getfield 42, 3) := by decide +kernel
theorem dX10_renderMessage_18 : decode cX10_renderMessage 18 = .ok (.aload_n 2, 1) := by decide +kernel
theorem dX10_renderMessage_19 : decode cX10_renderMessage 19 = .ok (.getfield 190, 3) := by decide +kernel
theorem dX10_renderMessage_22 : decode cX10_renderMessage 22 = .ok (.invokevirtual 317, 3) := by decide +kernel
theorem dX10_renderMessage_25 : decode cX10_renderMessage 25 = .ok (.pop, 1) := by decide +kernel
theorem dX10_renderMessage_26 : decode cX10_renderMessage 26 = .ok (.aload_n 0, 1) := by decide +kernel
theorem dX10_renderMessage_27 : decode cX10_renderMessage 27 = .ok (.getfield 42, 3) := by decide +kernel
theorem dX10_renderMessage_30 : decode cX10_renderMessage 30 = .ok (.bipush 62, 2) := by decide +kernel
theorem dX10_renderMessage_32 : decode cX10_renderMessage 32 = .ok (.invokevirtual 321, 3) := by decide +kernel
theorem dX10_renderMessage_35 : decode cX10_renderMessage 35 = .ok (.pop, 1) := by decide +kernel
theorem dX10_renderMessage_36 : decode cX10_renderMessage 36 = .ok (.aload_n 0, 1) := by decide +kernel
theorem dX10_renderMessage_37 : decode cX10_renderMessage 37 = .ok (.getfield 42, 3) := by decide +kernel
theorem dX10_renderMessage_40 : decode cX10_renderMessage 40 = .ok (.aload_n 2, 1) := by decide +kernel
theorem dX10_renderMessage_41 : decode cX10_renderMessage 41 = .ok (.getfield 199, 3) := by decide +kernel
theorem dX10_renderMessage_44 : decode cX10_renderMessage 44 = .ok (.invokevirtual 317, 3) := by decide +kernel
theorem dX10_renderMessage_47 : decode cX10_renderMessage 47 = .ok (.pop, 1) := by decide +kernel
theorem dX10_renderMessage_48 : decode cX10_renderMessage 48 = .ok (.aload_n 0, 1) := by decide +kernel
theorem dX10_renderMessage_49 : decode cX10_renderMessage 49 = .ok (.getfield 42, 3) := by decide +kernel
theorem dX10_renderMessage_52 : decode cX10_renderMessage 52 = .ok (.bipush 107, 2) := by decide +kernel
theorem dX10_renderMessage_54 : decode cX10_renderMessage 54 = .ok (.invokevirtual 321, 3) := by decide +kernel
theorem dX10_renderMessage_57 : decode cX10_renderMessage 57 = .ok (.pop, 1) := by decide +kernel
theorem dX10_renderMessage_58 : decode cX10_renderMessage 58 = .ok (.aload_n 0, 1) := by decide +kernel
theorem dX10_renderMessage_59 : decode cX10_renderMessage 59 = .ok (.getfield 42, 3) := by decide +kernel
theorem dX10_renderMessage_62 : decode cX10_renderMessage 62 = .ok (.aload_n 2, 1) := by decide +kernel
theorem dX10_renderMessage_63 : decode cX10_renderMessage 63 = .ok (.getfield 202, 3) := by decide +kernel
theorem dX10_renderMessage_66 : decode cX10_renderMessage 66 = .ok (.invokevirtual 317, 3) := by decide +kernel
theorem dX10_renderMessage_69 : decode cX10_renderMessage 69 = .ok (.pop, 1) := by decide +kernel
theorem dX10_renderMessage_70 : decode cX10_renderMessage 70 = .ok (.aload_n 0, 1) := by decide +kernel
theorem dX10_renderMessage_71 : decode cX10_renderMessage 71 = .ok (.getfield 42, 3) := by decide +kernel
theorem dX10_renderMessage_74 : decode cX10_renderMessage 74 = .ok (.bipush 97, 2) := by decide +kernel
theorem dX10_renderMessage_76 : decode cX10_renderMessage 76 = .ok (.invokevirtual 321, 3) := by decide +kernel
theorem dX10_renderMessage_79 : decode cX10_renderMessage 79 = .ok (.pop, 1) := by decide +kernel
theorem dX10_renderMessage_80 : decode cX10_renderMessage 80 = .ok (.aload_n 0, 1) := by decide +kernel
theorem dX10_renderMessage_81 : decode cX10_renderMessage 81 = .ok (.getfield 42, 3) := by decide +kernel
theorem dX10_renderMessage_84 : decode cX10_renderMessage 84 = .ok (.aload_n 2, 1) := by decide +kernel
theorem dX10_renderMessage_85 : decode cX10_renderMessage 85 = .ok (.getfield 205, 3) := by decide +kernel
theorem dX10_renderMessage_88 : decode cX10_renderMessage 88 = .ok (.invokevirtual 317, 3) := by decide +kernel
theorem dX10_renderMessage_91 : decode cX10_renderMessage 91 = .ok (.pop, 1) := by decide +kernel
theorem dX10_renderMessage_92 : decode cX10_renderMessage 92 = .ok (.aload_n 0, 1) := by decide +kernel
theorem dX10_renderMessage_93 : decode cX10_renderMessage 93 = .ok (.getfield 42, 3) := by decide +kernel
theorem dX10_renderMessage_96 : decode cX10_renderMessage 96 = .ok (.aload_n 2, 1) := by decide +kernel
theorem dX10_renderMessage_97 : decode cX10_renderMessage 97 = .ok (.getfield 208, 3) := by decide +kernel
theorem dX10_renderMessage_100 : decode cX10_renderMessage 100 = .ok (.invokevirtual 321, 3) := by decide +kernel
theorem dX10_renderMessage_103 : decode cX10_renderMessage 103 = .ok (.pop, 1) := by decide +kernel
theorem dX10_renderMessage_104 : decode cX10_renderMessage 104 = .ok (.aload_n 0, 1) := by decide +kernel
theorem dX10_renderMessage_105 : decode cX10_renderMessage 105 = .ok (.getfield 42, 3) := by decide +kernel
theorem dX10_renderMessage_108 : decode cX10_renderMessage 108 = .ok (.invokevirtual 324, 3) := by decide +kernel
theorem dX10_renderMessage_111 : decode cX10_renderMessage 111 = .ok (.ireturn, 1) := by decide +kernel
theorem dX10_renderCrows_0 : decode cX10_renderCrows 0 = .ok (.aload_n 0, 1) := by decide +kernel
theorem dX10_renderCrows_1 : decode cX10_renderCrows 1 = .ok (.getfield 42, 3) := by decide +kernel
theorem dX10_renderCrows_4 : decode cX10_renderCrows 4 = .ok (.iconst 0, 1) := by decide +kernel
theorem dX10_renderCrows_5 : decode cX10_renderCrows 5 = .ok (.invokevirtual 313, 3) := by decide +kernel
theorem dX10_renderCrows_8 : decode cX10_renderCrows 8 = .ok (.iconst 0, 1) := by decide +kernel
theorem dX10_renderCrows_9 : decode cX10_renderCrows 9 = .ok (.istore_n 1, 1) := by decide +kernel
theorem dX10_renderCrows_10 : decode cX10_renderCrows 10 = .ok (.iload_n 1, 1) := by decide +kernel
theorem dX10_renderCrows_11 : decode cX10_renderCrows 11 = .ok (.aload_n 0, 1) := by decide +kernel
theorem dX10_renderCrows_12 : decode cX10_renderCrows 12 = .ok (.getfield 10, 3) := by decide +kernel
theorem dX10_renderCrows_15 : decode cX10_renderCrows 15 = .ok (.getfield 155, 3) := by decide +kernel
theorem dX10_renderCrows_18 : decode cX10_renderCrows 18 = .ok (.if_icmp .ge 54, 3) := by decide +kernel
theorem dX10_renderCrows_21 : decode cX10_renderCrows 21 = .ok (.aload_n 0, 1) := by decide +kernel
theorem dX10_renderCrows_22 : decode cX10_renderCrows 22 = .ok (.getfield 10, 3) := by decide +kernel
theorem dX10_renderCrows_25 : decode cX10_renderCrows 25 = .ok (.getfield 327, 3) := by decide +kernel
theorem dX10_renderCrows_28 : decode cX10_renderCrows 28 = .ok (.iload_n 1, 1) := by decide +kernel
theorem dX10_renderCrows_29 : decode cX10_renderCrows 29 = .ok (.aaload, 1) := by decide +kernel
theorem dX10_renderCrows_30 : decode cX10_renderCrows 30 = .ok (.astore_n 2, 1) := by decide +kernel
theorem dX10_renderCrows_31 : decode cX10_renderCrows 31 = .ok (.aload_n 2, 1) := by decide +kernel
theorem dX10_renderCrows_32 : decode cX10_renderCrows 32 = .ok (.getfield 162, 3) := by decide +kernel
theorem dX10_renderCrows_35 : decode cX10_renderCrows 35 = .ok (.ifCond .eq 21, 3) := by decide +kernel
theorem dX10_renderCrows_38 : decode cX10_renderCrows 38 = .ok (.aload_n 0, 1) := by decide +kernel
theorem dX10_renderCrows_39 : decode cX10_renderCrows 39 = .ok (.getfield 42, 3) := by decide +kernel
theorem dX10_renderCrows_42 : decode cX10_renderCrows 42 = .ok (.aload_n 2, 1) := by decide +kernel
theorem dX10_renderCrows_43 : decode cX10_renderCrows 43 = .ok (.getfield 169, 3) := by decide +kernel
theorem dX10_renderCrows_46 : decode cX10_renderCrows 46 = .ok (.bipush 10, 2) := by decide +kernel
theorem dX10_renderCrows_48 : decode cX10_renderCrows 48 = .ok (.irem, 1) := by decide +kernel
theorem dX10_renderCrows_49 : decode cX10_renderCrows 49 = .ok (.invokevirtual 317, 3) := by decide +kernel
theorem dX10_renderCrows_52 : decode cX10_renderCrows 52 = .ok (.pop, 1) := by decide +kernel
theorem dX10_renderCrows_53 : decode cX10_renderCrows 53 = .ok (.goto 13, 3) := by decide +kernel
theorem dX10_renderCrows_56 : decode cX10_renderCrows 56 = .ok (.aload_n 0, 1) := by decide +kernel
theorem dX10_renderCrows_57 : decode cX10_renderCrows 57 = .ok (.getfield 42, 3) := by decide +kernel
theorem dX10_renderCrows_60 : decode cX10_renderCrows 60 = .ok (.bipush 46, 2) := by decide +kernel
theorem dX10_renderCrows_62 : decode cX10_renderCrows 62 = .ok (.invokevirtual 321, 3) := by decide +kernel
theorem dX10_renderCrows_65 : decode cX10_renderCrows 65 = .ok (.pop, 1) := by decide +kernel
theorem dX10_renderCrows_66 : decode cX10_renderCrows 66 = .ok (.iinc 1 1, 3) := by decide +kernel
theorem dX10_renderCrows_69 : decode cX10_renderCrows 69 = .ok (.goto (-59), 3) := by decide +kernel
theorem dX10_renderCrows_72 : decode cX10_renderCrows 72 = .ok (.aload_n 0, 1) := by decide +kernel
theorem dX10_renderCrows_73 : decode cX10_renderCrows 73 = .ok (.getfield 42, 3) := by decide +kernel
theorem dX10_renderCrows_76 : decode cX10_renderCrows 76 = .ok (.invokevirtual 324, 3) := by decide +kernel
theorem dX10_renderCrows_79 : decode cX10_renderCrows 79 = .ok (.ireturn, 1) := by decide +kernel
theorem dX10_outputAt_0 : decode cX10_outputAt 0 = .ok (.iload_n 1, 1) := by decide +kernel
theorem dX10_outputAt_1 : decode cX10_outputAt 1 = .ok (.ifCond .lt 14, 3) := by decide +kernel
theorem dX10_outputAt_4 : decode cX10_outputAt 4 = .ok (.iload_n 1, 1) := by decide +kernel
theorem dX10_outputAt_5 : decode cX10_outputAt 5 = .ok (.aload_n 0, 1) := by decide +kernel
theorem dX10_outputAt_6 : decode cX10_outputAt 6 = .ok (.getfield 42, 3) := by decide +kernel
theorem dX10_outputAt_9 : decode cX10_outputAt 9 = .ok (.invokevirtual 324, 3) := by decide +kernel
theorem dX10_outputAt_12 : decode cX10_outputAt 12 = .ok (.if_icmp .lt 14, 3) := by decide +kernel
theorem dX10_outputAt_15 : decode cX10_outputAt 15 = .ok (.new 103, 3) := by decide +kernel
theorem dX10_outputAt_18 : decode cX10_outputAt 18 = .ok (.dup, 1) := by decide +kernel
theorem dX10_outputAt_19 : decode cX10_outputAt 19 = .ok (.ldc_w 331, 3) := by decide +kernel
theorem dX10_outputAt_22 : decode cX10_outputAt 22 = .ok (.invokespecial 107, 3) := by decide +kernel
theorem dX10_outputAt_25 : decode cX10_outputAt 25 = .ok (.athrow, 1) := by decide +kernel
theorem dX10_outputAt_26 : decode cX10_outputAt 26 = .ok (.aload_n 0, 1) := by decide +kernel
theorem dX10_outputAt_27 : decode cX10_outputAt 27 = .ok (.getfield 42, 3) := by decide +kernel
theorem dX10_outputAt_30 : decode cX10_outputAt 30 = .ok (.iload_n 1, 1) := by decide +kernel
theorem dX10_outputAt_31 : decode cX10_outputAt 31 = .ok (.invokevirtual 333, 3) := by decide +kernel
theorem dX10_outputAt_34 : decode cX10_outputAt 34 = .ok (.ireturn, 1) := by decide +kernel
theorem dX10_type_0 : decode cX10_type 0 = .ok (.iload_n 1, 1) := by decide +kernel
theorem dX10_type_1 : decode cX10_type 1 = .ok (.bipush 32, 2) := by decide +kernel
theorem dX10_type_3 : decode cX10_type 3 = .ok (.if_icmp .lt 9, 3) := by decide +kernel
theorem dX10_type_6 : decode cX10_type 6 = .ok (.iload_n 1, 1) := by decide +kernel
theorem dX10_type_7 : decode cX10_type 7 = .ok (.bipush 126, 2) := by decide +kernel
theorem dX10_type_9 : decode cX10_type 9 = .ok (.if_icmp .le 14, 3) := by decide +kernel
theorem dX10_type_12 : decode cX10_type 12 = .ok (.new 91, 3) := by decide +kernel
theorem dX10_type_15 : decode cX10_type 15 = .ok (.dup, 1) := by decide +kernel
theorem dX10_type_16 : decode cX10_type 16 = .ok (.ldc_w 337, 3) := by decide +kernel
theorem dX10_type_19 : decode cX10_type 19 = .ok (.invokespecial 95, 3) := by decide +kernel
theorem dX10_type_22 : decode cX10_type 22 = .ok (.athrow, 1) := by decide +kernel
theorem dX10_type_23 : decode cX10_type 23 = .ok (.aload_n 0, 1) := by decide +kernel
theorem dX10_type_24 : decode cX10_type 24 = .ok (.getfield 35, 3) := by decide +kernel
theorem dX10_type_27 : decode cX10_type 27 = .ok (.getfield 339, 3) := by decide +kernel
theorem dX10_type_30 : decode cX10_type 30 = .ok (.bipush 60, 2) := by decide +kernel
theorem dX10_type_32 : decode cX10_type 32 = .ok (.if_icmp .lt 14, 3) := by decide +kernel
theorem dX10_type_35 : decode cX10_type 35 = .ok (.new 98, 3) := by decide +kernel
theorem dX10_type_38 : decode cX10_type 38 = .ok (.dup, 1) := by decide +kernel
theorem dX10_type_39 : decode cX10_type 39 = .ok (.ldc_w 341, 3) := by decide +kernel
theorem dX10_type_42 : decode cX10_type 42 = .ok (.invokespecial 102, 3) := by decide +kernel
theorem dX10_type_45 : decode cX10_type 45 = .ok (.athrow, 1) := by decide +kernel
theorem dX10_type_46 : decode cX10_type 46 = .ok (.aload_n 0, 1) := by decide +kernel
theorem dX10_type_47 : decode cX10_type 47 = .ok (.getfield 35, 3) := by decide +kernel
theorem dX10_type_50 : decode cX10_type 50 = .ok (.iload_n 1, 1) := by decide +kernel
theorem dX10_type_51 : decode cX10_type 51 = .ok (.invokevirtual 343, 3) := by decide +kernel
theorem dX10_type_54 : decode cX10_type 54 = .ok (.ireturn, 1) := by decide +kernel
theorem dX10_runScript_0 : decode cX10_runScript 0 = .ok (.aload_n 0, 1) := by decide +kernel
theorem dX10_runScript_1 : decode cX10_runScript 1 = .ok (.getfield 35, 3) := by decide +kernel
theorem dX10_runScript_4 : decode cX10_runScript 4 = .ok (.invokevirtual 345, 3) := by decide +kernel
theorem dX10_runScript_7 : decode cX10_runScript 7 = .ok (.istore_n 1, 1) := by decide +kernel
theorem dX10_runScript_8 : decode cX10_runScript 8 = .ok (.aload_n 0, 1) := by decide +kernel
theorem dX10_runScript_9 : decode cX10_runScript 9 = .ok (.getfield 35, 3) := by decide +kernel
theorem dX10_runScript_12 : decode cX10_runScript 12 = .ok (.iconst 0, 1) := by decide +kernel
theorem dX10_runScript_13 : decode cX10_runScript 13 = .ok (.putfield 339, 3) := by decide +kernel
theorem dX10_runScript_16 : decode cX10_runScript 16 = .ok (.iload_n 1, 1) := by decide +kernel
theorem dX10_runScript_17 : decode cX10_runScript 17 = .ok (.ifCond .ne 25, 3) := by decide +kernel
theorem dX10_runScript_20 : decode cX10_runScript 20 = .ok (.aload_n 0, 1) := by decide +kernel
theorem dX10_runScript_21 : decode cX10_runScript 21 = .ok (.aload_n 0, 1) := by decide +kernel
theorem dX10_runScript_22 : decode cX10_runScript 22 = .ok (.getfield 35, 3) := by decide +kernel
theorem dX10_runScript_25 : decode cX10_runScript 25 = .ok (.getfield 348, 3) := by decide +kernel
theorem dX10_runScript_28 : decode cX10_runScript 28 = .ok (.putfield 50, 3) := by decide +kernel
theorem dX10_runScript_31 : decode cX10_runScript 31 = .ok (.new 91, 3) := by decide +kernel
theorem dX10_runScript_34 : decode cX10_runScript 34 = .ok (.dup, 1) := by decide +kernel
theorem dX10_runScript_35 : decode cX10_runScript 35 = .ok (.ldc_w 351, 3) := by decide +kernel
theorem dX10_runScript_38 : decode cX10_runScript 38 = .ok (.invokespecial 95, 3) := by decide +kernel
theorem dX10_runScript_41 : decode cX10_runScript 41 = .ok (.athrow, 1) := by decide +kernel
theorem dX10_runScript_42 : decode cX10_runScript 42 = .ok (.aload_n 0, 1) := by decide +kernel
theorem dX10_runScript_43 : decode cX10_runScript 43 = .ok (.getfield 16, 3) := by decide +kernel
theorem dX10_runScript_46 : decode cX10_runScript 46 = .ok (.aload_n 0, 1) := by decide +kernel
theorem dX10_runScript_47 : decode cX10_runScript 47 = .ok (.getfield 10, 3) := by decide +kernel
theorem dX10_runScript_50 : decode cX10_runScript 50 = .ok (.invokevirtual 57, 3) := by decide +kernel
theorem dX10_runScript_53 : decode cX10_runScript 53 = .ok (.iconst 0, 1) := by decide +kernel
theorem dX10_runScript_54 : decode cX10_runScript 54 = .ok (.istore_n 2, 1) := by decide +kernel
theorem dX10_runScript_55 : decode cX10_runScript 55 = .ok (.iload_n 2, 1) := by decide +kernel
theorem dX10_runScript_56 : decode cX10_runScript 56 = .ok (.aload_n 0, 1) := by decide +kernel
theorem dX10_runScript_57 : decode cX10_runScript 57 = .ok (.getfield 35, 3) := by decide +kernel
theorem dX10_runScript_60 : decode cX10_runScript 60 = .ok (.getfield 353, 3) := by decide +kernel
theorem dX10_runScript_63 : decode cX10_runScript 63 = .ok (.if_icmp .ge 55, 3) := by decide +kernel
theorem dX10_runScript_66 : decode cX10_runScript 66 = .ok (.aload_n 0, 1) := by decide +kernel
theorem dX10_runScript_67 : decode cX10_runScript 67 = .ok (.getfield 10, 3) := by decide +kernel
theorem dX10_runScript_70 : decode cX10_runScript 70 = .ok (.aload_n 0, 1) := by decide +kernel
theorem dX10_runScript_71 : decode cX10_runScript 71 = .ok (.getfield 35, 3) := by decide +kernel
theorem dX10_runScript_74 : decode cX10_runScript 74 = .ok (.getfield 356, 3) := by decide +kernel
theorem dX10_runScript_77 : decode cX10_runScript 77 = .ok (.iload_n 2, 1) := by decide +kernel
theorem dX10_runScript_78 : decode cX10_runScript 78 = .ok (.aaload, 1) := by decide +kernel
theorem dX10_runScript_79 : decode cX10_runScript 79 = .ok (.invokevirtual 360, 3) := by decide +kernel
theorem dX10_runScript_82 : decode cX10_runScript 82 = .ok (.ifCond .ge 30, 3) := by decide +kernel
theorem dX10_runScript_85 : decode cX10_runScript 85 = .ok (.aload_n 0, 1) := by decide +kernel
theorem dX10_runScript_86 : decode cX10_runScript 86 = .ok (.getfield 10, 3) := by decide +kernel
theorem dX10_runScript_89 : decode cX10_runScript 89 = .ok (.aload_n 0, 1) := by decide +kernel
theorem dX10_runScript_90 : decode cX10_runScript 90 = .ok (.getfield 16, 3) := by decide +kernel
theorem dX10_runScript_93 : decode cX10_runScript 93 = .ok (.invokevirtual 57, 3) := by decide +kernel
theorem dX10_runScript_96 : decode cX10_runScript 96 = .ok (.aload_n 0, 1) := by decide +kernel
theorem dX10_runScript_97 : decode cX10_runScript 97 = .ok (.iload_n 2, 1) := by decide +kernel
theorem dX10_runScript_98 : decode cX10_runScript 98 = .ok (.putfield 54, 3) := by decide +kernel
theorem dX10_runScript_101 : decode cX10_runScript 101 = .ok (.new 98, 3) := by decide +kernel
theorem dX10_runScript_104 : decode cX10_runScript 104 = .ok (.dup, 1) := by decide +kernel
theorem dX10_runScript_105 : decode cX10_runScript 105 = .ok (.ldc_w 364, 3) := by decide +kernel
theorem dX10_runScript_108 : decode cX10_runScript 108 = .ok (.invokespecial 102, 3) := by decide +kernel
theorem dX10_runScript_111 : decode cX10_runScript 111 = .ok (.athrow, 1) := by decide +kernel
theorem dX10_runScript_112 : decode cX10_runScript 112 = .ok (.iinc 2 1, 3) := by decide +kernel
theorem dX10_runScript_115 : decode cX10_runScript 115 = .ok (.goto (-60), 3) := by decide +kernel
theorem dX10_runScript_118 : decode cX10_runScript 118 = .ok (.aload_n 0, 1) := by decide +kernel
theorem dX10_runScript_119 : decode cX10_runScript 119 = .ok (.getfield 28, 3) := by decide +kernel
theorem dX10_runScript_122 : decode cX10_runScript 122 = .ok (.aload_n 0, 1) := by decide +kernel
theorem dX10_runScript_123 : decode cX10_runScript 123 = .ok (.getfield 16, 3) := by decide +kernel
theorem dX10_runScript_126 : decode cX10_runScript 126 = .ok (.invokevirtual 113, 3) := by decide +kernel
theorem dX10_runScript_129 : decode cX10_runScript 129 = .ok (.aload_n 0, 1) := by decide +kernel
theorem dX10_runScript_130 : decode cX10_runScript 130 = .ok (.getfield 35, 3) := by decide +kernel
theorem dX10_runScript_133 : decode cX10_runScript 133 = .ok (.getfield 353, 3) := by decide +kernel
theorem dX10_runScript_136 : decode cX10_runScript 136 = .ok (.ireturn, 1) := by decide +kernel
theorem dX10_errorPosition_0 : decode cX10_errorPosition 0 = .ok (.aload_n 0, 1) := by decide +kernel
theorem dX10_errorPosition_1 : decode cX10_errorPosition 1 = .ok (.getfield 50, 3) := by decide +kernel
theorem dX10_errorPosition_4 : decode cX10_errorPosition 4 = .ok (.iconst (-1), 1) := by decide +kernel
theorem dX10_errorPosition_5 : decode cX10_errorPosition 5 = .ok (.if_icmp .ne 14, 3) := by decide +kernel
theorem dX10_errorPosition_8 : decode cX10_errorPosition 8 = .ok (.new 108, 3) := by decide +kernel
theorem dX10_errorPosition_11 : decode cX10_errorPosition 11 = .ok (.dup, 1) := by decide +kernel
theorem dX10_errorPosition_12 : decode cX10_errorPosition 12 = .ok (.ldc_w 366, 3) := by decide +kernel
theorem dX10_errorPosition_15 : decode cX10_errorPosition 15 = .ok (.invokespecial 112, 3) := by decide +kernel
theorem dX10_errorPosition_18 : decode cX10_errorPosition 18 = .ok (.athrow, 1) := by decide +kernel
theorem dX10_errorPosition_19 : decode cX10_errorPosition 19 = .ok (.aload_n 0, 1) := by decide +kernel
theorem dX10_errorPosition_20 : decode cX10_errorPosition 20 = .ok (.getfield 50, 3) := by decide +kernel
theorem dX10_errorPosition_23 : decode cX10_errorPosition 23 = .ok (.ireturn, 1) := by decide +kernel
theorem dX10_failedCommand_0 : decode cX10_failedCommand 0 = .ok (.aload_n 0, 1) := by decide +kernel
theorem dX10_failedCommand_1 : decode cX10_failedCommand 1 = .ok (.getfield 54, 3) := by decide +kernel
theorem dX10_failedCommand_4 : decode cX10_failedCommand 4 = .ok (.iconst (-1), 1) := by decide +kernel
theorem dX10_failedCommand_5 : decode cX10_failedCommand 5 = .ok (.if_icmp .ne 14, 3) := by decide +kernel
theorem dX10_failedCommand_8 : decode cX10_failedCommand 8 = .ok (.new 108, 3) := by decide +kernel
theorem dX10_failedCommand_11 : decode cX10_failedCommand 11 = .ok (.dup, 1) := by decide +kernel
theorem dX10_failedCommand_12 : decode cX10_failedCommand 12 = .ok (.ldc_w 368, 3) := by decide +kernel
theorem dX10_failedCommand_15 : decode cX10_failedCommand 15 = .ok (.invokespecial 112, 3) := by decide +kernel
theorem dX10_failedCommand_18 : decode cX10_failedCommand 18 = .ok (.athrow, 1) := by decide +kernel
theorem dX10_failedCommand_19 : decode cX10_failedCommand 19 = .ok (.aload_n 0, 1) := by decide +kernel
theorem dX10_failedCommand_20 : decode cX10_failedCommand 20 = .ok (.getfield 54, 3) := by decide +kernel
theorem dX10_failedCommand_23 : decode cX10_failedCommand 23 = .ok (.ireturn, 1) := by decide +kernel
theorem dX10_undo_0 : decode cX10_undo 0 = .ok (.aload_n 0, 1) := by decide +kernel
theorem dX10_undo_1 : decode cX10_undo 1 = .ok (.getfield 28, 3) := by decide +kernel
theorem dX10_undo_4 : decode cX10_undo 4 = .ok (.getfield 370, 3) := by decide +kernel
theorem dX10_undo_7 : decode cX10_undo 7 = .ok (.ifCond .ne 14, 3) := by decide +kernel
theorem dX10_undo_10 : decode cX10_undo 10 = .ok (.new 108, 3) := by decide +kernel
theorem dX10_undo_13 : decode cX10_undo 13 = .ok (.dup, 1) := by decide +kernel
theorem dX10_undo_14 : decode cX10_undo 14 = .ok (.ldc_w 373, 3) := by decide +kernel
theorem dX10_undo_17 : decode cX10_undo 17 = .ok (.invokespecial 112, 3) := by decide +kernel
theorem dX10_undo_20 : decode cX10_undo 20 = .ok (.athrow, 1) := by decide +kernel
theorem dX10_undo_21 : decode cX10_undo 21 = .ok (.aload_n 0, 1) := by decide +kernel
theorem dX10_undo_22 : decode cX10_undo 22 = .ok (.getfield 28, 3) := by decide +kernel
theorem dX10_undo_25 : decode cX10_undo 25 = .ok (.aload_n 0, 1) := by decide +kernel
theorem dX10_undo_26 : decode cX10_undo 26 = .ok (.getfield 10, 3) := by decide +kernel
theorem dX10_undo_29 : decode cX10_undo 29 = .ok (.invokevirtual 375, 3) := by decide +kernel
theorem dX10_undo_32 : decode cX10_undo 32 = .ok (.aload_n 0, 1) := by decide +kernel
theorem dX10_undo_33 : decode cX10_undo 33 = .ok (.getfield 28, 3) := by decide +kernel
theorem dX10_undo_36 : decode cX10_undo 36 = .ok (.getfield 370, 3) := by decide +kernel
theorem dX10_undo_39 : decode cX10_undo 39 = .ok (.ireturn, 1) := by decide +kernel
theorem dX10_save_0 : decode cX10_save 0 = .ok (.aload_n 0, 1) := by decide +kernel
theorem dX10_save_1 : decode cX10_save 1 = .ok (.getfield 22, 3) := by decide +kernel
theorem dX10_save_4 : decode cX10_save 4 = .ok (.aload_n 0, 1) := by decide +kernel
theorem dX10_save_5 : decode cX10_save 5 = .ok (.getfield 10, 3) := by decide +kernel
theorem dX10_save_8 : decode cX10_save 8 = .ok (.invokevirtual 57, 3) := by decide +kernel
theorem dX10_save_11 : decode cX10_save 11 = .ok (.aload_n 0, 1) := by decide +kernel
theorem dX10_save_12 : decode cX10_save 12 = .ok (.iconst 1, 1) := by decide +kernel
theorem dX10_save_13 : decode cX10_save 13 = .ok (.putfield 46, 3) := by decide +kernel
theorem dX10_save_16 : decode cX10_save 16 = .ok (.aload_n 0, 1) := by decide +kernel
theorem dX10_save_17 : decode cX10_save 17 = .ok (.getfield 10, 3) := by decide +kernel
theorem dX10_save_20 : decode cX10_save 20 = .ok (.getfield 183, 3) := by decide +kernel
theorem dX10_save_23 : decode cX10_save 23 = .ok (.ireturn, 1) := by decide +kernel
theorem dX10_restore_0 : decode cX10_restore 0 = .ok (.aload_n 0, 1) := by decide +kernel
theorem dX10_restore_1 : decode cX10_restore 1 = .ok (.getfield 46, 3) := by decide +kernel
theorem dX10_restore_4 : decode cX10_restore 4 = .ok (.ifCond .ne 14, 3) := by decide +kernel
theorem dX10_restore_7 : decode cX10_restore 7 = .ok (.new 98, 3) := by decide +kernel
theorem dX10_restore_10 : decode cX10_restore 10 = .ok (.dup, 1) := by decide +kernel
theorem dX10_restore_11 : decode cX10_restore 11 = .ok (.ldc_w 378, 3) := by decide +kernel
theorem dX10_restore_14 : decode cX10_restore 14 = .ok (.invokespecial 102, 3) := by decide +kernel
theorem dX10_restore_17 : decode cX10_restore 17 = .ok (.athrow, 1) := by decide +kernel
theorem dX10_restore_18 : decode cX10_restore 18 = .ok (.aload_n 0, 1) := by decide +kernel
theorem dX10_restore_19 : decode cX10_restore 19 = .ok (.getfield 10, 3) := by decide +kernel
theorem dX10_restore_22 : decode cX10_restore 22 = .ok (.aload_n 0, 1) := by decide +kernel
theorem dX10_restore_23 : decode cX10_restore 23 = .ok (.getfield 22, 3) := by decide +kernel
theorem dX10_restore_26 : decode cX10_restore 26 = .ok (.invokevirtual 57, 3) := by decide +kernel
theorem dX10_restore_29 : decode cX10_restore 29 = .ok (.aload_n 0, 1) := by decide +kernel
theorem dX10_restore_30 : decode cX10_restore 30 = .ok (.getfield 28, 3) := by decide +kernel
theorem dX10_restore_33 : decode cX10_restore 33 = .ok (.iconst 0, 1) := by decide +kernel
theorem dX10_restore_34 : decode cX10_restore 34 = .ok (.putfield 370, 3) := by decide +kernel
theorem dX10_restore_37 : decode cX10_restore 37 = .ok (.aload_n 0, 1) := by decide +kernel
theorem dX10_restore_38 : decode cX10_restore 38 = .ok (.getfield 10, 3) := by decide +kernel
theorem dX10_restore_41 : decode cX10_restore 41 = .ok (.getfield 183, 3) := by decide +kernel
theorem dX10_restore_44 : decode cX10_restore 44 = .ok (.ireturn, 1) := by decide +kernel

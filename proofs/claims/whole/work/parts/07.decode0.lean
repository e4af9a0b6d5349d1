theorem dX0_init_0 : decode cX0_init 0 = .ok (.aload_n 0, 1) := by decide +kernel
theorem dX0_init_1 : decode cX0_init 1 = .ok (.invokespecial 1, 3) := by decide +kernel
theorem dX0_init_4 : decode cX0_init 4 = .ok (.aload_n 0, 1) := by decide +kernel
theorem dX0_init_5 : decode cX0_init 5 = .ok (.iload_n 1, 1) := by decide +kernel
theorem dX0_init_6 : decode cX0_init 6 = .ok (.putfield 7, 3) := by decide +kernel
theorem dX0_init_9 : decode cX0_init 9 = .ok (.aload_n 0, 1) := by decide +kernel
theorem dX0_init_10 : decode cX0_init 10 = .ok (.iload_n 2, 1) := by decide +kernel
theorem dX0_init_11 : decode cX0_init 11 = .ok (.putfield 13, 3) := by decide +kernel
theorem dX0_init_14 : decode cX0_init 14 = .ok (.return_, 1) := by decide +kernel
theorem dX0_isAt_0 : decode cX0_isAt 0 = .ok (.aload_n 0, 1) := by decide +kernel
theorem dX0_isAt_1 : decode cX0_isAt 1 = .ok (.getfield 7, 3) := by decide +kernel
theorem dX0_isAt_4 : decode cX0_isAt 4 = .ok (.iload_n 1, 1) := by decide +kernel
theorem dX0_isAt_5 : decode cX0_isAt 5 = .ok (.if_icmp .ne 15, 3) := by decide +kernel
theorem dX0_isAt_8 : decode cX0_isAt 8 = .ok (.aload_n 0, 1) := by decide +kernel
theorem dX0_isAt_9 : decode cX0_isAt 9 = .ok (.getfield 13, 3) := by decide +kernel
theorem dX0_isAt_12 : decode cX0_isAt 12 = .ok (.iload_n 2, 1) := by decide +kernel
theorem dX0_isAt_13 : decode cX0_isAt 13 = .ok (.if_icmp .ne 7, 3) := by decide +kernel
theorem dX0_isAt_16 : decode cX0_isAt 16 = .ok (.iconst 1, 1) := by decide +kernel
theorem dX0_isAt_17 : decode cX0_isAt 17 = .ok (.goto 4, 3) := by decide +kernel
theorem dX0_isAt_20 : decode cX0_isAt 20 = .ok (.iconst 0, 1) := by decide +kernel
theorem dX0_isAt_21 : decode cX0_isAt 21 = .ok (.ireturn, 1) := by decide +kernel
theorem dX1_init_0 : decode cX1_init 0 = .ok (.aload_n 0, 1) := by decide +kernel
theorem dX1_init_1 : decode cX1_init 1 = .ok (.invokespecial 1, 3) := by decide +kernel
theorem dX1_init_4 : decode cX1_init 4 = .ok (.aload_n 0, 1) := by decide +kernel
theorem dX1_init_5 : decode cX1_init 5 = .ok (.new 7, 3) := by decide +kernel
theorem dX1_init_8 : decode cX1_init 8 = .ok (.dup, 1) := by decide +kernel
theorem dX1_init_9 : decode cX1_init 9 = .ok (.invokespecial 9, 3) := by decide +kernel
theorem dX1_init_12 : decode cX1_init 12 = .ok (.putfield 10, 3) := by decide +kernel
theorem dX1_init_15 : decode cX1_init 15 = .ok (.aload_n 0, 1) := by decide +kernel
theorem dX1_init_16 : decode cX1_init 16 = .ok (.new 7, 3) := by decide +kernel
theorem dX1_init_19 : decode cX1_init 19 = .ok (.dup, 1) := by decide +kernel
theorem dX1_init_20 : decode cX1_init 20 = .ok (.invokespecial 9, 3) := by decide +kernel
theorem dX1_init_23 : decode cX1_init 23 = .ok (.putfield 16, 3) := by decide +kernel
theorem dX1_init_26 : decode cX1_init 26 = .ok (.aload_n 0, 1) := by decide +kernel
theorem dX1_init_27 : decode cX1_init 27 = .ok (.iconst 1, 1) := by decide +kernel
theorem dX1_init_28 : decode cX1_init 28 = .ok (.putfield 19, 3) := by decide +kernel
theorem dX1_init_31 : decode cX1_init 31 = .ok (.return_, 1) := by decide +kernel
theorem dX1_takeOut_0 : decode cX1_takeOut 0 = .ok (.iconst 0, 1) := by decide +kernel
theorem dX1_takeOut_1 : decode cX1_takeOut 1 = .ok (.istore_n 2, 1) := by decide +kernel
theorem dX1_takeOut_2 : decode cX1_takeOut 2 = .ok (.iload_n 2, 1) := by decide +kernel
theorem dX1_takeOut_3 : decode cX1_takeOut 3 = .ok (.aload_n 0, 1) := by decide +kernel
theorem dX1_takeOut_4 : decode cX1_takeOut 4 = .ok (.getfield 16, 3) := by decide +kernel
theorem dX1_takeOut_7 : decode cX1_takeOut 7 = .ok (.invokevirtual 23, 3) := by decide +kernel
theorem dX1_takeOut_10 : decode cX1_takeOut 10 = .ok (.if_icmp .ge 31, 3) := by decide +kernel
theorem dX1_takeOut_13 : decode cX1_takeOut 13 = .ok (.aload_n 0, 1) := by decide +kernel
theorem dX1_takeOut_14 : decode cX1_takeOut 14 = .ok (.getfield 16, 3) := by decide +kernel
theorem dX1_takeOut_17 : decode cX1_takeOut 17 = .ok (.iload_n 2, 1) := by decide +kernel
theorem dX1_takeOut_18 : decode cX1_takeOut 18 = .ok (.invokevirtual 27, 3) := by decide +kernel
theorem dX1_takeOut_21 : decode cX1_takeOut 21 = .ok (.aload_n 1, 1) := by decide +kernel
theorem dX1_takeOut_22 : decode cX1_takeOut 22 = .ok (.if_acmp .ne 13, 3) := by decide +kernel
theorem dX1_takeOut_25 : decode cX1_takeOut 25 = .ok (.aload_n 0, 1) := by decide +kernel
theorem dX1_takeOut_26 : decode cX1_takeOut 26 = .ok (.getfield 16, 3) := by decide +kernel
theorem dX1_takeOut_29 : decode cX1_takeOut 29 = .ok (.iload_n 2, 1) := by decide +kernel
theorem dX1_takeOut_30 : decode cX1_takeOut 30 = .ok (.invokevirtual 31, 3) := by decide +kernel
theorem dX1_takeOut_33 : decode cX1_takeOut 33 = .ok (.pop, 1) := by decide +kernel
theorem dX1_takeOut_34 : decode cX1_takeOut 34 = .ok (.return_, 1) := by decide +kernel
theorem dX1_takeOut_35 : decode cX1_takeOut 35 = .ok (.iinc 2 1, 3) := by decide +kernel
theorem dX1_takeOut_38 : decode cX1_takeOut 38 = .ok (.goto (-36), 3) := by decide +kernel
theorem dX1_takeOut_41 : decode cX1_takeOut 41 = .ok (.return_, 1) := by decide +kernel
theorem dX2_init_0 : decode cX2_init 0 = .ok (.aload_n 0, 1) := by decide +kernel
theorem dX2_init_1 : decode cX2_init 1 = .ok (.invokespecial 3, 3) := by decide +kernel
theorem dX2_init_4 : decode cX2_init 4 = .ok (.aload_n 0, 1) := by decide +kernel
theorem dX2_init_5 : decode cX2_init 5 = .ok (.iload_n 1, 1) := by decide +kernel
theorem dX2_init_6 : decode cX2_init 6 = .ok (.putfield 9, 3) := by decide +kernel
theorem dX2_init_9 : decode cX2_init 9 = .ok (.aload_n 0, 1) := by decide +kernel
theorem dX2_init_10 : decode cX2_init 10 = .ok (.iload_n 2, 1) := by decide +kernel
theorem dX2_init_11 : decode cX2_init 11 = .ok (.putfield 15, 3) := by decide +kernel
theorem dX2_init_14 : decode cX2_init 14 = .ok (.aload_n 0, 1) := by decide +kernel
theorem dX2_init_15 : decode cX2_init 15 = .ok (.iload_n 3, 1) := by decide +kernel
theorem dX2_init_16 : decode cX2_init 16 = .ok (.putfield 18, 3) := by decide +kernel
theorem dX2_init_19 : decode cX2_init 19 = .ok (.aload_n 0, 1) := by decide +kernel
theorem dX2_init_20 : decode cX2_init 20 = .ok (.iload 4, 2) := by decide +kernel
theorem dX2_init_22 : decode cX2_init 22 = .ok (.putfield 21, 3) := by decide +kernel
theorem dX2_init_25 : decode cX2_init 25 = .ok (.aload_n 0, 1) := by decide +kernel
theorem dX2_init_26 : decode cX2_init 26 = .ok (.iload 5, 2) := by decide +kernel
theorem dX2_init_28 : decode cX2_init 28 = .ok (.putfield 24, 3) := by decide +kernel
theorem dX2_init_31 : decode cX2_init 31 = .ok (.aload_n 0, 1) := by decide +kernel
theorem dX2_init_32 : decode cX2_init 32 = .ok (.iload 6, 2) := by decide +kernel
theorem dX2_init_34 : decode cX2_init 34 = .ok (.putfield 27, 3) := by decide +kernel
theorem dX2_init_37 : decode cX2_init 37 = .ok (.return_, 1) := by decide +kernel
theorem dX2_allows_0 : decode cX2_allows 0 = .ok (.iload_n 1, 1) := by decide +kernel
theorem dX2_allows_1 : decode cX2_allows 1 = .ok (.ifCond .lt 24, 3) := by decide +kernel
theorem dX2_allows_4 : decode cX2_allows 4 = .ok (.iload_n 1, 1) := by decide +kernel
theorem dX2_allows_5 : decode cX2_allows 5 = .ok (.iconst 4, 1) := by decide +kernel
theorem dX2_allows_6 : decode cX2_allows 6 = .ok (.if_icmp .gt 19, 3) := by decide +kernel
theorem dX2_allows_9 : decode cX2_allows 9 = .ok (.aload_n 0, 1) := by decide +kernel
theorem dX2_allows_10 : decode cX2_allows 10 = .ok (.getfield 30, 3) := by decide +kernel
theorem dX2_allows_13 : decode cX2_allows 13 = .ok (.iload_n 1, 1) := by decide +kernel
theorem dX2_allows_14 : decode cX2_allows 14 = .ok (.ishr, 1) := by decide +kernel
theorem dX2_allows_15 : decode cX2_allows 15 = .ok (.iconst 1, 1) := by decide +kernel
theorem dX2_allows_16 : decode cX2_allows 16 = .ok (.iand, 1) := by decide +kernel
theorem dX2_allows_17 : decode cX2_allows 17 = .ok (.iconst 1, 1) := by decide +kernel
theorem dX2_allows_18 : decode cX2_allows 18 = .ok (.if_icmp .ne 7, 3) := by decide +kernel
theorem dX2_allows_21 : decode cX2_allows 21 = .ok (.iconst 1, 1) := by decide +kernel
theorem dX2_allows_22 : decode cX2_allows 22 = .ok (.goto 4, 3) := by decide +kernel
theorem dX2_allows_25 : decode cX2_allows 25 = .ok (.iconst 0, 1) := by decide +kernel
theorem dX2_allows_26 : decode cX2_allows 26 = .ok (.ireturn, 1) := by decide +kernel
theorem dX2_costOf_0 : decode cX2_costOf 0 = .ok (.iload_n 1, 1) := by decide +kernel
theorem dX2_costOf_1 : decode cX2_costOf 1 = .ok (.iconst 4, 1) := by decide +kernel
theorem dX2_costOf_2 : decode cX2_costOf 2 = .ok (.if_icmp .ne 10, 3) := by decide +kernel
theorem dX2_costOf_5 : decode cX2_costOf 5 = .ok (.aload_n 0, 1) := by decide +kernel
theorem dX2_costOf_6 : decode cX2_costOf 6 = .ok (.getfield 27, 3) := by decide +kernel
theorem dX2_costOf_9 : decode cX2_costOf 9 = .ok (.goto 4, 3) := by decide +kernel
theorem dX2_costOf_12 : decode cX2_costOf 12 = .ok (.iload_n 1, 1) := by decide +kernel
theorem dX2_costOf_13 : decode cX2_costOf 13 = .ok (.ireturn, 1) := by decide +kernel
theorem dX2_left_0 : decode cX2_left 0 = .ok (.iload_n 1, 1) := by decide +kernel
theorem dX2_left_1 : decode cX2_left 1 = .ok (.iconst 1, 1) := by decide +kernel
theorem dX2_left_2 : decode cX2_left 2 = .ok (.if_icmp .eq 8, 3) := by decide +kernel
theorem dX2_left_5 : decode cX2_left 5 = .ok (.iload_n 1, 1) := by decide +kernel
theorem dX2_left_6 : decode cX2_left 6 = .ok (.iconst 3, 1) := by decide +kernel
theorem dX2_left_7 : decode cX2_left 7 = .ok (.if_icmp .ne 18, 3) := by decide +kernel
theorem dX2_left_10 : decode cX2_left 10 = .ok (.aload_n 0, 1) := by decide +kernel
theorem dX2_left_11 : decode cX2_left 11 = .ok (.getfield 21, 3) := by decide +kernel
theorem dX2_left_14 : decode cX2_left 14 = .ok (.bipush 40, 2) := by decide +kernel
theorem dX2_left_16 : decode cX2_left 16 = .ok (.aload_n 0, 1) := by decide +kernel
theorem dX2_left_17 : decode cX2_left 17 = .ok (.getfield 24, 3) := by decide +kernel
theorem dX2_left_20 : decode cX2_left 20 = .ok (.imul, 1) := by decide +kernel
theorem dX2_left_21 : decode cX2_left 21 = .ok (.isub, 1) := by decide +kernel
theorem dX2_left_22 : decode cX2_left 22 = .ok (.goto 7, 3) := by decide +kernel
theorem dX2_left_25 : decode cX2_left 25 = .ok (.aload_n 0, 1) := by decide +kernel
theorem dX2_left_26 : decode cX2_left 26 = .ok (.getfield 21, 3) := by decide +kernel
theorem dX2_left_29 : decode cX2_left 29 = .ok (.ireturn, 1) := by decide +kernel
theorem dX2_right_0 : decode cX2_right 0 = .ok (.aload_n 0, 1) := by decide +kernel
theorem dX2_right_1 : decode cX2_right 1 = .ok (.iload_n 1, 1) := by decide +kernel
theorem dX2_right_2 : decode cX2_right 2 = .ok (.invokevirtual 33, 3) := by decide +kernel
theorem dX2_right_5 : decode cX2_right 5 = .ok (.bipush 40, 2) := by decide +kernel
theorem dX2_right_7 : decode cX2_right 7 = .ok (.aload_n 0, 1) := by decide +kernel
theorem dX2_right_8 : decode cX2_right 8 = .ok (.getfield 24, 3) := by decide +kernel
theorem dX2_right_11 : decode cX2_right 11 = .ok (.imul, 1) := by decide +kernel
theorem dX2_right_12 : decode cX2_right 12 = .ok (.iadd, 1) := by decide +kernel
theorem dX2_right_13 : decode cX2_right 13 = .ok (.ireturn, 1) := by decide +kernel
theorem dX2_bottom_0 : decode cX2_bottom 0 = .ok (.iload_n 1, 1) := by decide +kernel
theorem dX2_bottom_1 : decode cX2_bottom 1 = .ok (.iconst 2, 1) := by decide +kernel
theorem dX2_bottom_2 : decode cX2_bottom 2 = .ok (.if_icmp .eq 8, 3) := by decide +kernel
theorem dX2_bottom_5 : decode cX2_bottom 5 = .ok (.iload_n 1, 1) := by decide +kernel
theorem dX2_bottom_6 : decode cX2_bottom 6 = .ok (.iconst 3, 1) := by decide +kernel
theorem dX2_bottom_7 : decode cX2_bottom 7 = .ok (.if_icmp .ne 13, 3) := by decide +kernel
theorem dX2_bottom_10 : decode cX2_bottom 10 = .ok (.aload_n 0, 1) := by decide +kernel
theorem dX2_bottom_11 : decode cX2_bottom 11 = .ok (.getfield 18, 3) := by decide +kernel
theorem dX2_bottom_14 : decode cX2_bottom 14 = .ok (.bipush 80, 2) := by decide +kernel
theorem dX2_bottom_16 : decode cX2_bottom 16 = .ok (.isub, 1) := by decide +kernel
theorem dX2_bottom_17 : decode cX2_bottom 17 = .ok (.goto 7, 3) := by decide +kernel
theorem dX2_bottom_20 : decode cX2_bottom 20 = .ok (.aload_n 0, 1) := by decide +kernel
theorem dX2_bottom_21 : decode cX2_bottom 21 = .ok (.getfield 18, 3) := by decide +kernel
theorem dX2_bottom_24 : decode cX2_bottom 24 = .ok (.ireturn, 1) := by decide +kernel
theorem dX2_covers_0 : decode cX2_covers 0 = .ok (.iload_n 1, 1) := by decide +kernel
theorem dX2_covers_1 : decode cX2_covers 1 = .ok (.iconst 4, 1) := by decide +kernel
theorem dX2_covers_2 : decode cX2_covers 2 = .ok (.if_icmp .eq 8, 3) := by decide +kernel
theorem dX2_covers_5 : decode cX2_covers 5 = .ok (.iload_n 3, 1) := by decide +kernel
theorem dX2_covers_6 : decode cX2_covers 6 = .ok (.iconst 4, 1) := by decide +kernel
theorem dX2_covers_7 : decode cX2_covers 7 = .ok (.if_icmp .ne 5, 3) := by decide +kernel
theorem dX2_covers_10 : decode cX2_covers 10 = .ok (.iconst 0, 1) := by decide +kernel
theorem dX2_covers_11 : decode cX2_covers 11 = .ok (.ireturn, 1) := by decide +kernel
theorem dX2_covers_12 : decode cX2_covers 12 = .ok (.aload_n 0, 1) := by decide +kernel
theorem dX2_covers_13 : decode cX2_covers 13 = .ok (.iload_n 1, 1) := by decide +kernel
theorem dX2_covers_14 : decode cX2_covers 14 = .ok (.invokevirtual 33, 3) := by decide +kernel
theorem dX2_covers_17 : decode cX2_covers 17 = .ok (.aload_n 2, 1) := by decide +kernel
theorem dX2_covers_18 : decode cX2_covers 18 = .ok (.iload_n 3, 1) := by decide +kernel
theorem dX2_covers_19 : decode cX2_covers 19 = .ok (.invokevirtual 37, 3) := by decide +kernel
theorem dX2_covers_22 : decode cX2_covers 22 = .ok (.if_icmp .ge 39, 3) := by decide +kernel
theorem dX2_covers_25 : decode cX2_covers 25 = .ok (.aload_n 2, 1) := by decide +kernel
theorem dX2_covers_26 : decode cX2_covers 26 = .ok (.iload_n 3, 1) := by decide +kernel
theorem dX2_covers_27 : decode cX2_covers 27 = .ok (.invokevirtual 33, 3) := by decide +kernel
theorem dX2_covers_30 : decode cX2_covers 30 = .ok (.aload_n 0, 1) := by decide +kernel
theorem dX2_covers_31 : decode cX2_covers 31 = .ok (.iload_n 1, 1) := by decide +kernel
theorem dX2_covers_32 : decode cX2_covers 32 = .ok (.invokevirtual 37, 3) := by decide +kernel
theorem dX2_covers_35 : decode cX2_covers 35 = .ok (.if_icmp .ge 26, 3) := by decide +kernel
theorem dX2_covers_38 : decode cX2_covers 38 = .ok (.aload_n 0, 1) := by decide +kernel
theorem dX2_covers_39 : decode cX2_covers 39 = .ok (.iload_n 1, 1) := by decide +kernel
theorem dX2_covers_40 : decode cX2_covers 40 = .ok (.invokevirtual 40, 3) := by decide +kernel
theorem dX2_covers_43 : decode cX2_covers 43 = .ok (.aload_n 2, 1) := by decide +kernel
theorem dX2_covers_44 : decode cX2_covers 44 = .ok (.iload_n 3, 1) := by decide +kernel
theorem dX2_covers_45 : decode cX2_covers 45 = .ok (.invokevirtual 40, 3) := by decide +kernel
theorem dX2_covers_48 : decode cX2_covers 48 = .ok (.isub, 1) := by decide +kernel
theorem dX2_covers_49 : decode cX2_covers 49 = .ok (.invokestatic 43, 3) := by decide +kernel
theorem dX2_covers_52 : decode cX2_covers 52 = .ok (.bipush 80, 2) := by decide +kernel
theorem dX2_covers_54 : decode cX2_covers 54 = .ok (.if_icmp .ge 7, 3) := by decide +kernel
theorem dX2_covers_57 : decode cX2_covers 57 = .ok (.iconst 1, 1) := by decide +kernel
theorem dX2_covers_58 : decode cX2_covers 58 = .ok (.goto 4, 3) := by decide +kernel
theorem dX2_covers_61 : decode cX2_covers 61 = .ok (.iconst 0, 1) := by decide +kernel
theorem dX2_covers_62 : decode cX2_covers 62 = .ok (.ireturn, 1) := by decide +kernel
theorem dX3_init_0 : decode cX3_init 0 = .ok (.aload_n 0, 1) := by decide +kernel
theorem dX3_init_1 : decode cX3_init 1 = .ok (.invokespecial 1, 3) := by decide +kernel
theorem dX3_init_4 : decode cX3_init 4 = .ok (.aload_n 0, 1) := by decide +kernel
theorem dX3_init_5 : decode cX3_init 5 = .ok (.iload_n 1, 1) := by decide +kernel
theorem dX3_init_6 : decode cX3_init 6 = .ok (.putfield 7, 3) := by decide +kernel
theorem dX3_init_9 : decode cX3_init 9 = .ok (.aload_n 0, 1) := by decide +kernel
theorem dX3_init_10 : decode cX3_init 10 = .ok (.iload_n 2, 1) := by decide +kernel
theorem dX3_init_11 : decode cX3_init 11 = .ok (.putfield 13, 3) := by decide +kernel
theorem dX3_init_14 : decode cX3_init 14 = .ok (.aload_n 0, 1) := by decide +kernel
theorem dX3_init_15 : decode cX3_init 15 = .ok (.iload_n 3, 1) := by decide +kernel
theorem dX3_init_16 : decode cX3_init 16 = .ok (.putfield 16, 3) := by decide +kernel
theorem dX3_init_19 : decode cX3_init 19 = .ok (.aload_n 0, 1) := by decide +kernel
theorem dX3_init_20 : decode cX3_init 20 = .ok (.iload 4, 2) := by decide +kernel
theorem dX3_init_22 : decode cX3_init 22 = .ok (.putfield 19, 3) := by decide +kernel
theorem dX3_init_25 : decode cX3_init 25 = .ok (.aload_n 0, 1) := by decide +kernel
theorem dX3_init_26 : decode cX3_init 26 = .ok (.iload 5, 2) := by decide +kernel
theorem dX3_init_28 : decode cX3_init 28 = .ok (.putfield 22, 3) := by decide +kernel
theorem dX3_init_31 : decode cX3_init 31 = .ok (.return_, 1) := by decide +kernel
theorem dX4_init_0 : decode cX4_init 0 = .ok (.aload_n 0, 1) := by decide +kernel
theorem dX4_init_1 : decode cX4_init 1 = .ok (.invokespecial 3, 3) := by decide +kernel
theorem dX4_init_4 : decode cX4_init 4 = .ok (.aload_n 0, 1) := by decide +kernel
theorem dX4_init_5 : decode cX4_init 5 = .ok (.bipush 6, 2) := by decide +kernel
theorem dX4_init_7 : decode cX4_init 7 = .ok (.newarray .int, 2) := by decide +kernel
theorem dX4_init_9 : decode cX4_init 9 = .ok (.putfield 9, 3) := by decide +kernel
theorem dX4_init_12 : decode cX4_init 12 = .ok (.aload_n 0, 1) := by decide +kernel
theorem dX4_init_13 : decode cX4_init 13 = .ok (.bipush 6, 2) := by decide +kernel
theorem dX4_init_15 : decode cX4_init 15 = .ok (.newarray .int, 2) := by decide +kernel
theorem dX4_init_17 : decode cX4_init 17 = .ok (.putfield 15, 3) := by decide +kernel
theorem dX4_init_20 : decode cX4_init 20 = .ok (.return_, 1) := by decide +kernel
theorem dX4_wayOf_0 : decode cX4_wayOf 0 = .ok (.iload_n 1, 1) := by decide +kernel
theorem dX4_wayOf_1 : decode cX4_wayOf 1 = .ok (.ifCond .lt 21, 3) := by decide +kernel
theorem dX4_wayOf_4 : decode cX4_wayOf 4 = .ok (.iload_n 1, 1) := by decide +kernel
theorem dX4_wayOf_5 : decode cX4_wayOf 5 = .ok (.aload_n 0, 1) := by decide +kernel
theorem dX4_wayOf_6 : decode cX4_wayOf 6 = .ok (.getfield 9, 3) := by decide +kernel
theorem dX4_wayOf_9 : decode cX4_wayOf 9 = .ok (.arraylength, 1) := by decide +kernel
theorem dX4_wayOf_10 : decode cX4_wayOf 10 = .ok (.if_icmp .ge 12, 3) := by decide +kernel
theorem dX4_wayOf_13 : decode cX4_wayOf 13 = .ok (.aload_n 0, 1) := by decide +kernel
theorem dX4_wayOf_14 : decode cX4_wayOf 14 = .ok (.getfield 9, 3) := by decide +kernel
theorem dX4_wayOf_17 : decode cX4_wayOf 17 = .ok (.iload_n 1, 1) := by decide +kernel
theorem dX4_wayOf_18 : decode cX4_wayOf 18 = .ok (.iaload, 1) := by decide +kernel
theorem dX4_wayOf_19 : decode cX4_wayOf 19 = .ok (.goto 4, 3) := by decide +kernel
theorem dX4_wayOf_22 : decode cX4_wayOf 22 = .ok (.iconst 4, 1) := by decide +kernel
theorem dX4_wayOf_23 : decode cX4_wayOf 23 = .ok (.ireturn, 1) := by decide +kernel
theorem dX4_keep_0 : decode cX4_keep 0 = .ok (.aload_n 0, 1) := by decide +kernel
theorem dX4_keep_1 : decode cX4_keep 1 = .ok (.getfield 9, 3) := by decide +kernel
theorem dX4_keep_4 : decode cX4_keep 4 = .ok (.iconst 0, 1) := by decide +kernel
theorem dX4_keep_5 : decode cX4_keep 5 = .ok (.aload_n 0, 1) := by decide +kernel
theorem dX4_keep_6 : decode cX4_keep 6 = .ok (.getfield 15, 3) := by decide +kernel
theorem dX4_keep_9 : decode cX4_keep 9 = .ok (.iconst 0, 1) := by decide +kernel
theorem dX4_keep_10 : decode cX4_keep 10 = .ok (.aload_n 0, 1) := by decide +kernel
theorem dX4_keep_11 : decode cX4_keep 11 = .ok (.getfield 15, 3) := by decide +kernel
theorem dX4_keep_14 : decode cX4_keep 14 = .ok (.arraylength, 1) := by decide +kernel
theorem dX4_keep_15 : decode cX4_keep 15 = .ok (.invokestatic 18, 3) := by decide +kernel
theorem dX4_keep_18 : decode cX4_keep 18 = .ok (.aload_n 0, 1) := by decide +kernel
theorem dX4_keep_19 : decode cX4_keep 19 = .ok (.iload_n 1, 1) := by decide +kernel
theorem dX4_keep_20 : decode cX4_keep 20 = .ok (.putfield 24, 3) := by decide +kernel
theorem dX4_keep_23 : decode cX4_keep 23 = .ok (.return_, 1) := by decide +kernel
theorem dX5_init_0 : decode cX5_init 0 = .ok (.aload_n 0, 1) := by decide +kernel
theorem dX5_init_1 : decode cX5_init 1 = .ok (.invokespecial 3, 3) := by decide +kernel
theorem dX5_init_4 : decode cX5_init 4 = .ok (.aload_n 0, 1) := by decide +kernel
theorem dX5_init_5 : decode cX5_init 5 = .ok (.aload_n 1, 1) := by decide +kernel
theorem dX5_init_6 : decode cX5_init 6 = .ok (.getfield 9, 3) := by decide +kernel
theorem dX5_init_9 : decode cX5_init 9 = .ok (.putfield 15, 3) := by decide +kernel
theorem dX5_init_12 : decode cX5_init 12 = .ok (.aload_n 0, 1) := by decide +kernel
theorem dX5_init_13 : decode cX5_init 13 = .ok (.aload_n 1, 1) := by decide +kernel
theorem dX5_init_14 : decode cX5_init 14 = .ok (.getfield 18, 3) := by decide +kernel
theorem dX5_init_17 : decode cX5_init 17 = .ok (.bipush 60, 2) := by decide +kernel
theorem dX5_init_19 : decode cX5_init 19 = .ok (.imul, 1) := by decide +kernel
theorem dX5_init_20 : decode cX5_init 20 = .ok (.putfield 21, 3) := by decide +kernel
theorem dX5_init_23 : decode cX5_init 23 = .ok (.aload_n 0, 1) := by decide +kernel
theorem dX5_init_24 : decode cX5_init 24 = .ok (.iload_n 3, 1) := by decide +kernel
theorem dX5_init_25 : decode cX5_init 25 = .ok (.aload_n 1, 1) := by decide +kernel
theorem dX5_init_26 : decode cX5_init 26 = .ok (.getfield 18, 3) := by decide +kernel
theorem dX5_init_29 : decode cX5_init 29 = .ok (.isub, 1) := by decide +kernel
theorem dX5_init_30 : decode cX5_init 30 = .ok (.bipush 60, 2) := by decide +kernel
theorem dX5_init_32 : decode cX5_init 32 = .ok (.imul, 1) := by decide +kernel
theorem dX5_init_33 : decode cX5_init 33 = .ok (.putfield 24, 3) := by decide +kernel
theorem dX5_init_36 : decode cX5_init 36 = .ok (.iload_n 2, 1) := by decide +kernel
theorem dX5_init_37 : decode cX5_init 37 = .ok (.aload_n 1, 1) := by decide +kernel
theorem dX5_init_38 : decode cX5_init 38 = .ok (.getfield 9, 3) := by decide +kernel
theorem dX5_init_41 : decode cX5_init 41 = .ok (.isub, 1) := by decide +kernel
theorem dX5_init_42 : decode cX5_init 42 = .ok (.sipush 360, 3) := by decide +kernel
theorem dX5_init_45 : decode cX5_init 45 = .ok (.invokestatic 27, 3) := by decide +kernel
theorem dX5_init_48 : decode cX5_init 48 = .ok (.istore 4, 2) := by decide +kernel
theorem dX5_init_50 : decode cX5_init 50 = .ok (.aload_n 0, 1) := by decide +kernel
theorem dX5_init_51 : decode cX5_init 51 = .ok (.iload 4, 2) := by decide +kernel
theorem dX5_init_53 : decode cX5_init 53 = .ok (.sipush 180, 3) := by decide +kernel
theorem dX5_init_56 : decode cX5_init 56 = .ok (.if_icmp .gt 7, 3) := by decide +kernel
theorem dX5_init_59 : decode cX5_init 59 = .ok (.iconst 1, 1) := by decide +kernel
theorem dX5_init_60 : decode cX5_init 60 = .ok (.goto 4, 3) := by decide +kernel
theorem dX5_init_63 : decode cX5_init 63 = .ok (.iconst (-1), 1) := by decide +kernel
theorem dX5_init_64 : decode cX5_init 64 = .ok (.putfield 31, 3) := by decide +kernel
theorem dX5_init_67 : decode cX5_init 67 = .ok (.aload_n 0, 1) := by decide +kernel
theorem dX5_init_68 : decode cX5_init 68 = .ok (.iload 4, 2) := by decide +kernel
theorem dX5_init_70 : decode cX5_init 70 = .ok (.sipush 360, 3) := by decide +kernel
theorem dX5_init_73 : decode cX5_init 73 = .ok (.iload 4, 2) := by decide +kernel
theorem dX5_init_75 : decode cX5_init 75 = .ok (.isub, 1) := by decide +kernel
theorem dX5_init_76 : decode cX5_init 76 = .ok (.invokestatic 34, 3) := by decide +kernel
theorem dX5_init_79 : decode cX5_init 79 = .ok (.putfield 39, 3) := by decide +kernel
theorem dX5_init_82 : decode cX5_init 82 = .ok (.return_, 1) := by decide +kernel
theorem dX5_longitudeAt_0 : decode cX5_longitudeAt 0 = .ok (.aload_n 0, 1) := by decide +kernel
theorem dX5_longitudeAt_1 : decode cX5_longitudeAt 1 = .ok (.getfield 15, 3) := by decide +kernel
theorem dX5_longitudeAt_4 : decode cX5_longitudeAt 4 = .ok (.aload_n 0, 1) := by decide +kernel
theorem dX5_longitudeAt_5 : decode cX5_longitudeAt 5 = .ok (.getfield 31, 3) := by decide +kernel
theorem dX5_longitudeAt_8 : decode cX5_longitudeAt 8 = .ok (.iload_n 1, 1) := by decide +kernel
theorem dX5_longitudeAt_9 : decode cX5_longitudeAt 9 = .ok (.imul, 1) := by decide +kernel
theorem dX5_longitudeAt_10 : decode cX5_longitudeAt 10 = .ok (.iadd, 1) := by decide +kernel
theorem dX5_longitudeAt_11 : decode cX5_longitudeAt 11 = .ok (.ireturn, 1) := by decide +kernel
theorem dX5_heightAt_0 : decode cX5_heightAt 0 = .ok (.aload_n 0, 1) := by decide +kernel
theorem dX5_heightAt_1 : decode cX5_heightAt 1 = .ok (.getfield 21, 3) := by decide +kernel
theorem dX5_heightAt_4 : decode cX5_heightAt 4 = .ok (.aload_n 0, 1) := by decide +kernel
theorem dX5_heightAt_5 : decode cX5_heightAt 5 = .ok (.getfield 24, 3) := by decide +kernel
theorem dX5_heightAt_8 : decode cX5_heightAt 8 = .ok (.iload_n 1, 1) := by decide +kernel
theorem dX5_heightAt_9 : decode cX5_heightAt 9 = .ok (.imul, 1) := by decide +kernel
theorem dX5_heightAt_10 : decode cX5_heightAt 10 = .ok (.aload_n 0, 1) := by decide +kernel
theorem dX5_heightAt_11 : decode cX5_heightAt 11 = .ok (.getfield 39, 3) := by decide +kernel
theorem dX5_heightAt_14 : decode cX5_heightAt 14 = .ok (.invokestatic 42, 3) := by decide +kernel
theorem dX5_heightAt_17 : decode cX5_heightAt 17 = .ok (.iadd, 1) := by decide +kernel
theorem dX5_heightAt_18 : decode cX5_heightAt 18 = .ok (.ireturn, 1) := by decide +kernel
theorem dX6_init_0 : decode cX6_init 0 = .ok (.aload_n 0, 1) := by decide +kernel
theorem dX6_init_1 : decode cX6_init 1 = .ok (.invokespecial 3, 3) := by decide +kernel
theorem dX6_init_4 : decode cX6_init 4 = .ok (.aload_n 0, 1) := by decide +kernel
theorem dX6_init_5 : decode cX6_init 5 = .ok (.new 9, 3) := by decide +kernel
theorem dX6_init_8 : decode cX6_init 8 = .ok (.dup, 1) := by decide +kernel
theorem dX6_init_9 : decode cX6_init 9 = .ok (.invokespecial 11, 3) := by decide +kernel
theorem dX6_init_12 : decode cX6_init 12 = .ok (.putfield 12, 3) := by decide +kernel
theorem dX6_init_15 : decode cX6_init 15 = .ok (.aload_n 0, 1) := by decide +kernel
theorem dX6_init_16 : decode cX6_init 16 = .ok (.new 9, 3) := by decide +kernel
theorem dX6_init_19 : decode cX6_init 19 = .ok (.dup, 1) := by decide +kernel
theorem dX6_init_20 : decode cX6_init 20 = .ok (.invokespecial 11, 3) := by decide +kernel
theorem dX6_init_23 : decode cX6_init 23 = .ok (.putfield 16, 3) := by decide +kernel
theorem dX6_init_26 : decode cX6_init 26 = .ok (.aload_n 0, 1) := by decide +kernel
theorem dX6_init_27 : decode cX6_init 27 = .ok (.new 19, 3) := by decide +kernel
theorem dX6_init_30 : decode cX6_init 30 = .ok (.dup, 1) := by decide +kernel
theorem dX6_init_31 : decode cX6_init 31 = .ok (.invokespecial 21, 3) := by decide +kernel
theorem dX6_init_34 : decode cX6_init 34 = .ok (.putfield 22, 3) := by decide +kernel
theorem dX6_init_37 : decode cX6_init 37 = .ok (.iload_n 1, 1) := by decide +kernel
theorem dX6_init_38 : decode cX6_init 38 = .ok (.invokestatic 26, 3) := by decide +kernel
theorem dX6_init_41 : decode cX6_init 41 = .ok (.istore_n 2, 1) := by decide +kernel
theorem dX6_init_42 : decode cX6_init 42 = .ok (.aload_n 0, 1) := by decide +kernel
theorem dX6_init_43 : decode cX6_init 43 = .ok (.sipush 360, 3) := by decide +kernel
theorem dX6_init_46 : decode cX6_init 46 = .ok (.iload_n 2, 1) := by decide +kernel
theorem dX6_init_47 : decode cX6_init 47 = .ok (.invokestatic 30, 3) := by decide +kernel
theorem dX6_init_50 : decode cX6_init 50 = .ok (.putfield 34, 3) := by decide +kernel
theorem dX6_init_53 : decode cX6_init 53 = .ok (.aload_n 0, 1) := by decide +kernel
theorem dX6_init_54 : decode cX6_init 54 = .ok (.iload_n 2, 1) := by decide +kernel
theorem dX6_init_55 : decode cX6_init 55 = .ok (.anewarray 38, 3) := by decide +kernel
theorem dX6_init_58 : decode cX6_init 58 = .ok (.putfield 40, 3) := by decide +kernel
theorem dX6_init_61 : decode cX6_init 61 = .ok (.iconst 0, 1) := by decide +kernel
theorem dX6_init_62 : decode cX6_init 62 = .ok (.istore_n 3, 1) := by decide +kernel
theorem dX6_init_63 : decode cX6_init 63 = .ok (.iload_n 3, 1) := by decide +kernel
theorem dX6_init_64 : decode cX6_init 64 = .ok (.iload_n 2, 1) := by decide +kernel
theorem dX6_init_65 : decode cX6_init 65 = .ok (.if_icmp .ge 22, 3) := by decide +kernel
theorem dX6_init_68 : decode cX6_init 68 = .ok (.aload_n 0, 1) := by decide +kernel
theorem dX6_init_69 : decode cX6_init 69 = .ok (.getfield 40, 3) := by decide +kernel
theorem dX6_init_72 : decode cX6_init 72 = .ok (.iload_n 3, 1) := by decide +kernel
theorem dX6_init_73 : decode cX6_init 73 = .ok (.new 38, 3) := by decide +kernel
theorem dX6_init_76 : decode cX6_init 76 = .ok (.dup, 1) := by decide +kernel
theorem dX6_init_77 : decode cX6_init 77 = .ok (.invokespecial 44, 3) := by decide +kernel
theorem dX6_init_80 : decode cX6_init 80 = .ok (.aastore, 1) := by decide +kernel
theorem dX6_init_81 : decode cX6_init 81 = .ok (.iinc 3 1, 3) := by decide +kernel
theorem dX6_init_84 : decode cX6_init 84 = .ok (.goto (-21), 3) := by decide +kernel
theorem dX6_init_87 : decode cX6_init 87 = .ok (.return_, 1) := by decide +kernel
theorem dX6_narrow_0 : decode cX6_narrow 0 = .ok (.iload_n 1, 1) := by decide +kernel
theorem dX6_narrow_1 : decode cX6_narrow 1 = .ok (.invokestatic 45, 3) := by decide +kernel
theorem dX6_narrow_4 : decode cX6_narrow 4 = .ok (.ifCond .eq 10, 3) := by decide +kernel
theorem dX6_narrow_7 : decode cX6_narrow 7 = .ok (.iload_n 1, 1) := by decide +kernel
theorem dX6_narrow_8 : decode cX6_narrow 8 = .ok (.invokestatic 49, 3) := by decide +kernel
theorem dX6_narrow_11 : decode cX6_narrow 11 = .ok (.goto 4, 3) := by decide +kernel
theorem dX6_narrow_14 : decode cX6_narrow 14 = .ok (.iconst (-1), 1) := by decide +kernel
theorem dX6_narrow_15 : decode cX6_narrow 15 = .ok (.ireturn, 1) := by decide +kernel
theorem dX6_across_0 : decode cX6_across 0 = .ok (.iload_n 1, 1) := by decide +kernel
theorem dX6_across_1 : decode cX6_across 1 = .ok (.aload_n 0, 1) := by decide +kernel
theorem dX6_across_2 : decode cX6_across 2 = .ok (.getfield 34, 3) := by decide +kernel
theorem dX6_across_5 : decode cX6_across 5 = .ok (.ineg, 1) := by decide +kernel
theorem dX6_across_6 : decode cX6_across 6 = .ok (.if_icmp .lt 22, 3) := by decide +kernel
theorem dX6_across_9 : decode cX6_across 9 = .ok (.iload_n 1, 1) := by decide +kernel
theorem dX6_across_10 : decode cX6_across 10 = .ok (.aload_n 0, 1) := by decide +kernel
theorem dX6_across_11 : decode cX6_across 11 = .ok (.getfield 34, 3) := by decide +kernel
theorem dX6_across_14 : decode cX6_across 14 = .ok (.if_icmp .gt 14, 3) := by decide +kernel
theorem dX6_across_17 : decode cX6_across 17 = .ok (.iload_n 2, 1) := by decide +kernel
theorem dX6_across_18 : decode cX6_across 18 = .ok (.invokestatic 45, 3) := by decide +kernel
theorem dX6_across_21 : decode cX6_across 21 = .ok (.ifCond .eq 7, 3) := by decide +kernel
theorem dX6_across_24 : decode cX6_across 24 = .ok (.iconst 1, 1) := by decide +kernel
theorem dX6_across_25 : decode cX6_across 25 = .ok (.goto 4, 3) := by decide +kernel
theorem dX6_across_28 : decode cX6_across 28 = .ok (.iconst 0, 1) := by decide +kernel
theorem dX6_across_29 : decode cX6_across 29 = .ok (.istore_n 3, 1) := by decide +kernel
theorem dX6_across_30 : decode cX6_across 30 = .ok (.iload_n 3, 1) := by decide +kernel
theorem dX6_across_31 : decode cX6_across 31 = .ok (.ifCond .eq 11, 3) := by decide +kernel
theorem dX6_across_34 : decode cX6_across 34 = .ok (.iload_n 1, 1) := by decide +kernel
theorem dX6_across_35 : decode cX6_across 35 = .ok (.iload_n 2, 1) := by decide +kernel
theorem dX6_across_36 : decode cX6_across 36 = .ok (.invokestatic 52, 3) := by decide +kernel
theorem dX6_across_39 : decode cX6_across 39 = .ok (.goto 5, 3) := by decide +kernel
theorem dX6_across_42 : decode cX6_across 42 = .ok (.ldc 55, 2) := by decide +kernel
theorem dX6_across_44 : decode cX6_across 44 = .ok (.ireturn, 1) := by decide +kernel
theorem dX6_coast_0 : decode cX6_coast 0 = .ok (.iload_n 1, 1) := by decide +kernel
theorem dX6_coast_1 : decode cX6_coast 1 = .ok (.iload_n 2, 1) := by decide +kernel
theorem dX6_coast_2 : decode cX6_coast 2 = .ok (.invokestatic 56, 3) := by decide +kernel
theorem dX6_coast_5 : decode cX6_coast 5 = .ok (.ifCond .eq 15, 3) := by decide +kernel
theorem dX6_coast_8 : decode cX6_coast 8 = .ok (.aload_n 0, 1) := by decide +kernel
theorem dX6_coast_9 : decode cX6_coast 9 = .ok (.getfield 12, 3) := by decide +kernel
theorem dX6_coast_12 : decode cX6_coast 12 = .ok (.invokevirtual 60, 3) := by decide +kernel
theorem dX6_coast_15 : decode cX6_coast 15 = .ok (.bipush 30, 2) := by decide +kernel
theorem dX6_coast_17 : decode cX6_coast 17 = .ok (.if_icmp .lt 5, 3) := by decide +kernel
theorem dX6_coast_20 : decode cX6_coast 20 = .ok (.iconst (-1), 1) := by decide +kernel
theorem dX6_coast_21 : decode cX6_coast 21 = .ok (.ireturn, 1) := by decide +kernel
theorem dX6_coast_22 : decode cX6_coast 22 = .ok (.aload_n 0, 1) := by decide +kernel
theorem dX6_coast_23 : decode cX6_coast 23 = .ok (.getfield 12, 3) := by decide +kernel
theorem dX6_coast_26 : decode cX6_coast 26 = .ok (.new 64, 3) := by decide +kernel
theorem dX6_coast_29 : decode cX6_coast 29 = .ok (.dup, 1) := by decide +kernel
theorem dX6_coast_30 : decode cX6_coast 30 = .ok (.iload_n 1, 1) := by decide +kernel
theorem dX6_coast_31 : decode cX6_coast 31 = .ok (.iload_n 2, 1) := by decide +kernel
theorem dX6_coast_32 : decode cX6_coast 32 = .ok (.invokespecial 66, 3) := by decide +kernel
theorem dX6_coast_35 : decode cX6_coast 35 = .ok (.invokevirtual 69, 3) := by decide +kernel
theorem dX6_coast_38 : decode cX6_coast 38 = .ok (.pop, 1) := by decide +kernel
theorem dX6_coast_39 : decode cX6_coast 39 = .ok (.aload_n 0, 1) := by decide +kernel
theorem dX6_coast_40 : decode cX6_coast 40 = .ok (.getfield 12, 3) := by decide +kernel
theorem dX6_coast_43 : decode cX6_coast 43 = .ok (.invokevirtual 60, 3) := by decide +kernel
theorem dX6_coast_46 : decode cX6_coast 46 = .ok (.iconst 1, 1) := by decide +kernel
theorem dX6_coast_47 : decode cX6_coast 47 = .ok (.isub, 1) := by decide +kernel
theorem dX6_coast_48 : decode cX6_coast 48 = .ok (.ireturn, 1) := by decide +kernel
theorem dX6_to_0 : decode cX6_to 0 = .ok (.aload_n 0, 1) := by decide +kernel
theorem dX6_to_1 : decode cX6_to 1 = .ok (.iload_n 1, 1) := by decide +kernel
theorem dX6_to_2 : decode cX6_to 2 = .ok (.invokevirtual 73, 3) := by decide +kernel
theorem dX6_to_5 : decode cX6_to 5 = .ok (.astore 4, 2) := by decide +kernel
theorem dX6_to_7 : decode cX6_to 7 = .ok (.aload 4, 2) := by decide +kernel
theorem dX6_to_9 : decode cX6_to 9 = .ok (.ifnull 21, 3) := by decide +kernel
theorem dX6_to_12 : decode cX6_to 12 = .ok (.iload_n 2, 1) := by decide +kernel
theorem dX6_to_13 : decode cX6_to 13 = .ok (.iload_n 3, 1) := by decide +kernel
theorem dX6_to_14 : decode cX6_to 14 = .ok (.invokestatic 56, 3) := by decide +kernel
theorem dX6_to_17 : decode cX6_to 17 = .ok (.ifCond .eq 13, 3) := by decide +kernel
theorem dX6_to_20 : decode cX6_to 20 = .ok (.aload 4, 2) := by decide +kernel
theorem dX6_to_22 : decode cX6_to 22 = .ok (.iload_n 2, 1) := by decide +kernel
theorem dX6_to_23 : decode cX6_to 23 = .ok (.iload_n 3, 1) := by decide +kernel
theorem dX6_to_24 : decode cX6_to 24 = .ok (.invokevirtual 77, 3) := by decide +kernel
theorem dX6_to_27 : decode cX6_to 27 = .ok (.ifCond .eq 5, 3) := by decide +kernel
theorem dX6_to_30 : decode cX6_to 30 = .ok (.iconst (-1), 1) := by decide +kernel
theorem dX6_to_31 : decode cX6_to 31 = .ok (.ireturn, 1) := by decide +kernel
theorem dX6_to_32 : decode cX6_to 32 = .ok (.new 80, 3) := by decide +kernel
theorem dX6_to_35 : decode cX6_to 35 = .ok (.dup, 1) := by decide +kernel
theorem dX6_to_36 : decode cX6_to 36 = .ok (.aload 4, 2) := by decide +kernel
theorem dX6_to_38 : decode cX6_to 38 = .ok (.iload_n 2, 1) := by decide +kernel
theorem dX6_to_39 : decode cX6_to 39 = .ok (.iload_n 3, 1) := by decide +kernel
theorem dX6_to_40 : decode cX6_to 40 = .ok (.invokespecial 82, 3) := by decide +kernel
theorem dX6_to_43 : decode cX6_to 43 = .ok (.astore 5, 2) := by decide +kernel
theorem dX6_to_45 : decode cX6_to 45 = .ok (.aload 5, 2) := by decide +kernel
theorem dX6_to_47 : decode cX6_to 47 = .ok (.getfield 85, 3) := by decide +kernel
theorem dX6_to_50 : decode cX6_to 50 = .ok (.sipush 180, 3) := by decide +kernel
theorem dX6_to_53 : decode cX6_to 53 = .ok (.if_icmp .ne 5, 3) := by decide +kernel
theorem dX6_to_56 : decode cX6_to 56 = .ok (.iconst (-1), 1) := by decide +kernel
theorem dX6_to_57 : decode cX6_to 57 = .ok (.ireturn, 1) := by decide +kernel
theorem dX6_to_58 : decode cX6_to 58 = .ok (.aload_n 0, 1) := by decide +kernel
theorem dX6_to_59 : decode cX6_to 59 = .ok (.aload 5, 2) := by decide +kernel
theorem dX6_to_61 : decode cX6_to 61 = .ok (.invokevirtual 88, 3) := by decide +kernel
theorem dX6_to_64 : decode cX6_to 64 = .ok (.istore 6, 2) := by decide +kernel
theorem dX6_to_66 : decode cX6_to 66 = .ok (.aload_n 0, 1) := by decide +kernel
theorem dX6_to_67 : decode cX6_to 67 = .ok (.getfield 92, 3) := by decide +kernel
theorem dX6_to_70 : decode cX6_to 70 = .ok (.iload 6, 2) := by decide +kernel
theorem dX6_to_72 : decode cX6_to 72 = .ok (.iadd, 1) := by decide +kernel
theorem dX6_to_73 : decode cX6_to 73 = .ok (.sipush 600, 3) := by decide +kernel
theorem dX6_to_76 : decode cX6_to 76 = .ok (.if_icmp .le 5, 3) := by decide +kernel
theorem dX6_to_79 : decode cX6_to 79 = .ok (.iconst (-1), 1) := by decide +kernel
theorem dX6_to_80 : decode cX6_to 80 = .ok (.ireturn, 1) := by decide +kernel
theorem dX6_to_81 : decode cX6_to 81 = .ok (.aload 5, 2) := by decide +kernel
theorem dX6_to_83 : decode cX6_to 83 = .ok (.getfield 85, 3) := by decide +kernel
theorem dX6_to_86 : decode cX6_to 86 = .ok (.ifCond .ne 13, 3) := by decide +kernel
theorem dX6_to_89 : decode cX6_to 89 = .ok (.aload_n 0, 1) := by decide +kernel
theorem dX6_to_90 : decode cX6_to 90 = .ok (.iload_n 1, 1) := by decide +kernel
theorem dX6_to_91 : decode cX6_to 91 = .ok (.aload 5, 2) := by decide +kernel
theorem dX6_to_93 : decode cX6_to 93 = .ok (.invokevirtual 95, 3) := by decide +kernel
theorem dX6_to_96 : decode cX6_to 96 = .ok (.goto 12, 3) := by decide +kernel
theorem dX6_to_99 : decode cX6_to 99 = .ok (.aload_n 0, 1) := by decide +kernel
theorem dX6_to_100 : decode cX6_to 100 = .ok (.iload_n 1, 1) := by decide +kernel
theorem dX6_to_101 : decode cX6_to 101 = .ok (.aload 5, 2) := by decide +kernel
theorem dX6_to_103 : decode cX6_to 103 = .ok (.iload 6, 2) := by decide +kernel
theorem dX6_to_105 : decode cX6_to 105 = .ok (.invokevirtual 99, 3) := by decide +kernel
theorem dX6_to_108 : decode cX6_to 108 = .ok (.aload 4, 2) := by decide +kernel
theorem dX6_to_110 : decode cX6_to 110 = .ok (.iload_n 2, 1) := by decide +kernel
theorem dX6_to_111 : decode cX6_to 111 = .ok (.putfield 103, 3) := by decide +kernel
theorem dX6_to_114 : decode cX6_to 114 = .ok (.aload 4, 2) := by decide +kernel
theorem dX6_to_116 : decode cX6_to 116 = .ok (.iload_n 3, 1) := by decide +kernel
theorem dX6_to_117 : decode cX6_to 117 = .ok (.putfield 106, 3) := by decide +kernel
theorem dX6_to_120 : decode cX6_to 120 = .ok (.iload 6, 2) := by decide +kernel
theorem dX6_to_122 : decode cX6_to 122 = .ok (.ireturn, 1) := by decide +kernel
theorem dX6_pieces_0 : decode cX6_pieces 0 = .ok (.aload_n 0, 1) := by decide +kernel
theorem dX6_pieces_1 : decode cX6_pieces 1 = .ok (.iload_n 1, 1) := by decide +kernel
theorem dX6_pieces_2 : decode cX6_pieces 2 = .ok (.invokevirtual 109, 3) := by decide +kernel
theorem dX6_pieces_5 : decode cX6_pieces 5 = .ok (.astore_n 2, 1) := by decide +kernel
theorem dX6_pieces_6 : decode cX6_pieces 6 = .ok (.aload_n 2, 1) := by decide +kernel
theorem dX6_pieces_7 : decode cX6_pieces 7 = .ok (.ifnonnull 7, 3) := by decide +kernel
theorem dX6_pieces_10 : decode cX6_pieces 10 = .ok (.iconst (-1), 1) := by decide +kernel
theorem dX6_pieces_11 : decode cX6_pieces 11 = .ok (.goto 10, 3) := by decide +kernel
theorem dX6_pieces_14 : decode cX6_pieces 14 = .ok (.aload_n 2, 1) := by decide +kernel
theorem dX6_pieces_15 : decode cX6_pieces 15 = .ok (.getfield 113, 3) := by decide +kernel
theorem dX6_pieces_18 : decode cX6_pieces 18 = .ok (.invokevirtual 60, 3) := by decide +kernel
theorem dX6_pieces_21 : decode cX6_pieces 21 = .ok (.ireturn, 1) := by decide +kernel
theorem dX6_piece_0 : decode cX6_piece 0 = .ok (.iload_n 3, 1) := by decide +kernel
theorem dX6_piece_1 : decode cX6_piece 1 = .ok (.ifCond .lt 8, 3) := by decide +kernel
theorem dX6_piece_4 : decode cX6_piece 4 = .ok (.iload_n 3, 1) := by decide +kernel
theorem dX6_piece_5 : decode cX6_piece 5 = .ok (.iconst 4, 1) := by decide +kernel
theorem dX6_piece_6 : decode cX6_piece 6 = .ok (.if_icmp .le 5, 3) := by decide +kernel
theorem dX6_piece_9 : decode cX6_piece 9 = .ok (.iconst (-1), 1) := by decide +kernel
theorem dX6_piece_10 : decode cX6_piece 10 = .ok (.ireturn, 1) := by decide +kernel
theorem dX6_piece_11 : decode cX6_piece 11 = .ok (.aload_n 0, 1) := by decide +kernel
theorem dX6_piece_12 : decode cX6_piece 12 = .ok (.iload_n 1, 1) := by decide +kernel
theorem dX6_piece_13 : decode cX6_piece 13 = .ok (.invokevirtual 109, 3) := by decide +kernel
theorem dX6_piece_16 : decode cX6_piece 16 = .ok (.astore 4, 2) := by decide +kernel
theorem dX6_piece_18 : decode cX6_piece 18 = .ok (.aload 4, 2) := by decide +kernel
theorem dX6_piece_20 : decode cX6_piece 20 = .ok (.ifnull 19, 3) := by decide +kernel
theorem dX6_piece_23 : decode cX6_piece 23 = .ok (.iload_n 2, 1) := by decide +kernel
theorem dX6_piece_24 : decode cX6_piece 24 = .ok (.ifCond .lt 15, 3) := by decide +kernel
theorem dX6_piece_27 : decode cX6_piece 27 = .ok (.iload_n 2, 1) := by decide +kernel
theorem dX6_piece_28 : decode cX6_piece 28 = .ok (.aload 4, 2) := by decide +kernel
theorem dX6_piece_30 : decode cX6_piece 30 = .ok (.getfield 113, 3) := by decide +kernel
theorem dX6_piece_33 : decode cX6_piece 33 = .ok (.invokevirtual 60, 3) := by decide +kernel
theorem dX6_piece_36 : decode cX6_piece 36 = .ok (.if_icmp .lt 14, 3) := by decide +kernel
theorem dX6_piece_39 : decode cX6_piece 39 = .ok (.iload_n 3, 1) := by decide +kernel
theorem dX6_piece_40 : decode cX6_piece 40 = .ok (.ifCond .ne 7, 3) := by decide +kernel
theorem dX6_piece_43 : decode cX6_piece 43 = .ok (.iconst (-1), 1) := by decide +kernel
theorem dX6_piece_44 : decode cX6_piece 44 = .ok (.goto 5, 3) := by decide +kernel
theorem dX6_piece_47 : decode cX6_piece 47 = .ok (.ldc 55, 2) := by decide +kernel
theorem dX6_piece_49 : decode cX6_piece 49 = .ok (.ireturn, 1) := by decide +kernel
theorem dX6_piece_50 : decode cX6_piece 50 = .ok (.aload 4, 2) := by decide +kernel
theorem dX6_piece_52 : decode cX6_piece 52 = .ok (.getfield 113, 3) := by decide +kernel
theorem dX6_piece_55 : decode cX6_piece 55 = .ok (.iload_n 2, 1) := by decide +kernel
theorem dX6_piece_56 : decode cX6_piece 56 = .ok (.invokevirtual 116, 3) := by decide +kernel
theorem dX6_piece_59 : decode cX6_piece 59 = .ok (.checkcast 120, 3) := by decide +kernel
theorem dX6_piece_62 : decode cX6_piece 62 = .ok (.astore 5, 2) := by decide +kernel
theorem dX6_piece_64 : decode cX6_piece 64 = .ok (.iload_n 3, 1) := by decide +kernel
theorem dX6_piece_65 : decode cX6_piece 65 = .ok (.tableswitch 55 0 3 #[31, 37, 43, 49], 31) := by decide +kernel
theorem dX6_piece_96 : decode cX6_piece 96 = .ok (.aload 5, 2) := by decide +kernel
theorem dX6_piece_98 : decode cX6_piece 98 = .ok (.getfield 122, 3) := by decide +kernel
theorem dX6_piece_101 : decode cX6_piece 101 = .ok (.ireturn, 1) := by decide +kernel
theorem dX6_piece_102 : decode cX6_piece 102 = .ok (.aload 5, 2) := by decide +kernel
theorem dX6_piece_104 : decode cX6_piece 104 = .ok (.getfield 125, 3) := by decide +kernel
theorem dX6_piece_107 : decode cX6_piece 107 = .ok (.ireturn, 1) := by decide +kernel
theorem dX6_piece_108 : decode cX6_piece 108 = .ok (.aload 5, 2) := by decide +kernel
theorem dX6_piece_110 : decode cX6_piece 110 = .ok (.getfield 128, 3) := by decide +kernel
theorem dX6_piece_113 : decode cX6_piece 113 = .ok (.ireturn, 1) := by decide +kernel
theorem dX6_piece_114 : decode cX6_piece 114 = .ok (.aload 5, 2) := by decide +kernel
theorem dX6_piece_116 : decode cX6_piece 116 = .ok (.getfield 131, 3) := by decide +kernel
theorem dX6_piece_119 : decode cX6_piece 119 = .ok (.ireturn, 1) := by decide +kernel
theorem dX6_piece_120 : decode cX6_piece 120 = .ok (.aload 5, 2) := by decide +kernel
theorem dX6_piece_122 : decode cX6_piece 122 = .ok (.getfield 134, 3) := by decide +kernel
theorem dX6_piece_125 : decode cX6_piece 125 = .ok (.ireturn, 1) := by decide +kernel
theorem dX6_paper_0 : decode cX6_paper 0 = .ok (.iload_n 1, 1) := by decide +kernel
theorem dX6_paper_1 : decode cX6_paper 1 = .ok (.invokestatic 137, 3) := by decide +kernel
theorem dX6_paper_4 : decode cX6_paper 4 = .ok (.ifCond .eq 10, 3) := by decide +kernel
theorem dX6_paper_7 : decode cX6_paper 7 = .ok (.iload_n 2, 1) := by decide +kernel
theorem dX6_paper_8 : decode cX6_paper 8 = .ok (.invokestatic 137, 3) := by decide +kernel
theorem dX6_paper_11 : decode cX6_paper 11 = .ok (.ifCond .ne 5, 3) := by decide +kernel
theorem dX6_paper_14 : decode cX6_paper 14 = .ok (.iconst 0, 1) := by decide +kernel
theorem dX6_paper_15 : decode cX6_paper 15 = .ok (.ireturn, 1) := by decide +kernel
theorem dX6_paper_16 : decode cX6_paper 16 = .ok (.iload_n 1, 1) := by decide +kernel
theorem dX6_paper_17 : decode cX6_paper 17 = .ok (.aload_n 0, 1) := by decide +kernel
theorem dX6_paper_18 : decode cX6_paper 18 = .ok (.getfield 140, 3) := by decide +kernel
theorem dX6_paper_21 : decode cX6_paper 21 = .ok (.if_icmp .ne 13, 3) := by decide +kernel
theorem dX6_paper_24 : decode cX6_paper 24 = .ok (.iload_n 2, 1) := by decide +kernel
theorem dX6_paper_25 : decode cX6_paper 25 = .ok (.aload_n 0, 1) := by decide +kernel
theorem dX6_paper_26 : decode cX6_paper 26 = .ok (.getfield 143, 3) := by decide +kernel
theorem dX6_paper_29 : decode cX6_paper 29 = .ok (.if_icmp .ne 5, 3) := by decide +kernel
theorem dX6_paper_32 : decode cX6_paper 32 = .ok (.iconst 0, 1) := by decide +kernel
theorem dX6_paper_33 : decode cX6_paper 33 = .ok (.ireturn, 1) := by decide +kernel
theorem dX6_paper_34 : decode cX6_paper 34 = .ok (.aload_n 0, 1) := by decide +kernel
theorem dX6_paper_35 : decode cX6_paper 35 = .ok (.iload_n 1, 1) := by decide +kernel
theorem dX6_paper_36 : decode cX6_paper 36 = .ok (.putfield 140, 3) := by decide +kernel
theorem dX6_paper_39 : decode cX6_paper 39 = .ok (.aload_n 0, 1) := by decide +kernel
theorem dX6_paper_40 : decode cX6_paper 40 = .ok (.iload_n 2, 1) := by decide +kernel
theorem dX6_paper_41 : decode cX6_paper 41 = .ok (.putfield 143, 3) := by decide +kernel
theorem dX6_paper_44 : decode cX6_paper 44 = .ok (.aload_n 0, 1) := by decide +kernel
theorem dX6_paper_45 : decode cX6_paper 45 = .ok (.getfield 40, 3) := by decide +kernel
theorem dX6_paper_48 : decode cX6_paper 48 = .ok (.astore_n 3, 1) := by decide +kernel
theorem dX6_paper_49 : decode cX6_paper 49 = .ok (.aload_n 3, 1) := by decide +kernel
theorem dX6_paper_50 : decode cX6_paper 50 = .ok (.arraylength, 1) := by decide +kernel
theorem dX6_paper_51 : decode cX6_paper 51 = .ok (.istore 4, 2) := by decide +kernel
theorem dX6_paper_53 : decode cX6_paper 53 = .ok (.iconst 0, 1) := by decide +kernel
theorem dX6_paper_54 : decode cX6_paper 54 = .ok (.istore 5, 2) := by decide +kernel
theorem dX6_paper_56 : decode cX6_paper 56 = .ok (.iload 5, 2) := by decide +kernel
theorem dX6_paper_58 : decode cX6_paper 58 = .ok (.iload 4, 2) := by decide +kernel
theorem dX6_paper_60 : decode cX6_paper 60 = .ok (.if_icmp .ge 21, 3) := by decide +kernel
theorem dX6_paper_63 : decode cX6_paper 63 = .ok (.aload_n 3, 1) := by decide +kernel
theorem dX6_paper_64 : decode cX6_paper 64 = .ok (.iload 5, 2) := by decide +kernel
theorem dX6_paper_66 : decode cX6_paper 66 = .ok (.aaload, 1) := by decide +kernel
theorem dX6_paper_67 : decode cX6_paper 67 = .ok (.astore 6, 2) := by decide +kernel
theorem dX6_paper_69 : decode cX6_paper 69 = .ok (.aload 6, 2) := by decide +kernel
theorem dX6_paper_71 : decode cX6_paper 71 = .ok (.iconst 1, 1) := by decide +kernel
theorem dX6_paper_72 : decode cX6_paper 72 = .ok (.putfield 146, 3) := by decide +kernel
theorem dX6_paper_75 : decode cX6_paper 75 = .ok (.iinc 5 1, 3) := by decide +kernel
theorem dX6_paper_78 : decode cX6_paper 78 = .ok (.goto (-22), 3) := by decide +kernel
theorem dX6_paper_81 : decode cX6_paper 81 = .ok (.iconst 1, 1) := by decide +kernel
theorem dX6_paper_82 : decode cX6_paper 82 = .ok (.ireturn, 1) := by decide +kernel
theorem dX6_drawn_0 : decode cX6_drawn 0 = .ok (.iload_n 1, 1) := by decide +kernel
theorem dX6_drawn_1 : decode cX6_drawn 1 = .ok (.iload_n 2, 1) := by decide +kernel
theorem dX6_drawn_2 : decode cX6_drawn 2 = .ok (.invokestatic 150, 3) := by decide +kernel
theorem dX6_drawn_5 : decode cX6_drawn 5 = .ok (.ifCond .eq 19, 3) := by decide +kernel
theorem dX6_drawn_8 : decode cX6_drawn 8 = .ok (.iload_n 1, 1) := by decide +kernel
theorem dX6_drawn_9 : decode cX6_drawn 9 = .ok (.sipush 1000, 3) := by decide +kernel
theorem dX6_drawn_12 : decode cX6_drawn 12 = .ok (.imul, 1) := by decide +kernel
theorem dX6_drawn_13 : decode cX6_drawn 13 = .ok (.aload_n 0, 1) := by decide +kernel
theorem dX6_drawn_14 : decode cX6_drawn 14 = .ok (.iload_n 2, 1) := by decide +kernel
theorem dX6_drawn_15 : decode cX6_drawn 15 = .ok (.invokevirtual 153, 3) := by decide +kernel
theorem dX6_drawn_18 : decode cX6_drawn 18 = .ok (.invokestatic 156, 3) := by decide +kernel
theorem dX6_drawn_21 : decode cX6_drawn 21 = .ok (.goto 4, 3) := by decide +kernel
theorem dX6_drawn_24 : decode cX6_drawn 24 = .ok (.iconst (-1), 1) := by decide +kernel
theorem dX6_drawn_25 : decode cX6_drawn 25 = .ok (.ireturn, 1) := by decide +kernel
theorem dX6_wet_0 : decode cX6_wet 0 = .ok (.iload_n 1, 1) := by decide +kernel
theorem dX6_wet_1 : decode cX6_wet 1 = .ok (.iload_n 2, 1) := by decide +kernel
theorem dX6_wet_2 : decode cX6_wet 2 = .ok (.invokestatic 150, 3) := by decide +kernel
theorem dX6_wet_5 : decode cX6_wet 5 = .ok (.ifCond .eq 19, 3) := by decide +kernel
theorem dX6_wet_8 : decode cX6_wet 8 = .ok (.iload_n 1, 1) := by decide +kernel
theorem dX6_wet_9 : decode cX6_wet 9 = .ok (.aload_n 0, 1) := by decide +kernel
theorem dX6_wet_10 : decode cX6_wet 10 = .ok (.iload_n 2, 1) := by decide +kernel
theorem dX6_wet_11 : decode cX6_wet 11 = .ok (.invokevirtual 153, 3) := by decide +kernel
theorem dX6_wet_14 : decode cX6_wet 14 = .ok (.imul, 1) := by decide +kernel
theorem dX6_wet_15 : decode cX6_wet 15 = .ok (.sipush 1000, 3) := by decide +kernel
theorem dX6_wet_18 : decode cX6_wet 18 = .ok (.invokestatic 156, 3) := by decide +kernel
theorem dX6_wet_21 : decode cX6_wet 21 = .ok (.goto 4, 3) := by decide +kernel
theorem dX6_wet_24 : decode cX6_wet 24 = .ok (.iconst (-1), 1) := by decide +kernel
theorem dX6_wet_25 : decode cX6_wet 25 = .ok (.ireturn, 1) := by decide +kernel
theorem dX6_name_0 : decode cX6_name 0 = .ok (.iload_n 1, 1) := by decide +kernel
theorem dX6_name_1 : decode cX6_name 1 = .ok (.iload_n 2, 1) := by decide +kernel
theorem dX6_name_2 : decode cX6_name 2 = .ok (.invokestatic 56, 3) := by decide +kernel
theorem dX6_name_5 : decode cX6_name 5 = .ok (.ifCond .eq 39, 3) := by decide +kernel
theorem dX6_name_8 : decode cX6_name 8 = .ok (.iload_n 3, 1) := by decide +kernel
theorem dX6_name_9 : decode cX6_name 9 = .ok (.iconst 1, 1) := by decide +kernel
theorem dX6_name_10 : decode cX6_name 10 = .ok (.if_icmp .lt 34, 3) := by decide +kernel
theorem dX6_name_13 : decode cX6_name 13 = .ok (.iload_n 3, 1) := by decide +kernel
theorem dX6_name_14 : decode cX6_name 14 = .ok (.bipush 20, 2) := by decide +kernel
theorem dX6_name_16 : decode cX6_name 16 = .ok (.if_icmp .gt 28, 3) := by decide +kernel
theorem dX6_name_19 : decode cX6_name 19 = .ok (.iload 4, 2) := by decide +kernel
theorem dX6_name_21 : decode cX6_name 21 = .ok (.iconst 1, 1) := by decide +kernel
theorem dX6_name_22 : decode cX6_name 22 = .ok (.if_icmp .lt 22, 3) := by decide +kernel
theorem dX6_name_25 : decode cX6_name 25 = .ok (.iload 4, 2) := by decide +kernel
theorem dX6_name_27 : decode cX6_name 27 = .ok (.bipush 99, 2) := by decide +kernel
theorem dX6_name_29 : decode cX6_name 29 = .ok (.if_icmp .gt 15, 3) := by decide +kernel
theorem dX6_name_32 : decode cX6_name 32 = .ok (.aload_n 0, 1) := by decide +kernel
theorem dX6_name_33 : decode cX6_name 33 = .ok (.getfield 16, 3) := by decide +kernel
theorem dX6_name_36 : decode cX6_name 36 = .ok (.invokevirtual 60, 3) := by decide +kernel
theorem dX6_name_39 : decode cX6_name 39 = .ok (.bipush 60, 2) := by decide +kernel
theorem dX6_name_41 : decode cX6_name 41 = .ok (.if_icmp .lt 5, 3) := by decide +kernel
theorem dX6_name_44 : decode cX6_name 44 = .ok (.iconst (-1), 1) := by decide +kernel
theorem dX6_name_45 : decode cX6_name 45 = .ok (.ireturn, 1) := by decide +kernel
theorem dX6_name_46 : decode cX6_name 46 = .ok (.iload_n 1, 1) := by decide +kernel
theorem dX6_name_47 : decode cX6_name 47 = .ok (.aload_n 0, 1) := by decide +kernel
theorem dX6_name_48 : decode cX6_name 48 = .ok (.getfield 34, 3) := by decide +kernel
theorem dX6_name_51 : decode cX6_name 51 = .ok (.invokestatic 30, 3) := by decide +kernel
theorem dX6_name_54 : decode cX6_name 54 = .ok (.istore 5, 2) := by decide +kernel
theorem dX6_name_56 : decode cX6_name 56 = .ok (.aload_n 0, 1) := by decide +kernel
theorem dX6_name_57 : decode cX6_name 57 = .ok (.iload 5, 2) := by decide +kernel
theorem dX6_name_59 : decode cX6_name 59 = .ok (.invokevirtual 109, 3) := by decide +kernel
theorem dX6_name_62 : decode cX6_name 62 = .ok (.astore 6, 2) := by decide +kernel
theorem dX6_name_64 : decode cX6_name 64 = .ok (.aload 6, 2) := by decide +kernel
theorem dX6_name_66 : decode cX6_name 66 = .ok (.ifnull 16, 3) := by decide +kernel
theorem dX6_name_69 : decode cX6_name 69 = .ok (.aload 6, 2) := by decide +kernel
theorem dX6_name_71 : decode cX6_name 71 = .ok (.getfield 159, 3) := by decide +kernel
theorem dX6_name_74 : decode cX6_name 74 = .ok (.invokevirtual 60, 3) := by decide +kernel
theorem dX6_name_77 : decode cX6_name 77 = .ok (.bipush 6, 2) := by decide +kernel
theorem dX6_name_79 : decode cX6_name 79 = .ok (.if_icmp .lt 5, 3) := by decide +kernel
theorem dX6_name_82 : decode cX6_name 82 = .ok (.iconst (-1), 1) := by decide +kernel
theorem dX6_name_83 : decode cX6_name 83 = .ok (.ireturn, 1) := by decide +kernel
theorem dX6_name_84 : decode cX6_name 84 = .ok (.aload_n 0, 1) := by decide +kernel
theorem dX6_name_85 : decode cX6_name 85 = .ok (.iload_n 1, 1) := by decide +kernel
theorem dX6_name_86 : decode cX6_name 86 = .ok (.iload 5, 2) := by decide +kernel
theorem dX6_name_88 : decode cX6_name 88 = .ok (.invokevirtual 160, 3) := by decide +kernel
theorem dX6_name_91 : decode cX6_name 91 = .ok (.istore 7, 2) := by decide +kernel
theorem dX6_name_93 : decode cX6_name 93 = .ok (.iload_n 2, 1) := by decide +kernel
theorem dX6_name_94 : decode cX6_name 94 = .ok (.bipush 60, 2) := by decide +kernel
theorem dX6_name_96 : decode cX6_name 96 = .ok (.imul, 1) := by decide +kernel
theorem dX6_name_97 : decode cX6_name 97 = .ok (.istore 8, 2) := by decide +kernel
theorem dX6_name_99 : decode cX6_name 99 = .ok (.new 163, 3) := by decide +kernel
theorem dX6_name_102 : decode cX6_name 102 = .ok (.dup, 1) := by decide +kernel
theorem dX6_name_103 : decode cX6_name 103 = .ok (.iload 5, 2) := by decide +kernel
theorem dX6_name_105 : decode cX6_name 105 = .ok (.iload 7, 2) := by decide +kernel
theorem dX6_name_107 : decode cX6_name 107 = .ok (.iload 8, 2) := by decide +kernel
theorem dX6_name_109 : decode cX6_name 109 = .ok (.iload 7, 2) := by decide +kernel
theorem dX6_name_111 : decode cX6_name 111 = .ok (.iload 8, 2) := by decide +kernel
theorem dX6_name_113 : decode cX6_name 113 = .ok (.invokestatic 52, 3) := by decide +kernel
theorem dX6_name_116 : decode cX6_name 116 = .ok (.iload_n 3, 1) := by decide +kernel
theorem dX6_name_117 : decode cX6_name 117 = .ok (.iload 4, 2) := by decide +kernel
theorem dX6_name_119 : decode cX6_name 119 = .ok (.invokespecial 165, 3) := by decide +kernel
theorem dX6_name_122 : decode cX6_name 122 = .ok (.astore 9, 2) := by decide +kernel
theorem dX6_name_124 : decode cX6_name 124 = .ok (.aload 9, 2) := by decide +kernel
theorem dX6_name_126 : decode cX6_name 126 = .ok (.aload_n 0, 1) := by decide +kernel
theorem dX6_name_127 : decode cX6_name 127 = .ok (.aload 9, 2) := by decide +kernel
theorem dX6_name_129 : decode cX6_name 129 = .ok (.invokevirtual 168, 3) := by decide +kernel
theorem dX6_name_132 : decode cX6_name 132 = .ok (.putfield 172, 3) := by decide +kernel
theorem dX6_name_135 : decode cX6_name 135 = .ok (.aload_n 0, 1) := by decide +kernel
theorem dX6_name_136 : decode cX6_name 136 = .ok (.getfield 16, 3) := by decide +kernel
theorem dX6_name_139 : decode cX6_name 139 = .ok (.aload 9, 2) := by decide +kernel
theorem dX6_name_141 : decode cX6_name 141 = .ok (.invokevirtual 69, 3) := by decide +kernel
theorem dX6_name_144 : decode cX6_name 144 = .ok (.pop, 1) := by decide +kernel
theorem dX6_name_145 : decode cX6_name 145 = .ok (.aload 6, 2) := by decide +kernel
theorem dX6_name_147 : decode cX6_name 147 = .ok (.getfield 159, 3) := by decide +kernel
theorem dX6_name_150 : decode cX6_name 150 = .ok (.aload 9, 2) := by decide +kernel
theorem dX6_name_152 : decode cX6_name 152 = .ok (.invokevirtual 69, 3) := by decide +kernel
theorem dX6_name_155 : decode cX6_name 155 = .ok (.pop, 1) := by decide +kernel
theorem dX6_name_156 : decode cX6_name 156 = .ok (.aload_n 0, 1) := by decide +kernel
theorem dX6_name_157 : decode cX6_name 157 = .ok (.aload 6, 2) := by decide +kernel
theorem dX6_name_159 : decode cX6_name 159 = .ok (.invokevirtual 175, 3) := by decide +kernel
theorem dX6_name_162 : decode cX6_name 162 = .ok (.aload_n 0, 1) := by decide +kernel
theorem dX6_name_163 : decode cX6_name 163 = .ok (.getfield 16, 3) := by decide +kernel
theorem dX6_name_166 : decode cX6_name 166 = .ok (.invokevirtual 60, 3) := by decide +kernel
theorem dX6_name_169 : decode cX6_name 169 = .ok (.iconst 1, 1) := by decide +kernel
theorem dX6_name_170 : decode cX6_name 170 = .ok (.isub, 1) := by decide +kernel
theorem dX6_name_171 : decode cX6_name 171 = .ok (.ireturn, 1) := by decide +kernel
theorem dX6_strike_0 : decode cX6_strike 0 = .ok (.aload_n 0, 1) := by decide +kernel
theorem dX6_strike_1 : decode cX6_strike 1 = .ok (.iload_n 1, 1) := by decide +kernel
theorem dX6_strike_2 : decode cX6_strike 2 = .ok (.invokevirtual 179, 3) := by decide +kernel
theorem dX6_strike_5 : decode cX6_strike 5 = .ok (.astore_n 2, 1) := by decide +kernel
theorem dX6_strike_6 : decode cX6_strike 6 = .ok (.aload_n 2, 1) := by decide +kernel
theorem dX6_strike_7 : decode cX6_strike 7 = .ok (.ifnonnull 5, 3) := by decide +kernel
theorem dX6_strike_10 : decode cX6_strike 10 = .ok (.iconst 0, 1) := by decide +kernel
theorem dX6_strike_11 : decode cX6_strike 11 = .ok (.ireturn, 1) := by decide +kernel
theorem dX6_strike_12 : decode cX6_strike 12 = .ok (.aload_n 2, 1) := by decide +kernel
theorem dX6_strike_13 : decode cX6_strike 13 = .ok (.iconst 1, 1) := by decide +kernel
theorem dX6_strike_14 : decode cX6_strike 14 = .ok (.putfield 183, 3) := by decide +kernel
theorem dX6_strike_17 : decode cX6_strike 17 = .ok (.aload_n 0, 1) := by decide +kernel
theorem dX6_strike_18 : decode cX6_strike 18 = .ok (.aload_n 2, 1) := by decide +kernel
theorem dX6_strike_19 : decode cX6_strike 19 = .ok (.getfield 186, 3) := by decide +kernel
theorem dX6_strike_22 : decode cX6_strike 22 = .ok (.invokevirtual 109, 3) := by decide +kernel
theorem dX6_strike_25 : decode cX6_strike 25 = .ok (.astore_n 3, 1) := by decide +kernel
theorem dX6_strike_26 : decode cX6_strike 26 = .ok (.aload_n 3, 1) := by decide +kernel
theorem dX6_strike_27 : decode cX6_strike 27 = .ok (.ifnull 13, 3) := by decide +kernel
theorem dX6_strike_30 : decode cX6_strike 30 = .ok (.aload_n 3, 1) := by decide +kernel
theorem dX6_strike_31 : decode cX6_strike 31 = .ok (.aload_n 2, 1) := by decide +kernel
theorem dX6_strike_32 : decode cX6_strike 32 = .ok (.invokevirtual 189, 3) := by decide +kernel
theorem dX6_strike_35 : decode cX6_strike 35 = .ok (.aload_n 0, 1) := by decide +kernel
theorem dX6_strike_36 : decode cX6_strike 36 = .ok (.aload_n 3, 1) := by decide +kernel
theorem dX6_strike_37 : decode cX6_strike 37 = .ok (.invokevirtual 175, 3) := by decide +kernel
theorem dX6_strike_40 : decode cX6_strike 40 = .ok (.iconst 1, 1) := by decide +kernel
theorem dX6_strike_41 : decode cX6_strike 41 = .ok (.ireturn, 1) := by decide +kernel
theorem dX6_may_0 : decode cX6_may 0 = .ok (.aload_n 0, 1) := by decide +kernel
theorem dX6_may_1 : decode cX6_may 1 = .ok (.iload_n 1, 1) := by decide +kernel
theorem dX6_may_2 : decode cX6_may 2 = .ok (.invokevirtual 179, 3) := by decide +kernel
theorem dX6_may_5 : decode cX6_may 5 = .ok (.astore_n 3, 1) := by decide +kernel
theorem dX6_may_6 : decode cX6_may 6 = .ok (.aload_n 3, 1) := by decide +kernel
theorem dX6_may_7 : decode cX6_may 7 = .ok (.ifnull 15, 3) := by decide +kernel
theorem dX6_may_10 : decode cX6_may 10 = .ok (.aload_n 3, 1) := by decide +kernel
theorem dX6_may_11 : decode cX6_may 11 = .ok (.iload_n 2, 1) := by decide +kernel
theorem dX6_may_12 : decode cX6_may 12 = .ok (.invokevirtual 193, 3) := by decide +kernel
theorem dX6_may_15 : decode cX6_may 15 = .ok (.ifCond .eq 7, 3) := by decide +kernel
theorem dX6_may_18 : decode cX6_may 18 = .ok (.iconst 1, 1) := by decide +kernel
theorem dX6_may_19 : decode cX6_may 19 = .ok (.goto 4, 3) := by decide +kernel
theorem dX6_may_22 : decode cX6_may 22 = .ok (.iconst 0, 1) := by decide +kernel
theorem dX6_may_23 : decode cX6_may 23 = .ok (.ireturn, 1) := by decide +kernel
theorem dX6_set_0 : decode cX6_set 0 = .ok (.aload_n 0, 1) := by decide +kernel
theorem dX6_set_1 : decode cX6_set 1 = .ok (.iload_n 1, 1) := by decide +kernel
theorem dX6_set_2 : decode cX6_set 2 = .ok (.invokevirtual 179, 3) := by decide +kernel
theorem dX6_set_5 : decode cX6_set 5 = .ok (.astore_n 2, 1) := by decide +kernel
theorem dX6_set_6 : decode cX6_set 6 = .ok (.aload_n 2, 1) := by decide +kernel
theorem dX6_set_7 : decode cX6_set 7 = .ok (.ifnonnull 7, 3) := by decide +kernel
theorem dX6_set_10 : decode cX6_set 10 = .ok (.iconst (-1), 1) := by decide +kernel
theorem dX6_set_11 : decode cX6_set 11 = .ok (.goto 7, 3) := by decide +kernel
theorem dX6_set_14 : decode cX6_set 14 = .ok (.aload_n 2, 1) := by decide +kernel
theorem dX6_set_15 : decode cX6_set 15 = .ok (.getfield 196, 3) := by decide +kernel
theorem dX6_set_18 : decode cX6_set 18 = .ok (.ireturn, 1) := by decide +kernel
theorem dX6_cost_0 : decode cX6_cost 0 = .ok (.aload_n 0, 1) := by decide +kernel
theorem dX6_cost_1 : decode cX6_cost 1 = .ok (.iload_n 1, 1) := by decide +kernel
theorem dX6_cost_2 : decode cX6_cost 2 = .ok (.invokevirtual 109, 3) := by decide +kernel
theorem dX6_cost_5 : decode cX6_cost 5 = .ok (.astore_n 2, 1) := by decide +kernel
theorem dX6_cost_6 : decode cX6_cost 6 = .ok (.aload_n 2, 1) := by decide +kernel
theorem dX6_cost_7 : decode cX6_cost 7 = .ok (.ifnonnull 7, 3) := by decide +kernel
theorem dX6_cost_10 : decode cX6_cost 10 = .ok (.iconst (-1), 1) := by decide +kernel
theorem dX6_cost_11 : decode cX6_cost 11 = .ok (.goto 7, 3) := by decide +kernel
theorem dX6_cost_14 : decode cX6_cost 14 = .ok (.aload_n 2, 1) := by decide +kernel
theorem dX6_cost_15 : decode cX6_cost 15 = .ok (.getfield 199, 3) := by decide +kernel
theorem dX6_cost_18 : decode cX6_cost 18 = .ok (.ireturn, 1) := by decide +kernel
theorem dX6_told_0 : decode cX6_told 0 = .ok (.aload_n 0, 1) := by decide +kernel
theorem dX6_told_1 : decode cX6_told 1 = .ok (.iload_n 1, 1) := by decide +kernel
theorem dX6_told_2 : decode cX6_told 2 = .ok (.invokevirtual 179, 3) := by decide +kernel
theorem dX6_told_5 : decode cX6_told 5 = .ok (.astore_n 3, 1) := by decide +kernel
theorem dX6_told_6 : decode cX6_told 6 = .ok (.aload_n 3, 1) := by decide +kernel
theorem dX6_told_7 : decode cX6_told 7 = .ok (.ifnonnull 6, 3) := by decide +kernel
theorem dX6_told_10 : decode cX6_told 10 = .ok (.ldc 55, 2) := by decide +kernel
theorem dX6_told_12 : decode cX6_told 12 = .ok (.ireturn, 1) := by decide +kernel
theorem dX6_told_13 : decode cX6_told 13 = .ok (.iload_n 2, 1) := by decide +kernel
theorem dX6_told_14 : decode cX6_told 14 = .ok (.tableswitch 59 0 4 #[34, 39, 44, 49, 54], 34) := by decide +kernel
theorem dX6_told_48 : decode cX6_told 48 = .ok (.aload_n 3, 1) := by decide +kernel
theorem dX6_told_49 : decode cX6_told 49 = .ok (.getfield 186, 3) := by decide +kernel
theorem dX6_told_52 : decode cX6_told 52 = .ok (.ireturn, 1) := by decide +kernel
theorem dX6_told_53 : decode cX6_told 53 = .ok (.aload_n 3, 1) := by decide +kernel
theorem dX6_told_54 : decode cX6_told 54 = .ok (.getfield 202, 3) := by decide +kernel
theorem dX6_told_57 : decode cX6_told 57 = .ok (.ireturn, 1) := by decide +kernel
theorem dX6_told_58 : decode cX6_told 58 = .ok (.aload_n 3, 1) := by decide +kernel
theorem dX6_told_59 : decode cX6_told 59 = .ok (.getfield 205, 3) := by decide +kernel
theorem dX6_told_62 : decode cX6_told 62 = .ok (.ireturn, 1) := by decide +kernel
theorem dX6_told_63 : decode cX6_told 63 = .ok (.aload_n 3, 1) := by decide +kernel
theorem dX6_told_64 : decode cX6_told 64 = .ok (.getfield 208, 3) := by decide +kernel
theorem dX6_told_67 : decode cX6_told 67 = .ok (.ireturn, 1) := by decide +kernel
theorem dX6_told_68 : decode cX6_told 68 = .ok (.aload_n 3, 1) := by decide +kernel
theorem dX6_told_69 : decode cX6_told 69 = .ok (.getfield 211, 3) := by decide +kernel
theorem dX6_told_72 : decode cX6_told 72 = .ok (.ireturn, 1) := by decide +kernel
theorem dX6_told_73 : decode cX6_told 73 = .ok (.ldc 55, 2) := by decide +kernel
theorem dX6_told_75 : decode cX6_told 75 = .ok (.ireturn, 1) := by decide +kernel
theorem dX6_fresh_0 : decode cX6_fresh 0 = .ok (.aload_n 0, 1) := by decide +kernel
theorem dX6_fresh_1 : decode cX6_fresh 1 = .ok (.iload_n 1, 1) := by decide +kernel
theorem dX6_fresh_2 : decode cX6_fresh 2 = .ok (.invokevirtual 109, 3) := by decide +kernel
theorem dX6_fresh_5 : decode cX6_fresh 5 = .ok (.astore_n 2, 1) := by decide +kernel
theorem dX6_fresh_6 : decode cX6_fresh 6 = .ok (.aload_n 2, 1) := by decide +kernel
theorem dX6_fresh_7 : decode cX6_fresh 7 = .ok (.ifnull 14, 3) := by decide +kernel
theorem dX6_fresh_10 : decode cX6_fresh 10 = .ok (.aload_n 2, 1) := by decide +kernel
theorem dX6_fresh_11 : decode cX6_fresh 11 = .ok (.getfield 146, 3) := by decide +kernel
theorem dX6_fresh_14 : decode cX6_fresh 14 = .ok (.ifCond .eq 7, 3) := by decide +kernel
theorem dX6_fresh_17 : decode cX6_fresh 17 = .ok (.iconst 1, 1) := by decide +kernel
theorem dX6_fresh_18 : decode cX6_fresh 18 = .ok (.goto 4, 3) := by decide +kernel
theorem dX6_fresh_21 : decode cX6_fresh 21 = .ok (.iconst 0, 1) := by decide +kernel
theorem dX6_fresh_22 : decode cX6_fresh 22 = .ok (.ireturn, 1) := by decide +kernel
theorem dX6_edition_0 : decode cX6_edition 0 = .ok (.aload_n 0, 1) := by decide +kernel
theorem dX6_edition_1 : decode cX6_edition 1 = .ok (.dup, 1) := by decide +kernel
theorem dX6_edition_2 : decode cX6_edition 2 = .ok (.getfield 214, 3) := by decide +kernel
theorem dX6_edition_5 : decode cX6_edition 5 = .ok (.iconst 1, 1) := by decide +kernel
theorem dX6_edition_6 : decode cX6_edition 6 = .ok (.iadd, 1) := by decide +kernel
theorem dX6_edition_7 : decode cX6_edition 7 = .ok (.putfield 214, 3) := by decide +kernel
theorem dX6_edition_10 : decode cX6_edition 10 = .ok (.iconst 0, 1) := by decide +kernel
theorem dX6_edition_11 : decode cX6_edition 11 = .ok (.istore_n 1, 1) := by decide +kernel
theorem dX6_edition_12 : decode cX6_edition 12 = .ok (.aload_n 0, 1) := by decide +kernel
theorem dX6_edition_13 : decode cX6_edition 13 = .ok (.getfield 40, 3) := by decide +kernel
theorem dX6_edition_16 : decode cX6_edition 16 = .ok (.astore_n 2, 1) := by decide +kernel
theorem dX6_edition_17 : decode cX6_edition 17 = .ok (.aload_n 2, 1) := by decide +kernel
theorem dX6_edition_18 : decode cX6_edition 18 = .ok (.arraylength, 1) := by decide +kernel
theorem dX6_edition_19 : decode cX6_edition 19 = .ok (.istore_n 3, 1) := by decide +kernel
theorem dX6_edition_20 : decode cX6_edition 20 = .ok (.iconst 0, 1) := by decide +kernel
theorem dX6_edition_21 : decode cX6_edition 21 = .ok (.istore 4, 2) := by decide +kernel
theorem dX6_edition_23 : decode cX6_edition 23 = .ok (.iload 4, 2) := by decide +kernel
theorem dX6_edition_25 : decode cX6_edition 25 = .ok (.iload_n 3, 1) := by decide +kernel
theorem dX6_edition_26 : decode cX6_edition 26 = .ok (.if_icmp .ge 41, 3) := by decide +kernel
theorem dX6_edition_29 : decode cX6_edition 29 = .ok (.aload_n 2, 1) := by decide +kernel
theorem dX6_edition_30 : decode cX6_edition 30 = .ok (.iload 4, 2) := by decide +kernel
theorem dX6_edition_32 : decode cX6_edition 32 = .ok (.aaload, 1) := by decide +kernel
theorem dX6_edition_33 : decode cX6_edition 33 = .ok (.astore 5, 2) := by decide +kernel
theorem dX6_edition_35 : decode cX6_edition 35 = .ok (.aload 5, 2) := by decide +kernel
theorem dX6_edition_37 : decode cX6_edition 37 = .ok (.getfield 146, 3) := by decide +kernel
theorem dX6_edition_40 : decode cX6_edition 40 = .ok (.ifCond .eq 21, 3) := by decide +kernel
theorem dX6_edition_43 : decode cX6_edition 43 = .ok (.aload 5, 2) := by decide +kernel
theorem dX6_edition_45 : decode cX6_edition 45 = .ok (.iconst 0, 1) := by decide +kernel
theorem dX6_edition_46 : decode cX6_edition 46 = .ok (.putfield 146, 3) := by decide +kernel
theorem dX6_edition_49 : decode cX6_edition 49 = .ok (.aload 5, 2) := by decide +kernel
theorem dX6_edition_51 : decode cX6_edition 51 = .ok (.aload_n 0, 1) := by decide +kernel
theorem dX6_edition_52 : decode cX6_edition 52 = .ok (.getfield 214, 3) := by decide +kernel
theorem dX6_edition_55 : decode cX6_edition 55 = .ok (.putfield 217, 3) := by decide +kernel
theorem dX6_edition_58 : decode cX6_edition 58 = .ok (.iinc 1 1, 3) := by decide +kernel
theorem dX6_edition_61 : decode cX6_edition 61 = .ok (.iinc 4 1, 3) := by decide +kernel
theorem dX6_edition_64 : decode cX6_edition 64 = .ok (.goto (-41), 3) := by decide +kernel
theorem dX6_edition_67 : decode cX6_edition 67 = .ok (.iload_n 1, 1) := by decide +kernel
theorem dX6_edition_68 : decode cX6_edition 68 = .ok (.ireturn, 1) := by decide +kernel
theorem dX6_printed_0 : decode cX6_printed 0 = .ok (.aload_n 0, 1) := by decide +kernel
theorem dX6_printed_1 : decode cX6_printed 1 = .ok (.iload_n 1, 1) := by decide +kernel
theorem dX6_printed_2 : decode cX6_printed 2 = .ok (.invokevirtual 109, 3) := by decide +kernel
theorem dX6_printed_5 : decode cX6_printed 5 = .ok (.astore_n 2, 1) := by decide +kernel
theorem dX6_printed_6 : decode cX6_printed 6 = .ok (.aload_n 2, 1) := by decide +kernel
theorem dX6_printed_7 : decode cX6_printed 7 = .ok (.ifnonnull 7, 3) := by decide +kernel
theorem dX6_printed_10 : decode cX6_printed 10 = .ok (.iconst (-1), 1) := by decide +kernel
theorem dX6_printed_11 : decode cX6_printed 11 = .ok (.goto 7, 3) := by decide +kernel
theorem dX6_printed_14 : decode cX6_printed 14 = .ok (.aload_n 2, 1) := by decide +kernel
theorem dX6_printed_15 : decode cX6_printed 15 = .ok (.getfield 217, 3) := by decide +kernel
theorem dX6_printed_18 : decode cX6_printed 18 = .ok (.ireturn, 1) := by decide +kernel
theorem dX6_count_0 : decode cX6_count 0 = .ok (.iload_n 1, 1) := by decide +kernel
theorem dX6_count_1 : decode cX6_count 1 = .ok (.tableswitch 73 0 5 #[39, 45, 53, 58, 63, 68], 39) := by decide +kernel
theorem dX6_count_40 : decode cX6_count 40 = .ok (.aload_n 0, 1) := by decide +kernel
theorem dX6_count_41 : decode cX6_count 41 = .ok (.getfield 40, 3) := by decide +kernel
theorem dX6_count_44 : decode cX6_count 44 = .ok (.arraylength, 1) := by decide +kernel
theorem dX6_count_45 : decode cX6_count 45 = .ok (.ireturn, 1) := by decide +kernel
theorem dX6_count_46 : decode cX6_count 46 = .ok (.aload_n 0, 1) := by decide +kernel
theorem dX6_count_47 : decode cX6_count 47 = .ok (.getfield 12, 3) := by decide +kernel
theorem dX6_count_50 : decode cX6_count 50 = .ok (.invokevirtual 60, 3) := by decide +kernel
theorem dX6_count_53 : decode cX6_count 53 = .ok (.ireturn, 1) := by decide +kernel
theorem dX6_count_54 : decode cX6_count 54 = .ok (.aload_n 0, 1) := by decide +kernel
theorem dX6_count_55 : decode cX6_count 55 = .ok (.getfield 92, 3) := by decide +kernel
theorem dX6_count_58 : decode cX6_count 58 = .ok (.ireturn, 1) := by decide +kernel
theorem dX6_count_59 : decode cX6_count 59 = .ok (.aload_n 0, 1) := by decide +kernel
theorem dX6_count_60 : decode cX6_count 60 = .ok (.invokevirtual 220, 3) := by decide +kernel
theorem dX6_count_63 : decode cX6_count 63 = .ok (.ireturn, 1) := by decide +kernel
theorem dX6_count_64 : decode cX6_count 64 = .ok (.aload_n 0, 1) := by decide +kernel
theorem dX6_count_65 : decode cX6_count 65 = .ok (.getfield 214, 3) := by decide +kernel
theorem dX6_count_68 : decode cX6_count 68 = .ok (.ireturn, 1) := by decide +kernel
theorem dX6_count_69 : decode cX6_count 69 = .ok (.aload_n 0, 1) := by decide +kernel
theorem dX6_count_70 : decode cX6_count 70 = .ok (.invokevirtual 223, 3) := by decide +kernel
theorem dX6_count_73 : decode cX6_count 73 = .ok (.ireturn, 1) := by decide +kernel
theorem dX6_count_74 : decode cX6_count 74 = .ok (.iconst (-1), 1) := by decide +kernel
theorem dX6_count_75 : decode cX6_count 75 = .ok (.ireturn, 1) := by decide +kernel
theorem dX6_goreNumber_0 : decode cX6_goreNumber 0 = .ok (.bipush 6, 2) := by decide +kernel
theorem dX6_goreNumber_2 : decode cX6_goreNumber 2 = .ok (.istore_n 1, 1) := by decide +kernel
theorem dX6_goreNumber_3 : decode cX6_goreNumber 3 = .ok (.iconst 0, 1) := by decide +kernel
theorem dX6_goreNumber_4 : decode cX6_goreNumber 4 = .ok (.istore_n 2, 1) := by decide +kernel
theorem dX6_goreNumber_5 : decode cX6_goreNumber 5 = .ok (.iload_n 2, 1) := by decide +kernel
theorem dX6_goreNumber_6 : decode cX6_goreNumber 6 = .ok (.getstatic 226, 3) := by decide +kernel
theorem dX6_goreNumber_9 : decode cX6_goreNumber 9 = .ok (.arraylength, 1) := by decide +kernel
theorem dX6_goreNumber_10 : decode cX6_goreNumber 10 = .ok (.if_icmp .ge 24, 3) := by decide +kernel
theorem dX6_goreNumber_13 : decode cX6_goreNumber 13 = .ok (.getstatic 226, 3) := by decide +kernel
theorem dX6_goreNumber_16 : decode cX6_goreNumber 16 = .ok (.iload_n 2, 1) := by decide +kernel
theorem dX6_goreNumber_17 : decode cX6_goreNumber 17 = .ok (.iaload, 1) := by decide +kernel
theorem dX6_goreNumber_18 : decode cX6_goreNumber 18 = .ok (.iload_n 0, 1) := by decide +kernel
theorem dX6_goreNumber_19 : decode cX6_goreNumber 19 = .ok (.if_icmp .gt 9, 3) := by decide +kernel
theorem dX6_goreNumber_22 : decode cX6_goreNumber 22 = .ok (.getstatic 226, 3) := by decide +kernel
theorem dX6_goreNumber_25 : decode cX6_goreNumber 25 = .ok (.iload_n 2, 1) := by decide +kernel
theorem dX6_goreNumber_26 : decode cX6_goreNumber 26 = .ok (.iaload, 1) := by decide +kernel
theorem dX6_goreNumber_27 : decode cX6_goreNumber 27 = .ok (.istore_n 1, 1) := by decide +kernel
theorem dX6_goreNumber_28 : decode cX6_goreNumber 28 = .ok (.iinc 2 1, 3) := by decide +kernel
theorem dX6_goreNumber_31 : decode cX6_goreNumber 31 = .ok (.goto (-26), 3) := by decide +kernel
theorem dX6_goreNumber_34 : decode cX6_goreNumber 34 = .ok (.iload_n 1, 1) := by decide +kernel
theorem dX6_goreNumber_35 : decode cX6_goreNumber 35 = .ok (.ireturn, 1) := by decide +kernel
theorem dX6_isPlace_0 : decode cX6_isPlace 0 = .ok (.iload_n 0, 1) := by decide +kernel
theorem dX6_isPlace_1 : decode cX6_isPlace 1 = .ok (.ifCond .lt 26, 3) := by decide +kernel
theorem dX6_isPlace_4 : decode cX6_isPlace 4 = .ok (.iload_n 0, 1) := by decide +kernel
theorem dX6_isPlace_5 : decode cX6_isPlace 5 = .ok (.sipush 360, 3) := by decide +kernel
theorem dX6_isPlace_8 : decode cX6_isPlace 8 = .ok (.if_icmp .ge 19, 3) := by decide +kernel
theorem dX6_isPlace_11 : decode cX6_isPlace 11 = .ok (.iload_n 1, 1) := by decide +kernel
theorem dX6_isPlace_12 : decode cX6_isPlace 12 = .ok (.bipush (-90), 2) := by decide +kernel
theorem dX6_isPlace_14 : decode cX6_isPlace 14 = .ok (.if_icmp .lt 13, 3) := by decide +kernel
theorem dX6_isPlace_17 : decode cX6_isPlace 17 = .ok (.iload_n 1, 1) := by decide +kernel
theorem dX6_isPlace_18 : decode cX6_isPlace 18 = .ok (.bipush 90, 2) := by decide +kernel
theorem dX6_isPlace_20 : decode cX6_isPlace 20 = .ok (.if_icmp .gt 7, 3) := by decide +kernel
theorem dX6_isPlace_23 : decode cX6_isPlace 23 = .ok (.iconst 1, 1) := by decide +kernel
theorem dX6_isPlace_24 : decode cX6_isPlace 24 = .ok (.goto 4, 3) := by decide +kernel
theorem dX6_isPlace_27 : decode cX6_isPlace 27 = .ok (.iconst 0, 1) := by decide +kernel
theorem dX6_isPlace_28 : decode cX6_isPlace 28 = .ok (.ireturn, 1) := by decide +kernel
theorem dX6_isHeight_0 : decode cX6_isHeight 0 = .ok (.iload_n 0, 1) := by decide +kernel
theorem dX6_isHeight_1 : decode cX6_isHeight 1 = .ok (.sipush (-5400), 3) := by decide +kernel
theorem dX6_isHeight_4 : decode cX6_isHeight 4 = .ok (.if_icmp .lt 14, 3) := by decide +kernel
theorem dX6_isHeight_7 : decode cX6_isHeight 7 = .ok (.iload_n 0, 1) := by decide +kernel
theorem dX6_isHeight_8 : decode cX6_isHeight 8 = .ok (.sipush 5400, 3) := by decide +kernel
theorem dX6_isHeight_11 : decode cX6_isHeight 11 = .ok (.if_icmp .gt 7, 3) := by decide +kernel
theorem dX6_isHeight_14 : decode cX6_isHeight 14 = .ok (.iconst 1, 1) := by decide +kernel
theorem dX6_isHeight_15 : decode cX6_isHeight 15 = .ok (.goto 4, 3) := by decide +kernel
theorem dX6_isHeight_18 : decode cX6_isHeight 18 = .ok (.iconst 0, 1) := by decide +kernel
theorem dX6_isHeight_19 : decode cX6_isHeight 19 = .ok (.ireturn, 1) := by decide +kernel
theorem dX6_isGrowth_0 : decode cX6_isGrowth 0 = .ok (.iload_n 0, 1) := by decide +kernel
theorem dX6_isGrowth_1 : decode cX6_isGrowth 1 = .ok (.ifCond .lt 13, 3) := by decide +kernel
theorem dX6_isGrowth_4 : decode cX6_isGrowth 4 = .ok (.iload_n 0, 1) := by decide +kernel
theorem dX6_isGrowth_5 : decode cX6_isGrowth 5 = .ok (.bipush 50, 2) := by decide +kernel
theorem dX6_isGrowth_7 : decode cX6_isGrowth 7 = .ok (.if_icmp .gt 7, 3) := by decide +kernel
theorem dX6_isGrowth_10 : decode cX6_isGrowth 10 = .ok (.iconst 1, 1) := by decide +kernel
theorem dX6_isGrowth_11 : decode cX6_isGrowth 11 = .ok (.goto 4, 3) := by decide +kernel
theorem dX6_isGrowth_14 : decode cX6_isGrowth 14 = .ok (.iconst 0, 1) := by decide +kernel
theorem dX6_isGrowth_15 : decode cX6_isGrowth 15 = .ok (.ireturn, 1) := by decide +kernel
theorem dX6_isOnPaper_0 : decode cX6_isOnPaper 0 = .ok (.iload_n 1, 1) := by decide +kernel
theorem dX6_isOnPaper_1 : decode cX6_isOnPaper 1 = .ok (.ifCond .eq 8, 3) := by decide +kernel
theorem dX6_isOnPaper_4 : decode cX6_isOnPaper 4 = .ok (.iload_n 1, 1) := by decide +kernel
theorem dX6_isOnPaper_5 : decode cX6_isOnPaper 5 = .ok (.iconst 1, 1) := by decide +kernel
theorem dX6_isOnPaper_6 : decode cX6_isOnPaper 6 = .ok (.if_icmp .ne 21, 3) := by decide +kernel
theorem dX6_isOnPaper_9 : decode cX6_isOnPaper 9 = .ok (.iload_n 0, 1) := by decide +kernel
theorem dX6_isOnPaper_10 : decode cX6_isOnPaper 10 = .ok (.sipush (-10000), 3) := by decide +kernel
theorem dX6_isOnPaper_13 : decode cX6_isOnPaper 13 = .ok (.if_icmp .lt 14, 3) := by decide +kernel
theorem dX6_isOnPaper_16 : decode cX6_isOnPaper 16 = .ok (.iload_n 0, 1) := by decide +kernel
theorem dX6_isOnPaper_17 : decode cX6_isOnPaper 17 = .ok (.sipush 10000, 3) := by decide +kernel
theorem dX6_isOnPaper_20 : decode cX6_isOnPaper 20 = .ok (.if_icmp .gt 7, 3) := by decide +kernel
theorem dX6_isOnPaper_23 : decode cX6_isOnPaper 23 = .ok (.iconst 1, 1) := by decide +kernel
theorem dX6_isOnPaper_24 : decode cX6_isOnPaper 24 = .ok (.goto 4, 3) := by decide +kernel
theorem dX6_isOnPaper_27 : decode cX6_isOnPaper 27 = .ok (.iconst 0, 1) := by decide +kernel
theorem dX6_isOnPaper_28 : decode cX6_isOnPaper 28 = .ok (.ireturn, 1) := by decide +kernel
theorem dX6_wholes_0 : decode cX6_wholes 0 = .ok (.iload_n 1, 1) := by decide +kernel
theorem dX6_wholes_1 : decode cX6_wholes 1 = .ok (.ifCond .le 11, 3) := by decide +kernel
theorem dX6_wholes_4 : decode cX6_wholes 4 = .ok (.iload_n 0, 1) := by decide +kernel
theorem dX6_wholes_5 : decode cX6_wholes 5 = .ok (.iload_n 1, 1) := by decide +kernel
theorem dX6_wholes_6 : decode cX6_wholes 6 = .ok (.invokestatic 230, 3) := by decide +kernel
theorem dX6_wholes_9 : decode cX6_wholes 9 = .ok (.goto 4, 3) := by decide +kernel
theorem dX6_wholes_12 : decode cX6_wholes 12 = .ok (.iconst 0, 1) := by decide +kernel
theorem dX6_wholes_13 : decode cX6_wholes 13 = .ok (.ireturn, 1) := by decide +kernel
theorem dX6_rest_0 : decode cX6_rest 0 = .ok (.iload_n 1, 1) := by decide +kernel
theorem dX6_rest_1 : decode cX6_rest 1 = .ok (.ifCond .le 11, 3) := by decide +kernel
theorem dX6_rest_4 : decode cX6_rest 4 = .ok (.iload_n 0, 1) := by decide +kernel
theorem dX6_rest_5 : decode cX6_rest 5 = .ok (.iload_n 1, 1) := by decide +kernel
theorem dX6_rest_6 : decode cX6_rest 6 = .ok (.invokestatic 235, 3) := by decide +kernel
theorem dX6_rest_9 : decode cX6_rest 9 = .ok (.goto 4, 3) := by decide +kernel
theorem dX6_rest_12 : decode cX6_rest 12 = .ok (.iconst 0, 1) := by decide +kernel
theorem dX6_rest_13 : decode cX6_rest 13 = .ok (.ireturn, 1) := by decide +kernel
theorem dX6_roundBy_0 : decode cX6_roundBy 0 = .ok (.iconst 2, 1) := by decide +kernel
theorem dX6_roundBy_1 : decode cX6_roundBy 1 = .ok (.iload_n 0, 1) := by decide +kernel
theorem dX6_roundBy_2 : decode cX6_roundBy 2 = .ok (.imul, 1) := by decide +kernel
theorem dX6_roundBy_3 : decode cX6_roundBy 3 = .ok (.iload_n 1, 1) := by decide +kernel
theorem dX6_roundBy_4 : decode cX6_roundBy 4 = .ok (.iadd, 1) := by decide +kernel
theorem dX6_roundBy_5 : decode cX6_roundBy 5 = .ok (.iconst 2, 1) := by decide +kernel
theorem dX6_roundBy_6 : decode cX6_roundBy 6 = .ok (.iload_n 1, 1) := by decide +kernel
theorem dX6_roundBy_7 : decode cX6_roundBy 7 = .ok (.imul, 1) := by decide +kernel
theorem dX6_roundBy_8 : decode cX6_roundBy 8 = .ok (.invokestatic 30, 3) := by decide +kernel
theorem dX6_roundBy_11 : decode cX6_roundBy 11 = .ok (.ireturn, 1) := by decide +kernel
theorem dX6_cosOf_0 : decode cX6_cosOf 0 = .ok (.iload_n 0, 1) := by decide +kernel
theorem dX6_cosOf_1 : decode cX6_cosOf 1 = .ok (.ifCond .lt 19, 3) := by decide +kernel
theorem dX6_cosOf_4 : decode cX6_cosOf 4 = .ok (.iload_n 0, 1) := by decide +kernel
theorem dX6_cosOf_5 : decode cX6_cosOf 5 = .ok (.getstatic 238, 3) := by decide +kernel
theorem dX6_cosOf_8 : decode cX6_cosOf 8 = .ok (.arraylength, 1) := by decide +kernel
theorem dX6_cosOf_9 : decode cX6_cosOf 9 = .ok (.if_icmp .ge 11, 3) := by decide +kernel
theorem dX6_cosOf_12 : decode cX6_cosOf 12 = .ok (.getstatic 238, 3) := by decide +kernel
theorem dX6_cosOf_15 : decode cX6_cosOf 15 = .ok (.iload_n 0, 1) := by decide +kernel
theorem dX6_cosOf_16 : decode cX6_cosOf 16 = .ok (.iaload, 1) := by decide +kernel
theorem dX6_cosOf_17 : decode cX6_cosOf 17 = .ok (.goto 4, 3) := by decide +kernel
theorem dX6_cosOf_20 : decode cX6_cosOf 20 = .ok (.iconst 0, 1) := by decide +kernel
theorem dX6_cosOf_21 : decode cX6_cosOf 21 = .ok (.ireturn, 1) := by decide +kernel
theorem dX6_narrowAt_0 : decode cX6_narrowAt 0 = .ok (.iload_n 0, 1) := by decide +kernel
theorem dX6_narrowAt_1 : decode cX6_narrowAt 1 = .ok (.invokestatic 241, 3) := by decide +kernel
theorem dX6_narrowAt_4 : decode cX6_narrowAt 4 = .ok (.istore_n 1, 1) := by decide +kernel
theorem dX6_narrowAt_5 : decode cX6_narrowAt 5 = .ok (.iload_n 1, 1) := by decide +kernel
theorem dX6_narrowAt_6 : decode cX6_narrowAt 6 = .ok (.bipush 60, 2) := by decide +kernel
theorem dX6_narrowAt_8 : decode cX6_narrowAt 8 = .ok (.idiv, 1) := by decide +kernel
theorem dX6_narrowAt_9 : decode cX6_narrowAt 9 = .ok (.istore_n 2, 1) := by decide +kernel
theorem dX6_narrowAt_10 : decode cX6_narrowAt 10 = .ok (.iload_n 1, 1) := by decide +kernel
theorem dX6_narrowAt_11 : decode cX6_narrowAt 11 = .ok (.bipush 60, 2) := by decide +kernel
theorem dX6_narrowAt_13 : decode cX6_narrowAt 13 = .ok (.irem, 1) := by decide +kernel
theorem dX6_narrowAt_14 : decode cX6_narrowAt 14 = .ok (.istore_n 3, 1) := by decide +kernel
theorem dX6_narrowAt_15 : decode cX6_narrowAt 15 = .ok (.iload_n 2, 1) := by decide +kernel
theorem dX6_narrowAt_16 : decode cX6_narrowAt 16 = .ok (.invokestatic 244, 3) := by decide +kernel
theorem dX6_narrowAt_19 : decode cX6_narrowAt 19 = .ok (.bipush 60, 2) := by decide +kernel
theorem dX6_narrowAt_21 : decode cX6_narrowAt 21 = .ok (.iload_n 3, 1) := by decide +kernel
theorem dX6_narrowAt_22 : decode cX6_narrowAt 22 = .ok (.isub, 1) := by decide +kernel
theorem dX6_narrowAt_23 : decode cX6_narrowAt 23 = .ok (.imul, 1) := by decide +kernel
theorem dX6_narrowAt_24 : decode cX6_narrowAt 24 = .ok (.iload_n 2, 1) := by decide +kernel
theorem dX6_narrowAt_25 : decode cX6_narrowAt 25 = .ok (.iconst 1, 1) := by decide +kernel
theorem dX6_narrowAt_26 : decode cX6_narrowAt 26 = .ok (.iadd, 1) := by decide +kernel
theorem dX6_narrowAt_27 : decode cX6_narrowAt 27 = .ok (.invokestatic 244, 3) := by decide +kernel
theorem dX6_narrowAt_30 : decode cX6_narrowAt 30 = .ok (.iload_n 3, 1) := by decide +kernel
theorem dX6_narrowAt_31 : decode cX6_narrowAt 31 = .ok (.imul, 1) := by decide +kernel
theorem dX6_narrowAt_32 : decode cX6_narrowAt 32 = .ok (.iadd, 1) := by decide +kernel
theorem dX6_narrowAt_33 : decode cX6_narrowAt 33 = .ok (.bipush 60, 2) := by decide +kernel
theorem dX6_narrowAt_35 : decode cX6_narrowAt 35 = .ok (.idiv, 1) := by decide +kernel
theorem dX6_narrowAt_36 : decode cX6_narrowAt 36 = .ok (.ireturn, 1) := by decide +kernel
theorem dX6_xOf_0 : decode cX6_xOf 0 = .ok (.bipush 30, 2) := by decide +kernel
theorem dX6_xOf_2 : decode cX6_xOf 2 = .ok (.iload_n 0, 1) := by decide +kernel
theorem dX6_xOf_3 : decode cX6_xOf 3 = .ok (.imul, 1) := by decide +kernel
theorem dX6_xOf_4 : decode cX6_xOf 4 = .ok (.iload_n 1, 1) := by decide +kernel
theorem dX6_xOf_5 : decode cX6_xOf 5 = .ok (.invokestatic 49, 3) := by decide +kernel
theorem dX6_xOf_8 : decode cX6_xOf 8 = .ok (.imul, 1) := by decide +kernel
theorem dX6_xOf_9 : decode cX6_xOf 9 = .ok (.sipush 1000, 3) := by decide +kernel
theorem dX6_xOf_12 : decode cX6_xOf 12 = .ok (.idiv, 1) := by decide +kernel
theorem dX6_xOf_13 : decode cX6_xOf 13 = .ok (.ireturn, 1) := by decide +kernel
theorem dX6_grownThousand_0 : decode cX6_grownThousand 0 = .ok (.sipush 1000, 3) := by decide +kernel
theorem dX6_grownThousand_3 : decode cX6_grownThousand 3 = .ok (.iload_n 1, 1) := by decide +kernel
theorem dX6_grownThousand_4 : decode cX6_grownThousand 4 = .ok (.ifCond .ne 10, 3) := by decide +kernel
theorem dX6_grownThousand_7 : decode cX6_grownThousand 7 = .ok (.aload_n 0, 1) := by decide +kernel
theorem dX6_grownThousand_8 : decode cX6_grownThousand 8 = .ok (.getfield 140, 3) := by decide +kernel
theorem dX6_grownThousand_11 : decode cX6_grownThousand 11 = .ok (.goto 7, 3) := by decide +kernel
theorem dX6_grownThousand_14 : decode cX6_grownThousand 14 = .ok (.aload_n 0, 1) := by decide +kernel
theorem dX6_grownThousand_15 : decode cX6_grownThousand 15 = .ok (.getfield 143, 3) := by decide +kernel
theorem dX6_grownThousand_18 : decode cX6_grownThousand 18 = .ok (.iadd, 1) := by decide +kernel
theorem dX6_grownThousand_19 : decode cX6_grownThousand 19 = .ok (.ireturn, 1) := by decide +kernel
theorem dX6_goreOf_0 : decode cX6_goreOf 0 = .ok (.iload_n 1, 1) := by decide +kernel
theorem dX6_goreOf_1 : decode cX6_goreOf 1 = .ok (.ifCond .lt 21, 3) := by decide +kernel
theorem dX6_goreOf_4 : decode cX6_goreOf 4 = .ok (.iload_n 1, 1) := by decide +kernel
theorem dX6_goreOf_5 : decode cX6_goreOf 5 = .ok (.aload_n 0, 1) := by decide +kernel
theorem dX6_goreOf_6 : decode cX6_goreOf 6 = .ok (.getfield 40, 3) := by decide +kernel
theorem dX6_goreOf_9 : decode cX6_goreOf 9 = .ok (.arraylength, 1) := by decide +kernel
theorem dX6_goreOf_10 : decode cX6_goreOf 10 = .ok (.if_icmp .ge 12, 3) := by decide +kernel
theorem dX6_goreOf_13 : decode cX6_goreOf 13 = .ok (.aload_n 0, 1) := by decide +kernel
theorem dX6_goreOf_14 : decode cX6_goreOf 14 = .ok (.getfield 40, 3) := by decide +kernel
theorem dX6_goreOf_17 : decode cX6_goreOf 17 = .ok (.iload_n 1, 1) := by decide +kernel
theorem dX6_goreOf_18 : decode cX6_goreOf 18 = .ok (.aaload, 1) := by decide +kernel
theorem dX6_goreOf_19 : decode cX6_goreOf 19 = .ok (.goto 4, 3) := by decide +kernel
theorem dX6_goreOf_22 : decode cX6_goreOf 22 = .ok (.aconst_null, 1) := by decide +kernel
theorem dX6_goreOf_23 : decode cX6_goreOf 23 = .ok (.areturn, 1) := by decide +kernel
theorem dX6_coastOf_0 : decode cX6_coastOf 0 = .ok (.iload_n 1, 1) := by decide +kernel
theorem dX6_coastOf_1 : decode cX6_coastOf 1 = .ok (.ifCond .lt 28, 3) := by decide +kernel
theorem dX6_coastOf_4 : decode cX6_coastOf 4 = .ok (.iload_n 1, 1) := by decide +kernel
theorem dX6_coastOf_5 : decode cX6_coastOf 5 = .ok (.aload_n 0, 1) := by decide +kernel
theorem dX6_coastOf_6 : decode cX6_coastOf 6 = .ok (.getfield 12, 3) := by decide +kernel
theorem dX6_coastOf_9 : decode cX6_coastOf 9 = .ok (.invokevirtual 60, 3) := by decide +kernel
theorem dX6_coastOf_12 : decode cX6_coastOf 12 = .ok (.if_icmp .ge 17, 3) := by decide +kernel
theorem dX6_coastOf_15 : decode cX6_coastOf 15 = .ok (.aload_n 0, 1) := by decide +kernel
theorem dX6_coastOf_16 : decode cX6_coastOf 16 = .ok (.getfield 12, 3) := by decide +kernel
theorem dX6_coastOf_19 : decode cX6_coastOf 19 = .ok (.iload_n 1, 1) := by decide +kernel
theorem dX6_coastOf_20 : decode cX6_coastOf 20 = .ok (.invokevirtual 116, 3) := by decide +kernel
theorem dX6_coastOf_23 : decode cX6_coastOf 23 = .ok (.checkcast 64, 3) := by decide +kernel
theorem dX6_coastOf_26 : decode cX6_coastOf 26 = .ok (.goto 4, 3) := by decide +kernel
theorem dX6_coastOf_29 : decode cX6_coastOf 29 = .ok (.aconst_null, 1) := by decide +kernel
theorem dX6_coastOf_30 : decode cX6_coastOf 30 = .ok (.areturn, 1) := by decide +kernel
theorem dX6_nameOf_0 : decode cX6_nameOf 0 = .ok (.iload_n 1, 1) := by decide +kernel
theorem dX6_nameOf_1 : decode cX6_nameOf 1 = .ok (.ifCond .lt 14, 3) := by decide +kernel
theorem dX6_nameOf_4 : decode cX6_nameOf 4 = .ok (.iload_n 1, 1) := by decide +kernel
theorem dX6_nameOf_5 : decode cX6_nameOf 5 = .ok (.aload_n 0, 1) := by decide +kernel
theorem dX6_nameOf_6 : decode cX6_nameOf 6 = .ok (.getfield 16, 3) := by decide +kernel
theorem dX6_nameOf_9 : decode cX6_nameOf 9 = .ok (.invokevirtual 60, 3) := by decide +kernel
theorem dX6_nameOf_12 : decode cX6_nameOf 12 = .ok (.if_icmp .lt 5, 3) := by decide +kernel
theorem dX6_nameOf_15 : decode cX6_nameOf 15 = .ok (.aconst_null, 1) := by decide +kernel
theorem dX6_nameOf_16 : decode cX6_nameOf 16 = .ok (.areturn, 1) := by decide +kernel
theorem dX6_nameOf_17 : decode cX6_nameOf 17 = .ok (.aload_n 0, 1) := by decide +kernel
theorem dX6_nameOf_18 : decode cX6_nameOf 18 = .ok (.getfield 16, 3) := by decide +kernel
theorem dX6_nameOf_21 : decode cX6_nameOf 21 = .ok (.iload_n 1, 1) := by decide +kernel
theorem dX6_nameOf_22 : decode cX6_nameOf 22 = .ok (.invokevirtual 116, 3) := by decide +kernel
theorem dX6_nameOf_25 : decode cX6_nameOf 25 = .ok (.checkcast 163, 3) := by decide +kernel
theorem dX6_nameOf_28 : decode cX6_nameOf 28 = .ok (.astore_n 2, 1) := by decide +kernel
theorem dX6_nameOf_29 : decode cX6_nameOf 29 = .ok (.aload_n 2, 1) := by decide +kernel
theorem dX6_nameOf_30 : decode cX6_nameOf 30 = .ok (.getfield 183, 3) := by decide +kernel
theorem dX6_nameOf_33 : decode cX6_nameOf 33 = .ok (.ifCond .eq 7, 3) := by decide +kernel
theorem dX6_nameOf_36 : decode cX6_nameOf 36 = .ok (.aconst_null, 1) := by decide +kernel
theorem dX6_nameOf_37 : decode cX6_nameOf 37 = .ok (.goto 4, 3) := by decide +kernel
theorem dX6_nameOf_40 : decode cX6_nameOf 40 = .ok (.aload_n 2, 1) := by decide +kernel
theorem dX6_nameOf_41 : decode cX6_nameOf 41 = .ok (.areturn, 1) := by decide +kernel
theorem dX6_namesThere_0 : decode cX6_namesThere 0 = .ok (.iconst 0, 1) := by decide +kernel
theorem dX6_namesThere_1 : decode cX6_namesThere 1 = .ok (.istore_n 1, 1) := by decide +kernel
theorem dX6_namesThere_2 : decode cX6_namesThere 2 = .ok (.aload_n 0, 1) := by decide +kernel
theorem dX6_namesThere_3 : decode cX6_namesThere 3 = .ok (.getfield 40, 3) := by decide +kernel
theorem dX6_namesThere_6 : decode cX6_namesThere 6 = .ok (.astore_n 2, 1) := by decide +kernel
theorem dX6_namesThere_7 : decode cX6_namesThere 7 = .ok (.aload_n 2, 1) := by decide +kernel
theorem dX6_namesThere_8 : decode cX6_namesThere 8 = .ok (.arraylength, 1) := by decide +kernel
theorem dX6_namesThere_9 : decode cX6_namesThere 9 = .ok (.istore_n 3, 1) := by decide +kernel
theorem dX6_namesThere_10 : decode cX6_namesThere 10 = .ok (.iconst 0, 1) := by decide +kernel
theorem dX6_namesThere_11 : decode cX6_namesThere 11 = .ok (.istore 4, 2) := by decide +kernel
theorem dX6_namesThere_13 : decode cX6_namesThere 13 = .ok (.iload 4, 2) := by decide +kernel
theorem dX6_namesThere_15 : decode cX6_namesThere 15 = .ok (.iload_n 3, 1) := by decide +kernel
theorem dX6_namesThere_16 : decode cX6_namesThere 16 = .ok (.if_icmp .ge 26, 3) := by decide +kernel
theorem dX6_namesThere_19 : decode cX6_namesThere 19 = .ok (.aload_n 2, 1) := by decide +kernel
theorem dX6_namesThere_20 : decode cX6_namesThere 20 = .ok (.iload 4, 2) := by decide +kernel
theorem dX6_namesThere_22 : decode cX6_namesThere 22 = .ok (.aaload, 1) := by decide +kernel
theorem dX6_namesThere_23 : decode cX6_namesThere 23 = .ok (.astore 5, 2) := by decide +kernel
theorem dX6_namesThere_25 : decode cX6_namesThere 25 = .ok (.iload_n 1, 1) := by decide +kernel
theorem dX6_namesThere_26 : decode cX6_namesThere 26 = .ok (.aload 5, 2) := by decide +kernel
theorem dX6_namesThere_28 : decode cX6_namesThere 28 = .ok (.getfield 159, 3) := by decide +kernel
theorem dX6_namesThere_31 : decode cX6_namesThere 31 = .ok (.invokevirtual 60, 3) := by decide +kernel
theorem dX6_namesThere_34 : decode cX6_namesThere 34 = .ok (.iadd, 1) := by decide +kernel
theorem dX6_namesThere_35 : decode cX6_namesThere 35 = .ok (.istore_n 1, 1) := by decide +kernel
theorem dX6_namesThere_36 : decode cX6_namesThere 36 = .ok (.iinc 4 1, 3) := by decide +kernel
theorem dX6_namesThere_39 : decode cX6_namesThere 39 = .ok (.goto (-26), 3) := by decide +kernel
theorem dX6_namesThere_42 : decode cX6_namesThere 42 = .ok (.iload_n 1, 1) := by decide +kernel
theorem dX6_namesThere_43 : decode cX6_namesThere 43 = .ok (.ireturn, 1) := by decide +kernel
theorem dX6_freshGores_0 : decode cX6_freshGores 0 = .ok (.iconst 0, 1) := by decide +kernel
theorem dX6_freshGores_1 : decode cX6_freshGores 1 = .ok (.istore_n 1, 1) := by decide +kernel
theorem dX6_freshGores_2 : decode cX6_freshGores 2 = .ok (.aload_n 0, 1) := by decide +kernel
theorem dX6_freshGores_3 : decode cX6_freshGores 3 = .ok (.getfield 40, 3) := by decide +kernel
theorem dX6_freshGores_6 : decode cX6_freshGores 6 = .ok (.astore_n 2, 1) := by decide +kernel
theorem dX6_freshGores_7 : decode cX6_freshGores 7 = .ok (.aload_n 2, 1) := by decide +kernel
theorem dX6_freshGores_8 : decode cX6_freshGores 8 = .ok (.arraylength, 1) := by decide +kernel

theorem dX0_init_0 : decode mX0_init.2.1 0 = .ok (.aload_n 0, 1) := by decide +kernel
theorem dX0_init_1 : decode mX0_init.2.1 1 = .ok (.invokespecial 3, 3) := by decide +kernel
theorem dX0_init_4 : decode mX0_init.2.1 4 = .ok (.aload_n 0, 1) := by decide +kernel
theorem dX0_init_5 : decode mX0_init.2.1 5 = .ok (.bipush 8, 2) := by decide +kernel
theorem dX0_init_7 : decode mX0_init.2.1 7 = .ok (.anewarray 9, 3) := by decide +kernel
theorem dX0_init_10 : decode mX0_init.2.1 10 = .ok (.putfield 11, 3) := by decide +kernel
theorem dX0_init_13 : decode mX0_init.2.1 13 = .ok (.aload_n 0, 1) := by decide +kernel
theorem dX0_init_14 : decode mX0_init.2.1 14 = .ok (.iconst 0, 1) := by decide +kernel
theorem dX0_init_15 : decode mX0_init.2.1 15 = .ok (.putfield 17, 3) := by decide +kernel
theorem dX0_init_18 : decode mX0_init.2.1 18 = .ok (.aload_n 0, 1) := by decide +kernel
theorem dX0_init_19 : decode mX0_init.2.1 19 = .ok (.iconst 0, 1) := by decide +kernel
theorem dX0_init_20 : decode mX0_init.2.1 20 = .ok (.putfield 21, 3) := by decide +kernel
theorem dX0_init_23 : decode mX0_init.2.1 23 = .ok (.iconst 0, 1) := by decide +kernel
theorem dX0_init_24 : decode mX0_init.2.1 24 = .ok (.istore_n 1, 1) := by decide +kernel
theorem dX0_init_25 : decode mX0_init.2.1 25 = .ok (.iload_n 1, 1) := by decide +kernel
theorem dX0_init_26 : decode mX0_init.2.1 26 = .ok (.bipush 8, 2) := by decide +kernel
theorem dX0_init_28 : decode mX0_init.2.1 28 = .ok (.if_icmp .ge 22, 3) := by decide +kernel
theorem dX0_init_31 : decode mX0_init.2.1 31 = .ok (.aload_n 0, 1) := by decide +kernel
theorem dX0_init_32 : decode mX0_init.2.1 32 = .ok (.getfield 11, 3) := by decide +kernel
theorem dX0_init_35 : decode mX0_init.2.1 35 = .ok (.iload_n 1, 1) := by decide +kernel
theorem dX0_init_36 : decode mX0_init.2.1 36 = .ok (.new 9, 3) := by decide +kernel
theorem dX0_init_39 : decode mX0_init.2.1 39 = .ok (.dup, 1) := by decide +kernel
theorem dX0_init_40 : decode mX0_init.2.1 40 = .ok (.invokespecial 24, 3) := by decide +kernel
theorem dX0_init_43 : decode mX0_init.2.1 43 = .ok (.aastore, 1) := by decide +kernel
theorem dX0_init_44 : decode mX0_init.2.1 44 = .ok (.iinc 1 1, 3) := by decide +kernel
theorem dX0_init_47 : decode mX0_init.2.1 47 = .ok (.goto (-22), 3) := by decide +kernel
theorem dX0_init_50 : decode mX0_init.2.1 50 = .ok (.return_, 1) := by decide +kernel
theorem dX0_keep_0 : decode mX0_keep.2.1 0 = .ok (.aload_n 0, 1) := by decide +kernel
theorem dX0_keep_1 : decode mX0_keep.2.1 1 = .ok (.getfield 11, 3) := by decide +kernel
theorem dX0_keep_4 : decode mX0_keep.2.1 4 = .ok (.aload_n 0, 1) := by decide +kernel
theorem dX0_keep_5 : decode mX0_keep.2.1 5 = .ok (.getfield 17, 3) := by decide +kernel
theorem dX0_keep_8 : decode mX0_keep.2.1 8 = .ok (.aaload, 1) := by decide +kernel
theorem dX0_keep_9 : decode mX0_keep.2.1 9 = .ok (.aload_n 1, 1) := by decide +kernel
theorem dX0_keep_10 : decode mX0_keep.2.1 10 = .ok (.invokevirtual 25, 3) := by decide +kernel
theorem dX0_keep_13 : decode mX0_keep.2.1 13 = .ok (.aload_n 0, 1) := by decide +kernel
theorem dX0_keep_14 : decode mX0_keep.2.1 14 = .ok (.aload_n 0, 1) := by decide +kernel
theorem dX0_keep_15 : decode mX0_keep.2.1 15 = .ok (.getfield 17, 3) := by decide +kernel
theorem dX0_keep_18 : decode mX0_keep.2.1 18 = .ok (.iconst 1, 1) := by decide +kernel
theorem dX0_keep_19 : decode mX0_keep.2.1 19 = .ok (.iadd, 1) := by decide +kernel
theorem dX0_keep_20 : decode mX0_keep.2.1 20 = .ok (.bipush 8, 2) := by decide +kernel
theorem dX0_keep_22 : decode mX0_keep.2.1 22 = .ok (.irem, 1) := by decide +kernel
theorem dX0_keep_23 : decode mX0_keep.2.1 23 = .ok (.putfield 17, 3) := by decide +kernel
theorem dX0_keep_26 : decode mX0_keep.2.1 26 = .ok (.aload_n 0, 1) := by decide +kernel
theorem dX0_keep_27 : decode mX0_keep.2.1 27 = .ok (.aload_n 0, 1) := by decide +kernel
theorem dX0_keep_28 : decode mX0_keep.2.1 28 = .ok (.getfield 21, 3) := by decide +kernel
theorem dX0_keep_31 : decode mX0_keep.2.1 31 = .ok (.iconst 1, 1) := by decide +kernel
theorem dX0_keep_32 : decode mX0_keep.2.1 32 = .ok (.iadd, 1) := by decide +kernel
theorem dX0_keep_33 : decode mX0_keep.2.1 33 = .ok (.bipush 8, 2) := by decide +kernel
theorem dX0_keep_35 : decode mX0_keep.2.1 35 = .ok (.invokestatic 29, 3) := by decide +kernel
theorem dX0_keep_38 : decode mX0_keep.2.1 38 = .ok (.putfield 21, 3) := by decide +kernel
theorem dX0_keep_41 : decode mX0_keep.2.1 41 = .ok (.return_, 1) := by decide +kernel
theorem dX0_takeBack_0 : decode mX0_takeBack.2.1 0 = .ok (.aload_n 0, 1) := by decide +kernel
theorem dX0_takeBack_1 : decode mX0_takeBack.2.1 1 = .ok (.getfield 21, 3) := by decide +kernel
theorem dX0_takeBack_4 : decode mX0_takeBack.2.1 4 = .ok (.ifCond .le 42, 3) := by decide +kernel
theorem dX0_takeBack_7 : decode mX0_takeBack.2.1 7 = .ok (.aload_n 0, 1) := by decide +kernel
theorem dX0_takeBack_8 : decode mX0_takeBack.2.1 8 = .ok (.aload_n 0, 1) := by decide +kernel
theorem dX0_takeBack_9 : decode mX0_takeBack.2.1 9 = .ok (.getfield 17, 3) := by decide +kernel
theorem dX0_takeBack_12 : decode mX0_takeBack.2.1 12 = .ok (.bipush 8, 2) := by decide +kernel
theorem dX0_takeBack_14 : decode mX0_takeBack.2.1 14 = .ok (.iadd, 1) := by decide +kernel
theorem dX0_takeBack_15 : decode mX0_takeBack.2.1 15 = .ok (.iconst 1, 1) := by decide +kernel
theorem dX0_takeBack_16 : decode mX0_takeBack.2.1 16 = .ok (.isub, 1) := by decide +kernel
theorem dX0_takeBack_17 : decode mX0_takeBack.2.1 17 = .ok (.bipush 8, 2) := by decide +kernel
theorem dX0_takeBack_19 : decode mX0_takeBack.2.1 19 = .ok (.irem, 1) := by decide +kernel
theorem dX0_takeBack_20 : decode mX0_takeBack.2.1 20 = .ok (.putfield 17, 3) := by decide +kernel
theorem dX0_takeBack_23 : decode mX0_takeBack.2.1 23 = .ok (.aload_n 0, 1) := by decide +kernel
theorem dX0_takeBack_24 : decode mX0_takeBack.2.1 24 = .ok (.dup, 1) := by decide +kernel
theorem dX0_takeBack_25 : decode mX0_takeBack.2.1 25 = .ok (.getfield 21, 3) := by decide +kernel
theorem dX0_takeBack_28 : decode mX0_takeBack.2.1 28 = .ok (.iconst 1, 1) := by decide +kernel
theorem dX0_takeBack_29 : decode mX0_takeBack.2.1 29 = .ok (.isub, 1) := by decide +kernel
theorem dX0_takeBack_30 : decode mX0_takeBack.2.1 30 = .ok (.putfield 21, 3) := by decide +kernel
theorem dX0_takeBack_33 : decode mX0_takeBack.2.1 33 = .ok (.aload_n 1, 1) := by decide +kernel
theorem dX0_takeBack_34 : decode mX0_takeBack.2.1 34 = .ok (.aload_n 0, 1) := by decide +kernel
theorem dX0_takeBack_35 : decode mX0_takeBack.2.1 35 = .ok (.getfield 11, 3) := by decide +kernel
theorem dX0_takeBack_38 : decode mX0_takeBack.2.1 38 = .ok (.aload_n 0, 1) := by decide +kernel
theorem dX0_takeBack_39 : decode mX0_takeBack.2.1 39 = .ok (.getfield 17, 3) := by decide +kernel
theorem dX0_takeBack_42 : decode mX0_takeBack.2.1 42 = .ok (.aaload, 1) := by decide +kernel
theorem dX0_takeBack_43 : decode mX0_takeBack.2.1 43 = .ok (.invokevirtual 25, 3) := by decide +kernel
theorem dX0_takeBack_46 : decode mX0_takeBack.2.1 46 = .ok (.return_, 1) := by decide +kernel
theorem dX0_forget_0 : decode mX0_forget.2.1 0 = .ok (.aload_n 0, 1) := by decide +kernel
theorem dX0_forget_1 : decode mX0_forget.2.1 1 = .ok (.iconst 0, 1) := by decide +kernel
theorem dX0_forget_2 : decode mX0_forget.2.1 2 = .ok (.putfield 21, 3) := by decide +kernel
theorem dX0_forget_5 : decode mX0_forget.2.1 5 = .ok (.return_, 1) := by decide +kernel
theorem dX1_init_0 : decode mX1_init.2.1 0 = .ok (.aload_n 0, 1) := by decide +kernel
theorem dX1_init_1 : decode mX1_init.2.1 1 = .ok (.invokespecial 3, 3) := by decide +kernel
theorem dX1_init_4 : decode mX1_init.2.1 4 = .ok (.aload_n 0, 1) := by decide +kernel
theorem dX1_init_5 : decode mX1_init.2.1 5 = .ok (.iconst 0, 1) := by decide +kernel
theorem dX1_init_6 : decode mX1_init.2.1 6 = .ok (.putfield 9, 3) := by decide +kernel
theorem dX1_init_9 : decode mX1_init.2.1 9 = .ok (.aload_n 0, 1) := by decide +kernel
theorem dX1_init_10 : decode mX1_init.2.1 10 = .ok (.iconst 0, 1) := by decide +kernel
theorem dX1_init_11 : decode mX1_init.2.1 11 = .ok (.putfield 15, 3) := by decide +kernel
theorem dX1_init_14 : decode mX1_init.2.1 14 = .ok (.aload_n 0, 1) := by decide +kernel
theorem dX1_init_15 : decode mX1_init.2.1 15 = .ok (.iconst 0, 1) := by decide +kernel
theorem dX1_init_16 : decode mX1_init.2.1 16 = .ok (.putfield 18, 3) := by decide +kernel
theorem dX1_init_19 : decode mX1_init.2.1 19 = .ok (.aload_n 0, 1) := by decide +kernel
theorem dX1_init_20 : decode mX1_init.2.1 20 = .ok (.bipush 20, 2) := by decide +kernel
theorem dX1_init_22 : decode mX1_init.2.1 22 = .ok (.newarray .int, 2) := by decide +kernel
theorem dX1_init_24 : decode mX1_init.2.1 24 = .ok (.putfield 21, 3) := by decide +kernel
theorem dX1_init_27 : decode mX1_init.2.1 27 = .ok (.return_, 1) := by decide +kernel
theorem dX1_take_0 : decode mX1_take.2.1 0 = .ok (.aload_n 0, 1) := by decide +kernel
theorem dX1_take_1 : decode mX1_take.2.1 1 = .ok (.iload_n 1, 1) := by decide +kernel
theorem dX1_take_2 : decode mX1_take.2.1 2 = .ok (.putfield 9, 3) := by decide +kernel
theorem dX1_take_5 : decode mX1_take.2.1 5 = .ok (.aload_n 0, 1) := by decide +kernel
theorem dX1_take_6 : decode mX1_take.2.1 6 = .ok (.iload_n 2, 1) := by decide +kernel
theorem dX1_take_7 : decode mX1_take.2.1 7 = .ok (.putfield 15, 3) := by decide +kernel
theorem dX1_take_10 : decode mX1_take.2.1 10 = .ok (.aload_n 0, 1) := by decide +kernel
theorem dX1_take_11 : decode mX1_take.2.1 11 = .ok (.iload_n 3, 1) := by decide +kernel
theorem dX1_take_12 : decode mX1_take.2.1 12 = .ok (.aload 4, 2) := by decide +kernel
theorem dX1_take_14 : decode mX1_take.2.1 14 = .ok (.arraylength, 1) := by decide +kernel
theorem dX1_take_15 : decode mX1_take.2.1 15 = .ok (.bipush 20, 2) := by decide +kernel
theorem dX1_take_17 : decode mX1_take.2.1 17 = .ok (.invokestatic 25, 3) := by decide +kernel
theorem dX1_take_20 : decode mX1_take.2.1 20 = .ok (.invokestatic 25, 3) := by decide +kernel
theorem dX1_take_23 : decode mX1_take.2.1 23 = .ok (.putfield 18, 3) := by decide +kernel
theorem dX1_take_26 : decode mX1_take.2.1 26 = .ok (.aload 4, 2) := by decide +kernel
theorem dX1_take_28 : decode mX1_take.2.1 28 = .ok (.iconst 0, 1) := by decide +kernel
theorem dX1_take_29 : decode mX1_take.2.1 29 = .ok (.aload_n 0, 1) := by decide +kernel
theorem dX1_take_30 : decode mX1_take.2.1 30 = .ok (.getfield 21, 3) := by decide +kernel
theorem dX1_take_33 : decode mX1_take.2.1 33 = .ok (.iconst 0, 1) := by decide +kernel
theorem dX1_take_34 : decode mX1_take.2.1 34 = .ok (.aload_n 0, 1) := by decide +kernel
theorem dX1_take_35 : decode mX1_take.2.1 35 = .ok (.getfield 18, 3) := by decide +kernel
theorem dX1_take_38 : decode mX1_take.2.1 38 = .ok (.invokestatic 31, 3) := by decide +kernel
theorem dX1_take_41 : decode mX1_take.2.1 41 = .ok (.return_, 1) := by decide +kernel
theorem dX1_becomeRow_0 : decode mX1_becomeRow.2.1 0 = .ok (.aload_n 0, 1) := by decide +kernel
theorem dX1_becomeRow_1 : decode mX1_becomeRow.2.1 1 = .ok (.iconst 3, 1) := by decide +kernel
theorem dX1_becomeRow_2 : decode mX1_becomeRow.2.1 2 = .ok (.putfield 9, 3) := by decide +kernel
theorem dX1_becomeRow_5 : decode mX1_becomeRow.2.1 5 = .ok (.aload_n 0, 1) := by decide +kernel
theorem dX1_becomeRow_6 : decode mX1_becomeRow.2.1 6 = .ok (.iconst 0, 1) := by decide +kernel
theorem dX1_becomeRow_7 : decode mX1_becomeRow.2.1 7 = .ok (.putfield 15, 3) := by decide +kernel
theorem dX1_becomeRow_10 : decode mX1_becomeRow.2.1 10 = .ok (.aload_n 0, 1) := by decide +kernel
theorem dX1_becomeRow_11 : decode mX1_becomeRow.2.1 11 = .ok (.iload_n 1, 1) := by decide +kernel
theorem dX1_becomeRow_12 : decode mX1_becomeRow.2.1 12 = .ok (.putfield 18, 3) := by decide +kernel
theorem dX1_becomeRow_15 : decode mX1_becomeRow.2.1 15 = .ok (.iconst 0, 1) := by decide +kernel
theorem dX1_becomeRow_16 : decode mX1_becomeRow.2.1 16 = .ok (.istore_n 2, 1) := by decide +kernel
theorem dX1_becomeRow_17 : decode mX1_becomeRow.2.1 17 = .ok (.iload_n 2, 1) := by decide +kernel
theorem dX1_becomeRow_18 : decode mX1_becomeRow.2.1 18 = .ok (.bipush 20, 2) := by decide +kernel
theorem dX1_becomeRow_20 : decode mX1_becomeRow.2.1 20 = .ok (.if_icmp .ge 16, 3) := by decide +kernel
theorem dX1_becomeRow_23 : decode mX1_becomeRow.2.1 23 = .ok (.aload_n 0, 1) := by decide +kernel
theorem dX1_becomeRow_24 : decode mX1_becomeRow.2.1 24 = .ok (.getfield 21, 3) := by decide +kernel
theorem dX1_becomeRow_27 : decode mX1_becomeRow.2.1 27 = .ok (.iload_n 2, 1) := by decide +kernel
theorem dX1_becomeRow_28 : decode mX1_becomeRow.2.1 28 = .ok (.iconst 0, 1) := by decide +kernel
theorem dX1_becomeRow_29 : decode mX1_becomeRow.2.1 29 = .ok (.iastore, 1) := by decide +kernel
theorem dX1_becomeRow_30 : decode mX1_becomeRow.2.1 30 = .ok (.iinc 2 1, 3) := by decide +kernel
theorem dX1_becomeRow_33 : decode mX1_becomeRow.2.1 33 = .ok (.goto (-16), 3) := by decide +kernel
theorem dX1_becomeRow_36 : decode mX1_becomeRow.2.1 36 = .ok (.return_, 1) := by decide +kernel
theorem dX1_hasNumber_0 : decode mX1_hasNumber.2.1 0 = .ok (.iload_n 1, 1) := by decide +kernel
theorem dX1_hasNumber_1 : decode mX1_hasNumber.2.1 1 = .ok (.ifCond .lt 15, 3) := by decide +kernel
theorem dX1_hasNumber_4 : decode mX1_hasNumber.2.1 4 = .ok (.iload_n 1, 1) := by decide +kernel
theorem dX1_hasNumber_5 : decode mX1_hasNumber.2.1 5 = .ok (.aload_n 0, 1) := by decide +kernel
theorem dX1_hasNumber_6 : decode mX1_hasNumber.2.1 6 = .ok (.getfield 18, 3) := by decide +kernel
theorem dX1_hasNumber_9 : decode mX1_hasNumber.2.1 9 = .ok (.if_icmp .ge 7, 3) := by decide +kernel
theorem dX1_hasNumber_12 : decode mX1_hasNumber.2.1 12 = .ok (.iconst 1, 1) := by decide +kernel
theorem dX1_hasNumber_13 : decode mX1_hasNumber.2.1 13 = .ok (.goto 4, 3) := by decide +kernel
theorem dX1_hasNumber_16 : decode mX1_hasNumber.2.1 16 = .ok (.iconst 0, 1) := by decide +kernel
theorem dX1_hasNumber_17 : decode mX1_hasNumber.2.1 17 = .ok (.ireturn, 1) := by decide +kernel
theorem dX1_together_0 : decode mX1_together.2.1 0 = .ok (.iconst 0, 1) := by decide +kernel
theorem dX1_together_1 : decode mX1_together.2.1 1 = .ok (.istore_n 1, 1) := by decide +kernel
theorem dX1_together_2 : decode mX1_together.2.1 2 = .ok (.iconst 0, 1) := by decide +kernel
theorem dX1_together_3 : decode mX1_together.2.1 3 = .ok (.istore_n 2, 1) := by decide +kernel
theorem dX1_together_4 : decode mX1_together.2.1 4 = .ok (.iload_n 2, 1) := by decide +kernel
theorem dX1_together_5 : decode mX1_together.2.1 5 = .ok (.aload_n 0, 1) := by decide +kernel
theorem dX1_together_6 : decode mX1_together.2.1 6 = .ok (.getfield 18, 3) := by decide +kernel
theorem dX1_together_9 : decode mX1_together.2.1 9 = .ok (.if_icmp .ge 18, 3) := by decide +kernel
theorem dX1_together_12 : decode mX1_together.2.1 12 = .ok (.iload_n 1, 1) := by decide +kernel
theorem dX1_together_13 : decode mX1_together.2.1 13 = .ok (.aload_n 0, 1) := by decide +kernel
theorem dX1_together_14 : decode mX1_together.2.1 14 = .ok (.getfield 21, 3) := by decide +kernel
theorem dX1_together_17 : decode mX1_together.2.1 17 = .ok (.iload_n 2, 1) := by decide +kernel
theorem dX1_together_18 : decode mX1_together.2.1 18 = .ok (.iaload, 1) := by decide +kernel
theorem dX1_together_19 : decode mX1_together.2.1 19 = .ok (.iadd, 1) := by decide +kernel
theorem dX1_together_20 : decode mX1_together.2.1 20 = .ok (.istore_n 1, 1) := by decide +kernel
theorem dX1_together_21 : decode mX1_together.2.1 21 = .ok (.iinc 2 1, 3) := by decide +kernel
theorem dX1_together_24 : decode mX1_together.2.1 24 = .ok (.goto (-20), 3) := by decide +kernel
theorem dX1_together_27 : decode mX1_together.2.1 27 = .ok (.iload_n 1, 1) := by decide +kernel
theorem dX1_together_28 : decode mX1_together.2.1 28 = .ok (.ireturn, 1) := by decide +kernel
theorem dX1_width_0 : decode mX1_width.2.1 0 = .ok (.iconst 0, 1) := by decide +kernel
theorem dX1_width_1 : decode mX1_width.2.1 1 = .ok (.istore_n 1, 1) := by decide +kernel
theorem dX1_width_2 : decode mX1_width.2.1 2 = .ok (.iconst 0, 1) := by decide +kernel
theorem dX1_width_3 : decode mX1_width.2.1 3 = .ok (.istore_n 2, 1) := by decide +kernel
theorem dX1_width_4 : decode mX1_width.2.1 4 = .ok (.iload_n 2, 1) := by decide +kernel
theorem dX1_width_5 : decode mX1_width.2.1 5 = .ok (.aload_n 0, 1) := by decide +kernel
theorem dX1_width_6 : decode mX1_width.2.1 6 = .ok (.getfield 18, 3) := by decide +kernel
theorem dX1_width_9 : decode mX1_width.2.1 9 = .ok (.if_icmp .ge 23, 3) := by decide +kernel
theorem dX1_width_12 : decode mX1_width.2.1 12 = .ok (.iload_n 1, 1) := by decide +kernel
theorem dX1_width_13 : decode mX1_width.2.1 13 = .ok (.aload_n 0, 1) := by decide +kernel
theorem dX1_width_14 : decode mX1_width.2.1 14 = .ok (.getfield 21, 3) := by decide +kernel
theorem dX1_width_17 : decode mX1_width.2.1 17 = .ok (.iload_n 2, 1) := by decide +kernel
theorem dX1_width_18 : decode mX1_width.2.1 18 = .ok (.iaload, 1) := by decide +kernel
theorem dX1_width_19 : decode mX1_width.2.1 19 = .ok (.invokestatic 37, 3) := by decide +kernel
theorem dX1_width_22 : decode mX1_width.2.1 22 = .ok (.invokestatic 41, 3) := by decide +kernel
theorem dX1_width_25 : decode mX1_width.2.1 25 = .ok (.istore_n 1, 1) := by decide +kernel
theorem dX1_width_26 : decode mX1_width.2.1 26 = .ok (.iinc 2 1, 3) := by decide +kernel
theorem dX1_width_29 : decode mX1_width.2.1 29 = .ok (.goto (-25), 3) := by decide +kernel
theorem dX1_width_32 : decode mX1_width.2.1 32 = .ok (.iload_n 1, 1) := by decide +kernel
theorem dX1_width_33 : decode mX1_width.2.1 33 = .ok (.ireturn, 1) := by decide +kernel
theorem dX1_tellsWall_0 : decode mX1_tellsWall.2.1 0 = .ok (.aload_n 0, 1) := by decide +kernel
theorem dX1_tellsWall_1 : decode mX1_tellsWall.2.1 1 = .ok (.getfield 18, 3) := by decide +kernel
theorem dX1_tellsWall_4 : decode mX1_tellsWall.2.1 4 = .ok (.iload_n 1, 1) := by decide +kernel
theorem dX1_tellsWall_5 : decode mX1_tellsWall.2.1 5 = .ok (.if_icmp .ge 5, 3) := by decide +kernel
theorem dX1_tellsWall_8 : decode mX1_tellsWall.2.1 8 = .ok (.iconst 0, 1) := by decide +kernel
theorem dX1_tellsWall_9 : decode mX1_tellsWall.2.1 9 = .ok (.ireturn, 1) := by decide +kernel
theorem dX1_tellsWall_10 : decode mX1_tellsWall.2.1 10 = .ok (.iconst 0, 1) := by decide +kernel
theorem dX1_tellsWall_11 : decode mX1_tellsWall.2.1 11 = .ok (.istore_n 2, 1) := by decide +kernel
theorem dX1_tellsWall_12 : decode mX1_tellsWall.2.1 12 = .ok (.iconst 0, 1) := by decide +kernel
theorem dX1_tellsWall_13 : decode mX1_tellsWall.2.1 13 = .ok (.istore_n 3, 1) := by decide +kernel
theorem dX1_tellsWall_14 : decode mX1_tellsWall.2.1 14 = .ok (.iload_n 3, 1) := by decide +kernel
theorem dX1_tellsWall_15 : decode mX1_tellsWall.2.1 15 = .ok (.iload_n 1, 1) := by decide +kernel
theorem dX1_tellsWall_16 : decode mX1_tellsWall.2.1 16 = .ok (.if_icmp .ge 41, 3) := by decide +kernel
theorem dX1_tellsWall_19 : decode mX1_tellsWall.2.1 19 = .ok (.aload_n 0, 1) := by decide +kernel
theorem dX1_tellsWall_20 : decode mX1_tellsWall.2.1 20 = .ok (.getfield 21, 3) := by decide +kernel
theorem dX1_tellsWall_23 : decode mX1_tellsWall.2.1 23 = .ok (.iload_n 3, 1) := by decide +kernel
theorem dX1_tellsWall_24 : decode mX1_tellsWall.2.1 24 = .ok (.iaload, 1) := by decide +kernel
theorem dX1_tellsWall_25 : decode mX1_tellsWall.2.1 25 = .ok (.bipush (-3), 2) := by decide +kernel
theorem dX1_tellsWall_27 : decode mX1_tellsWall.2.1 27 = .ok (.if_icmp .lt 13, 3) := by decide +kernel
theorem dX1_tellsWall_30 : decode mX1_tellsWall.2.1 30 = .ok (.aload_n 0, 1) := by decide +kernel
theorem dX1_tellsWall_31 : decode mX1_tellsWall.2.1 31 = .ok (.getfield 21, 3) := by decide +kernel
theorem dX1_tellsWall_34 : decode mX1_tellsWall.2.1 34 = .ok (.iload_n 3, 1) := by decide +kernel
theorem dX1_tellsWall_35 : decode mX1_tellsWall.2.1 35 = .ok (.iaload, 1) := by decide +kernel
theorem dX1_tellsWall_36 : decode mX1_tellsWall.2.1 36 = .ok (.iconst 3, 1) := by decide +kernel
theorem dX1_tellsWall_37 : decode mX1_tellsWall.2.1 37 = .ok (.if_icmp .le 5, 3) := by decide +kernel
theorem dX1_tellsWall_40 : decode mX1_tellsWall.2.1 40 = .ok (.iconst 0, 1) := by decide +kernel
theorem dX1_tellsWall_41 : decode mX1_tellsWall.2.1 41 = .ok (.ireturn, 1) := by decide +kernel
theorem dX1_tellsWall_42 : decode mX1_tellsWall.2.1 42 = .ok (.iload_n 2, 1) := by decide +kernel
theorem dX1_tellsWall_43 : decode mX1_tellsWall.2.1 43 = .ok (.aload_n 0, 1) := by decide +kernel
theorem dX1_tellsWall_44 : decode mX1_tellsWall.2.1 44 = .ok (.getfield 21, 3) := by decide +kernel
theorem dX1_tellsWall_47 : decode mX1_tellsWall.2.1 47 = .ok (.iload_n 3, 1) := by decide +kernel
theorem dX1_tellsWall_48 : decode mX1_tellsWall.2.1 48 = .ok (.iaload, 1) := by decide +kernel
theorem dX1_tellsWall_49 : decode mX1_tellsWall.2.1 49 = .ok (.iadd, 1) := by decide +kernel
theorem dX1_tellsWall_50 : decode mX1_tellsWall.2.1 50 = .ok (.istore_n 2, 1) := by decide +kernel
theorem dX1_tellsWall_51 : decode mX1_tellsWall.2.1 51 = .ok (.iinc 3 1, 3) := by decide +kernel
theorem dX1_tellsWall_54 : decode mX1_tellsWall.2.1 54 = .ok (.goto (-40), 3) := by decide +kernel
theorem dX1_tellsWall_57 : decode mX1_tellsWall.2.1 57 = .ok (.iload_n 2, 1) := by decide +kernel
theorem dX1_tellsWall_58 : decode mX1_tellsWall.2.1 58 = .ok (.iconst 1, 1) := by decide +kernel
theorem dX1_tellsWall_59 : decode mX1_tellsWall.2.1 59 = .ok (.if_icmp .ne 7, 3) := by decide +kernel
theorem dX1_tellsWall_62 : decode mX1_tellsWall.2.1 62 = .ok (.iconst 1, 1) := by decide +kernel
theorem dX1_tellsWall_63 : decode mX1_tellsWall.2.1 63 = .ok (.goto 4, 3) := by decide +kernel
theorem dX1_tellsWall_66 : decode mX1_tellsWall.2.1 66 = .ok (.iconst 0, 1) := by decide +kernel
theorem dX1_tellsWall_67 : decode mX1_tellsWall.2.1 67 = .ok (.ireturn, 1) := by decide +kernel
theorem dX1_togetherInCut_0 : decode mX1_togetherInCut.2.1 0 = .ok (.iconst 0, 1) := by decide +kernel
theorem dX1_togetherInCut_1 : decode mX1_togetherInCut.2.1 1 = .ok (.istore_n 2, 1) := by decide +kernel
theorem dX1_togetherInCut_2 : decode mX1_togetherInCut.2.1 2 = .ok (.iconst 1, 1) := by decide +kernel
theorem dX1_togetherInCut_3 : decode mX1_togetherInCut.2.1 3 = .ok (.istore_n 3, 1) := by decide +kernel
theorem dX1_togetherInCut_4 : decode mX1_togetherInCut.2.1 4 = .ok (.iload_n 3, 1) := by decide +kernel
theorem dX1_togetherInCut_5 : decode mX1_togetherInCut.2.1 5 = .ok (.aload_n 0, 1) := by decide +kernel
theorem dX1_togetherInCut_6 : decode mX1_togetherInCut.2.1 6 = .ok (.getfield 18, 3) := by decide +kernel
theorem dX1_togetherInCut_9 : decode mX1_togetherInCut.2.1 9 = .ok (.if_icmp .ge 26, 3) := by decide +kernel
theorem dX1_togetherInCut_12 : decode mX1_togetherInCut.2.1 12 = .ok (.iload_n 2, 1) := by decide +kernel
theorem dX1_togetherInCut_13 : decode mX1_togetherInCut.2.1 13 = .ok (.iload_n 1, 1) := by decide +kernel
theorem dX1_togetherInCut_14 : decode mX1_togetherInCut.2.1 14 = .ok (.iload_n 3, 1) := by decide +kernel
theorem dX1_togetherInCut_15 : decode mX1_togetherInCut.2.1 15 = .ok (.iconst 1, 1) := by decide +kernel
theorem dX1_togetherInCut_16 : decode mX1_togetherInCut.2.1 16 = .ok (.isub, 1) := by decide +kernel
theorem dX1_togetherInCut_17 : decode mX1_togetherInCut.2.1 17 = .ok (.ishr, 1) := by decide +kernel
theorem dX1_togetherInCut_18 : decode mX1_togetherInCut.2.1 18 = .ok (.iconst 1, 1) := by decide +kernel
theorem dX1_togetherInCut_19 : decode mX1_togetherInCut.2.1 19 = .ok (.iand, 1) := by decide +kernel
theorem dX1_togetherInCut_20 : decode mX1_togetherInCut.2.1 20 = .ok (.aload_n 0, 1) := by decide +kernel
theorem dX1_togetherInCut_21 : decode mX1_togetherInCut.2.1 21 = .ok (.getfield 21, 3) := by decide +kernel
theorem dX1_togetherInCut_24 : decode mX1_togetherInCut.2.1 24 = .ok (.iload_n 3, 1) := by decide +kernel
theorem dX1_togetherInCut_25 : decode mX1_togetherInCut.2.1 25 = .ok (.iaload, 1) := by decide +kernel
theorem dX1_togetherInCut_26 : decode mX1_togetherInCut.2.1 26 = .ok (.imul, 1) := by decide +kernel
theorem dX1_togetherInCut_27 : decode mX1_togetherInCut.2.1 27 = .ok (.iadd, 1) := by decide +kernel
theorem dX1_togetherInCut_28 : decode mX1_togetherInCut.2.1 28 = .ok (.istore_n 2, 1) := by decide +kernel
theorem dX1_togetherInCut_29 : decode mX1_togetherInCut.2.1 29 = .ok (.iinc 3 1, 3) := by decide +kernel
theorem dX1_togetherInCut_32 : decode mX1_togetherInCut.2.1 32 = .ok (.goto (-28), 3) := by decide +kernel
theorem dX1_togetherInCut_35 : decode mX1_togetherInCut.2.1 35 = .ok (.iload_n 2, 1) := by decide +kernel
theorem dX1_togetherInCut_36 : decode mX1_togetherInCut.2.1 36 = .ok (.ireturn, 1) := by decide +kernel
theorem dX1_turnSigns_0 : decode mX1_turnSigns.2.1 0 = .ok (.iconst 0, 1) := by decide +kernel
theorem dX1_turnSigns_1 : decode mX1_turnSigns.2.1 1 = .ok (.istore_n 2, 1) := by decide +kernel
theorem dX1_turnSigns_2 : decode mX1_turnSigns.2.1 2 = .ok (.iconst 1, 1) := by decide +kernel
theorem dX1_turnSigns_3 : decode mX1_turnSigns.2.1 3 = .ok (.istore_n 3, 1) := by decide +kernel
theorem dX1_turnSigns_4 : decode mX1_turnSigns.2.1 4 = .ok (.iload_n 3, 1) := by decide +kernel
theorem dX1_turnSigns_5 : decode mX1_turnSigns.2.1 5 = .ok (.aload_n 0, 1) := by decide +kernel
theorem dX1_turnSigns_6 : decode mX1_turnSigns.2.1 6 = .ok (.getfield 18, 3) := by decide +kernel
theorem dX1_turnSigns_9 : decode mX1_turnSigns.2.1 9 = .ok (.if_icmp .ge 44, 3) := by decide +kernel
theorem dX1_turnSigns_12 : decode mX1_turnSigns.2.1 12 = .ok (.iload_n 1, 1) := by decide +kernel
theorem dX1_turnSigns_13 : decode mX1_turnSigns.2.1 13 = .ok (.iload_n 3, 1) := by decide +kernel
theorem dX1_turnSigns_14 : decode mX1_turnSigns.2.1 14 = .ok (.iconst 1, 1) := by decide +kernel
theorem dX1_turnSigns_15 : decode mX1_turnSigns.2.1 15 = .ok (.isub, 1) := by decide +kernel
theorem dX1_turnSigns_16 : decode mX1_turnSigns.2.1 16 = .ok (.ishr, 1) := by decide +kernel
theorem dX1_turnSigns_17 : decode mX1_turnSigns.2.1 17 = .ok (.iconst 1, 1) := by decide +kernel
theorem dX1_turnSigns_18 : decode mX1_turnSigns.2.1 18 = .ok (.iand, 1) := by decide +kernel
theorem dX1_turnSigns_19 : decode mX1_turnSigns.2.1 19 = .ok (.iconst 1, 1) := by decide +kernel
theorem dX1_turnSigns_20 : decode mX1_turnSigns.2.1 20 = .ok (.if_icmp .ne 27, 3) := by decide +kernel
theorem dX1_turnSigns_23 : decode mX1_turnSigns.2.1 23 = .ok (.aload_n 0, 1) := by decide +kernel
theorem dX1_turnSigns_24 : decode mX1_turnSigns.2.1 24 = .ok (.getfield 21, 3) := by decide +kernel
theorem dX1_turnSigns_27 : decode mX1_turnSigns.2.1 27 = .ok (.iload_n 3, 1) := by decide +kernel
theorem dX1_turnSigns_28 : decode mX1_turnSigns.2.1 28 = .ok (.iaload, 1) := by decide +kernel
theorem dX1_turnSigns_29 : decode mX1_turnSigns.2.1 29 = .ok (.ifCond .eq 18, 3) := by decide +kernel
theorem dX1_turnSigns_32 : decode mX1_turnSigns.2.1 32 = .ok (.aload_n 0, 1) := by decide +kernel
theorem dX1_turnSigns_33 : decode mX1_turnSigns.2.1 33 = .ok (.getfield 21, 3) := by decide +kernel
theorem dX1_turnSigns_36 : decode mX1_turnSigns.2.1 36 = .ok (.iload_n 3, 1) := by decide +kernel
theorem dX1_turnSigns_37 : decode mX1_turnSigns.2.1 37 = .ok (.aload_n 0, 1) := by decide +kernel
theorem dX1_turnSigns_38 : decode mX1_turnSigns.2.1 38 = .ok (.getfield 21, 3) := by decide +kernel
theorem dX1_turnSigns_41 : decode mX1_turnSigns.2.1 41 = .ok (.iload_n 3, 1) := by decide +kernel
theorem dX1_turnSigns_42 : decode mX1_turnSigns.2.1 42 = .ok (.iaload, 1) := by decide +kernel
theorem dX1_turnSigns_43 : decode mX1_turnSigns.2.1 43 = .ok (.ineg, 1) := by decide +kernel
theorem dX1_turnSigns_44 : decode mX1_turnSigns.2.1 44 = .ok (.iastore, 1) := by decide +kernel
theorem dX1_turnSigns_45 : decode mX1_turnSigns.2.1 45 = .ok (.iconst 1, 1) := by decide +kernel
theorem dX1_turnSigns_46 : decode mX1_turnSigns.2.1 46 = .ok (.istore_n 2, 1) := by decide +kernel
theorem dX1_turnSigns_47 : decode mX1_turnSigns.2.1 47 = .ok (.iinc 3 1, 3) := by decide +kernel
theorem dX1_turnSigns_50 : decode mX1_turnSigns.2.1 50 = .ok (.goto (-46), 3) := by decide +kernel
theorem dX1_turnSigns_53 : decode mX1_turnSigns.2.1 53 = .ok (.iload_n 2, 1) := by decide +kernel
theorem dX1_turnSigns_54 : decode mX1_turnSigns.2.1 54 = .ok (.ireturn, 1) := by decide +kernel
theorem dX2_init_0 : decode mX2_init.2.1 0 = .ok (.aload_n 0, 1) := by decide +kernel
theorem dX2_init_1 : decode mX2_init.2.1 1 = .ok (.invokespecial 3, 3) := by decide +kernel
theorem dX2_init_4 : decode mX2_init.2.1 4 = .ok (.aload_n 0, 1) := by decide +kernel
theorem dX2_init_5 : decode mX2_init.2.1 5 = .ok (.bipush 6, 2) := by decide +kernel
theorem dX2_init_7 : decode mX2_init.2.1 7 = .ok (.newarray .int, 2) := by decide +kernel
theorem dX2_init_9 : decode mX2_init.2.1 9 = .ok (.putfield 9, 3) := by decide +kernel
theorem dX2_init_12 : decode mX2_init.2.1 12 = .ok (.aload_n 0, 1) := by decide +kernel
theorem dX2_init_13 : decode mX2_init.2.1 13 = .ok (.bipush 6, 2) := by decide +kernel
theorem dX2_init_15 : decode mX2_init.2.1 15 = .ok (.newarray .int, 2) := by decide +kernel
theorem dX2_init_17 : decode mX2_init.2.1 17 = .ok (.putfield 15, 3) := by decide +kernel
theorem dX2_init_20 : decode mX2_init.2.1 20 = .ok (.return_, 1) := by decide +kernel
theorem dX2_townDistance_0 : decode mX2_townDistance.2.1 0 = .ok (.aload_n 0, 1) := by decide +kernel
theorem dX2_townDistance_1 : decode mX2_townDistance.2.1 1 = .ok (.getfield 9, 3) := by decide +kernel
theorem dX2_townDistance_4 : decode mX2_townDistance.2.1 4 = .ok (.iload_n 1, 1) := by decide +kernel
theorem dX2_townDistance_5 : decode mX2_townDistance.2.1 5 = .ok (.iaload, 1) := by decide +kernel
theorem dX2_townDistance_6 : decode mX2_townDistance.2.1 6 = .ok (.aload_n 0, 1) := by decide +kernel
theorem dX2_townDistance_7 : decode mX2_townDistance.2.1 7 = .ok (.getfield 9, 3) := by decide +kernel
theorem dX2_townDistance_10 : decode mX2_townDistance.2.1 10 = .ok (.iload_n 2, 1) := by decide +kernel
theorem dX2_townDistance_11 : decode mX2_townDistance.2.1 11 = .ok (.iaload, 1) := by decide +kernel
theorem dX2_townDistance_12 : decode mX2_townDistance.2.1 12 = .ok (.isub, 1) := by decide +kernel
theorem dX2_townDistance_13 : decode mX2_townDistance.2.1 13 = .ok (.invokestatic 18, 3) := by decide +kernel
theorem dX2_townDistance_16 : decode mX2_townDistance.2.1 16 = .ok (.aload_n 0, 1) := by decide +kernel
theorem dX2_townDistance_17 : decode mX2_townDistance.2.1 17 = .ok (.getfield 15, 3) := by decide +kernel
theorem dX2_townDistance_20 : decode mX2_townDistance.2.1 20 = .ok (.iload_n 1, 1) := by decide +kernel
theorem dX2_townDistance_21 : decode mX2_townDistance.2.1 21 = .ok (.iaload, 1) := by decide +kernel
theorem dX2_townDistance_22 : decode mX2_townDistance.2.1 22 = .ok (.aload_n 0, 1) := by decide +kernel
theorem dX2_townDistance_23 : decode mX2_townDistance.2.1 23 = .ok (.getfield 15, 3) := by decide +kernel
theorem dX2_townDistance_26 : decode mX2_townDistance.2.1 26 = .ok (.iload_n 2, 1) := by decide +kernel
theorem dX2_townDistance_27 : decode mX2_townDistance.2.1 27 = .ok (.iaload, 1) := by decide +kernel
theorem dX2_townDistance_28 : decode mX2_townDistance.2.1 28 = .ok (.isub, 1) := by decide +kernel
theorem dX2_townDistance_29 : decode mX2_townDistance.2.1 29 = .ok (.invokestatic 18, 3) := by decide +kernel
theorem dX2_townDistance_32 : decode mX2_townDistance.2.1 32 = .ok (.iadd, 1) := by decide +kernel
theorem dX2_townDistance_33 : decode mX2_townDistance.2.1 33 = .ok (.ireturn, 1) := by decide +kernel
theorem dX2_clearFrom_0 : decode mX2_clearFrom.2.1 0 = .ok (.iload_n 1, 1) := by decide +kernel
theorem dX2_clearFrom_1 : decode mX2_clearFrom.2.1 1 = .ok (.istore_n 2, 1) := by decide +kernel
theorem dX2_clearFrom_2 : decode mX2_clearFrom.2.1 2 = .ok (.iload_n 2, 1) := by decide +kernel
theorem dX2_clearFrom_3 : decode mX2_clearFrom.2.1 3 = .ok (.bipush 6, 2) := by decide +kernel
theorem dX2_clearFrom_5 : decode mX2_clearFrom.2.1 5 = .ok (.if_icmp .ge 23, 3) := by decide +kernel
theorem dX2_clearFrom_8 : decode mX2_clearFrom.2.1 8 = .ok (.aload_n 0, 1) := by decide +kernel
theorem dX2_clearFrom_9 : decode mX2_clearFrom.2.1 9 = .ok (.getfield 9, 3) := by decide +kernel
theorem dX2_clearFrom_12 : decode mX2_clearFrom.2.1 12 = .ok (.iload_n 2, 1) := by decide +kernel
theorem dX2_clearFrom_13 : decode mX2_clearFrom.2.1 13 = .ok (.iconst 0, 1) := by decide +kernel
theorem dX2_clearFrom_14 : decode mX2_clearFrom.2.1 14 = .ok (.iastore, 1) := by decide +kernel
theorem dX2_clearFrom_15 : decode mX2_clearFrom.2.1 15 = .ok (.aload_n 0, 1) := by decide +kernel
theorem dX2_clearFrom_16 : decode mX2_clearFrom.2.1 16 = .ok (.getfield 15, 3) := by decide +kernel
theorem dX2_clearFrom_19 : decode mX2_clearFrom.2.1 19 = .ok (.iload_n 2, 1) := by decide +kernel
theorem dX2_clearFrom_20 : decode mX2_clearFrom.2.1 20 = .ok (.iconst 0, 1) := by decide +kernel
theorem dX2_clearFrom_21 : decode mX2_clearFrom.2.1 21 = .ok (.iastore, 1) := by decide +kernel
theorem dX2_clearFrom_22 : decode mX2_clearFrom.2.1 22 = .ok (.iinc 2 1, 3) := by decide +kernel
theorem dX2_clearFrom_25 : decode mX2_clearFrom.2.1 25 = .ok (.goto (-23), 3) := by decide +kernel
theorem dX2_clearFrom_28 : decode mX2_clearFrom.2.1 28 = .ok (.return_, 1) := by decide +kernel
theorem dX2_copyFrom_0 : decode mX2_copyFrom.2.1 0 = .ok (.aload_n 1, 1) := by decide +kernel
theorem dX2_copyFrom_1 : decode mX2_copyFrom.2.1 1 = .ok (.getfield 9, 3) := by decide +kernel
theorem dX2_copyFrom_4 : decode mX2_copyFrom.2.1 4 = .ok (.iconst 0, 1) := by decide +kernel
theorem dX2_copyFrom_5 : decode mX2_copyFrom.2.1 5 = .ok (.aload_n 0, 1) := by decide +kernel
theorem dX2_copyFrom_6 : decode mX2_copyFrom.2.1 6 = .ok (.getfield 9, 3) := by decide +kernel
theorem dX2_copyFrom_9 : decode mX2_copyFrom.2.1 9 = .ok (.iconst 0, 1) := by decide +kernel
theorem dX2_copyFrom_10 : decode mX2_copyFrom.2.1 10 = .ok (.bipush 6, 2) := by decide +kernel
theorem dX2_copyFrom_12 : decode mX2_copyFrom.2.1 12 = .ok (.invokestatic 24, 3) := by decide +kernel
theorem dX2_copyFrom_15 : decode mX2_copyFrom.2.1 15 = .ok (.aload_n 1, 1) := by decide +kernel
theorem dX2_copyFrom_16 : decode mX2_copyFrom.2.1 16 = .ok (.getfield 15, 3) := by decide +kernel
theorem dX2_copyFrom_19 : decode mX2_copyFrom.2.1 19 = .ok (.iconst 0, 1) := by decide +kernel
theorem dX2_copyFrom_20 : decode mX2_copyFrom.2.1 20 = .ok (.aload_n 0, 1) := by decide +kernel
theorem dX2_copyFrom_21 : decode mX2_copyFrom.2.1 21 = .ok (.getfield 15, 3) := by decide +kernel
theorem dX2_copyFrom_24 : decode mX2_copyFrom.2.1 24 = .ok (.iconst 0, 1) := by decide +kernel
theorem dX2_copyFrom_25 : decode mX2_copyFrom.2.1 25 = .ok (.bipush 6, 2) := by decide +kernel
theorem dX2_copyFrom_27 : decode mX2_copyFrom.2.1 27 = .ok (.invokestatic 24, 3) := by decide +kernel
theorem dX2_copyFrom_30 : decode mX2_copyFrom.2.1 30 = .ok (.return_, 1) := by decide +kernel
theorem dX3_init_0 : decode mX3_init.2.1 0 = .ok (.aload_n 0, 1) := by decide +kernel
theorem dX3_init_1 : decode mX3_init.2.1 1 = .ok (.invokespecial 3, 3) := by decide +kernel
theorem dX3_init_4 : decode mX3_init.2.1 4 = .ok (.aload_n 0, 1) := by decide +kernel
theorem dX3_init_5 : decode mX3_init.2.1 5 = .ok (.bipush 15, 2) := by decide +kernel
theorem dX3_init_7 : decode mX3_init.2.1 7 = .ok (.bipush 15, 2) := by decide +kernel
theorem dX3_init_9 : decode mX3_init.2.1 9 = .ok (.multianewarray 9 2, 4) := by decide +kernel
theorem dX3_init_13 : decode mX3_init.2.1 13 = .ok (.putfield 11, 3) := by decide +kernel
theorem dX3_init_16 : decode mX3_init.2.1 16 = .ok (.aload_n 0, 1) := by decide +kernel
theorem dX3_init_17 : decode mX3_init.2.1 17 = .ok (.bipush 15, 2) := by decide +kernel
theorem dX3_init_19 : decode mX3_init.2.1 19 = .ok (.newarray .long, 2) := by decide +kernel
theorem dX3_init_21 : decode mX3_init.2.1 21 = .ok (.putfield 16, 3) := by decide +kernel
theorem dX3_init_24 : decode mX3_init.2.1 24 = .ok (.aload_n 0, 1) := by decide +kernel
theorem dX3_init_25 : decode mX3_init.2.1 25 = .ok (.bipush 15, 2) := by decide +kernel
theorem dX3_init_27 : decode mX3_init.2.1 27 = .ok (.newarray .boolean, 2) := by decide +kernel
theorem dX3_init_29 : decode mX3_init.2.1 29 = .ok (.putfield 20, 3) := by decide +kernel
theorem dX3_init_32 : decode mX3_init.2.1 32 = .ok (.aload_n 0, 1) := by decide +kernel
theorem dX3_init_33 : decode mX3_init.2.1 33 = .ok (.iconst 0, 1) := by decide +kernel
theorem dX3_init_34 : decode mX3_init.2.1 34 = .ok (.putfield 24, 3) := by decide +kernel
theorem dX3_init_37 : decode mX3_init.2.1 37 = .ok (.aload_n 0, 1) := by decide +kernel
theorem dX3_init_38 : decode mX3_init.2.1 38 = .ok (.iconst 0, 1) := by decide +kernel
theorem dX3_init_39 : decode mX3_init.2.1 39 = .ok (.putfield 28, 3) := by decide +kernel
theorem dX3_init_42 : decode mX3_init.2.1 42 = .ok (.return_, 1) := by decide +kernel
theorem dX3_start_0 : decode mX3_start.2.1 0 = .ok (.aload_n 0, 1) := by decide +kernel
theorem dX3_start_1 : decode mX3_start.2.1 1 = .ok (.iload_n 1, 1) := by decide +kernel
theorem dX3_start_2 : decode mX3_start.2.1 2 = .ok (.putfield 24, 3) := by decide +kernel
theorem dX3_start_5 : decode mX3_start.2.1 5 = .ok (.aload_n 0, 1) := by decide +kernel
theorem dX3_start_6 : decode mX3_start.2.1 6 = .ok (.iconst 0, 1) := by decide +kernel
theorem dX3_start_7 : decode mX3_start.2.1 7 = .ok (.putfield 28, 3) := by decide +kernel
theorem dX3_start_10 : decode mX3_start.2.1 10 = .ok (.iconst 0, 1) := by decide +kernel
theorem dX3_start_11 : decode mX3_start.2.1 11 = .ok (.istore_n 2, 1) := by decide +kernel
theorem dX3_start_12 : decode mX3_start.2.1 12 = .ok (.iload_n 2, 1) := by decide +kernel
theorem dX3_start_13 : decode mX3_start.2.1 13 = .ok (.bipush 15, 2) := by decide +kernel
theorem dX3_start_15 : decode mX3_start.2.1 15 = .ok (.if_icmp .ge 16, 3) := by decide +kernel
theorem dX3_start_18 : decode mX3_start.2.1 18 = .ok (.aload_n 0, 1) := by decide +kernel
theorem dX3_start_19 : decode mX3_start.2.1 19 = .ok (.getfield 20, 3) := by decide +kernel
theorem dX3_start_22 : decode mX3_start.2.1 22 = .ok (.iload_n 2, 1) := by decide +kernel
theorem dX3_start_23 : decode mX3_start.2.1 23 = .ok (.iconst 0, 1) := by decide +kernel
theorem dX3_start_24 : decode mX3_start.2.1 24 = .ok (.bastore, 1) := by decide +kernel
theorem dX3_start_25 : decode mX3_start.2.1 25 = .ok (.iinc 2 1, 3) := by decide +kernel
theorem dX3_start_28 : decode mX3_start.2.1 28 = .ok (.goto (-16), 3) := by decide +kernel
theorem dX3_start_31 : decode mX3_start.2.1 31 = .ok (.return_, 1) := by decide +kernel
theorem dX3_addBits_0 : decode mX3_addBits.2.1 0 = .ok (.iconst 0, 1) := by decide +kernel
theorem dX3_addBits_1 : decode mX3_addBits.2.1 1 = .ok (.istore_n 2, 1) := by decide +kernel
theorem dX3_addBits_2 : decode mX3_addBits.2.1 2 = .ok (.iload_n 2, 1) := by decide +kernel
theorem dX3_addBits_3 : decode mX3_addBits.2.1 3 = .ok (.aload_n 0, 1) := by decide +kernel
theorem dX3_addBits_4 : decode mX3_addBits.2.1 4 = .ok (.getfield 24, 3) := by decide +kernel
theorem dX3_addBits_7 : decode mX3_addBits.2.1 7 = .ok (.if_icmp .ge 21, 3) := by decide +kernel
theorem dX3_addBits_10 : decode mX3_addBits.2.1 10 = .ok (.aload_n 0, 1) := by decide +kernel
theorem dX3_addBits_11 : decode mX3_addBits.2.1 11 = .ok (.getfield 16, 3) := by decide +kernel
theorem dX3_addBits_14 : decode mX3_addBits.2.1 14 = .ok (.iload_n 2, 1) := by decide +kernel
theorem dX3_addBits_15 : decode mX3_addBits.2.1 15 = .ok (.iload_n 1, 1) := by decide +kernel
theorem dX3_addBits_16 : decode mX3_addBits.2.1 16 = .ok (.iload_n 2, 1) := by decide +kernel
theorem dX3_addBits_17 : decode mX3_addBits.2.1 17 = .ok (.ishr, 1) := by decide +kernel
theorem dX3_addBits_18 : decode mX3_addBits.2.1 18 = .ok (.iconst 1, 1) := by decide +kernel
theorem dX3_addBits_19 : decode mX3_addBits.2.1 19 = .ok (.iand, 1) := by decide +kernel
theorem dX3_addBits_20 : decode mX3_addBits.2.1 20 = .ok (.i2l, 1) := by decide +kernel
theorem dX3_addBits_21 : decode mX3_addBits.2.1 21 = .ok (.lastore, 1) := by decide +kernel
theorem dX3_addBits_22 : decode mX3_addBits.2.1 22 = .ok (.iinc 2 1, 3) := by decide +kernel
theorem dX3_addBits_25 : decode mX3_addBits.2.1 25 = .ok (.goto (-23), 3) := by decide +kernel
theorem dX3_addBits_28 : decode mX3_addBits.2.1 28 = .ok (.iconst 0, 1) := by decide +kernel
theorem dX3_addBits_29 : decode mX3_addBits.2.1 29 = .ok (.istore_n 2, 1) := by decide +kernel
theorem dX3_addBits_30 : decode mX3_addBits.2.1 30 = .ok (.iload_n 2, 1) := by decide +kernel
theorem dX3_addBits_31 : decode mX3_addBits.2.1 31 = .ok (.aload_n 0, 1) := by decide +kernel
theorem dX3_addBits_32 : decode mX3_addBits.2.1 32 = .ok (.getfield 24, 3) := by decide +kernel
theorem dX3_addBits_35 : decode mX3_addBits.2.1 35 = .ok (.if_icmp .ge 82, 3) := by decide +kernel
theorem dX3_addBits_38 : decode mX3_addBits.2.1 38 = .ok (.aload_n 0, 1) := by decide +kernel
theorem dX3_addBits_39 : decode mX3_addBits.2.1 39 = .ok (.getfield 16, 3) := by decide +kernel
theorem dX3_addBits_42 : decode mX3_addBits.2.1 42 = .ok (.iload_n 2, 1) := by decide +kernel
theorem dX3_addBits_43 : decode mX3_addBits.2.1 43 = .ok (.laload, 1) := by decide +kernel
theorem dX3_addBits_44 : decode mX3_addBits.2.1 44 = .ok (.lconst 0, 1) := by decide +kernel
theorem dX3_addBits_45 : decode mX3_addBits.2.1 45 = .ok (.lcmp, 1) := by decide +kernel
theorem dX3_addBits_46 : decode mX3_addBits.2.1 46 = .ok (.ifCond .eq 49, 3) := by decide +kernel
theorem dX3_addBits_49 : decode mX3_addBits.2.1 49 = .ok (.aload_n 0, 1) := by decide +kernel
theorem dX3_addBits_50 : decode mX3_addBits.2.1 50 = .ok (.getfield 20, 3) := by decide +kernel
theorem dX3_addBits_53 : decode mX3_addBits.2.1 53 = .ok (.iload_n 2, 1) := by decide +kernel
theorem dX3_addBits_54 : decode mX3_addBits.2.1 54 = .ok (.baload, 1) := by decide +kernel
theorem dX3_addBits_55 : decode mX3_addBits.2.1 55 = .ok (.ifCond .ne 40, 3) := by decide +kernel
theorem dX3_addBits_58 : decode mX3_addBits.2.1 58 = .ok (.aload_n 0, 1) := by decide +kernel
theorem dX3_addBits_59 : decode mX3_addBits.2.1 59 = .ok (.getfield 16, 3) := by decide +kernel
theorem dX3_addBits_62 : decode mX3_addBits.2.1 62 = .ok (.iconst 0, 1) := by decide +kernel
theorem dX3_addBits_63 : decode mX3_addBits.2.1 63 = .ok (.aload_n 0, 1) := by decide +kernel
theorem dX3_addBits_64 : decode mX3_addBits.2.1 64 = .ok (.getfield 11, 3) := by decide +kernel
theorem dX3_addBits_67 : decode mX3_addBits.2.1 67 = .ok (.iload_n 2, 1) := by decide +kernel
theorem dX3_addBits_68 : decode mX3_addBits.2.1 68 = .ok (.aaload, 1) := by decide +kernel
theorem dX3_addBits_69 : decode mX3_addBits.2.1 69 = .ok (.iconst 0, 1) := by decide +kernel
theorem dX3_addBits_70 : decode mX3_addBits.2.1 70 = .ok (.aload_n 0, 1) := by decide +kernel
theorem dX3_addBits_71 : decode mX3_addBits.2.1 71 = .ok (.getfield 24, 3) := by decide +kernel
theorem dX3_addBits_74 : decode mX3_addBits.2.1 74 = .ok (.invokestatic 31, 3) := by decide +kernel
theorem dX3_addBits_77 : decode mX3_addBits.2.1 77 = .ok (.aload_n 0, 1) := by decide +kernel
theorem dX3_addBits_78 : decode mX3_addBits.2.1 78 = .ok (.getfield 20, 3) := by decide +kernel
theorem dX3_addBits_81 : decode mX3_addBits.2.1 81 = .ok (.iload_n 2, 1) := by decide +kernel
theorem dX3_addBits_82 : decode mX3_addBits.2.1 82 = .ok (.iconst 1, 1) := by decide +kernel
theorem dX3_addBits_83 : decode mX3_addBits.2.1 83 = .ok (.bastore, 1) := by decide +kernel
theorem dX3_addBits_84 : decode mX3_addBits.2.1 84 = .ok (.aload_n 0, 1) := by decide +kernel
theorem dX3_addBits_85 : decode mX3_addBits.2.1 85 = .ok (.dup, 1) := by decide +kernel
theorem dX3_addBits_86 : decode mX3_addBits.2.1 86 = .ok (.getfield 28, 3) := by decide +kernel
theorem dX3_addBits_89 : decode mX3_addBits.2.1 89 = .ok (.iconst 1, 1) := by decide +kernel
theorem dX3_addBits_90 : decode mX3_addBits.2.1 90 = .ok (.iadd, 1) := by decide +kernel
theorem dX3_addBits_91 : decode mX3_addBits.2.1 91 = .ok (.putfield 28, 3) := by decide +kernel
theorem dX3_addBits_94 : decode mX3_addBits.2.1 94 = .ok (.return_, 1) := by decide +kernel
theorem dX3_addBits_95 : decode mX3_addBits.2.1 95 = .ok (.aload_n 0, 1) := by decide +kernel
theorem dX3_addBits_96 : decode mX3_addBits.2.1 96 = .ok (.getfield 16, 3) := by decide +kernel
theorem dX3_addBits_99 : decode mX3_addBits.2.1 99 = .ok (.iload_n 2, 1) := by decide +kernel
theorem dX3_addBits_100 : decode mX3_addBits.2.1 100 = .ok (.laload, 1) := by decide +kernel
theorem dX3_addBits_101 : decode mX3_addBits.2.1 101 = .ok (.lconst 0, 1) := by decide +kernel
theorem dX3_addBits_102 : decode mX3_addBits.2.1 102 = .ok (.lcmp, 1) := by decide +kernel
theorem dX3_addBits_103 : decode mX3_addBits.2.1 103 = .ok (.ifCond .eq 8, 3) := by decide +kernel
theorem dX3_addBits_106 : decode mX3_addBits.2.1 106 = .ok (.aload_n 0, 1) := by decide +kernel
theorem dX3_addBits_107 : decode mX3_addBits.2.1 107 = .ok (.iload_n 2, 1) := by decide +kernel
theorem dX3_addBits_108 : decode mX3_addBits.2.1 108 = .ok (.invokevirtual 37, 3) := by decide +kernel
theorem dX3_addBits_111 : decode mX3_addBits.2.1 111 = .ok (.iinc 2 1, 3) := by decide +kernel
theorem dX3_addBits_114 : decode mX3_addBits.2.1 114 = .ok (.goto (-84), 3) := by decide +kernel
theorem dX3_addBits_117 : decode mX3_addBits.2.1 117 = .ok (.return_, 1) := by decide +kernel
theorem dX3_clearColumn_0 : decode mX3_clearColumn.2.1 0 = .ok (.aload_n 0, 1) := by decide +kernel
theorem dX3_clearColumn_1 : decode mX3_clearColumn.2.1 1 = .ok (.getfield 16, 3) := by decide +kernel
theorem dX3_clearColumn_4 : decode mX3_clearColumn.2.1 4 = .ok (.iload_n 1, 1) := by decide +kernel
theorem dX3_clearColumn_5 : decode mX3_clearColumn.2.1 5 = .ok (.laload, 1) := by decide +kernel
theorem dX3_clearColumn_6 : decode mX3_clearColumn.2.1 6 = .ok (.lstore_n 2, 1) := by decide +kernel
theorem dX3_clearColumn_7 : decode mX3_clearColumn.2.1 7 = .ok (.aload_n 0, 1) := by decide +kernel
theorem dX3_clearColumn_8 : decode mX3_clearColumn.2.1 8 = .ok (.getfield 11, 3) := by decide +kernel
theorem dX3_clearColumn_11 : decode mX3_clearColumn.2.1 11 = .ok (.iload_n 1, 1) := by decide +kernel
theorem dX3_clearColumn_12 : decode mX3_clearColumn.2.1 12 = .ok (.aaload, 1) := by decide +kernel
theorem dX3_clearColumn_13 : decode mX3_clearColumn.2.1 13 = .ok (.iload_n 1, 1) := by decide +kernel
theorem dX3_clearColumn_14 : decode mX3_clearColumn.2.1 14 = .ok (.laload, 1) := by decide +kernel
theorem dX3_clearColumn_15 : decode mX3_clearColumn.2.1 15 = .ok (.lstore 4, 2) := by decide +kernel
theorem dX3_clearColumn_17 : decode mX3_clearColumn.2.1 17 = .ok (.iload_n 1, 1) := by decide +kernel
theorem dX3_clearColumn_18 : decode mX3_clearColumn.2.1 18 = .ok (.istore 6, 2) := by decide +kernel
theorem dX3_clearColumn_20 : decode mX3_clearColumn.2.1 20 = .ok (.iload 6, 2) := by decide +kernel
theorem dX3_clearColumn_22 : decode mX3_clearColumn.2.1 22 = .ok (.aload_n 0, 1) := by decide +kernel
theorem dX3_clearColumn_23 : decode mX3_clearColumn.2.1 23 = .ok (.getfield 24, 3) := by decide +kernel
theorem dX3_clearColumn_26 : decode mX3_clearColumn.2.1 26 = .ok (.if_icmp .ge 44, 3) := by decide +kernel
theorem dX3_clearColumn_29 : decode mX3_clearColumn.2.1 29 = .ok (.aload_n 0, 1) := by decide +kernel
theorem dX3_clearColumn_30 : decode mX3_clearColumn.2.1 30 = .ok (.getfield 16, 3) := by decide +kernel
theorem dX3_clearColumn_33 : decode mX3_clearColumn.2.1 33 = .ok (.iload 6, 2) := by decide +kernel
theorem dX3_clearColumn_35 : decode mX3_clearColumn.2.1 35 = .ok (.aload_n 0, 1) := by decide +kernel
theorem dX3_clearColumn_36 : decode mX3_clearColumn.2.1 36 = .ok (.getfield 16, 3) := by decide +kernel
theorem dX3_clearColumn_39 : decode mX3_clearColumn.2.1 39 = .ok (.iload 6, 2) := by decide +kernel
theorem dX3_clearColumn_41 : decode mX3_clearColumn.2.1 41 = .ok (.laload, 1) := by decide +kernel
theorem dX3_clearColumn_42 : decode mX3_clearColumn.2.1 42 = .ok (.lload 4, 2) := by decide +kernel
theorem dX3_clearColumn_44 : decode mX3_clearColumn.2.1 44 = .ok (.lmul, 1) := by decide +kernel
theorem dX3_clearColumn_45 : decode mX3_clearColumn.2.1 45 = .ok (.aload_n 0, 1) := by decide +kernel
theorem dX3_clearColumn_46 : decode mX3_clearColumn.2.1 46 = .ok (.getfield 11, 3) := by decide +kernel
theorem dX3_clearColumn_49 : decode mX3_clearColumn.2.1 49 = .ok (.iload_n 1, 1) := by decide +kernel
theorem dX3_clearColumn_50 : decode mX3_clearColumn.2.1 50 = .ok (.aaload, 1) := by decide +kernel
theorem dX3_clearColumn_51 : decode mX3_clearColumn.2.1 51 = .ok (.iload 6, 2) := by decide +kernel
theorem dX3_clearColumn_53 : decode mX3_clearColumn.2.1 53 = .ok (.laload, 1) := by decide +kernel
theorem dX3_clearColumn_54 : decode mX3_clearColumn.2.1 54 = .ok (.lload_n 2, 1) := by decide +kernel
theorem dX3_clearColumn_55 : decode mX3_clearColumn.2.1 55 = .ok (.lmul, 1) := by decide +kernel
theorem dX3_clearColumn_56 : decode mX3_clearColumn.2.1 56 = .ok (.lsub, 1) := by decide +kernel
theorem dX3_clearColumn_57 : decode mX3_clearColumn.2.1 57 = .ok (.ldc2_w 41, 3) := by decide +kernel
theorem dX3_clearColumn_60 : decode mX3_clearColumn.2.1 60 = .ok (.invokestatic 43, 3) := by decide +kernel
theorem dX3_clearColumn_63 : decode mX3_clearColumn.2.1 63 = .ok (.lastore, 1) := by decide +kernel
theorem dX3_clearColumn_64 : decode mX3_clearColumn.2.1 64 = .ok (.iinc 6 1, 3) := by decide +kernel
theorem dX3_clearColumn_67 : decode mX3_clearColumn.2.1 67 = .ok (.goto (-47), 3) := by decide +kernel
theorem dX3_clearColumn_70 : decode mX3_clearColumn.2.1 70 = .ok (.return_, 1) := by decide +kernel
theorem dX4_init_0 : decode mX4_init.2.1 0 = .ok (.aload_n 0, 1) := by decide +kernel
theorem dX4_init_1 : decode mX4_init.2.1 1 = .ok (.invokespecial 3, 3) := by decide +kernel
theorem dX4_init_4 : decode mX4_init.2.1 4 = .ok (.aload_n 0, 1) := by decide +kernel
theorem dX4_init_5 : decode mX4_init.2.1 5 = .ok (.bipush 61, 2) := by decide +kernel
theorem dX4_init_7 : decode mX4_init.2.1 7 = .ok (.newarray .int, 2) := by decide +kernel
theorem dX4_init_9 : decode mX4_init.2.1 9 = .ok (.putfield 9, 3) := by decide +kernel
theorem dX4_init_12 : decode mX4_init.2.1 12 = .ok (.aload_n 0, 1) := by decide +kernel
theorem dX4_init_13 : decode mX4_init.2.1 13 = .ok (.iconst 0, 1) := by decide +kernel
theorem dX4_init_14 : decode mX4_init.2.1 14 = .ok (.putfield 15, 3) := by decide +kernel
theorem dX4_init_17 : decode mX4_init.2.1 17 = .ok (.return_, 1) := by decide +kernel
theorem dX4_write_0 : decode mX4_write.2.1 0 = .ok (.aload_n 0, 1) := by decide +kernel
theorem dX4_write_1 : decode mX4_write.2.1 1 = .ok (.iconst 0, 1) := by decide +kernel
theorem dX4_write_2 : decode mX4_write.2.1 2 = .ok (.putfield 15, 3) := by decide +kernel
theorem dX4_write_5 : decode mX4_write.2.1 5 = .ok (.aload_n 0, 1) := by decide +kernel
theorem dX4_write_6 : decode mX4_write.2.1 6 = .ok (.bipush 48, 2) := by decide +kernel
theorem dX4_write_8 : decode mX4_write.2.1 8 = .ok (.aload_n 1, 1) := by decide +kernel
theorem dX4_write_9 : decode mX4_write.2.1 9 = .ok (.getfield 19, 3) := by decide +kernel
theorem dX4_write_12 : decode mX4_write.2.1 12 = .ok (.iadd, 1) := by decide +kernel
theorem dX4_write_13 : decode mX4_write.2.1 13 = .ok (.invokevirtual 24, 3) := by decide +kernel
theorem dX4_write_16 : decode mX4_write.2.1 16 = .ok (.iconst 1, 1) := by decide +kernel
theorem dX4_write_17 : decode mX4_write.2.1 17 = .ok (.istore_n 2, 1) := by decide +kernel
theorem dX4_write_18 : decode mX4_write.2.1 18 = .ok (.iload_n 2, 1) := by decide +kernel
theorem dX4_write_19 : decode mX4_write.2.1 19 = .ok (.aload_n 1, 1) := by decide +kernel
theorem dX4_write_20 : decode mX4_write.2.1 20 = .ok (.getfield 19, 3) := by decide +kernel
theorem dX4_write_23 : decode mX4_write.2.1 23 = .ok (.if_icmp .ge 47, 3) := by decide +kernel
theorem dX4_write_26 : decode mX4_write.2.1 26 = .ok (.iconst 0, 1) := by decide +kernel
theorem dX4_write_27 : decode mX4_write.2.1 27 = .ok (.istore_n 3, 1) := by decide +kernel
theorem dX4_write_28 : decode mX4_write.2.1 28 = .ok (.iload_n 3, 1) := by decide +kernel
theorem dX4_write_29 : decode mX4_write.2.1 29 = .ok (.iload_n 2, 1) := by decide +kernel
theorem dX4_write_30 : decode mX4_write.2.1 30 = .ok (.if_icmp .ge 34, 3) := by decide +kernel
theorem dX4_write_33 : decode mX4_write.2.1 33 = .ok (.aload_n 0, 1) := by decide +kernel
theorem dX4_write_34 : decode mX4_write.2.1 34 = .ok (.iload_n 3, 1) := by decide +kernel
theorem dX4_write_35 : decode mX4_write.2.1 35 = .ok (.ifCond .ne 8, 3) := by decide +kernel
theorem dX4_write_38 : decode mX4_write.2.1 38 = .ok (.bipush 59, 2) := by decide +kernel
theorem dX4_write_40 : decode mX4_write.2.1 40 = .ok (.goto 5, 3) := by decide +kernel
theorem dX4_write_43 : decode mX4_write.2.1 43 = .ok (.bipush 44, 2) := by decide +kernel
theorem dX4_write_45 : decode mX4_write.2.1 45 = .ok (.invokevirtual 24, 3) := by decide +kernel
theorem dX4_write_48 : decode mX4_write.2.1 48 = .ok (.aload_n 0, 1) := by decide +kernel
theorem dX4_write_49 : decode mX4_write.2.1 49 = .ok (.aload_n 1, 1) := by decide +kernel
theorem dX4_write_50 : decode mX4_write.2.1 50 = .ok (.iload_n 3, 1) := by decide +kernel
theorem dX4_write_51 : decode mX4_write.2.1 51 = .ok (.iload_n 2, 1) := by decide +kernel
theorem dX4_write_52 : decode mX4_write.2.1 52 = .ok (.invokevirtual 28, 3) := by decide +kernel
theorem dX4_write_55 : decode mX4_write.2.1 55 = .ok (.invokevirtual 32, 3) := by decide +kernel
theorem dX4_write_58 : decode mX4_write.2.1 58 = .ok (.iinc 3 1, 3) := by decide +kernel
theorem dX4_write_61 : decode mX4_write.2.1 61 = .ok (.goto (-33), 3) := by decide +kernel
theorem dX4_write_64 : decode mX4_write.2.1 64 = .ok (.iinc 2 1, 3) := by decide +kernel
theorem dX4_write_67 : decode mX4_write.2.1 67 = .ok (.goto (-49), 3) := by decide +kernel
theorem dX4_write_70 : decode mX4_write.2.1 70 = .ok (.return_, 1) := by decide +kernel
theorem dX4_writeFigures_0 : decode mX4_writeFigures.2.1 0 = .ok (.iload_n 1, 1) := by decide +kernel
theorem dX4_writeFigures_1 : decode mX4_writeFigures.2.1 1 = .ok (.bipush 100, 2) := by decide +kernel
theorem dX4_writeFigures_3 : decode mX4_writeFigures.2.1 3 = .ok (.if_icmp .lt 14, 3) := by decide +kernel
theorem dX4_writeFigures_6 : decode mX4_writeFigures.2.1 6 = .ok (.aload_n 0, 1) := by decide +kernel
theorem dX4_writeFigures_7 : decode mX4_writeFigures.2.1 7 = .ok (.bipush 48, 2) := by decide +kernel
theorem dX4_writeFigures_9 : decode mX4_writeFigures.2.1 9 = .ok (.iload_n 1, 1) := by decide +kernel
theorem dX4_writeFigures_10 : decode mX4_writeFigures.2.1 10 = .ok (.bipush 100, 2) := by decide +kernel
theorem dX4_writeFigures_12 : decode mX4_writeFigures.2.1 12 = .ok (.idiv, 1) := by decide +kernel
theorem dX4_writeFigures_13 : decode mX4_writeFigures.2.1 13 = .ok (.iadd, 1) := by decide +kernel
theorem dX4_writeFigures_14 : decode mX4_writeFigures.2.1 14 = .ok (.invokevirtual 24, 3) := by decide +kernel
theorem dX4_writeFigures_17 : decode mX4_writeFigures.2.1 17 = .ok (.iload_n 1, 1) := by decide +kernel
theorem dX4_writeFigures_18 : decode mX4_writeFigures.2.1 18 = .ok (.bipush 10, 2) := by decide +kernel
theorem dX4_writeFigures_20 : decode mX4_writeFigures.2.1 20 = .ok (.if_icmp .lt 17, 3) := by decide +kernel
theorem dX4_writeFigures_23 : decode mX4_writeFigures.2.1 23 = .ok (.aload_n 0, 1) := by decide +kernel
theorem dX4_writeFigures_24 : decode mX4_writeFigures.2.1 24 = .ok (.bipush 48, 2) := by decide +kernel
theorem dX4_writeFigures_26 : decode mX4_writeFigures.2.1 26 = .ok (.iload_n 1, 1) := by decide +kernel
theorem dX4_writeFigures_27 : decode mX4_writeFigures.2.1 27 = .ok (.bipush 10, 2) := by decide +kernel
theorem dX4_writeFigures_29 : decode mX4_writeFigures.2.1 29 = .ok (.idiv, 1) := by decide +kernel
theorem dX4_writeFigures_30 : decode mX4_writeFigures.2.1 30 = .ok (.bipush 10, 2) := by decide +kernel
theorem dX4_writeFigures_32 : decode mX4_writeFigures.2.1 32 = .ok (.irem, 1) := by decide +kernel
theorem dX4_writeFigures_33 : decode mX4_writeFigures.2.1 33 = .ok (.iadd, 1) := by decide +kernel
theorem dX4_writeFigures_34 : decode mX4_writeFigures.2.1 34 = .ok (.invokevirtual 24, 3) := by decide +kernel
theorem dX4_writeFigures_37 : decode mX4_writeFigures.2.1 37 = .ok (.aload_n 0, 1) := by decide +kernel
theorem dX4_writeFigures_38 : decode mX4_writeFigures.2.1 38 = .ok (.bipush 48, 2) := by decide +kernel
theorem dX4_writeFigures_40 : decode mX4_writeFigures.2.1 40 = .ok (.iload_n 1, 1) := by decide +kernel
theorem dX4_writeFigures_41 : decode mX4_writeFigures.2.1 41 = .ok (.bipush 10, 2) := by decide +kernel
theorem dX4_writeFigures_43 : decode mX4_writeFigures.2.1 43 = .ok (.irem, 1) := by decide +kernel
theorem dX4_writeFigures_44 : decode mX4_writeFigures.2.1 44 = .ok (.iadd, 1) := by decide +kernel
theorem dX4_writeFigures_45 : decode mX4_writeFigures.2.1 45 = .ok (.invokevirtual 24, 3) := by decide +kernel
theorem dX4_writeFigures_48 : decode mX4_writeFigures.2.1 48 = .ok (.return_, 1) := by decide +kernel
theorem dX4_append_0 : decode mX4_append.2.1 0 = .ok (.aload_n 0, 1) := by decide +kernel
theorem dX4_append_1 : decode mX4_append.2.1 1 = .ok (.getfield 15, 3) := by decide +kernel
theorem dX4_append_4 : decode mX4_append.2.1 4 = .ok (.bipush 61, 2) := by decide +kernel
theorem dX4_append_6 : decode mX4_append.2.1 6 = .ok (.if_icmp .ge 23, 3) := by decide +kernel
theorem dX4_append_9 : decode mX4_append.2.1 9 = .ok (.aload_n 0, 1) := by decide +kernel
theorem dX4_append_10 : decode mX4_append.2.1 10 = .ok (.getfield 9, 3) := by decide +kernel
theorem dX4_append_13 : decode mX4_append.2.1 13 = .ok (.aload_n 0, 1) := by decide +kernel
theorem dX4_append_14 : decode mX4_append.2.1 14 = .ok (.getfield 15, 3) := by decide +kernel
theorem dX4_append_17 : decode mX4_append.2.1 17 = .ok (.iload_n 1, 1) := by decide +kernel
theorem dX4_append_18 : decode mX4_append.2.1 18 = .ok (.iastore, 1) := by decide +kernel
theorem dX4_append_19 : decode mX4_append.2.1 19 = .ok (.aload_n 0, 1) := by decide +kernel
theorem dX4_append_20 : decode mX4_append.2.1 20 = .ok (.dup, 1) := by decide +kernel
theorem dX4_append_21 : decode mX4_append.2.1 21 = .ok (.getfield 15, 3) := by decide +kernel
theorem dX4_append_24 : decode mX4_append.2.1 24 = .ok (.iconst 1, 1) := by decide +kernel
theorem dX4_append_25 : decode mX4_append.2.1 25 = .ok (.iadd, 1) := by decide +kernel
theorem dX4_append_26 : decode mX4_append.2.1 26 = .ok (.putfield 15, 3) := by decide +kernel
theorem dX4_append_29 : decode mX4_append.2.1 29 = .ok (.return_, 1) := by decide +kernel
theorem dX5_init_0 : decode mX5_init.2.1 0 = .ok (.aload_n 0, 1) := by decide +kernel
theorem dX5_init_1 : decode mX5_init.2.1 1 = .ok (.invokespecial 3, 3) := by decide +kernel
theorem dX5_init_4 : decode mX5_init.2.1 4 = .ok (.aload_n 0, 1) := by decide +kernel
theorem dX5_init_5 : decode mX5_init.2.1 5 = .ok (.bipush 32, 2) := by decide +kernel
theorem dX5_init_7 : decode mX5_init.2.1 7 = .ok (.newarray .int, 2) := by decide +kernel
theorem dX5_init_9 : decode mX5_init.2.1 9 = .ok (.putfield 9, 3) := by decide +kernel
theorem dX5_init_12 : decode mX5_init.2.1 12 = .ok (.aload_n 0, 1) := by decide +kernel
theorem dX5_init_13 : decode mX5_init.2.1 13 = .ok (.bipush 32, 2) := by decide +kernel
theorem dX5_init_15 : decode mX5_init.2.1 15 = .ok (.newarray .int, 2) := by decide +kernel
theorem dX5_init_17 : decode mX5_init.2.1 17 = .ok (.putfield 15, 3) := by decide +kernel
theorem dX5_init_20 : decode mX5_init.2.1 20 = .ok (.aload_n 0, 1) := by decide +kernel
theorem dX5_init_21 : decode mX5_init.2.1 21 = .ok (.bipush 15, 2) := by decide +kernel
theorem dX5_init_23 : decode mX5_init.2.1 23 = .ok (.newarray .int, 2) := by decide +kernel
theorem dX5_init_25 : decode mX5_init.2.1 25 = .ok (.putfield 18, 3) := by decide +kernel
theorem dX5_init_28 : decode mX5_init.2.1 28 = .ok (.aload_n 0, 1) := by decide +kernel
theorem dX5_init_29 : decode mX5_init.2.1 29 = .ok (.iconst 0, 1) := by decide +kernel
theorem dX5_init_30 : decode mX5_init.2.1 30 = .ok (.putfield 21, 3) := by decide +kernel
theorem dX5_init_33 : decode mX5_init.2.1 33 = .ok (.aload_n 0, 1) := by decide +kernel
theorem dX5_init_34 : decode mX5_init.2.1 34 = .ok (.iconst 0, 1) := by decide +kernel
theorem dX5_init_35 : decode mX5_init.2.1 35 = .ok (.putfield 25, 3) := by decide +kernel
theorem dX5_init_38 : decode mX5_init.2.1 38 = .ok (.return_, 1) := by decide +kernel
theorem dX5_seek_0 : decode mX5_seek.2.1 0 = .ok (.aload_n 0, 1) := by decide +kernel
theorem dX5_seek_1 : decode mX5_seek.2.1 1 = .ok (.aload_n 1, 1) := by decide +kernel
theorem dX5_seek_2 : decode mX5_seek.2.1 2 = .ok (.invokevirtual 28, 3) := by decide +kernel
theorem dX5_seek_5 : decode mX5_seek.2.1 5 = .ok (.iconst 1, 1) := by decide +kernel
theorem dX5_seek_6 : decode mX5_seek.2.1 6 = .ok (.istore_n 3, 1) := by decide +kernel
theorem dX5_seek_7 : decode mX5_seek.2.1 7 = .ok (.iconst 1, 1) := by decide +kernel
theorem dX5_seek_8 : decode mX5_seek.2.1 8 = .ok (.istore 4, 2) := by decide +kernel
theorem dX5_seek_10 : decode mX5_seek.2.1 10 = .ok (.iconst 1, 1) := by decide +kernel
theorem dX5_seek_11 : decode mX5_seek.2.1 11 = .ok (.istore 5, 2) := by decide +kernel
theorem dX5_seek_13 : decode mX5_seek.2.1 13 = .ok (.iload 5, 2) := by decide +kernel
theorem dX5_seek_15 : decode mX5_seek.2.1 15 = .ok (.iload_n 2, 1) := by decide +kernel
theorem dX5_seek_16 : decode mX5_seek.2.1 16 = .ok (.if_icmp .gt 77, 3) := by decide +kernel
theorem dX5_seek_19 : decode mX5_seek.2.1 19 = .ok (.aload_n 0, 1) := by decide +kernel
theorem dX5_seek_20 : decode mX5_seek.2.1 20 = .ok (.iload_n 3, 1) := by decide +kernel
theorem dX5_seek_21 : decode mX5_seek.2.1 21 = .ok (.iload 4, 2) := by decide +kernel
theorem dX5_seek_23 : decode mX5_seek.2.1 23 = .ok (.ifCond .eq 11, 3) := by decide +kernel
theorem dX5_seek_26 : decode mX5_seek.2.1 26 = .ok (.aload_n 0, 1) := by decide +kernel
theorem dX5_seek_27 : decode mX5_seek.2.1 27 = .ok (.iload_n 3, 1) := by decide +kernel
theorem dX5_seek_28 : decode mX5_seek.2.1 28 = .ok (.invokevirtual 32, 3) := by decide +kernel
theorem dX5_seek_31 : decode mX5_seek.2.1 31 = .ok (.goto 11, 3) := by decide +kernel
theorem dX5_seek_34 : decode mX5_seek.2.1 34 = .ok (.aload_n 0, 1) := by decide +kernel
theorem dX5_seek_35 : decode mX5_seek.2.1 35 = .ok (.getfield 9, 3) := by decide +kernel
theorem dX5_seek_38 : decode mX5_seek.2.1 38 = .ok (.iload_n 3, 1) := by decide +kernel
theorem dX5_seek_39 : decode mX5_seek.2.1 39 = .ok (.iaload, 1) := by decide +kernel
theorem dX5_seek_40 : decode mX5_seek.2.1 40 = .ok (.iconst 1, 1) := by decide +kernel
theorem dX5_seek_41 : decode mX5_seek.2.1 41 = .ok (.isub, 1) := by decide +kernel
theorem dX5_seek_42 : decode mX5_seek.2.1 42 = .ok (.invokevirtual 36, 3) := by decide +kernel
theorem dX5_seek_45 : decode mX5_seek.2.1 45 = .ok (.iload_n 3, 1) := by decide +kernel
theorem dX5_seek_46 : decode mX5_seek.2.1 46 = .ok (.aload_n 0, 1) := by decide +kernel
theorem dX5_seek_47 : decode mX5_seek.2.1 47 = .ok (.getfield 25, 3) := by decide +kernel
theorem dX5_seek_50 : decode mX5_seek.2.1 50 = .ok (.if_icmp .ge 12, 3) := by decide +kernel
theorem dX5_seek_53 : decode mX5_seek.2.1 53 = .ok (.iinc 3 1, 3) := by decide +kernel
theorem dX5_seek_56 : decode mX5_seek.2.1 56 = .ok (.iconst 1, 1) := by decide +kernel
theorem dX5_seek_57 : decode mX5_seek.2.1 57 = .ok (.istore 4, 2) := by decide +kernel
theorem dX5_seek_59 : decode mX5_seek.2.1 59 = .ok (.goto 28, 3) := by decide +kernel
theorem dX5_seek_62 : decode mX5_seek.2.1 62 = .ok (.aload_n 0, 1) := by decide +kernel
theorem dX5_seek_63 : decode mX5_seek.2.1 63 = .ok (.invokevirtual 40, 3) := by decide +kernel
theorem dX5_seek_66 : decode mX5_seek.2.1 66 = .ok (.ifCond .eq 6, 3) := by decide +kernel
theorem dX5_seek_69 : decode mX5_seek.2.1 69 = .ok (.iload 5, 2) := by decide +kernel
theorem dX5_seek_71 : decode mX5_seek.2.1 71 = .ok (.ireturn, 1) := by decide +kernel
theorem dX5_seek_72 : decode mX5_seek.2.1 72 = .ok (.aload_n 0, 1) := by decide +kernel
theorem dX5_seek_73 : decode mX5_seek.2.1 73 = .ok (.invokevirtual 44, 3) := by decide +kernel
theorem dX5_seek_76 : decode mX5_seek.2.1 76 = .ok (.istore_n 3, 1) := by decide +kernel
theorem dX5_seek_77 : decode mX5_seek.2.1 77 = .ok (.iconst 0, 1) := by decide +kernel
theorem dX5_seek_78 : decode mX5_seek.2.1 78 = .ok (.istore 4, 2) := by decide +kernel
theorem dX5_seek_80 : decode mX5_seek.2.1 80 = .ok (.iload_n 3, 1) := by decide +kernel
theorem dX5_seek_81 : decode mX5_seek.2.1 81 = .ok (.ifCond .ne 6, 3) := by decide +kernel
theorem dX5_seek_84 : decode mX5_seek.2.1 84 = .ok (.bipush (-2), 2) := by decide +kernel
theorem dX5_seek_86 : decode mX5_seek.2.1 86 = .ok (.ireturn, 1) := by decide +kernel
theorem dX5_seek_87 : decode mX5_seek.2.1 87 = .ok (.iinc 5 1, 3) := by decide +kernel
theorem dX5_seek_90 : decode mX5_seek.2.1 90 = .ok (.goto (-77), 3) := by decide +kernel
theorem dX5_seek_93 : decode mX5_seek.2.1 93 = .ok (.bipush (-7), 2) := by decide +kernel
theorem dX5_seek_95 : decode mX5_seek.2.1 95 = .ok (.ireturn, 1) := by decide +kernel
theorem dX5_together_0 : decode mX5_together.2.1 0 = .ok (.iconst 0, 1) := by decide +kernel
theorem dX5_together_1 : decode mX5_together.2.1 1 = .ok (.istore_n 1, 1) := by decide +kernel
theorem dX5_together_2 : decode mX5_together.2.1 2 = .ok (.iconst 1, 1) := by decide +kernel
theorem dX5_together_3 : decode mX5_together.2.1 3 = .ok (.istore_n 2, 1) := by decide +kernel
theorem dX5_together_4 : decode mX5_together.2.1 4 = .ok (.iload_n 2, 1) := by decide +kernel
theorem dX5_together_5 : decode mX5_together.2.1 5 = .ok (.aload_n 0, 1) := by decide +kernel
theorem dX5_together_6 : decode mX5_together.2.1 6 = .ok (.getfield 25, 3) := by decide +kernel
theorem dX5_together_9 : decode mX5_together.2.1 9 = .ok (.if_icmp .gt 18, 3) := by decide +kernel
theorem dX5_together_12 : decode mX5_together.2.1 12 = .ok (.iload_n 1, 1) := by decide +kernel
theorem dX5_together_13 : decode mX5_together.2.1 13 = .ok (.aload_n 0, 1) := by decide +kernel
theorem dX5_together_14 : decode mX5_together.2.1 14 = .ok (.getfield 9, 3) := by decide +kernel
theorem dX5_together_17 : decode mX5_together.2.1 17 = .ok (.iload_n 2, 1) := by decide +kernel
theorem dX5_together_18 : decode mX5_together.2.1 18 = .ok (.iaload, 1) := by decide +kernel
theorem dX5_together_19 : decode mX5_together.2.1 19 = .ok (.iadd, 1) := by decide +kernel
theorem dX5_together_20 : decode mX5_together.2.1 20 = .ok (.istore_n 1, 1) := by decide +kernel
theorem dX5_together_21 : decode mX5_together.2.1 21 = .ok (.iinc 2 1, 3) := by decide +kernel
theorem dX5_together_24 : decode mX5_together.2.1 24 = .ok (.goto (-20), 3) := by decide +kernel
theorem dX5_together_27 : decode mX5_together.2.1 27 = .ok (.iload_n 1, 1) := by decide +kernel
theorem dX5_together_28 : decode mX5_together.2.1 28 = .ok (.ireturn, 1) := by decide +kernel
theorem dX5_start_0 : decode mX5_start.2.1 0 = .ok (.aload_n 0, 1) := by decide +kernel
theorem dX5_start_1 : decode mX5_start.2.1 1 = .ok (.aload_n 1, 1) := by decide +kernel
theorem dX5_start_2 : decode mX5_start.2.1 2 = .ok (.invokevirtual 48, 3) := by decide +kernel
theorem dX5_start_5 : decode mX5_start.2.1 5 = .ok (.putfield 21, 3) := by decide +kernel
theorem dX5_start_8 : decode mX5_start.2.1 8 = .ok (.aload_n 1, 1) := by decide +kernel
theorem dX5_start_9 : decode mX5_start.2.1 9 = .ok (.getfield 53, 3) := by decide +kernel
theorem dX5_start_12 : decode mX5_start.2.1 12 = .ok (.iconst 0, 1) := by decide +kernel
theorem dX5_start_13 : decode mX5_start.2.1 13 = .ok (.aload_n 0, 1) := by decide +kernel
theorem dX5_start_14 : decode mX5_start.2.1 14 = .ok (.getfield 18, 3) := by decide +kernel
theorem dX5_start_17 : decode mX5_start.2.1 17 = .ok (.iconst 0, 1) := by decide +kernel
theorem dX5_start_18 : decode mX5_start.2.1 18 = .ok (.aload_n 0, 1) := by decide +kernel
theorem dX5_start_19 : decode mX5_start.2.1 19 = .ok (.getfield 21, 3) := by decide +kernel
theorem dX5_start_22 : decode mX5_start.2.1 22 = .ok (.invokestatic 56, 3) := by decide +kernel
theorem dX5_start_25 : decode mX5_start.2.1 25 = .ok (.aload_n 0, 1) := by decide +kernel
theorem dX5_start_26 : decode mX5_start.2.1 26 = .ok (.aload_n 1, 1) := by decide +kernel
theorem dX5_start_27 : decode mX5_start.2.1 27 = .ok (.invokevirtual 62, 3) := by decide +kernel
theorem dX5_start_30 : decode mX5_start.2.1 30 = .ok (.putfield 25, 3) := by decide +kernel
theorem dX5_start_33 : decode mX5_start.2.1 33 = .ok (.iconst 1, 1) := by decide +kernel
theorem dX5_start_34 : decode mX5_start.2.1 34 = .ok (.istore_n 2, 1) := by decide +kernel
theorem dX5_start_35 : decode mX5_start.2.1 35 = .ok (.iload_n 2, 1) := by decide +kernel
theorem dX5_start_36 : decode mX5_start.2.1 36 = .ok (.aload_n 0, 1) := by decide +kernel
theorem dX5_start_37 : decode mX5_start.2.1 37 = .ok (.getfield 25, 3) := by decide +kernel
theorem dX5_start_40 : decode mX5_start.2.1 40 = .ok (.if_icmp .gt 27, 3) := by decide +kernel
theorem dX5_start_43 : decode mX5_start.2.1 43 = .ok (.aload_n 0, 1) := by decide +kernel
theorem dX5_start_44 : decode mX5_start.2.1 44 = .ok (.getfield 9, 3) := by decide +kernel
theorem dX5_start_47 : decode mX5_start.2.1 47 = .ok (.iload_n 2, 1) := by decide +kernel
theorem dX5_start_48 : decode mX5_start.2.1 48 = .ok (.iconst 0, 1) := by decide +kernel
theorem dX5_start_49 : decode mX5_start.2.1 49 = .ok (.iastore, 1) := by decide +kernel
theorem dX5_start_50 : decode mX5_start.2.1 50 = .ok (.aload_n 0, 1) := by decide +kernel
theorem dX5_start_51 : decode mX5_start.2.1 51 = .ok (.getfield 15, 3) := by decide +kernel
theorem dX5_start_54 : decode mX5_start.2.1 54 = .ok (.iload_n 2, 1) := by decide +kernel
theorem dX5_start_55 : decode mX5_start.2.1 55 = .ok (.aload_n 1, 1) := by decide +kernel
theorem dX5_start_56 : decode mX5_start.2.1 56 = .ok (.iload_n 2, 1) := by decide +kernel
theorem dX5_start_57 : decode mX5_start.2.1 57 = .ok (.invokevirtual 64, 3) := by decide +kernel
theorem dX5_start_60 : decode mX5_start.2.1 60 = .ok (.iastore, 1) := by decide +kernel
theorem dX5_start_61 : decode mX5_start.2.1 61 = .ok (.iinc 2 1, 3) := by decide +kernel
theorem dX5_start_64 : decode mX5_start.2.1 64 = .ok (.goto (-29), 3) := by decide +kernel
theorem dX5_start_67 : decode mX5_start.2.1 67 = .ok (.return_, 1) := by decide +kernel
theorem dX5_leastLeft_0 : decode mX5_leastLeft.2.1 0 = .ok (.sipush 999, 3) := by decide +kernel
theorem dX5_leastLeft_3 : decode mX5_leastLeft.2.1 3 = .ok (.istore_n 2, 1) := by decide +kernel
theorem dX5_leastLeft_4 : decode mX5_leastLeft.2.1 4 = .ok (.iconst 0, 1) := by decide +kernel
theorem dX5_leastLeft_5 : decode mX5_leastLeft.2.1 5 = .ok (.istore_n 3, 1) := by decide +kernel
theorem dX5_leastLeft_6 : decode mX5_leastLeft.2.1 6 = .ok (.iload_n 3, 1) := by decide +kernel
theorem dX5_leastLeft_7 : decode mX5_leastLeft.2.1 7 = .ok (.aload_n 0, 1) := by decide +kernel
theorem dX5_leastLeft_8 : decode mX5_leastLeft.2.1 8 = .ok (.getfield 21, 3) := by decide +kernel
theorem dX5_leastLeft_11 : decode mX5_leastLeft.2.1 11 = .ok (.if_icmp .ge 34, 3) := by decide +kernel
theorem dX5_leastLeft_14 : decode mX5_leastLeft.2.1 14 = .ok (.aload_n 0, 1) := by decide +kernel
theorem dX5_leastLeft_15 : decode mX5_leastLeft.2.1 15 = .ok (.getfield 15, 3) := by decide +kernel
theorem dX5_leastLeft_18 : decode mX5_leastLeft.2.1 18 = .ok (.iload_n 1, 1) := by decide +kernel
theorem dX5_leastLeft_19 : decode mX5_leastLeft.2.1 19 = .ok (.iaload, 1) := by decide +kernel
theorem dX5_leastLeft_20 : decode mX5_leastLeft.2.1 20 = .ok (.iload_n 3, 1) := by decide +kernel
theorem dX5_leastLeft_21 : decode mX5_leastLeft.2.1 21 = .ok (.ishr, 1) := by decide +kernel
theorem dX5_leastLeft_22 : decode mX5_leastLeft.2.1 22 = .ok (.iconst 1, 1) := by decide +kernel
theorem dX5_leastLeft_23 : decode mX5_leastLeft.2.1 23 = .ok (.iand, 1) := by decide +kernel
theorem dX5_leastLeft_24 : decode mX5_leastLeft.2.1 24 = .ok (.iconst 1, 1) := by decide +kernel
theorem dX5_leastLeft_25 : decode mX5_leastLeft.2.1 25 = .ok (.if_icmp .ne 14, 3) := by decide +kernel
theorem dX5_leastLeft_28 : decode mX5_leastLeft.2.1 28 = .ok (.iload_n 2, 1) := by decide +kernel
theorem dX5_leastLeft_29 : decode mX5_leastLeft.2.1 29 = .ok (.aload_n 0, 1) := by decide +kernel
theorem dX5_leastLeft_30 : decode mX5_leastLeft.2.1 30 = .ok (.getfield 18, 3) := by decide +kernel
theorem dX5_leastLeft_33 : decode mX5_leastLeft.2.1 33 = .ok (.iload_n 3, 1) := by decide +kernel
theorem dX5_leastLeft_34 : decode mX5_leastLeft.2.1 34 = .ok (.iaload, 1) := by decide +kernel
theorem dX5_leastLeft_35 : decode mX5_leastLeft.2.1 35 = .ok (.invokestatic 67, 3) := by decide +kernel
theorem dX5_leastLeft_38 : decode mX5_leastLeft.2.1 38 = .ok (.istore_n 2, 1) := by decide +kernel
theorem dX5_leastLeft_39 : decode mX5_leastLeft.2.1 39 = .ok (.iinc 3 1, 3) := by decide +kernel
theorem dX5_leastLeft_42 : decode mX5_leastLeft.2.1 42 = .ok (.goto (-36), 3) := by decide +kernel
theorem dX5_leastLeft_45 : decode mX5_leastLeft.2.1 45 = .ok (.iload_n 2, 1) := by decide +kernel
theorem dX5_leastLeft_46 : decode mX5_leastLeft.2.1 46 = .ok (.ireturn, 1) := by decide +kernel
theorem dX5_giveNumber_0 : decode mX5_giveNumber.2.1 0 = .ok (.iload_n 2, 1) := by decide +kernel
theorem dX5_giveNumber_1 : decode mX5_giveNumber.2.1 1 = .ok (.aload_n 0, 1) := by decide +kernel
theorem dX5_giveNumber_2 : decode mX5_giveNumber.2.1 2 = .ok (.getfield 9, 3) := by decide +kernel
theorem dX5_giveNumber_5 : decode mX5_giveNumber.2.1 5 = .ok (.iload_n 1, 1) := by decide +kernel
theorem dX5_giveNumber_6 : decode mX5_giveNumber.2.1 6 = .ok (.iaload, 1) := by decide +kernel
theorem dX5_giveNumber_7 : decode mX5_giveNumber.2.1 7 = .ok (.isub, 1) := by decide +kernel
theorem dX5_giveNumber_8 : decode mX5_giveNumber.2.1 8 = .ok (.istore_n 3, 1) := by decide +kernel
theorem dX5_giveNumber_9 : decode mX5_giveNumber.2.1 9 = .ok (.iconst 0, 1) := by decide +kernel
theorem dX5_giveNumber_10 : decode mX5_giveNumber.2.1 10 = .ok (.istore 4, 2) := by decide +kernel
theorem dX5_giveNumber_12 : decode mX5_giveNumber.2.1 12 = .ok (.iload 4, 2) := by decide +kernel
theorem dX5_giveNumber_14 : decode mX5_giveNumber.2.1 14 = .ok (.aload_n 0, 1) := by decide +kernel
theorem dX5_giveNumber_15 : decode mX5_giveNumber.2.1 15 = .ok (.getfield 21, 3) := by decide +kernel
theorem dX5_giveNumber_18 : decode mX5_giveNumber.2.1 18 = .ok (.if_icmp .ge 36, 3) := by decide +kernel
theorem dX5_giveNumber_21 : decode mX5_giveNumber.2.1 21 = .ok (.iload_n 3, 1) := by decide +kernel
theorem dX5_giveNumber_22 : decode mX5_giveNumber.2.1 22 = .ok (.ifCond .eq 32, 3) := by decide +kernel
theorem dX5_giveNumber_25 : decode mX5_giveNumber.2.1 25 = .ok (.aload_n 0, 1) := by decide +kernel
theorem dX5_giveNumber_26 : decode mX5_giveNumber.2.1 26 = .ok (.getfield 18, 3) := by decide +kernel
theorem dX5_giveNumber_29 : decode mX5_giveNumber.2.1 29 = .ok (.iload 4, 2) := by decide +kernel
theorem dX5_giveNumber_31 : decode mX5_giveNumber.2.1 31 = .ok (.dup2, 1) := by decide +kernel
theorem dX5_giveNumber_32 : decode mX5_giveNumber.2.1 32 = .ok (.iaload, 1) := by decide +kernel
theorem dX5_giveNumber_33 : decode mX5_giveNumber.2.1 33 = .ok (.aload_n 0, 1) := by decide +kernel
theorem dX5_giveNumber_34 : decode mX5_giveNumber.2.1 34 = .ok (.getfield 15, 3) := by decide +kernel
theorem dX5_giveNumber_37 : decode mX5_giveNumber.2.1 37 = .ok (.iload_n 1, 1) := by decide +kernel
theorem dX5_giveNumber_38 : decode mX5_giveNumber.2.1 38 = .ok (.iaload, 1) := by decide +kernel
theorem dX5_giveNumber_39 : decode mX5_giveNumber.2.1 39 = .ok (.iload 4, 2) := by decide +kernel
theorem dX5_giveNumber_41 : decode mX5_giveNumber.2.1 41 = .ok (.ishr, 1) := by decide +kernel
theorem dX5_giveNumber_42 : decode mX5_giveNumber.2.1 42 = .ok (.iconst 1, 1) := by decide +kernel
theorem dX5_giveNumber_43 : decode mX5_giveNumber.2.1 43 = .ok (.iand, 1) := by decide +kernel
theorem dX5_giveNumber_44 : decode mX5_giveNumber.2.1 44 = .ok (.iload_n 3, 1) := by decide +kernel
theorem dX5_giveNumber_45 : decode mX5_giveNumber.2.1 45 = .ok (.imul, 1) := by decide +kernel
theorem dX5_giveNumber_46 : decode mX5_giveNumber.2.1 46 = .ok (.isub, 1) := by decide +kernel
theorem dX5_giveNumber_47 : decode mX5_giveNumber.2.1 47 = .ok (.iastore, 1) := by decide +kernel
theorem dX5_giveNumber_48 : decode mX5_giveNumber.2.1 48 = .ok (.iinc 4 1, 3) := by decide +kernel
theorem dX5_giveNumber_51 : decode mX5_giveNumber.2.1 51 = .ok (.goto (-39), 3) := by decide +kernel
theorem dX5_giveNumber_54 : decode mX5_giveNumber.2.1 54 = .ok (.aload_n 0, 1) := by decide +kernel
theorem dX5_giveNumber_55 : decode mX5_giveNumber.2.1 55 = .ok (.getfield 9, 3) := by decide +kernel
theorem dX5_giveNumber_58 : decode mX5_giveNumber.2.1 58 = .ok (.iload_n 1, 1) := by decide +kernel
theorem dX5_giveNumber_59 : decode mX5_giveNumber.2.1 59 = .ok (.iload_n 2, 1) := by decide +kernel
theorem dX5_giveNumber_60 : decode mX5_giveNumber.2.1 60 = .ok (.iastore, 1) := by decide +kernel
theorem dX5_giveNumber_61 : decode mX5_giveNumber.2.1 61 = .ok (.return_, 1) := by decide +kernel
theorem dX5_nothingLeft_0 : decode mX5_nothingLeft.2.1 0 = .ok (.iconst 0, 1) := by decide +kernel
theorem dX5_nothingLeft_1 : decode mX5_nothingLeft.2.1 1 = .ok (.istore_n 1, 1) := by decide +kernel
theorem dX5_nothingLeft_2 : decode mX5_nothingLeft.2.1 2 = .ok (.iload_n 1, 1) := by decide +kernel
theorem dX5_nothingLeft_3 : decode mX5_nothingLeft.2.1 3 = .ok (.aload_n 0, 1) := by decide +kernel
theorem dX5_nothingLeft_4 : decode mX5_nothingLeft.2.1 4 = .ok (.getfield 21, 3) := by decide +kernel
theorem dX5_nothingLeft_7 : decode mX5_nothingLeft.2.1 7 = .ok (.if_icmp .ge 20, 3) := by decide +kernel
theorem dX5_nothingLeft_10 : decode mX5_nothingLeft.2.1 10 = .ok (.aload_n 0, 1) := by decide +kernel
theorem dX5_nothingLeft_11 : decode mX5_nothingLeft.2.1 11 = .ok (.getfield 18, 3) := by decide +kernel
theorem dX5_nothingLeft_14 : decode mX5_nothingLeft.2.1 14 = .ok (.iload_n 1, 1) := by decide +kernel
theorem dX5_nothingLeft_15 : decode mX5_nothingLeft.2.1 15 = .ok (.iaload, 1) := by decide +kernel
theorem dX5_nothingLeft_16 : decode mX5_nothingLeft.2.1 16 = .ok (.ifCond .eq 5, 3) := by decide +kernel
theorem dX5_nothingLeft_19 : decode mX5_nothingLeft.2.1 19 = .ok (.iconst 0, 1) := by decide +kernel
theorem dX5_nothingLeft_20 : decode mX5_nothingLeft.2.1 20 = .ok (.ireturn, 1) := by decide +kernel
theorem dX5_nothingLeft_21 : decode mX5_nothingLeft.2.1 21 = .ok (.iinc 1 1, 3) := by decide +kernel
theorem dX5_nothingLeft_24 : decode mX5_nothingLeft.2.1 24 = .ok (.goto (-22), 3) := by decide +kernel
theorem dX5_nothingLeft_27 : decode mX5_nothingLeft.2.1 27 = .ok (.iconst 1, 1) := by decide +kernel
theorem dX5_nothingLeft_28 : decode mX5_nothingLeft.2.1 28 = .ok (.ireturn, 1) := by decide +kernel
theorem dX5_latestAbove0_0 : decode mX5_latestAbove0.2.1 0 = .ok (.aload_n 0, 1) := by decide +kernel
theorem dX5_latestAbove0_1 : decode mX5_latestAbove0.2.1 1 = .ok (.getfield 25, 3) := by decide +kernel
theorem dX5_latestAbove0_4 : decode mX5_latestAbove0.2.1 4 = .ok (.istore_n 1, 1) := by decide +kernel
theorem dX5_latestAbove0_5 : decode mX5_latestAbove0.2.1 5 = .ok (.iload_n 1, 1) := by decide +kernel
theorem dX5_latestAbove0_6 : decode mX5_latestAbove0.2.1 6 = .ok (.ifCond .le 18, 3) := by decide +kernel
theorem dX5_latestAbove0_9 : decode mX5_latestAbove0.2.1 9 = .ok (.aload_n 0, 1) := by decide +kernel
theorem dX5_latestAbove0_10 : decode mX5_latestAbove0.2.1 10 = .ok (.getfield 9, 3) := by decide +kernel
theorem dX5_latestAbove0_13 : decode mX5_latestAbove0.2.1 13 = .ok (.iload_n 1, 1) := by decide +kernel
theorem dX5_latestAbove0_14 : decode mX5_latestAbove0.2.1 14 = .ok (.iaload, 1) := by decide +kernel
theorem dX5_latestAbove0_15 : decode mX5_latestAbove0.2.1 15 = .ok (.ifCond .ne 9, 3) := by decide +kernel
theorem dX5_latestAbove0_18 : decode mX5_latestAbove0.2.1 18 = .ok (.iinc 1 (-1), 3) := by decide +kernel
theorem dX5_latestAbove0_21 : decode mX5_latestAbove0.2.1 21 = .ok (.goto (-16), 3) := by decide +kernel
theorem dX5_latestAbove0_24 : decode mX5_latestAbove0.2.1 24 = .ok (.iload_n 1, 1) := by decide +kernel
theorem dX5_latestAbove0_25 : decode mX5_latestAbove0.2.1 25 = .ok (.ireturn, 1) := by decide +kernel
theorem dX6_init_0 : decode mX6_init.2.1 0 = .ok (.aload_n 0, 1) := by decide +kernel
theorem dX6_init_1 : decode mX6_init.2.1 1 = .ok (.invokespecial 3, 3) := by decide +kernel
theorem dX6_init_4 : decode mX6_init.2.1 4 = .ok (.aload_n 0, 1) := by decide +kernel
theorem dX6_init_5 : decode mX6_init.2.1 5 = .ok (.iconst 4, 1) := by decide +kernel
theorem dX6_init_6 : decode mX6_init.2.1 6 = .ok (.putfield 9, 3) := by decide +kernel
theorem dX6_init_9 : decode mX6_init.2.1 9 = .ok (.aload_n 0, 1) := by decide +kernel
theorem dX6_init_10 : decode mX6_init.2.1 10 = .ok (.bipush 15, 2) := by decide +kernel
theorem dX6_init_12 : decode mX6_init.2.1 12 = .ok (.newarray .int, 2) := by decide +kernel
theorem dX6_init_14 : decode mX6_init.2.1 14 = .ok (.putfield 15, 3) := by decide +kernel
theorem dX6_init_17 : decode mX6_init.2.1 17 = .ok (.return_, 1) := by decide +kernel
theorem dX6_pairCount_0 : decode mX6_pairCount.2.1 0 = .ok (.aload_n 0, 1) := by decide +kernel
theorem dX6_pairCount_1 : decode mX6_pairCount.2.1 1 = .ok (.getfield 9, 3) := by decide +kernel
theorem dX6_pairCount_4 : decode mX6_pairCount.2.1 4 = .ok (.aload_n 0, 1) := by decide +kernel
theorem dX6_pairCount_5 : decode mX6_pairCount.2.1 5 = .ok (.getfield 9, 3) := by decide +kernel
theorem dX6_pairCount_8 : decode mX6_pairCount.2.1 8 = .ok (.iconst 1, 1) := by decide +kernel
theorem dX6_pairCount_9 : decode mX6_pairCount.2.1 9 = .ok (.isub, 1) := by decide +kernel
theorem dX6_pairCount_10 : decode mX6_pairCount.2.1 10 = .ok (.imul, 1) := by decide +kernel
theorem dX6_pairCount_11 : decode mX6_pairCount.2.1 11 = .ok (.iconst 2, 1) := by decide +kernel
theorem dX6_pairCount_12 : decode mX6_pairCount.2.1 12 = .ok (.idiv, 1) := by decide +kernel
theorem dX6_pairCount_13 : decode mX6_pairCount.2.1 13 = .ok (.ireturn, 1) := by decide +kernel
theorem dX6_hasPoint_0 : decode mX6_hasPoint.2.1 0 = .ok (.iload_n 1, 1) := by decide +kernel
theorem dX6_hasPoint_1 : decode mX6_hasPoint.2.1 1 = .ok (.ifCond .lt 15, 3) := by decide +kernel
theorem dX6_hasPoint_4 : decode mX6_hasPoint.2.1 4 = .ok (.iload_n 1, 1) := by decide +kernel
theorem dX6_hasPoint_5 : decode mX6_hasPoint.2.1 5 = .ok (.aload_n 0, 1) := by decide +kernel
theorem dX6_hasPoint_6 : decode mX6_hasPoint.2.1 6 = .ok (.getfield 9, 3) := by decide +kernel
theorem dX6_hasPoint_9 : decode mX6_hasPoint.2.1 9 = .ok (.if_icmp .ge 7, 3) := by decide +kernel
theorem dX6_hasPoint_12 : decode mX6_hasPoint.2.1 12 = .ok (.iconst 1, 1) := by decide +kernel
theorem dX6_hasPoint_13 : decode mX6_hasPoint.2.1 13 = .ok (.goto 4, 3) := by decide +kernel
theorem dX6_hasPoint_16 : decode mX6_hasPoint.2.1 16 = .ok (.iconst 0, 1) := by decide +kernel
theorem dX6_hasPoint_17 : decode mX6_hasPoint.2.1 17 = .ok (.ireturn, 1) := by decide +kernel
theorem dX6_hasPair_0 : decode mX6_hasPair.2.1 0 = .ok (.iload_n 1, 1) := by decide +kernel
theorem dX6_hasPair_1 : decode mX6_hasPair.2.1 1 = .ok (.ifCond .lt 32, 3) := by decide +kernel
theorem dX6_hasPair_4 : decode mX6_hasPair.2.1 4 = .ok (.iload_n 1, 1) := by decide +kernel
theorem dX6_hasPair_5 : decode mX6_hasPair.2.1 5 = .ok (.aload_n 0, 1) := by decide +kernel
theorem dX6_hasPair_6 : decode mX6_hasPair.2.1 6 = .ok (.getfield 9, 3) := by decide +kernel
theorem dX6_hasPair_9 : decode mX6_hasPair.2.1 9 = .ok (.if_icmp .ge 24, 3) := by decide +kernel
theorem dX6_hasPair_12 : decode mX6_hasPair.2.1 12 = .ok (.iload_n 2, 1) := by decide +kernel
theorem dX6_hasPair_13 : decode mX6_hasPair.2.1 13 = .ok (.ifCond .lt 20, 3) := by decide +kernel
theorem dX6_hasPair_16 : decode mX6_hasPair.2.1 16 = .ok (.iload_n 2, 1) := by decide +kernel
theorem dX6_hasPair_17 : decode mX6_hasPair.2.1 17 = .ok (.aload_n 0, 1) := by decide +kernel
theorem dX6_hasPair_18 : decode mX6_hasPair.2.1 18 = .ok (.getfield 9, 3) := by decide +kernel
theorem dX6_hasPair_21 : decode mX6_hasPair.2.1 21 = .ok (.if_icmp .ge 12, 3) := by decide +kernel
theorem dX6_hasPair_24 : decode mX6_hasPair.2.1 24 = .ok (.iload_n 1, 1) := by decide +kernel
theorem dX6_hasPair_25 : decode mX6_hasPair.2.1 25 = .ok (.iload_n 2, 1) := by decide +kernel
theorem dX6_hasPair_26 : decode mX6_hasPair.2.1 26 = .ok (.if_icmp .eq 7, 3) := by decide +kernel
theorem dX6_hasPair_29 : decode mX6_hasPair.2.1 29 = .ok (.iconst 1, 1) := by decide +kernel
theorem dX6_hasPair_30 : decode mX6_hasPair.2.1 30 = .ok (.goto 4, 3) := by decide +kernel
theorem dX6_hasPair_33 : decode mX6_hasPair.2.1 33 = .ok (.iconst 0, 1) := by decide +kernel
theorem dX6_hasPair_34 : decode mX6_hasPair.2.1 34 = .ok (.ireturn, 1) := by decide +kernel
theorem dX6_lastCut_0 : decode mX6_lastCut.2.1 0 = .ok (.iconst 1, 1) := by decide +kernel
theorem dX6_lastCut_1 : decode mX6_lastCut.2.1 1 = .ok (.aload_n 0, 1) := by decide +kernel
theorem dX6_lastCut_2 : decode mX6_lastCut.2.1 2 = .ok (.getfield 9, 3) := by decide +kernel
theorem dX6_lastCut_5 : decode mX6_lastCut.2.1 5 = .ok (.iconst 1, 1) := by decide +kernel
theorem dX6_lastCut_6 : decode mX6_lastCut.2.1 6 = .ok (.isub, 1) := by decide +kernel
theorem dX6_lastCut_7 : decode mX6_lastCut.2.1 7 = .ok (.ishl, 1) := by decide +kernel
theorem dX6_lastCut_8 : decode mX6_lastCut.2.1 8 = .ok (.iconst 1, 1) := by decide +kernel
theorem dX6_lastCut_9 : decode mX6_lastCut.2.1 9 = .ok (.isub, 1) := by decide +kernel
theorem dX6_lastCut_10 : decode mX6_lastCut.2.1 10 = .ok (.ireturn, 1) := by decide +kernel
theorem dX6_hasCut_0 : decode mX6_hasCut.2.1 0 = .ok (.iload_n 1, 1) := by decide +kernel
theorem dX6_hasCut_1 : decode mX6_hasCut.2.1 1 = .ok (.iconst 1, 1) := by decide +kernel
theorem dX6_hasCut_2 : decode mX6_hasCut.2.1 2 = .ok (.if_icmp .lt 15, 3) := by decide +kernel
theorem dX6_hasCut_5 : decode mX6_hasCut.2.1 5 = .ok (.iload_n 1, 1) := by decide +kernel
theorem dX6_hasCut_6 : decode mX6_hasCut.2.1 6 = .ok (.aload_n 0, 1) := by decide +kernel
theorem dX6_hasCut_7 : decode mX6_hasCut.2.1 7 = .ok (.invokevirtual 19, 3) := by decide +kernel
theorem dX6_hasCut_10 : decode mX6_hasCut.2.1 10 = .ok (.if_icmp .gt 7, 3) := by decide +kernel
theorem dX6_hasCut_13 : decode mX6_hasCut.2.1 13 = .ok (.iconst 1, 1) := by decide +kernel
theorem dX6_hasCut_14 : decode mX6_hasCut.2.1 14 = .ok (.goto 4, 3) := by decide +kernel
theorem dX6_hasCut_17 : decode mX6_hasCut.2.1 17 = .ok (.iconst 0, 1) := by decide +kernel
theorem dX6_hasCut_18 : decode mX6_hasCut.2.1 18 = .ok (.ireturn, 1) := by decide +kernel
theorem dX6_pairOf_0 : decode mX6_pairOf.2.1 0 = .ok (.iload_n 1, 1) := by decide +kernel
theorem dX6_pairOf_1 : decode mX6_pairOf.2.1 1 = .ok (.iload_n 2, 1) := by decide +kernel
theorem dX6_pairOf_2 : decode mX6_pairOf.2.1 2 = .ok (.if_icmp .ge 7, 3) := by decide +kernel
theorem dX6_pairOf_5 : decode mX6_pairOf.2.1 5 = .ok (.iload_n 1, 1) := by decide +kernel
theorem dX6_pairOf_6 : decode mX6_pairOf.2.1 6 = .ok (.goto 4, 3) := by decide +kernel
theorem dX6_pairOf_9 : decode mX6_pairOf.2.1 9 = .ok (.iload_n 2, 1) := by decide +kernel
theorem dX6_pairOf_10 : decode mX6_pairOf.2.1 10 = .ok (.istore_n 3, 1) := by decide +kernel
theorem dX6_pairOf_11 : decode mX6_pairOf.2.1 11 = .ok (.iload_n 1, 1) := by decide +kernel
theorem dX6_pairOf_12 : decode mX6_pairOf.2.1 12 = .ok (.iload_n 2, 1) := by decide +kernel
theorem dX6_pairOf_13 : decode mX6_pairOf.2.1 13 = .ok (.if_icmp .ge 7, 3) := by decide +kernel
theorem dX6_pairOf_16 : decode mX6_pairOf.2.1 16 = .ok (.iload_n 2, 1) := by decide +kernel
theorem dX6_pairOf_17 : decode mX6_pairOf.2.1 17 = .ok (.goto 4, 3) := by decide +kernel
theorem dX6_pairOf_20 : decode mX6_pairOf.2.1 20 = .ok (.iload_n 1, 1) := by decide +kernel
theorem dX6_pairOf_21 : decode mX6_pairOf.2.1 21 = .ok (.istore 4, 2) := by decide +kernel
theorem dX6_pairOf_23 : decode mX6_pairOf.2.1 23 = .ok (.iload_n 3, 1) := by decide +kernel
theorem dX6_pairOf_24 : decode mX6_pairOf.2.1 24 = .ok (.iconst 2, 1) := by decide +kernel
theorem dX6_pairOf_25 : decode mX6_pairOf.2.1 25 = .ok (.aload_n 0, 1) := by decide +kernel
theorem dX6_pairOf_26 : decode mX6_pairOf.2.1 26 = .ok (.getfield 9, 3) := by decide +kernel
theorem dX6_pairOf_29 : decode mX6_pairOf.2.1 29 = .ok (.imul, 1) := by decide +kernel
theorem dX6_pairOf_30 : decode mX6_pairOf.2.1 30 = .ok (.iload_n 3, 1) := by decide +kernel
theorem dX6_pairOf_31 : decode mX6_pairOf.2.1 31 = .ok (.isub, 1) := by decide +kernel
theorem dX6_pairOf_32 : decode mX6_pairOf.2.1 32 = .ok (.iconst 1, 1) := by decide +kernel
theorem dX6_pairOf_33 : decode mX6_pairOf.2.1 33 = .ok (.isub, 1) := by decide +kernel
theorem dX6_pairOf_34 : decode mX6_pairOf.2.1 34 = .ok (.imul, 1) := by decide +kernel
theorem dX6_pairOf_35 : decode mX6_pairOf.2.1 35 = .ok (.iconst 2, 1) := by decide +kernel
theorem dX6_pairOf_36 : decode mX6_pairOf.2.1 36 = .ok (.idiv, 1) := by decide +kernel
theorem dX6_pairOf_37 : decode mX6_pairOf.2.1 37 = .ok (.iload 4, 2) := by decide +kernel
theorem dX6_pairOf_39 : decode mX6_pairOf.2.1 39 = .ok (.iadd, 1) := by decide +kernel
theorem dX6_pairOf_40 : decode mX6_pairOf.2.1 40 = .ok (.iload_n 3, 1) := by decide +kernel
theorem dX6_pairOf_41 : decode mX6_pairOf.2.1 41 = .ok (.isub, 1) := by decide +kernel
theorem dX6_pairOf_42 : decode mX6_pairOf.2.1 42 = .ok (.iconst 1, 1) := by decide +kernel
theorem dX6_pairOf_43 : decode mX6_pairOf.2.1 43 = .ok (.isub, 1) := by decide +kernel
theorem dX6_pairOf_44 : decode mX6_pairOf.2.1 44 = .ok (.ireturn, 1) := by decide +kernel
theorem dX6_between_0 : decode mX6_between.2.1 0 = .ok (.aload_n 0, 1) := by decide +kernel
theorem dX6_between_1 : decode mX6_between.2.1 1 = .ok (.iload_n 1, 1) := by decide +kernel
theorem dX6_between_2 : decode mX6_between.2.1 2 = .ok (.iload_n 2, 1) := by decide +kernel
theorem dX6_between_3 : decode mX6_between.2.1 3 = .ok (.invokevirtual 23, 3) := by decide +kernel
theorem dX6_between_6 : decode mX6_between.2.1 6 = .ok (.ifCond .eq 17, 3) := by decide +kernel
theorem dX6_between_9 : decode mX6_between.2.1 9 = .ok (.aload_n 0, 1) := by decide +kernel
theorem dX6_between_10 : decode mX6_between.2.1 10 = .ok (.getfield 15, 3) := by decide +kernel
theorem dX6_between_13 : decode mX6_between.2.1 13 = .ok (.aload_n 0, 1) := by decide +kernel
theorem dX6_between_14 : decode mX6_between.2.1 14 = .ok (.iload_n 1, 1) := by decide +kernel
theorem dX6_between_15 : decode mX6_between.2.1 15 = .ok (.iload_n 2, 1) := by decide +kernel
theorem dX6_between_16 : decode mX6_between.2.1 16 = .ok (.invokevirtual 27, 3) := by decide +kernel
theorem dX6_between_19 : decode mX6_between.2.1 19 = .ok (.iaload, 1) := by decide +kernel
theorem dX6_between_20 : decode mX6_between.2.1 20 = .ok (.goto 4, 3) := by decide +kernel
theorem dX6_between_23 : decode mX6_between.2.1 23 = .ok (.iconst 0, 1) := by decide +kernel
theorem dX6_between_24 : decode mX6_between.2.1 24 = .ok (.ireturn, 1) := by decide +kernel
theorem dX6_pairsApart_0 : decode mX6_pairsApart.2.1 0 = .ok (.iload_n 1, 1) := by decide +kernel
theorem dX6_pairsApart_1 : decode mX6_pairsApart.2.1 1 = .ok (.iconst 1, 1) := by decide +kernel
theorem dX6_pairsApart_2 : decode mX6_pairsApart.2.1 2 = .ok (.ishl, 1) := by decide +kernel
theorem dX6_pairsApart_3 : decode mX6_pairsApart.2.1 3 = .ok (.istore_n 2, 1) := by decide +kernel
theorem dX6_pairsApart_4 : decode mX6_pairsApart.2.1 4 = .ok (.iconst 0, 1) := by decide +kernel
theorem dX6_pairsApart_5 : decode mX6_pairsApart.2.1 5 = .ok (.istore_n 3, 1) := by decide +kernel
theorem dX6_pairsApart_6 : decode mX6_pairsApart.2.1 6 = .ok (.iconst 0, 1) := by decide +kernel
theorem dX6_pairsApart_7 : decode mX6_pairsApart.2.1 7 = .ok (.istore 4, 2) := by decide +kernel
theorem dX6_pairsApart_9 : decode mX6_pairsApart.2.1 9 = .ok (.iload 4, 2) := by decide +kernel
theorem dX6_pairsApart_11 : decode mX6_pairsApart.2.1 11 = .ok (.aload_n 0, 1) := by decide +kernel
theorem dX6_pairsApart_12 : decode mX6_pairsApart.2.1 12 = .ok (.getfield 9, 3) := by decide +kernel
theorem dX6_pairsApart_15 : decode mX6_pairsApart.2.1 15 = .ok (.if_icmp .ge 53, 3) := by decide +kernel
theorem dX6_pairsApart_18 : decode mX6_pairsApart.2.1 18 = .ok (.iload 4, 2) := by decide +kernel
theorem dX6_pairsApart_20 : decode mX6_pairsApart.2.1 20 = .ok (.iconst 1, 1) := by decide +kernel
theorem dX6_pairsApart_21 : decode mX6_pairsApart.2.1 21 = .ok (.iadd, 1) := by decide +kernel
theorem dX6_pairsApart_22 : decode mX6_pairsApart.2.1 22 = .ok (.istore 5, 2) := by decide +kernel
theorem dX6_pairsApart_24 : decode mX6_pairsApart.2.1 24 = .ok (.iload 5, 2) := by decide +kernel
theorem dX6_pairsApart_26 : decode mX6_pairsApart.2.1 26 = .ok (.aload_n 0, 1) := by decide +kernel
theorem dX6_pairsApart_27 : decode mX6_pairsApart.2.1 27 = .ok (.getfield 9, 3) := by decide +kernel
theorem dX6_pairsApart_30 : decode mX6_pairsApart.2.1 30 = .ok (.if_icmp .ge 32, 3) := by decide +kernel
theorem dX6_pairsApart_33 : decode mX6_pairsApart.2.1 33 = .ok (.iload_n 3, 1) := by decide +kernel
theorem dX6_pairsApart_34 : decode mX6_pairsApart.2.1 34 = .ok (.iload_n 2, 1) := by decide +kernel
theorem dX6_pairsApart_35 : decode mX6_pairsApart.2.1 35 = .ok (.iload 4, 2) := by decide +kernel
theorem dX6_pairsApart_37 : decode mX6_pairsApart.2.1 37 = .ok (.ishr, 1) := by decide +kernel
theorem dX6_pairsApart_38 : decode mX6_pairsApart.2.1 38 = .ok (.iload_n 2, 1) := by decide +kernel
theorem dX6_pairsApart_39 : decode mX6_pairsApart.2.1 39 = .ok (.iload 5, 2) := by decide +kernel
theorem dX6_pairsApart_41 : decode mX6_pairsApart.2.1 41 = .ok (.ishr, 1) := by decide +kernel
theorem dX6_pairsApart_42 : decode mX6_pairsApart.2.1 42 = .ok (.ixor, 1) := by decide +kernel
theorem dX6_pairsApart_43 : decode mX6_pairsApart.2.1 43 = .ok (.iconst 1, 1) := by decide +kernel
theorem dX6_pairsApart_44 : decode mX6_pairsApart.2.1 44 = .ok (.iand, 1) := by decide +kernel
theorem dX6_pairsApart_45 : decode mX6_pairsApart.2.1 45 = .ok (.aload_n 0, 1) := by decide +kernel
theorem dX6_pairsApart_46 : decode mX6_pairsApart.2.1 46 = .ok (.iload 4, 2) := by decide +kernel
theorem dX6_pairsApart_48 : decode mX6_pairsApart.2.1 48 = .ok (.iload 5, 2) := by decide +kernel
theorem dX6_pairsApart_50 : decode mX6_pairsApart.2.1 50 = .ok (.invokevirtual 27, 3) := by decide +kernel
theorem dX6_pairsApart_53 : decode mX6_pairsApart.2.1 53 = .ok (.ishl, 1) := by decide +kernel
theorem dX6_pairsApart_54 : decode mX6_pairsApart.2.1 54 = .ok (.ior, 1) := by decide +kernel
theorem dX6_pairsApart_55 : decode mX6_pairsApart.2.1 55 = .ok (.istore_n 3, 1) := by decide +kernel
theorem dX6_pairsApart_56 : decode mX6_pairsApart.2.1 56 = .ok (.iinc 5 1, 3) := by decide +kernel
theorem dX6_pairsApart_59 : decode mX6_pairsApart.2.1 59 = .ok (.goto (-35), 3) := by decide +kernel
theorem dX6_pairsApart_62 : decode mX6_pairsApart.2.1 62 = .ok (.iinc 4 1, 3) := by decide +kernel
theorem dX6_pairsApart_65 : decode mX6_pairsApart.2.1 65 = .ok (.goto (-56), 3) := by decide +kernel
theorem dX6_pairsApart_68 : decode mX6_pairsApart.2.1 68 = .ok (.iload_n 3, 1) := by decide +kernel
theorem dX6_pairsApart_69 : decode mX6_pairsApart.2.1 69 = .ok (.ireturn, 1) := by decide +kernel
theorem dX6_total_0 : decode mX6_total.2.1 0 = .ok (.iconst 0, 1) := by decide +kernel
theorem dX6_total_1 : decode mX6_total.2.1 1 = .ok (.istore_n 1, 1) := by decide +kernel
theorem dX6_total_2 : decode mX6_total.2.1 2 = .ok (.iconst 0, 1) := by decide +kernel
theorem dX6_total_3 : decode mX6_total.2.1 3 = .ok (.istore_n 2, 1) := by decide +kernel
theorem dX6_total_4 : decode mX6_total.2.1 4 = .ok (.iload_n 2, 1) := by decide +kernel
theorem dX6_total_5 : decode mX6_total.2.1 5 = .ok (.aload_n 0, 1) := by decide +kernel
theorem dX6_total_6 : decode mX6_total.2.1 6 = .ok (.invokevirtual 31, 3) := by decide +kernel
theorem dX6_total_9 : decode mX6_total.2.1 9 = .ok (.if_icmp .ge 18, 3) := by decide +kernel
theorem dX6_total_12 : decode mX6_total.2.1 12 = .ok (.iload_n 1, 1) := by decide +kernel
theorem dX6_total_13 : decode mX6_total.2.1 13 = .ok (.aload_n 0, 1) := by decide +kernel
theorem dX6_total_14 : decode mX6_total.2.1 14 = .ok (.getfield 15, 3) := by decide +kernel
theorem dX6_total_17 : decode mX6_total.2.1 17 = .ok (.iload_n 2, 1) := by decide +kernel
theorem dX6_total_18 : decode mX6_total.2.1 18 = .ok (.iaload, 1) := by decide +kernel
theorem dX6_total_19 : decode mX6_total.2.1 19 = .ok (.iadd, 1) := by decide +kernel
theorem dX6_total_20 : decode mX6_total.2.1 20 = .ok (.istore_n 1, 1) := by decide +kernel
theorem dX6_total_21 : decode mX6_total.2.1 21 = .ok (.iinc 2 1, 3) := by decide +kernel
theorem dX6_total_24 : decode mX6_total.2.1 24 = .ok (.goto (-20), 3) := by decide +kernel
theorem dX6_total_27 : decode mX6_total.2.1 27 = .ok (.iload_n 1, 1) := by decide +kernel
theorem dX6_total_28 : decode mX6_total.2.1 28 = .ok (.ireturn, 1) := by decide +kernel
theorem dX6_inBounds_0 : decode mX6_inBounds.2.1 0 = .ok (.iconst 0, 1) := by decide +kernel
theorem dX6_inBounds_1 : decode mX6_inBounds.2.1 1 = .ok (.istore_n 1, 1) := by decide +kernel
theorem dX6_inBounds_2 : decode mX6_inBounds.2.1 2 = .ok (.iload_n 1, 1) := by decide +kernel
theorem dX6_inBounds_3 : decode mX6_inBounds.2.1 3 = .ok (.aload_n 0, 1) := by decide +kernel
theorem dX6_inBounds_4 : decode mX6_inBounds.2.1 4 = .ok (.invokevirtual 31, 3) := by decide +kernel
theorem dX6_inBounds_7 : decode mX6_inBounds.2.1 7 = .ok (.if_icmp .ge 32, 3) := by decide +kernel
theorem dX6_inBounds_10 : decode mX6_inBounds.2.1 10 = .ok (.aload_n 0, 1) := by decide +kernel
theorem dX6_inBounds_11 : decode mX6_inBounds.2.1 11 = .ok (.getfield 15, 3) := by decide +kernel
theorem dX6_inBounds_14 : decode mX6_inBounds.2.1 14 = .ok (.iload_n 1, 1) := by decide +kernel
theorem dX6_inBounds_15 : decode mX6_inBounds.2.1 15 = .ok (.iaload, 1) := by decide +kernel
theorem dX6_inBounds_16 : decode mX6_inBounds.2.1 16 = .ok (.ifCond .lt 15, 3) := by decide +kernel
theorem dX6_inBounds_19 : decode mX6_inBounds.2.1 19 = .ok (.aload_n 0, 1) := by decide +kernel
theorem dX6_inBounds_20 : decode mX6_inBounds.2.1 20 = .ok (.getfield 15, 3) := by decide +kernel
theorem dX6_inBounds_23 : decode mX6_inBounds.2.1 23 = .ok (.iload_n 1, 1) := by decide +kernel
theorem dX6_inBounds_24 : decode mX6_inBounds.2.1 24 = .ok (.iaload, 1) := by decide +kernel
theorem dX6_inBounds_25 : decode mX6_inBounds.2.1 25 = .ok (.sipush 999, 3) := by decide +kernel
theorem dX6_inBounds_28 : decode mX6_inBounds.2.1 28 = .ok (.if_icmp .le 5, 3) := by decide +kernel
theorem dX6_inBounds_31 : decode mX6_inBounds.2.1 31 = .ok (.iconst 0, 1) := by decide +kernel
theorem dX6_inBounds_32 : decode mX6_inBounds.2.1 32 = .ok (.ireturn, 1) := by decide +kernel
theorem dX6_inBounds_33 : decode mX6_inBounds.2.1 33 = .ok (.iinc 1 1, 3) := by decide +kernel
theorem dX6_inBounds_36 : decode mX6_inBounds.2.1 36 = .ok (.goto (-34), 3) := by decide +kernel
theorem dX6_inBounds_39 : decode mX6_inBounds.2.1 39 = .ok (.iconst 1, 1) := by decide +kernel
theorem dX6_inBounds_40 : decode mX6_inBounds.2.1 40 = .ok (.ireturn, 1) := by decide +kernel
theorem dX6_unlike_0 : decode mX6_unlike.2.1 0 = .ok (.iconst 0, 1) := by decide +kernel
theorem dX6_unlike_1 : decode mX6_unlike.2.1 1 = .ok (.istore_n 2, 1) := by decide +kernel
theorem dX6_unlike_2 : decode mX6_unlike.2.1 2 = .ok (.iconst 0, 1) := by decide +kernel
theorem dX6_unlike_3 : decode mX6_unlike.2.1 3 = .ok (.istore_n 3, 1) := by decide +kernel
theorem dX6_unlike_4 : decode mX6_unlike.2.1 4 = .ok (.aload_n 0, 1) := by decide +kernel
theorem dX6_unlike_5 : decode mX6_unlike.2.1 5 = .ok (.getfield 9, 3) := by decide +kernel
theorem dX6_unlike_8 : decode mX6_unlike.2.1 8 = .ok (.aload_n 1, 1) := by decide +kernel
theorem dX6_unlike_9 : decode mX6_unlike.2.1 9 = .ok (.getfield 9, 3) := by decide +kernel
theorem dX6_unlike_12 : decode mX6_unlike.2.1 12 = .ok (.if_icmp .ne 40, 3) := by decide +kernel
theorem dX6_unlike_15 : decode mX6_unlike.2.1 15 = .ok (.iload_n 3, 1) := by decide +kernel
theorem dX6_unlike_16 : decode mX6_unlike.2.1 16 = .ok (.aload_n 0, 1) := by decide +kernel
theorem dX6_unlike_17 : decode mX6_unlike.2.1 17 = .ok (.invokevirtual 31, 3) := by decide +kernel
theorem dX6_unlike_20 : decode mX6_unlike.2.1 20 = .ok (.if_icmp .ge 32, 3) := by decide +kernel
theorem dX6_unlike_23 : decode mX6_unlike.2.1 23 = .ok (.iload_n 2, 1) := by decide +kernel
theorem dX6_unlike_24 : decode mX6_unlike.2.1 24 = .ok (.aload_n 0, 1) := by decide +kernel
theorem dX6_unlike_25 : decode mX6_unlike.2.1 25 = .ok (.getfield 15, 3) := by decide +kernel
theorem dX6_unlike_28 : decode mX6_unlike.2.1 28 = .ok (.iload_n 3, 1) := by decide +kernel
theorem dX6_unlike_29 : decode mX6_unlike.2.1 29 = .ok (.iaload, 1) := by decide +kernel
theorem dX6_unlike_30 : decode mX6_unlike.2.1 30 = .ok (.aload_n 1, 1) := by decide +kernel
theorem dX6_unlike_31 : decode mX6_unlike.2.1 31 = .ok (.getfield 15, 3) := by decide +kernel
theorem dX6_unlike_34 : decode mX6_unlike.2.1 34 = .ok (.iload_n 3, 1) := by decide +kernel
theorem dX6_unlike_35 : decode mX6_unlike.2.1 35 = .ok (.iaload, 1) := by decide +kernel
theorem dX6_unlike_36 : decode mX6_unlike.2.1 36 = .ok (.if_icmp .eq 7, 3) := by decide +kernel
theorem dX6_unlike_39 : decode mX6_unlike.2.1 39 = .ok (.iconst 1, 1) := by decide +kernel
theorem dX6_unlike_40 : decode mX6_unlike.2.1 40 = .ok (.goto 4, 3) := by decide +kernel
theorem dX6_unlike_43 : decode mX6_unlike.2.1 43 = .ok (.iconst 0, 1) := by decide +kernel
theorem dX6_unlike_44 : decode mX6_unlike.2.1 44 = .ok (.iadd, 1) := by decide +kernel
theorem dX6_unlike_45 : decode mX6_unlike.2.1 45 = .ok (.istore_n 2, 1) := by decide +kernel
theorem dX6_unlike_46 : decode mX6_unlike.2.1 46 = .ok (.iinc 3 1, 3) := by decide +kernel
theorem dX6_unlike_49 : decode mX6_unlike.2.1 49 = .ok (.goto (-45), 3) := by decide +kernel
theorem dX6_unlike_52 : decode mX6_unlike.2.1 52 = .ok (.iload_n 2, 1) := by decide +kernel
theorem dX6_unlike_53 : decode mX6_unlike.2.1 53 = .ok (.ireturn, 1) := by decide +kernel
theorem dX6_shorten_0 : decode mX6_shorten.2.1 0 = .ok (.iconst 0, 1) := by decide +kernel
theorem dX6_shorten_1 : decode mX6_shorten.2.1 1 = .ok (.istore_n 1, 1) := by decide +kernel
theorem dX6_shorten_2 : decode mX6_shorten.2.1 2 = .ok (.iload_n 1, 1) := by decide +kernel
theorem dX6_shorten_3 : decode mX6_shorten.2.1 3 = .ok (.aload_n 0, 1) := by decide +kernel
theorem dX6_shorten_4 : decode mX6_shorten.2.1 4 = .ok (.getfield 9, 3) := by decide +kernel
theorem dX6_shorten_7 : decode mX6_shorten.2.1 7 = .ok (.if_icmp .ge 80, 3) := by decide +kernel
theorem dX6_shorten_10 : decode mX6_shorten.2.1 10 = .ok (.iconst 0, 1) := by decide +kernel
theorem dX6_shorten_11 : decode mX6_shorten.2.1 11 = .ok (.istore_n 2, 1) := by decide +kernel
theorem dX6_shorten_12 : decode mX6_shorten.2.1 12 = .ok (.iload_n 2, 1) := by decide +kernel
theorem dX6_shorten_13 : decode mX6_shorten.2.1 13 = .ok (.aload_n 0, 1) := by decide +kernel
theorem dX6_shorten_14 : decode mX6_shorten.2.1 14 = .ok (.getfield 9, 3) := by decide +kernel
theorem dX6_shorten_17 : decode mX6_shorten.2.1 17 = .ok (.if_icmp .ge 64, 3) := by decide +kernel
theorem dX6_shorten_20 : decode mX6_shorten.2.1 20 = .ok (.iload_n 2, 1) := by decide +kernel
theorem dX6_shorten_21 : decode mX6_shorten.2.1 21 = .ok (.iconst 1, 1) := by decide +kernel
theorem dX6_shorten_22 : decode mX6_shorten.2.1 22 = .ok (.iadd, 1) := by decide +kernel
theorem dX6_shorten_23 : decode mX6_shorten.2.1 23 = .ok (.istore_n 3, 1) := by decide +kernel
theorem dX6_shorten_24 : decode mX6_shorten.2.1 24 = .ok (.iload_n 3, 1) := by decide +kernel
theorem dX6_shorten_25 : decode mX6_shorten.2.1 25 = .ok (.aload_n 0, 1) := by decide +kernel
theorem dX6_shorten_26 : decode mX6_shorten.2.1 26 = .ok (.getfield 9, 3) := by decide +kernel
theorem dX6_shorten_29 : decode mX6_shorten.2.1 29 = .ok (.if_icmp .ge 46, 3) := by decide +kernel
theorem dX6_shorten_32 : decode mX6_shorten.2.1 32 = .ok (.aload_n 0, 1) := by decide +kernel
theorem dX6_shorten_33 : decode mX6_shorten.2.1 33 = .ok (.iload_n 2, 1) := by decide +kernel
theorem dX6_shorten_34 : decode mX6_shorten.2.1 34 = .ok (.iload_n 1, 1) := by decide +kernel
theorem dX6_shorten_35 : decode mX6_shorten.2.1 35 = .ok (.invokevirtual 34, 3) := by decide +kernel
theorem dX6_shorten_38 : decode mX6_shorten.2.1 38 = .ok (.aload_n 0, 1) := by decide +kernel
theorem dX6_shorten_39 : decode mX6_shorten.2.1 39 = .ok (.iload_n 1, 1) := by decide +kernel
theorem dX6_shorten_40 : decode mX6_shorten.2.1 40 = .ok (.iload_n 3, 1) := by decide +kernel
theorem dX6_shorten_41 : decode mX6_shorten.2.1 41 = .ok (.invokevirtual 34, 3) := by decide +kernel
theorem dX6_shorten_44 : decode mX6_shorten.2.1 44 = .ok (.iadd, 1) := by decide +kernel
theorem dX6_shorten_45 : decode mX6_shorten.2.1 45 = .ok (.istore 4, 2) := by decide +kernel
theorem dX6_shorten_47 : decode mX6_shorten.2.1 47 = .ok (.aload_n 0, 1) := by decide +kernel
theorem dX6_shorten_48 : decode mX6_shorten.2.1 48 = .ok (.getfield 15, 3) := by decide +kernel
theorem dX6_shorten_51 : decode mX6_shorten.2.1 51 = .ok (.aload_n 0, 1) := by decide +kernel
theorem dX6_shorten_52 : decode mX6_shorten.2.1 52 = .ok (.iload_n 2, 1) := by decide +kernel
theorem dX6_shorten_53 : decode mX6_shorten.2.1 53 = .ok (.iload_n 3, 1) := by decide +kernel
theorem dX6_shorten_54 : decode mX6_shorten.2.1 54 = .ok (.invokevirtual 27, 3) := by decide +kernel
theorem dX6_shorten_57 : decode mX6_shorten.2.1 57 = .ok (.aload_n 0, 1) := by decide +kernel
theorem dX6_shorten_58 : decode mX6_shorten.2.1 58 = .ok (.iload_n 2, 1) := by decide +kernel
theorem dX6_shorten_59 : decode mX6_shorten.2.1 59 = .ok (.iload_n 3, 1) := by decide +kernel
theorem dX6_shorten_60 : decode mX6_shorten.2.1 60 = .ok (.invokevirtual 34, 3) := by decide +kernel
theorem dX6_shorten_63 : decode mX6_shorten.2.1 63 = .ok (.iload 4, 2) := by decide +kernel
theorem dX6_shorten_65 : decode mX6_shorten.2.1 65 = .ok (.invokestatic 37, 3) := by decide +kernel
theorem dX6_shorten_68 : decode mX6_shorten.2.1 68 = .ok (.iastore, 1) := by decide +kernel
theorem dX6_shorten_69 : decode mX6_shorten.2.1 69 = .ok (.iinc 3 1, 3) := by decide +kernel
theorem dX6_shorten_72 : decode mX6_shorten.2.1 72 = .ok (.goto (-48), 3) := by decide +kernel
theorem dX6_shorten_75 : decode mX6_shorten.2.1 75 = .ok (.iinc 2 1, 3) := by decide +kernel
theorem dX6_shorten_78 : decode mX6_shorten.2.1 78 = .ok (.goto (-66), 3) := by decide +kernel
theorem dX6_shorten_81 : decode mX6_shorten.2.1 81 = .ok (.iinc 1 1, 3) := by decide +kernel
theorem dX6_shorten_84 : decode mX6_shorten.2.1 84 = .ok (.goto (-82), 3) := by decide +kernel
theorem dX6_shorten_87 : decode mX6_shorten.2.1 87 = .ok (.return_, 1) := by decide +kernel
theorem dX6_clearTo_0 : decode mX6_clearTo.2.1 0 = .ok (.aload_n 0, 1) := by decide +kernel
theorem dX6_clearTo_1 : decode mX6_clearTo.2.1 1 = .ok (.iload_n 1, 1) := by decide +kernel
theorem dX6_clearTo_2 : decode mX6_clearTo.2.1 2 = .ok (.putfield 9, 3) := by decide +kernel
theorem dX6_clearTo_5 : decode mX6_clearTo.2.1 5 = .ok (.iconst 0, 1) := by decide +kernel
theorem dX6_clearTo_6 : decode mX6_clearTo.2.1 6 = .ok (.istore_n 2, 1) := by decide +kernel
theorem dX6_clearTo_7 : decode mX6_clearTo.2.1 7 = .ok (.iload_n 2, 1) := by decide +kernel
theorem dX6_clearTo_8 : decode mX6_clearTo.2.1 8 = .ok (.bipush 15, 2) := by decide +kernel
theorem dX6_clearTo_10 : decode mX6_clearTo.2.1 10 = .ok (.if_icmp .ge 16, 3) := by decide +kernel
theorem dX6_clearTo_13 : decode mX6_clearTo.2.1 13 = .ok (.aload_n 0, 1) := by decide +kernel
theorem dX6_clearTo_14 : decode mX6_clearTo.2.1 14 = .ok (.getfield 15, 3) := by decide +kernel
theorem dX6_clearTo_17 : decode mX6_clearTo.2.1 17 = .ok (.iload_n 2, 1) := by decide +kernel
theorem dX6_clearTo_18 : decode mX6_clearTo.2.1 18 = .ok (.iconst 0, 1) := by decide +kernel
theorem dX6_clearTo_19 : decode mX6_clearTo.2.1 19 = .ok (.iastore, 1) := by decide +kernel
theorem dX6_clearTo_20 : decode mX6_clearTo.2.1 20 = .ok (.iinc 2 1, 3) := by decide +kernel
theorem dX6_clearTo_23 : decode mX6_clearTo.2.1 23 = .ok (.goto (-16), 3) := by decide +kernel
theorem dX6_clearTo_26 : decode mX6_clearTo.2.1 26 = .ok (.return_, 1) := by decide +kernel
theorem dX6_copyFrom_0 : decode mX6_copyFrom.2.1 0 = .ok (.aload_n 0, 1) := by decide +kernel
theorem dX6_copyFrom_1 : decode mX6_copyFrom.2.1 1 = .ok (.aload_n 1, 1) := by decide +kernel
theorem dX6_copyFrom_2 : decode mX6_copyFrom.2.1 2 = .ok (.getfield 9, 3) := by decide +kernel
theorem dX6_copyFrom_5 : decode mX6_copyFrom.2.1 5 = .ok (.putfield 9, 3) := by decide +kernel
theorem dX6_copyFrom_8 : decode mX6_copyFrom.2.1 8 = .ok (.aload_n 1, 1) := by decide +kernel
theorem dX6_copyFrom_9 : decode mX6_copyFrom.2.1 9 = .ok (.getfield 15, 3) := by decide +kernel
theorem dX6_copyFrom_12 : decode mX6_copyFrom.2.1 12 = .ok (.iconst 0, 1) := by decide +kernel
theorem dX6_copyFrom_13 : decode mX6_copyFrom.2.1 13 = .ok (.aload_n 0, 1) := by decide +kernel
theorem dX6_copyFrom_14 : decode mX6_copyFrom.2.1 14 = .ok (.getfield 15, 3) := by decide +kernel
theorem dX6_copyFrom_17 : decode mX6_copyFrom.2.1 17 = .ok (.iconst 0, 1) := by decide +kernel
theorem dX6_copyFrom_18 : decode mX6_copyFrom.2.1 18 = .ok (.bipush 15, 2) := by decide +kernel
theorem dX6_copyFrom_20 : decode mX6_copyFrom.2.1 20 = .ok (.invokestatic 42, 3) := by decide +kernel
theorem dX6_copyFrom_23 : decode mX6_copyFrom.2.1 23 = .ok (.return_, 1) := by decide +kernel
theorem dX7_init_0 : decode mX7_init.2.1 0 = .ok (.aload_n 0, 1) := by decide +kernel
theorem dX7_init_1 : decode mX7_init.2.1 1 = .ok (.invokespecial 3, 3) := by decide +kernel
theorem dX7_init_4 : decode mX7_init.2.1 4 = .ok (.aload_n 0, 1) := by decide +kernel
theorem dX7_init_5 : decode mX7_init.2.1 5 = .ok (.bipush 80, 2) := by decide +kernel
theorem dX7_init_7 : decode mX7_init.2.1 7 = .ok (.newarray .int, 2) := by decide +kernel
theorem dX7_init_9 : decode mX7_init.2.1 9 = .ok (.putfield 9, 3) := by decide +kernel
theorem dX7_init_12 : decode mX7_init.2.1 12 = .ok (.aload_n 0, 1) := by decide +kernel
theorem dX7_init_13 : decode mX7_init.2.1 13 = .ok (.iconst 0, 1) := by decide +kernel
theorem dX7_init_14 : decode mX7_init.2.1 14 = .ok (.putfield 15, 3) := by decide +kernel
theorem dX7_init_17 : decode mX7_init.2.1 17 = .ok (.aload_n 0, 1) := by decide +kernel
theorem dX7_init_18 : decode mX7_init.2.1 18 = .ok (.iconst 0, 1) := by decide +kernel
theorem dX7_init_19 : decode mX7_init.2.1 19 = .ok (.putfield 19, 3) := by decide +kernel
theorem dX7_init_22 : decode mX7_init.2.1 22 = .ok (.return_, 1) := by decide +kernel
theorem dX7_append_0 : decode mX7_append.2.1 0 = .ok (.aload_n 0, 1) := by decide +kernel
theorem dX7_append_1 : decode mX7_append.2.1 1 = .ok (.getfield 15, 3) := by decide +kernel
theorem dX7_append_4 : decode mX7_append.2.1 4 = .ok (.bipush 80, 2) := by decide +kernel
theorem dX7_append_6 : decode mX7_append.2.1 6 = .ok (.if_icmp .ge 23, 3) := by decide +kernel
theorem dX7_append_9 : decode mX7_append.2.1 9 = .ok (.aload_n 0, 1) := by decide +kernel
theorem dX7_append_10 : decode mX7_append.2.1 10 = .ok (.getfield 9, 3) := by decide +kernel
theorem dX7_append_13 : decode mX7_append.2.1 13 = .ok (.aload_n 0, 1) := by decide +kernel
theorem dX7_append_14 : decode mX7_append.2.1 14 = .ok (.getfield 15, 3) := by decide +kernel
theorem dX7_append_17 : decode mX7_append.2.1 17 = .ok (.iload_n 1, 1) := by decide +kernel
theorem dX7_append_18 : decode mX7_append.2.1 18 = .ok (.iastore, 1) := by decide +kernel
theorem dX7_append_19 : decode mX7_append.2.1 19 = .ok (.aload_n 0, 1) := by decide +kernel
theorem dX7_append_20 : decode mX7_append.2.1 20 = .ok (.dup, 1) := by decide +kernel
theorem dX7_append_21 : decode mX7_append.2.1 21 = .ok (.getfield 15, 3) := by decide +kernel
theorem dX7_append_24 : decode mX7_append.2.1 24 = .ok (.iconst 1, 1) := by decide +kernel
theorem dX7_append_25 : decode mX7_append.2.1 25 = .ok (.iadd, 1) := by decide +kernel
theorem dX7_append_26 : decode mX7_append.2.1 26 = .ok (.putfield 15, 3) := by decide +kernel
theorem dX7_append_29 : decode mX7_append.2.1 29 = .ok (.return_, 1) := by decide +kernel
theorem dX7_parseInto_0 : decode mX7_parseInto.2.1 0 = .ok (.aload_n 0, 1) := by decide +kernel
theorem dX7_parseInto_1 : decode mX7_parseInto.2.1 1 = .ok (.iconst 0, 1) := by decide +kernel
theorem dX7_parseInto_2 : decode mX7_parseInto.2.1 2 = .ok (.invokevirtual 22, 3) := by decide +kernel
theorem dX7_parseInto_5 : decode mX7_parseInto.2.1 5 = .ok (.istore_n 2, 1) := by decide +kernel
theorem dX7_parseInto_6 : decode mX7_parseInto.2.1 6 = .ok (.iload_n 2, 1) := by decide +kernel
theorem dX7_parseInto_7 : decode mX7_parseInto.2.1 7 = .ok (.iconst 2, 1) := by decide +kernel
theorem dX7_parseInto_8 : decode mX7_parseInto.2.1 8 = .ok (.if_icmp .lt 9, 3) := by decide +kernel
theorem dX7_parseInto_11 : decode mX7_parseInto.2.1 11 = .ok (.iload_n 2, 1) := by decide +kernel
theorem dX7_parseInto_12 : decode mX7_parseInto.2.1 12 = .ok (.bipush 6, 2) := by decide +kernel
theorem dX7_parseInto_14 : decode mX7_parseInto.2.1 14 = .ok (.if_icmp .le 5, 3) := by decide +kernel
theorem dX7_parseInto_17 : decode mX7_parseInto.2.1 17 = .ok (.iconst 0, 1) := by decide +kernel
theorem dX7_parseInto_18 : decode mX7_parseInto.2.1 18 = .ok (.ireturn, 1) := by decide +kernel
theorem dX7_parseInto_19 : decode mX7_parseInto.2.1 19 = .ok (.aload_n 1, 1) := by decide +kernel
theorem dX7_parseInto_20 : decode mX7_parseInto.2.1 20 = .ok (.iload_n 2, 1) := by decide +kernel
theorem dX7_parseInto_21 : decode mX7_parseInto.2.1 21 = .ok (.invokevirtual 26, 3) := by decide +kernel
theorem dX7_parseInto_24 : decode mX7_parseInto.2.1 24 = .ok (.aload_n 0, 1) := by decide +kernel
theorem dX7_parseInto_25 : decode mX7_parseInto.2.1 25 = .ok (.iconst 1, 1) := by decide +kernel
theorem dX7_parseInto_26 : decode mX7_parseInto.2.1 26 = .ok (.putfield 19, 3) := by decide +kernel
theorem dX7_parseInto_29 : decode mX7_parseInto.2.1 29 = .ok (.iconst 1, 1) := by decide +kernel
theorem dX7_parseInto_30 : decode mX7_parseInto.2.1 30 = .ok (.istore_n 3, 1) := by decide +kernel
theorem dX7_parseInto_31 : decode mX7_parseInto.2.1 31 = .ok (.iload_n 3, 1) := by decide +kernel
theorem dX7_parseInto_32 : decode mX7_parseInto.2.1 32 = .ok (.iload_n 2, 1) := by decide +kernel
theorem dX7_parseInto_33 : decode mX7_parseInto.2.1 33 = .ok (.if_icmp .ge 94, 3) := by decide +kernel
theorem dX7_parseInto_36 : decode mX7_parseInto.2.1 36 = .ok (.iconst 0, 1) := by decide +kernel
theorem dX7_parseInto_37 : decode mX7_parseInto.2.1 37 = .ok (.istore 4, 2) := by decide +kernel
theorem dX7_parseInto_39 : decode mX7_parseInto.2.1 39 = .ok (.iload 4, 2) := by decide +kernel
theorem dX7_parseInto_41 : decode mX7_parseInto.2.1 41 = .ok (.iload_n 3, 1) := by decide +kernel
theorem dX7_parseInto_42 : decode mX7_parseInto.2.1 42 = .ok (.if_icmp .ge 79, 3) := by decide +kernel
theorem dX7_parseInto_45 : decode mX7_parseInto.2.1 45 = .ok (.aload_n 0, 1) := by decide +kernel
theorem dX7_parseInto_46 : decode mX7_parseInto.2.1 46 = .ok (.aload_n 0, 1) := by decide +kernel
theorem dX7_parseInto_47 : decode mX7_parseInto.2.1 47 = .ok (.getfield 19, 3) := by decide +kernel
theorem dX7_parseInto_50 : decode mX7_parseInto.2.1 50 = .ok (.invokevirtual 32, 3) := by decide +kernel
theorem dX7_parseInto_53 : decode mX7_parseInto.2.1 53 = .ok (.iload 4, 2) := by decide +kernel
theorem dX7_parseInto_55 : decode mX7_parseInto.2.1 55 = .ok (.ifCond .ne 8, 3) := by decide +kernel
theorem dX7_parseInto_58 : decode mX7_parseInto.2.1 58 = .ok (.bipush 59, 2) := by decide +kernel
theorem dX7_parseInto_60 : decode mX7_parseInto.2.1 60 = .ok (.goto 5, 3) := by decide +kernel
theorem dX7_parseInto_63 : decode mX7_parseInto.2.1 63 = .ok (.bipush 44, 2) := by decide +kernel
theorem dX7_parseInto_65 : decode mX7_parseInto.2.1 65 = .ok (.if_icmp .eq 8, 3) := by decide +kernel
theorem dX7_parseInto_68 : decode mX7_parseInto.2.1 68 = .ok (.aload_n 0, 1) := by decide +kernel
theorem dX7_parseInto_69 : decode mX7_parseInto.2.1 69 = .ok (.getfield 19, 3) := by decide +kernel
theorem dX7_parseInto_72 : decode mX7_parseInto.2.1 72 = .ok (.ireturn, 1) := by decide +kernel
theorem dX7_parseInto_73 : decode mX7_parseInto.2.1 73 = .ok (.aload_n 0, 1) := by decide +kernel
theorem dX7_parseInto_74 : decode mX7_parseInto.2.1 74 = .ok (.dup, 1) := by decide +kernel
theorem dX7_parseInto_75 : decode mX7_parseInto.2.1 75 = .ok (.getfield 19, 3) := by decide +kernel
theorem dX7_parseInto_78 : decode mX7_parseInto.2.1 78 = .ok (.iconst 1, 1) := by decide +kernel
theorem dX7_parseInto_79 : decode mX7_parseInto.2.1 79 = .ok (.iadd, 1) := by decide +kernel
theorem dX7_parseInto_80 : decode mX7_parseInto.2.1 80 = .ok (.putfield 19, 3) := by decide +kernel
theorem dX7_parseInto_83 : decode mX7_parseInto.2.1 83 = .ok (.aload_n 0, 1) := by decide +kernel
theorem dX7_parseInto_84 : decode mX7_parseInto.2.1 84 = .ok (.aload_n 0, 1) := by decide +kernel
theorem dX7_parseInto_85 : decode mX7_parseInto.2.1 85 = .ok (.getfield 19, 3) := by decide +kernel
theorem dX7_parseInto_88 : decode mX7_parseInto.2.1 88 = .ok (.invokevirtual 22, 3) := by decide +kernel
theorem dX7_parseInto_91 : decode mX7_parseInto.2.1 91 = .ok (.ifCond .ge 8, 3) := by decide +kernel
theorem dX7_parseInto_94 : decode mX7_parseInto.2.1 94 = .ok (.aload_n 0, 1) := by decide +kernel
theorem dX7_parseInto_95 : decode mX7_parseInto.2.1 95 = .ok (.getfield 19, 3) := by decide +kernel
theorem dX7_parseInto_98 : decode mX7_parseInto.2.1 98 = .ok (.ireturn, 1) := by decide +kernel
theorem dX7_parseInto_99 : decode mX7_parseInto.2.1 99 = .ok (.aload_n 1, 1) := by decide +kernel
theorem dX7_parseInto_100 : decode mX7_parseInto.2.1 100 = .ok (.getfield 35, 3) := by decide +kernel
theorem dX7_parseInto_103 : decode mX7_parseInto.2.1 103 = .ok (.aload_n 1, 1) := by decide +kernel
theorem dX7_parseInto_104 : decode mX7_parseInto.2.1 104 = .ok (.iload 4, 2) := by decide +kernel
theorem dX7_parseInto_106 : decode mX7_parseInto.2.1 106 = .ok (.iload_n 3, 1) := by decide +kernel
theorem dX7_parseInto_107 : decode mX7_parseInto.2.1 107 = .ok (.invokevirtual 38, 3) := by decide +kernel
theorem dX7_parseInto_110 : decode mX7_parseInto.2.1 110 = .ok (.aload_n 0, 1) := by decide +kernel
theorem dX7_parseInto_111 : decode mX7_parseInto.2.1 111 = .ok (.invokevirtual 42, 3) := by decide +kernel
theorem dX7_parseInto_114 : decode mX7_parseInto.2.1 114 = .ok (.iastore, 1) := by decide +kernel
theorem dX7_parseInto_115 : decode mX7_parseInto.2.1 115 = .ok (.iinc 4 1, 3) := by decide +kernel
theorem dX7_parseInto_118 : decode mX7_parseInto.2.1 118 = .ok (.goto (-79), 3) := by decide +kernel
theorem dX7_parseInto_121 : decode mX7_parseInto.2.1 121 = .ok (.iinc 3 1, 3) := by decide +kernel
theorem dX7_parseInto_124 : decode mX7_parseInto.2.1 124 = .ok (.goto (-93), 3) := by decide +kernel
theorem dX7_parseInto_127 : decode mX7_parseInto.2.1 127 = .ok (.aload_n 0, 1) := by decide +kernel
theorem dX7_parseInto_128 : decode mX7_parseInto.2.1 128 = .ok (.getfield 19, 3) := by decide +kernel
theorem dX7_parseInto_131 : decode mX7_parseInto.2.1 131 = .ok (.aload_n 0, 1) := by decide +kernel
theorem dX7_parseInto_132 : decode mX7_parseInto.2.1 132 = .ok (.getfield 15, 3) := by decide +kernel
theorem dX7_parseInto_135 : decode mX7_parseInto.2.1 135 = .ok (.if_icmp .ge 10, 3) := by decide +kernel
theorem dX7_parseInto_138 : decode mX7_parseInto.2.1 138 = .ok (.aload_n 0, 1) := by decide +kernel
theorem dX7_parseInto_139 : decode mX7_parseInto.2.1 139 = .ok (.getfield 19, 3) := by decide +kernel
theorem dX7_parseInto_142 : decode mX7_parseInto.2.1 142 = .ok (.goto 4, 3) := by decide +kernel
theorem dX7_parseInto_145 : decode mX7_parseInto.2.1 145 = .ok (.iconst (-1), 1) := by decide +kernel
theorem dX7_parseInto_146 : decode mX7_parseInto.2.1 146 = .ok (.ireturn, 1) := by decide +kernel
theorem dX7_takeFigures_0 : decode mX7_takeFigures.2.1 0 = .ok (.iconst 0, 1) := by decide +kernel
theorem dX7_takeFigures_1 : decode mX7_takeFigures.2.1 1 = .ok (.istore_n 1, 1) := by decide +kernel
theorem dX7_takeFigures_2 : decode mX7_takeFigures.2.1 2 = .ok (.iconst 0, 1) := by decide +kernel
theorem dX7_takeFigures_3 : decode mX7_takeFigures.2.1 3 = .ok (.istore_n 2, 1) := by decide +kernel
theorem dX7_takeFigures_4 : decode mX7_takeFigures.2.1 4 = .ok (.iload_n 2, 1) := by decide +kernel
theorem dX7_takeFigures_5 : decode mX7_takeFigures.2.1 5 = .ok (.iconst 3, 1) := by decide +kernel
theorem dX7_takeFigures_6 : decode mX7_takeFigures.2.1 6 = .ok (.if_icmp .ge 44, 3) := by decide +kernel
theorem dX7_takeFigures_9 : decode mX7_takeFigures.2.1 9 = .ok (.aload_n 0, 1) := by decide +kernel
theorem dX7_takeFigures_10 : decode mX7_takeFigures.2.1 10 = .ok (.aload_n 0, 1) := by decide +kernel
theorem dX7_takeFigures_11 : decode mX7_takeFigures.2.1 11 = .ok (.getfield 19, 3) := by decide +kernel
theorem dX7_takeFigures_14 : decode mX7_takeFigures.2.1 14 = .ok (.invokevirtual 22, 3) := by decide +kernel
theorem dX7_takeFigures_17 : decode mX7_takeFigures.2.1 17 = .ok (.ifCond .lt 33, 3) := by decide +kernel
theorem dX7_takeFigures_20 : decode mX7_takeFigures.2.1 20 = .ok (.bipush 10, 2) := by decide +kernel
theorem dX7_takeFigures_22 : decode mX7_takeFigures.2.1 22 = .ok (.iload_n 1, 1) := by decide +kernel
theorem dX7_takeFigures_23 : decode mX7_takeFigures.2.1 23 = .ok (.imul, 1) := by decide +kernel
theorem dX7_takeFigures_24 : decode mX7_takeFigures.2.1 24 = .ok (.aload_n 0, 1) := by decide +kernel
theorem dX7_takeFigures_25 : decode mX7_takeFigures.2.1 25 = .ok (.aload_n 0, 1) := by decide +kernel
theorem dX7_takeFigures_26 : decode mX7_takeFigures.2.1 26 = .ok (.getfield 19, 3) := by decide +kernel
theorem dX7_takeFigures_29 : decode mX7_takeFigures.2.1 29 = .ok (.invokevirtual 22, 3) := by decide +kernel
theorem dX7_takeFigures_32 : decode mX7_takeFigures.2.1 32 = .ok (.iadd, 1) := by decide +kernel
theorem dX7_takeFigures_33 : decode mX7_takeFigures.2.1 33 = .ok (.istore_n 1, 1) := by decide +kernel
theorem dX7_takeFigures_34 : decode mX7_takeFigures.2.1 34 = .ok (.aload_n 0, 1) := by decide +kernel
theorem dX7_takeFigures_35 : decode mX7_takeFigures.2.1 35 = .ok (.dup, 1) := by decide +kernel
theorem dX7_takeFigures_36 : decode mX7_takeFigures.2.1 36 = .ok (.getfield 19, 3) := by decide +kernel
theorem dX7_takeFigures_39 : decode mX7_takeFigures.2.1 39 = .ok (.iconst 1, 1) := by decide +kernel
theorem dX7_takeFigures_40 : decode mX7_takeFigures.2.1 40 = .ok (.iadd, 1) := by decide +kernel
theorem dX7_takeFigures_41 : decode mX7_takeFigures.2.1 41 = .ok (.putfield 19, 3) := by decide +kernel
theorem dX7_takeFigures_44 : decode mX7_takeFigures.2.1 44 = .ok (.iinc 2 1, 3) := by decide +kernel
theorem dX7_takeFigures_47 : decode mX7_takeFigures.2.1 47 = .ok (.goto (-43), 3) := by decide +kernel
theorem dX7_takeFigures_50 : decode mX7_takeFigures.2.1 50 = .ok (.iload_n 1, 1) := by decide +kernel
theorem dX7_takeFigures_51 : decode mX7_takeFigures.2.1 51 = .ok (.ireturn, 1) := by decide +kernel
theorem dX7_figureAt_0 : decode mX7_figureAt.2.1 0 = .ok (.aload_n 0, 1) := by decide +kernel
theorem dX7_figureAt_1 : decode mX7_figureAt.2.1 1 = .ok (.iload_n 1, 1) := by decide +kernel
theorem dX7_figureAt_2 : decode mX7_figureAt.2.1 2 = .ok (.invokevirtual 32, 3) := by decide +kernel
theorem dX7_figureAt_5 : decode mX7_figureAt.2.1 5 = .ok (.istore_n 2, 1) := by decide +kernel
theorem dX7_figureAt_6 : decode mX7_figureAt.2.1 6 = .ok (.iload_n 2, 1) := by decide +kernel
theorem dX7_figureAt_7 : decode mX7_figureAt.2.1 7 = .ok (.bipush 48, 2) := by decide +kernel
theorem dX7_figureAt_9 : decode mX7_figureAt.2.1 9 = .ok (.if_icmp .lt 16, 3) := by decide +kernel
theorem dX7_figureAt_12 : decode mX7_figureAt.2.1 12 = .ok (.iload_n 2, 1) := by decide +kernel
theorem dX7_figureAt_13 : decode mX7_figureAt.2.1 13 = .ok (.bipush 57, 2) := by decide +kernel
theorem dX7_figureAt_15 : decode mX7_figureAt.2.1 15 = .ok (.if_icmp .gt 10, 3) := by decide +kernel
theorem dX7_figureAt_18 : decode mX7_figureAt.2.1 18 = .ok (.iload_n 2, 1) := by decide +kernel
theorem dX7_figureAt_19 : decode mX7_figureAt.2.1 19 = .ok (.bipush 48, 2) := by decide +kernel
theorem dX7_figureAt_21 : decode mX7_figureAt.2.1 21 = .ok (.isub, 1) := by decide +kernel
theorem dX7_figureAt_22 : decode mX7_figureAt.2.1 22 = .ok (.goto 4, 3) := by decide +kernel
theorem dX7_figureAt_25 : decode mX7_figureAt.2.1 25 = .ok (.iconst (-1), 1) := by decide +kernel
theorem dX7_figureAt_26 : decode mX7_figureAt.2.1 26 = .ok (.ireturn, 1) := by decide +kernel
theorem dX7_byteAt_0 : decode mX7_byteAt.2.1 0 = .ok (.iload_n 1, 1) := by decide +kernel
theorem dX7_byteAt_1 : decode mX7_byteAt.2.1 1 = .ok (.ifCond .lt 20, 3) := by decide +kernel
theorem dX7_byteAt_4 : decode mX7_byteAt.2.1 4 = .ok (.iload_n 1, 1) := by decide +kernel
theorem dX7_byteAt_5 : decode mX7_byteAt.2.1 5 = .ok (.aload_n 0, 1) := by decide +kernel
theorem dX7_byteAt_6 : decode mX7_byteAt.2.1 6 = .ok (.getfield 15, 3) := by decide +kernel
theorem dX7_byteAt_9 : decode mX7_byteAt.2.1 9 = .ok (.if_icmp .ge 12, 3) := by decide +kernel
theorem dX7_byteAt_12 : decode mX7_byteAt.2.1 12 = .ok (.aload_n 0, 1) := by decide +kernel
theorem dX7_byteAt_13 : decode mX7_byteAt.2.1 13 = .ok (.getfield 9, 3) := by decide +kernel
theorem dX7_byteAt_16 : decode mX7_byteAt.2.1 16 = .ok (.iload_n 1, 1) := by decide +kernel
theorem dX7_byteAt_17 : decode mX7_byteAt.2.1 17 = .ok (.iaload, 1) := by decide +kernel
theorem dX7_byteAt_18 : decode mX7_byteAt.2.1 18 = .ok (.goto 4, 3) := by decide +kernel
theorem dX7_byteAt_21 : decode mX7_byteAt.2.1 21 = .ok (.iconst (-1), 1) := by decide +kernel
theorem dX7_byteAt_22 : decode mX7_byteAt.2.1 22 = .ok (.ireturn, 1) := by decide +kernel
theorem dX8_init_0 : decode mX8_init.2.1 0 = .ok (.aload_n 0, 1) := by decide +kernel
theorem dX8_init_1 : decode mX8_init.2.1 1 = .ok (.invokespecial 3, 3) := by decide +kernel
theorem dX8_init_4 : decode mX8_init.2.1 4 = .ok (.aload_n 0, 1) := by decide +kernel
theorem dX8_init_5 : decode mX8_init.2.1 5 = .ok (.new 9, 3) := by decide +kernel
theorem dX8_init_8 : decode mX8_init.2.1 8 = .ok (.dup, 1) := by decide +kernel
theorem dX8_init_9 : decode mX8_init.2.1 9 = .ok (.invokespecial 11, 3) := by decide +kernel
theorem dX8_init_12 : decode mX8_init.2.1 12 = .ok (.putfield 12, 3) := by decide +kernel
theorem dX8_init_15 : decode mX8_init.2.1 15 = .ok (.aload_n 0, 1) := by decide +kernel
theorem dX8_init_16 : decode mX8_init.2.1 16 = .ok (.iconst 0, 1) := by decide +kernel
theorem dX8_init_17 : decode mX8_init.2.1 17 = .ok (.putfield 18, 3) := by decide +kernel
theorem dX8_init_20 : decode mX8_init.2.1 20 = .ok (.aload_n 0, 1) := by decide +kernel
theorem dX8_init_21 : decode mX8_init.2.1 21 = .ok (.iconst 0, 1) := by decide +kernel
theorem dX8_init_22 : decode mX8_init.2.1 22 = .ok (.putfield 22, 3) := by decide +kernel
theorem dX8_init_25 : decode mX8_init.2.1 25 = .ok (.aload_n 0, 1) := by decide +kernel
theorem dX8_init_26 : decode mX8_init.2.1 26 = .ok (.iconst 0, 1) := by decide +kernel
theorem dX8_init_27 : decode mX8_init.2.1 27 = .ok (.putfield 26, 3) := by decide +kernel
theorem dX8_init_30 : decode mX8_init.2.1 30 = .ok (.aload_n 0, 1) := by decide +kernel
theorem dX8_init_31 : decode mX8_init.2.1 31 = .ok (.bipush 6, 2) := by decide +kernel
theorem dX8_init_33 : decode mX8_init.2.1 33 = .ok (.newarray .int, 2) := by decide +kernel
theorem dX8_init_35 : decode mX8_init.2.1 35 = .ok (.putfield 29, 3) := by decide +kernel
theorem dX8_init_38 : decode mX8_init.2.1 38 = .ok (.aload_n 0, 1) := by decide +kernel
theorem dX8_init_39 : decode mX8_init.2.1 39 = .ok (.bipush 7, 2) := by decide +kernel
theorem dX8_init_41 : decode mX8_init.2.1 41 = .ok (.newarray .int, 2) := by decide +kernel
theorem dX8_init_43 : decode mX8_init.2.1 43 = .ok (.putfield 33, 3) := by decide +kernel
theorem dX8_init_46 : decode mX8_init.2.1 46 = .ok (.aload_n 0, 1) := by decide +kernel
theorem dX8_init_47 : decode mX8_init.2.1 47 = .ok (.bipush 7, 2) := by decide +kernel
theorem dX8_init_49 : decode mX8_init.2.1 49 = .ok (.newarray .int, 2) := by decide +kernel
theorem dX8_init_51 : decode mX8_init.2.1 51 = .ok (.putfield 36, 3) := by decide +kernel
theorem dX8_init_54 : decode mX8_init.2.1 54 = .ok (.aload_n 0, 1) := by decide +kernel
theorem dX8_init_55 : decode mX8_init.2.1 55 = .ok (.bipush 6, 2) := by decide +kernel
theorem dX8_init_57 : decode mX8_init.2.1 57 = .ok (.bipush 6, 2) := by decide +kernel
theorem dX8_init_59 : decode mX8_init.2.1 59 = .ok (.multianewarray 39 2, 4) := by decide +kernel
theorem dX8_init_63 : decode mX8_init.2.1 63 = .ok (.putfield 41, 3) := by decide +kernel
theorem dX8_init_66 : decode mX8_init.2.1 66 = .ok (.return_, 1) := by decide +kernel
theorem dX8_start_0 : decode mX8_start.2.1 0 = .ok (.aload_n 0, 1) := by decide +kernel
theorem dX8_start_1 : decode mX8_start.2.1 1 = .ok (.getfield 12, 3) := by decide +kernel
theorem dX8_start_4 : decode mX8_start.2.1 4 = .ok (.aload_n 1, 1) := by decide +kernel
theorem dX8_start_5 : decode mX8_start.2.1 5 = .ok (.invokevirtual 44, 3) := by decide +kernel
theorem dX8_start_8 : decode mX8_start.2.1 8 = .ok (.aload_n 0, 1) := by decide +kernel
theorem dX8_start_9 : decode mX8_start.2.1 9 = .ok (.aload_n 1, 1) := by decide +kernel
theorem dX8_start_10 : decode mX8_start.2.1 10 = .ok (.getfield 48, 3) := by decide +kernel
theorem dX8_start_13 : decode mX8_start.2.1 13 = .ok (.putfield 22, 3) := by decide +kernel
theorem dX8_start_16 : decode mX8_start.2.1 16 = .ok (.aload_n 0, 1) := by decide +kernel
theorem dX8_start_17 : decode mX8_start.2.1 17 = .ok (.iload_n 2, 1) := by decide +kernel
theorem dX8_start_18 : decode mX8_start.2.1 18 = .ok (.putfield 26, 3) := by decide +kernel
theorem dX8_start_21 : decode mX8_start.2.1 21 = .ok (.aload_n 0, 1) := by decide +kernel
theorem dX8_start_22 : decode mX8_start.2.1 22 = .ok (.getfield 33, 3) := by decide +kernel
theorem dX8_start_25 : decode mX8_start.2.1 25 = .ok (.iconst 0, 1) := by decide +kernel
theorem dX8_start_26 : decode mX8_start.2.1 26 = .ok (.iconst 1, 1) := by decide +kernel
theorem dX8_start_27 : decode mX8_start.2.1 27 = .ok (.iastore, 1) := by decide +kernel
theorem dX8_start_28 : decode mX8_start.2.1 28 = .ok (.aload_n 0, 1) := by decide +kernel
theorem dX8_start_29 : decode mX8_start.2.1 29 = .ok (.iconst 0, 1) := by decide +kernel
theorem dX8_start_30 : decode mX8_start.2.1 30 = .ok (.invokevirtual 49, 3) := by decide +kernel
theorem dX8_start_33 : decode mX8_start.2.1 33 = .ok (.aload_n 0, 1) := by decide +kernel
theorem dX8_start_34 : decode mX8_start.2.1 34 = .ok (.iconst 1, 1) := by decide +kernel
theorem dX8_start_35 : decode mX8_start.2.1 35 = .ok (.putfield 18, 3) := by decide +kernel
theorem dX8_start_38 : decode mX8_start.2.1 38 = .ok (.return_, 1) := by decide +kernel
theorem dX8_wallValue_0 : decode mX8_wallValue.2.1 0 = .ok (.aload_n 0, 1) := by decide +kernel
theorem dX8_wallValue_1 : decode mX8_wallValue.2.1 1 = .ok (.getfield 36, 3) := by decide +kernel
theorem dX8_wallValue_4 : decode mX8_wallValue.2.1 4 = .ok (.aload_n 0, 1) := by decide +kernel
theorem dX8_wallValue_5 : decode mX8_wallValue.2.1 5 = .ok (.getfield 22, 3) := by decide +kernel
theorem dX8_wallValue_8 : decode mX8_wallValue.2.1 8 = .ok (.iaload, 1) := by decide +kernel
theorem dX8_wallValue_9 : decode mX8_wallValue.2.1 9 = .ok (.ireturn, 1) := by decide +kernel
theorem dX8_goOn_0 : decode mX8_goOn.2.1 0 = .ok (.aload_n 0, 1) := by decide +kernel
theorem dX8_goOn_1 : decode mX8_goOn.2.1 1 = .ok (.iconst 0, 1) := by decide +kernel
theorem dX8_goOn_2 : decode mX8_goOn.2.1 2 = .ok (.putfield 18, 3) := by decide +kernel
theorem dX8_goOn_5 : decode mX8_goOn.2.1 5 = .ok (.aload_n 0, 1) := by decide +kernel
theorem dX8_goOn_6 : decode mX8_goOn.2.1 6 = .ok (.getfield 22, 3) := by decide +kernel
theorem dX8_goOn_9 : decode mX8_goOn.2.1 9 = .ok (.iconst 2, 1) := by decide +kernel
theorem dX8_goOn_10 : decode mX8_goOn.2.1 10 = .ok (.isub, 1) := by decide +kernel
theorem dX8_goOn_11 : decode mX8_goOn.2.1 11 = .ok (.istore_n 1, 1) := by decide +kernel
theorem dX8_goOn_12 : decode mX8_goOn.2.1 12 = .ok (.iload_n 1, 1) := by decide +kernel
theorem dX8_goOn_13 : decode mX8_goOn.2.1 13 = .ok (.ifCond .lt 57, 3) := by decide +kernel
theorem dX8_goOn_16 : decode mX8_goOn.2.1 16 = .ok (.aload_n 0, 1) := by decide +kernel
theorem dX8_goOn_17 : decode mX8_goOn.2.1 17 = .ok (.getfield 18, 3) := by decide +kernel
theorem dX8_goOn_20 : decode mX8_goOn.2.1 20 = .ok (.ifCond .ne 50, 3) := by decide +kernel
theorem dX8_goOn_23 : decode mX8_goOn.2.1 23 = .ok (.aload_n 0, 1) := by decide +kernel
theorem dX8_goOn_24 : decode mX8_goOn.2.1 24 = .ok (.getfield 29, 3) := by decide +kernel
theorem dX8_goOn_27 : decode mX8_goOn.2.1 27 = .ok (.iload_n 1, 1) := by decide +kernel
theorem dX8_goOn_28 : decode mX8_goOn.2.1 28 = .ok (.iaload, 1) := by decide +kernel
theorem dX8_goOn_29 : decode mX8_goOn.2.1 29 = .ok (.aload_n 0, 1) := by decide +kernel
theorem dX8_goOn_30 : decode mX8_goOn.2.1 30 = .ok (.iload_n 1, 1) := by decide +kernel
theorem dX8_goOn_31 : decode mX8_goOn.2.1 31 = .ok (.invokevirtual 53, 3) := by decide +kernel
theorem dX8_goOn_34 : decode mX8_goOn.2.1 34 = .ok (.if_icmp .ge 30, 3) := by decide +kernel
theorem dX8_goOn_37 : decode mX8_goOn.2.1 37 = .ok (.aload_n 0, 1) := by decide +kernel
theorem dX8_goOn_38 : decode mX8_goOn.2.1 38 = .ok (.getfield 29, 3) := by decide +kernel
theorem dX8_goOn_41 : decode mX8_goOn.2.1 41 = .ok (.iload_n 1, 1) := by decide +kernel
theorem dX8_goOn_42 : decode mX8_goOn.2.1 42 = .ok (.dup2, 1) := by decide +kernel
theorem dX8_goOn_43 : decode mX8_goOn.2.1 43 = .ok (.iaload, 1) := by decide +kernel
theorem dX8_goOn_44 : decode mX8_goOn.2.1 44 = .ok (.iconst 1, 1) := by decide +kernel
theorem dX8_goOn_45 : decode mX8_goOn.2.1 45 = .ok (.iadd, 1) := by decide +kernel
theorem dX8_goOn_46 : decode mX8_goOn.2.1 46 = .ok (.iastore, 1) := by decide +kernel
theorem dX8_goOn_47 : decode mX8_goOn.2.1 47 = .ok (.aload_n 0, 1) := by decide +kernel
theorem dX8_goOn_48 : decode mX8_goOn.2.1 48 = .ok (.iload_n 1, 1) := by decide +kernel
theorem dX8_goOn_49 : decode mX8_goOn.2.1 49 = .ok (.invokevirtual 57, 3) := by decide +kernel
theorem dX8_goOn_52 : decode mX8_goOn.2.1 52 = .ok (.aload_n 0, 1) := by decide +kernel
theorem dX8_goOn_53 : decode mX8_goOn.2.1 53 = .ok (.iload_n 1, 1) := by decide +kernel
theorem dX8_goOn_54 : decode mX8_goOn.2.1 54 = .ok (.iconst 1, 1) := by decide +kernel
theorem dX8_goOn_55 : decode mX8_goOn.2.1 55 = .ok (.iadd, 1) := by decide +kernel
theorem dX8_goOn_56 : decode mX8_goOn.2.1 56 = .ok (.invokevirtual 49, 3) := by decide +kernel
theorem dX8_goOn_59 : decode mX8_goOn.2.1 59 = .ok (.aload_n 0, 1) := by decide +kernel
theorem dX8_goOn_60 : decode mX8_goOn.2.1 60 = .ok (.iconst 1, 1) := by decide +kernel
theorem dX8_goOn_61 : decode mX8_goOn.2.1 61 = .ok (.putfield 18, 3) := by decide +kernel
theorem dX8_goOn_64 : decode mX8_goOn.2.1 64 = .ok (.iinc 1 (-1), 3) := by decide +kernel
theorem dX8_goOn_67 : decode mX8_goOn.2.1 67 = .ok (.goto (-55), 3) := by decide +kernel
theorem dX8_goOn_70 : decode mX8_goOn.2.1 70 = .ok (.return_, 1) := by decide +kernel
theorem dX8_goOnTimes_0 : decode mX8_goOnTimes.2.1 0 = .ok (.iconst 0, 1) := by decide +kernel
theorem dX8_goOnTimes_1 : decode mX8_goOnTimes.2.1 1 = .ok (.istore_n 2, 1) := by decide +kernel
theorem dX8_goOnTimes_2 : decode mX8_goOnTimes.2.1 2 = .ok (.iload_n 2, 1) := by decide +kernel
theorem dX8_goOnTimes_3 : decode mX8_goOnTimes.2.1 3 = .ok (.iload_n 1, 1) := by decide +kernel
theorem dX8_goOnTimes_4 : decode mX8_goOnTimes.2.1 4 = .ok (.if_icmp .ge 27, 3) := by decide +kernel
theorem dX8_goOnTimes_7 : decode mX8_goOnTimes.2.1 7 = .ok (.iload_n 2, 1) := by decide +kernel
theorem dX8_goOnTimes_8 : decode mX8_goOnTimes.2.1 8 = .ok (.sipush 16807, 3) := by decide +kernel
theorem dX8_goOnTimes_11 : decode mX8_goOnTimes.2.1 11 = .ok (.if_icmp .ge 20, 3) := by decide +kernel
theorem dX8_goOnTimes_14 : decode mX8_goOnTimes.2.1 14 = .ok (.aload_n 0, 1) := by decide +kernel
theorem dX8_goOnTimes_15 : decode mX8_goOnTimes.2.1 15 = .ok (.getfield 18, 3) := by decide +kernel
theorem dX8_goOnTimes_18 : decode mX8_goOnTimes.2.1 18 = .ok (.ifCond .eq 13, 3) := by decide +kernel
theorem dX8_goOnTimes_21 : decode mX8_goOnTimes.2.1 21 = .ok (.aload_n 0, 1) := by decide +kernel
theorem dX8_goOnTimes_22 : decode mX8_goOnTimes.2.1 22 = .ok (.invokevirtual 60, 3) := by decide +kernel
theorem dX8_goOnTimes_25 : decode mX8_goOnTimes.2.1 25 = .ok (.iinc 2 1, 3) := by decide +kernel
theorem dX8_goOnTimes_28 : decode mX8_goOnTimes.2.1 28 = .ok (.goto (-26), 3) := by decide +kernel
theorem dX8_goOnTimes_31 : decode mX8_goOnTimes.2.1 31 = .ok (.return_, 1) := by decide +kernel
theorem dX8_fillFrom_0 : decode mX8_fillFrom.2.1 0 = .ok (.iload_n 1, 1) := by decide +kernel
theorem dX8_fillFrom_1 : decode mX8_fillFrom.2.1 1 = .ok (.istore_n 2, 1) := by decide +kernel
theorem dX8_fillFrom_2 : decode mX8_fillFrom.2.1 2 = .ok (.iload_n 2, 1) := by decide +kernel
theorem dX8_fillFrom_3 : decode mX8_fillFrom.2.1 3 = .ok (.aload_n 0, 1) := by decide +kernel
theorem dX8_fillFrom_4 : decode mX8_fillFrom.2.1 4 = .ok (.getfield 22, 3) := by decide +kernel
theorem dX8_fillFrom_7 : decode mX8_fillFrom.2.1 7 = .ok (.if_icmp .ge 25, 3) := by decide +kernel
theorem dX8_fillFrom_10 : decode mX8_fillFrom.2.1 10 = .ok (.aload_n 0, 1) := by decide +kernel
theorem dX8_fillFrom_11 : decode mX8_fillFrom.2.1 11 = .ok (.getfield 29, 3) := by decide +kernel
theorem dX8_fillFrom_14 : decode mX8_fillFrom.2.1 14 = .ok (.iload_n 2, 1) := by decide +kernel
theorem dX8_fillFrom_15 : decode mX8_fillFrom.2.1 15 = .ok (.aload_n 0, 1) := by decide +kernel
theorem dX8_fillFrom_16 : decode mX8_fillFrom.2.1 16 = .ok (.iload_n 2, 1) := by decide +kernel
theorem dX8_fillFrom_17 : decode mX8_fillFrom.2.1 17 = .ok (.invokevirtual 63, 3) := by decide +kernel
theorem dX8_fillFrom_20 : decode mX8_fillFrom.2.1 20 = .ok (.iastore, 1) := by decide +kernel
theorem dX8_fillFrom_21 : decode mX8_fillFrom.2.1 21 = .ok (.aload_n 0, 1) := by decide +kernel
theorem dX8_fillFrom_22 : decode mX8_fillFrom.2.1 22 = .ok (.iload_n 2, 1) := by decide +kernel
theorem dX8_fillFrom_23 : decode mX8_fillFrom.2.1 23 = .ok (.invokevirtual 57, 3) := by decide +kernel
theorem dX8_fillFrom_26 : decode mX8_fillFrom.2.1 26 = .ok (.iinc 2 1, 3) := by decide +kernel
theorem dX8_fillFrom_29 : decode mX8_fillFrom.2.1 29 = .ok (.goto (-27), 3) := by decide +kernel
theorem dX8_fillFrom_32 : decode mX8_fillFrom.2.1 32 = .ok (.return_, 1) := by decide +kernel
theorem dX8_leastAt_0 : decode mX8_leastAt.2.1 0 = .ok (.aload_n 0, 1) := by decide +kernel
theorem dX8_leastAt_1 : decode mX8_leastAt.2.1 1 = .ok (.getfield 26, 3) := by decide +kernel
theorem dX8_leastAt_4 : decode mX8_leastAt.2.1 4 = .ok (.ineg, 1) := by decide +kernel
theorem dX8_leastAt_5 : decode mX8_leastAt.2.1 5 = .ok (.aload_n 0, 1) := by decide +kernel
theorem dX8_leastAt_6 : decode mX8_leastAt.2.1 6 = .ok (.getfield 33, 3) := by decide +kernel
theorem dX8_leastAt_9 : decode mX8_leastAt.2.1 9 = .ok (.iload_n 1, 1) := by decide +kernel
theorem dX8_leastAt_10 : decode mX8_leastAt.2.1 10 = .ok (.iaload, 1) := by decide +kernel
theorem dX8_leastAt_11 : decode mX8_leastAt.2.1 11 = .ok (.aload_n 0, 1) := by decide +kernel
theorem dX8_leastAt_12 : decode mX8_leastAt.2.1 12 = .ok (.getfield 26, 3) := by decide +kernel
theorem dX8_leastAt_15 : decode mX8_leastAt.2.1 15 = .ok (.aload_n 0, 1) := by decide +kernel
theorem dX8_leastAt_16 : decode mX8_leastAt.2.1 16 = .ok (.getfield 22, 3) := by decide +kernel
theorem dX8_leastAt_19 : decode mX8_leastAt.2.1 19 = .ok (.iconst 1, 1) := by decide +kernel
theorem dX8_leastAt_20 : decode mX8_leastAt.2.1 20 = .ok (.isub, 1) := by decide +kernel
theorem dX8_leastAt_21 : decode mX8_leastAt.2.1 21 = .ok (.iload_n 1, 1) := by decide +kernel
theorem dX8_leastAt_22 : decode mX8_leastAt.2.1 22 = .ok (.isub, 1) := by decide +kernel
theorem dX8_leastAt_23 : decode mX8_leastAt.2.1 23 = .ok (.imul, 1) := by decide +kernel
theorem dX8_leastAt_24 : decode mX8_leastAt.2.1 24 = .ok (.isub, 1) := by decide +kernel
theorem dX8_leastAt_25 : decode mX8_leastAt.2.1 25 = .ok (.invokestatic 66, 3) := by decide +kernel
theorem dX8_leastAt_28 : decode mX8_leastAt.2.1 28 = .ok (.ireturn, 1) := by decide +kernel
theorem dX8_greatestAt_0 : decode mX8_greatestAt.2.1 0 = .ok (.aload_n 0, 1) := by decide +kernel
theorem dX8_greatestAt_1 : decode mX8_greatestAt.2.1 1 = .ok (.getfield 26, 3) := by decide +kernel
theorem dX8_greatestAt_4 : decode mX8_greatestAt.2.1 4 = .ok (.aload_n 0, 1) := by decide +kernel
theorem dX8_greatestAt_5 : decode mX8_greatestAt.2.1 5 = .ok (.getfield 33, 3) := by decide +kernel
theorem dX8_greatestAt_8 : decode mX8_greatestAt.2.1 8 = .ok (.iload_n 1, 1) := by decide +kernel
theorem dX8_greatestAt_9 : decode mX8_greatestAt.2.1 9 = .ok (.iaload, 1) := by decide +kernel
theorem dX8_greatestAt_10 : decode mX8_greatestAt.2.1 10 = .ok (.aload_n 0, 1) := by decide +kernel
theorem dX8_greatestAt_11 : decode mX8_greatestAt.2.1 11 = .ok (.getfield 26, 3) := by decide +kernel
theorem dX8_greatestAt_14 : decode mX8_greatestAt.2.1 14 = .ok (.aload_n 0, 1) := by decide +kernel
theorem dX8_greatestAt_15 : decode mX8_greatestAt.2.1 15 = .ok (.getfield 22, 3) := by decide +kernel
theorem dX8_greatestAt_18 : decode mX8_greatestAt.2.1 18 = .ok (.iconst 1, 1) := by decide +kernel
theorem dX8_greatestAt_19 : decode mX8_greatestAt.2.1 19 = .ok (.isub, 1) := by decide +kernel
theorem dX8_greatestAt_20 : decode mX8_greatestAt.2.1 20 = .ok (.iload_n 1, 1) := by decide +kernel
theorem dX8_greatestAt_21 : decode mX8_greatestAt.2.1 21 = .ok (.isub, 1) := by decide +kernel
theorem dX8_greatestAt_22 : decode mX8_greatestAt.2.1 22 = .ok (.imul, 1) := by decide +kernel
theorem dX8_greatestAt_23 : decode mX8_greatestAt.2.1 23 = .ok (.iadd, 1) := by decide +kernel
theorem dX8_greatestAt_24 : decode mX8_greatestAt.2.1 24 = .ok (.invokestatic 72, 3) := by decide +kernel
theorem dX8_greatestAt_27 : decode mX8_greatestAt.2.1 27 = .ok (.ireturn, 1) := by decide +kernel
theorem dX8_carry_0 : decode mX8_carry.2.1 0 = .ok (.aload_n 0, 1) := by decide +kernel
theorem dX8_carry_1 : decode mX8_carry.2.1 1 = .ok (.getfield 33, 3) := by decide +kernel
theorem dX8_carry_4 : decode mX8_carry.2.1 4 = .ok (.iload_n 1, 1) := by decide +kernel
theorem dX8_carry_5 : decode mX8_carry.2.1 5 = .ok (.iconst 1, 1) := by decide +kernel
theorem dX8_carry_6 : decode mX8_carry.2.1 6 = .ok (.iadd, 1) := by decide +kernel
theorem dX8_carry_7 : decode mX8_carry.2.1 7 = .ok (.aload_n 0, 1) := by decide +kernel
theorem dX8_carry_8 : decode mX8_carry.2.1 8 = .ok (.getfield 33, 3) := by decide +kernel
theorem dX8_carry_11 : decode mX8_carry.2.1 11 = .ok (.iload_n 1, 1) := by decide +kernel
theorem dX8_carry_12 : decode mX8_carry.2.1 12 = .ok (.iaload, 1) := by decide +kernel
theorem dX8_carry_13 : decode mX8_carry.2.1 13 = .ok (.aload_n 0, 1) := by decide +kernel
theorem dX8_carry_14 : decode mX8_carry.2.1 14 = .ok (.getfield 29, 3) := by decide +kernel
theorem dX8_carry_17 : decode mX8_carry.2.1 17 = .ok (.iload_n 1, 1) := by decide +kernel
theorem dX8_carry_18 : decode mX8_carry.2.1 18 = .ok (.iaload, 1) := by decide +kernel
theorem dX8_carry_19 : decode mX8_carry.2.1 19 = .ok (.isub, 1) := by decide +kernel
theorem dX8_carry_20 : decode mX8_carry.2.1 20 = .ok (.iastore, 1) := by decide +kernel
theorem dX8_carry_21 : decode mX8_carry.2.1 21 = .ok (.aload_n 0, 1) := by decide +kernel
theorem dX8_carry_22 : decode mX8_carry.2.1 22 = .ok (.getfield 36, 3) := by decide +kernel
theorem dX8_carry_25 : decode mX8_carry.2.1 25 = .ok (.iload_n 1, 1) := by decide +kernel
theorem dX8_carry_26 : decode mX8_carry.2.1 26 = .ok (.iconst 1, 1) := by decide +kernel
theorem dX8_carry_27 : decode mX8_carry.2.1 27 = .ok (.iadd, 1) := by decide +kernel
theorem dX8_carry_28 : decode mX8_carry.2.1 28 = .ok (.aload_n 0, 1) := by decide +kernel
theorem dX8_carry_29 : decode mX8_carry.2.1 29 = .ok (.getfield 36, 3) := by decide +kernel
theorem dX8_carry_32 : decode mX8_carry.2.1 32 = .ok (.iload_n 1, 1) := by decide +kernel
theorem dX8_carry_33 : decode mX8_carry.2.1 33 = .ok (.iaload, 1) := by decide +kernel
theorem dX8_carry_34 : decode mX8_carry.2.1 34 = .ok (.aload_n 0, 1) := by decide +kernel
theorem dX8_carry_35 : decode mX8_carry.2.1 35 = .ok (.getfield 29, 3) := by decide +kernel
theorem dX8_carry_38 : decode mX8_carry.2.1 38 = .ok (.iload_n 1, 1) := by decide +kernel
theorem dX8_carry_39 : decode mX8_carry.2.1 39 = .ok (.iaload, 1) := by decide +kernel
theorem dX8_carry_40 : decode mX8_carry.2.1 40 = .ok (.aload_n 0, 1) := by decide +kernel
theorem dX8_carry_41 : decode mX8_carry.2.1 41 = .ok (.getfield 41, 3) := by decide +kernel
theorem dX8_carry_44 : decode mX8_carry.2.1 44 = .ok (.iload_n 1, 1) := by decide +kernel
theorem dX8_carry_45 : decode mX8_carry.2.1 45 = .ok (.aaload, 1) := by decide +kernel
theorem dX8_carry_46 : decode mX8_carry.2.1 46 = .ok (.iload_n 1, 1) := by decide +kernel
theorem dX8_carry_47 : decode mX8_carry.2.1 47 = .ok (.iaload, 1) := by decide +kernel
theorem dX8_carry_48 : decode mX8_carry.2.1 48 = .ok (.imul, 1) := by decide +kernel
theorem dX8_carry_49 : decode mX8_carry.2.1 49 = .ok (.iadd, 1) := by decide +kernel
theorem dX8_carry_50 : decode mX8_carry.2.1 50 = .ok (.iastore, 1) := by decide +kernel
theorem dX8_carry_51 : decode mX8_carry.2.1 51 = .ok (.iload_n 1, 1) := by decide +kernel
theorem dX8_carry_52 : decode mX8_carry.2.1 52 = .ok (.iconst 1, 1) := by decide +kernel
theorem dX8_carry_53 : decode mX8_carry.2.1 53 = .ok (.iadd, 1) := by decide +kernel
theorem dX8_carry_54 : decode mX8_carry.2.1 54 = .ok (.istore_n 2, 1) := by decide +kernel
theorem dX8_carry_55 : decode mX8_carry.2.1 55 = .ok (.iload_n 2, 1) := by decide +kernel
theorem dX8_carry_56 : decode mX8_carry.2.1 56 = .ok (.aload_n 0, 1) := by decide +kernel
theorem dX8_carry_57 : decode mX8_carry.2.1 57 = .ok (.getfield 22, 3) := by decide +kernel
theorem dX8_carry_60 : decode mX8_carry.2.1 60 = .ok (.if_icmp .ge 44, 3) := by decide +kernel
theorem dX8_carry_63 : decode mX8_carry.2.1 63 = .ok (.aload_n 0, 1) := by decide +kernel
theorem dX8_carry_64 : decode mX8_carry.2.1 64 = .ok (.getfield 41, 3) := by decide +kernel
theorem dX8_carry_67 : decode mX8_carry.2.1 67 = .ok (.iload_n 1, 1) := by decide +kernel
theorem dX8_carry_68 : decode mX8_carry.2.1 68 = .ok (.iconst 1, 1) := by decide +kernel
theorem dX8_carry_69 : decode mX8_carry.2.1 69 = .ok (.iadd, 1) := by decide +kernel
theorem dX8_carry_70 : decode mX8_carry.2.1 70 = .ok (.aaload, 1) := by decide +kernel
theorem dX8_carry_71 : decode mX8_carry.2.1 71 = .ok (.iload_n 2, 1) := by decide +kernel
theorem dX8_carry_72 : decode mX8_carry.2.1 72 = .ok (.aload_n 0, 1) := by decide +kernel
theorem dX8_carry_73 : decode mX8_carry.2.1 73 = .ok (.getfield 41, 3) := by decide +kernel
theorem dX8_carry_76 : decode mX8_carry.2.1 76 = .ok (.iload_n 1, 1) := by decide +kernel
theorem dX8_carry_77 : decode mX8_carry.2.1 77 = .ok (.aaload, 1) := by decide +kernel
theorem dX8_carry_78 : decode mX8_carry.2.1 78 = .ok (.iload_n 2, 1) := by decide +kernel
theorem dX8_carry_79 : decode mX8_carry.2.1 79 = .ok (.iaload, 1) := by decide +kernel
theorem dX8_carry_80 : decode mX8_carry.2.1 80 = .ok (.aload_n 0, 1) := by decide +kernel
theorem dX8_carry_81 : decode mX8_carry.2.1 81 = .ok (.getfield 29, 3) := by decide +kernel
theorem dX8_carry_84 : decode mX8_carry.2.1 84 = .ok (.iload_n 1, 1) := by decide +kernel
theorem dX8_carry_85 : decode mX8_carry.2.1 85 = .ok (.iaload, 1) := by decide +kernel
theorem dX8_carry_86 : decode mX8_carry.2.1 86 = .ok (.aload_n 0, 1) := by decide +kernel
theorem dX8_carry_87 : decode mX8_carry.2.1 87 = .ok (.getfield 12, 3) := by decide +kernel
theorem dX8_carry_90 : decode mX8_carry.2.1 90 = .ok (.iload_n 1, 1) := by decide +kernel
theorem dX8_carry_91 : decode mX8_carry.2.1 91 = .ok (.iload_n 2, 1) := by decide +kernel
theorem dX8_carry_92 : decode mX8_carry.2.1 92 = .ok (.invokevirtual 75, 3) := by decide +kernel
theorem dX8_carry_95 : decode mX8_carry.2.1 95 = .ok (.imul, 1) := by decide +kernel
theorem dX8_carry_96 : decode mX8_carry.2.1 96 = .ok (.iadd, 1) := by decide +kernel
theorem dX8_carry_97 : decode mX8_carry.2.1 97 = .ok (.iastore, 1) := by decide +kernel
theorem dX8_carry_98 : decode mX8_carry.2.1 98 = .ok (.iinc 2 1, 3) := by decide +kernel
theorem dX8_carry_101 : decode mX8_carry.2.1 101 = .ok (.goto (-46), 3) := by decide +kernel
theorem dX8_carry_104 : decode mX8_carry.2.1 104 = .ok (.return_, 1) := by decide +kernel
theorem dX9_init_0 : decode mX9_init.2.1 0 = .ok (.aload_n 0, 1) := by decide +kernel
theorem dX9_init_1 : decode mX9_init.2.1 1 = .ok (.invokespecial 3, 3) := by decide +kernel
theorem dX9_init_4 : decode mX9_init.2.1 4 = .ok (.aload_n 0, 1) := by decide +kernel
theorem dX9_init_5 : decode mX9_init.2.1 5 = .ok (.new 9, 3) := by decide +kernel
theorem dX9_init_8 : decode mX9_init.2.1 8 = .ok (.dup, 1) := by decide +kernel
theorem dX9_init_9 : decode mX9_init.2.1 9 = .ok (.invokespecial 11, 3) := by decide +kernel
theorem dX9_init_12 : decode mX9_init.2.1 12 = .ok (.putfield 12, 3) := by decide +kernel
theorem dX9_init_15 : decode mX9_init.2.1 15 = .ok (.aload_n 0, 1) := by decide +kernel
theorem dX9_init_16 : decode mX9_init.2.1 16 = .ok (.new 9, 3) := by decide +kernel
theorem dX9_init_19 : decode mX9_init.2.1 19 = .ok (.dup, 1) := by decide +kernel
theorem dX9_init_20 : decode mX9_init.2.1 20 = .ok (.invokespecial 11, 3) := by decide +kernel
theorem dX9_init_23 : decode mX9_init.2.1 23 = .ok (.putfield 18, 3) := by decide +kernel
theorem dX9_init_26 : decode mX9_init.2.1 26 = .ok (.aload_n 0, 1) := by decide +kernel
theorem dX9_init_27 : decode mX9_init.2.1 27 = .ok (.new 21, 3) := by decide +kernel
theorem dX9_init_30 : decode mX9_init.2.1 30 = .ok (.dup, 1) := by decide +kernel
theorem dX9_init_31 : decode mX9_init.2.1 31 = .ok (.invokespecial 23, 3) := by decide +kernel
theorem dX9_init_34 : decode mX9_init.2.1 34 = .ok (.putfield 24, 3) := by decide +kernel
theorem dX9_init_37 : decode mX9_init.2.1 37 = .ok (.aload_n 0, 1) := by decide +kernel
theorem dX9_init_38 : decode mX9_init.2.1 38 = .ok (.new 28, 3) := by decide +kernel
theorem dX9_init_41 : decode mX9_init.2.1 41 = .ok (.dup, 1) := by decide +kernel
theorem dX9_init_42 : decode mX9_init.2.1 42 = .ok (.invokespecial 30, 3) := by decide +kernel
theorem dX9_init_45 : decode mX9_init.2.1 45 = .ok (.putfield 31, 3) := by decide +kernel
theorem dX9_init_48 : decode mX9_init.2.1 48 = .ok (.aload_n 0, 1) := by decide +kernel
theorem dX9_init_49 : decode mX9_init.2.1 49 = .ok (.new 9, 3) := by decide +kernel
theorem dX9_init_52 : decode mX9_init.2.1 52 = .ok (.dup, 1) := by decide +kernel
theorem dX9_init_53 : decode mX9_init.2.1 53 = .ok (.invokespecial 11, 3) := by decide +kernel
theorem dX9_init_56 : decode mX9_init.2.1 56 = .ok (.putfield 35, 3) := by decide +kernel
theorem dX9_init_59 : decode mX9_init.2.1 59 = .ok (.aload_n 0, 1) := by decide +kernel
theorem dX9_init_60 : decode mX9_init.2.1 60 = .ok (.new 21, 3) := by decide +kernel
theorem dX9_init_63 : decode mX9_init.2.1 63 = .ok (.dup, 1) := by decide +kernel
theorem dX9_init_64 : decode mX9_init.2.1 64 = .ok (.invokespecial 23, 3) := by decide +kernel
theorem dX9_init_67 : decode mX9_init.2.1 67 = .ok (.putfield 38, 3) := by decide +kernel
theorem dX9_init_70 : decode mX9_init.2.1 70 = .ok (.aload_n 0, 1) := by decide +kernel
theorem dX9_init_71 : decode mX9_init.2.1 71 = .ok (.iconst 0, 1) := by decide +kernel
theorem dX9_init_72 : decode mX9_init.2.1 72 = .ok (.putfield 41, 3) := by decide +kernel
theorem dX9_init_75 : decode mX9_init.2.1 75 = .ok (.aload_n 0, 1) := by decide +kernel
theorem dX9_init_76 : decode mX9_init.2.1 76 = .ok (.bipush 6, 2) := by decide +kernel
theorem dX9_init_78 : decode mX9_init.2.1 78 = .ok (.anewarray 45, 3) := by decide +kernel
theorem dX9_init_81 : decode mX9_init.2.1 81 = .ok (.putfield 47, 3) := by decide +kernel
theorem dX9_init_84 : decode mX9_init.2.1 84 = .ok (.aload_n 0, 1) := by decide +kernel
theorem dX9_init_85 : decode mX9_init.2.1 85 = .ok (.new 51, 3) := by decide +kernel
theorem dX9_init_88 : decode mX9_init.2.1 88 = .ok (.dup, 1) := by decide +kernel
theorem dX9_init_89 : decode mX9_init.2.1 89 = .ok (.invokespecial 53, 3) := by decide +kernel
theorem dX9_init_92 : decode mX9_init.2.1 92 = .ok (.putfield 54, 3) := by decide +kernel
theorem dX9_init_95 : decode mX9_init.2.1 95 = .ok (.aload_n 0, 1) := by decide +kernel
theorem dX9_init_96 : decode mX9_init.2.1 96 = .ok (.new 58, 3) := by decide +kernel
theorem dX9_init_99 : decode mX9_init.2.1 99 = .ok (.dup, 1) := by decide +kernel
theorem dX9_init_100 : decode mX9_init.2.1 100 = .ok (.invokespecial 60, 3) := by decide +kernel
theorem dX9_init_103 : decode mX9_init.2.1 103 = .ok (.putfield 61, 3) := by decide +kernel
theorem dX9_init_106 : decode mX9_init.2.1 106 = .ok (.aload_n 0, 1) := by decide +kernel
theorem dX9_init_107 : decode mX9_init.2.1 107 = .ok (.new 65, 3) := by decide +kernel
theorem dX9_init_110 : decode mX9_init.2.1 110 = .ok (.dup, 1) := by decide +kernel
theorem dX9_init_111 : decode mX9_init.2.1 111 = .ok (.invokespecial 67, 3) := by decide +kernel
theorem dX9_init_114 : decode mX9_init.2.1 114 = .ok (.putfield 68, 3) := by decide +kernel
theorem dX9_init_117 : decode mX9_init.2.1 117 = .ok (.aload_n 0, 1) := by decide +kernel
theorem dX9_init_118 : decode mX9_init.2.1 118 = .ok (.new 72, 3) := by decide +kernel
theorem dX9_init_121 : decode mX9_init.2.1 121 = .ok (.dup, 1) := by decide +kernel
theorem dX9_init_122 : decode mX9_init.2.1 122 = .ok (.invokespecial 74, 3) := by decide +kernel
theorem dX9_init_125 : decode mX9_init.2.1 125 = .ok (.putfield 75, 3) := by decide +kernel
theorem dX9_init_128 : decode mX9_init.2.1 128 = .ok (.aload_n 0, 1) := by decide +kernel
theorem dX9_init_129 : decode mX9_init.2.1 129 = .ok (.new 79, 3) := by decide +kernel
theorem dX9_init_132 : decode mX9_init.2.1 132 = .ok (.dup, 1) := by decide +kernel
theorem dX9_init_133 : decode mX9_init.2.1 133 = .ok (.invokespecial 81, 3) := by decide +kernel
theorem dX9_init_136 : decode mX9_init.2.1 136 = .ok (.putfield 82, 3) := by decide +kernel
theorem dX9_init_139 : decode mX9_init.2.1 139 = .ok (.iconst 0, 1) := by decide +kernel
theorem dX9_init_140 : decode mX9_init.2.1 140 = .ok (.istore_n 1, 1) := by decide +kernel
theorem dX9_init_141 : decode mX9_init.2.1 141 = .ok (.iload_n 1, 1) := by decide +kernel
theorem dX9_init_142 : decode mX9_init.2.1 142 = .ok (.bipush 6, 2) := by decide +kernel
theorem dX9_init_144 : decode mX9_init.2.1 144 = .ok (.if_icmp .ge 22, 3) := by decide +kernel
theorem dX9_init_147 : decode mX9_init.2.1 147 = .ok (.aload_n 0, 1) := by decide +kernel
theorem dX9_init_148 : decode mX9_init.2.1 148 = .ok (.getfield 47, 3) := by decide +kernel
theorem dX9_init_151 : decode mX9_init.2.1 151 = .ok (.iload_n 1, 1) := by decide +kernel
theorem dX9_init_152 : decode mX9_init.2.1 152 = .ok (.new 45, 3) := by decide +kernel
theorem dX9_init_155 : decode mX9_init.2.1 155 = .ok (.dup, 1) := by decide +kernel
theorem dX9_init_156 : decode mX9_init.2.1 156 = .ok (.invokespecial 86, 3) := by decide +kernel
theorem dX9_init_159 : decode mX9_init.2.1 159 = .ok (.aastore, 1) := by decide +kernel
theorem dX9_init_160 : decode mX9_init.2.1 160 = .ok (.iinc 1 1, 3) := by decide +kernel
theorem dX9_init_163 : decode mX9_init.2.1 163 = .ok (.goto (-22), 3) := by decide +kernel
theorem dX9_init_166 : decode mX9_init.2.1 166 = .ok (.return_, 1) := by decide +kernel
theorem dX9_points_0 : decode mX9_points.2.1 0 = .ok (.iload_n 1, 1) := by decide +kernel
theorem dX9_points_1 : decode mX9_points.2.1 1 = .ok (.iconst 2, 1) := by decide +kernel
theorem dX9_points_2 : decode mX9_points.2.1 2 = .ok (.if_icmp .lt 9, 3) := by decide +kernel
theorem dX9_points_5 : decode mX9_points.2.1 5 = .ok (.iload_n 1, 1) := by decide +kernel
theorem dX9_points_6 : decode mX9_points.2.1 6 = .ok (.bipush 6, 2) := by decide +kernel
theorem dX9_points_8 : decode mX9_points.2.1 8 = .ok (.if_icmp .le 5, 3) := by decide +kernel
theorem dX9_points_11 : decode mX9_points.2.1 11 = .ok (.iconst (-1), 1) := by decide +kernel
theorem dX9_points_12 : decode mX9_points.2.1 12 = .ok (.ireturn, 1) := by decide +kernel
theorem dX9_points_13 : decode mX9_points.2.1 13 = .ok (.aload_n 0, 1) := by decide +kernel
theorem dX9_points_14 : decode mX9_points.2.1 14 = .ok (.getfield 12, 3) := by decide +kernel
theorem dX9_points_17 : decode mX9_points.2.1 17 = .ok (.getfield 87, 3) := by decide +kernel
theorem dX9_points_20 : decode mX9_points.2.1 20 = .ok (.istore_n 2, 1) := by decide +kernel
theorem dX9_points_21 : decode mX9_points.2.1 21 = .ok (.aload_n 0, 1) := by decide +kernel
theorem dX9_points_22 : decode mX9_points.2.1 22 = .ok (.getfield 12, 3) := by decide +kernel
theorem dX9_points_25 : decode mX9_points.2.1 25 = .ok (.iload_n 1, 1) := by decide +kernel
theorem dX9_points_26 : decode mX9_points.2.1 26 = .ok (.invokevirtual 91, 3) := by decide +kernel
theorem dX9_points_29 : decode mX9_points.2.1 29 = .ok (.aload_n 0, 1) := by decide +kernel
theorem dX9_points_30 : decode mX9_points.2.1 30 = .ok (.getfield 24, 3) := by decide +kernel
theorem dX9_points_33 : decode mX9_points.2.1 33 = .ok (.iconst 0, 1) := by decide +kernel
theorem dX9_points_34 : decode mX9_points.2.1 34 = .ok (.invokevirtual 95, 3) := by decide +kernel
theorem dX9_points_37 : decode mX9_points.2.1 37 = .ok (.aload_n 0, 1) := by decide +kernel
theorem dX9_points_38 : decode mX9_points.2.1 38 = .ok (.getfield 31, 3) := by decide +kernel
theorem dX9_points_41 : decode mX9_points.2.1 41 = .ok (.invokevirtual 98, 3) := by decide +kernel
theorem dX9_points_44 : decode mX9_points.2.1 44 = .ok (.iload_n 2, 1) := by decide +kernel
theorem dX9_points_45 : decode mX9_points.2.1 45 = .ok (.ireturn, 1) := by decide +kernel
theorem dX9_put_0 : decode mX9_put.2.1 0 = .ok (.aload_n 0, 1) := by decide +kernel
theorem dX9_put_1 : decode mX9_put.2.1 1 = .ok (.getfield 12, 3) := by decide +kernel
theorem dX9_put_4 : decode mX9_put.2.1 4 = .ok (.iload_n 1, 1) := by decide +kernel
theorem dX9_put_5 : decode mX9_put.2.1 5 = .ok (.iload_n 2, 1) := by decide +kernel
theorem dX9_put_6 : decode mX9_put.2.1 6 = .ok (.invokevirtual 101, 3) := by decide +kernel
theorem dX9_put_9 : decode mX9_put.2.1 9 = .ok (.ifCond .eq 14, 3) := by decide +kernel
theorem dX9_put_12 : decode mX9_put.2.1 12 = .ok (.iload_n 3, 1) := by decide +kernel
theorem dX9_put_13 : decode mX9_put.2.1 13 = .ok (.ifCond .lt 10, 3) := by decide +kernel
theorem dX9_put_16 : decode mX9_put.2.1 16 = .ok (.iload_n 3, 1) := by decide +kernel
theorem dX9_put_17 : decode mX9_put.2.1 17 = .ok (.sipush 999, 3) := by decide +kernel
theorem dX9_put_20 : decode mX9_put.2.1 20 = .ok (.if_icmp .le 5, 3) := by decide +kernel
theorem dX9_put_23 : decode mX9_put.2.1 23 = .ok (.iconst (-1), 1) := by decide +kernel
theorem dX9_put_24 : decode mX9_put.2.1 24 = .ok (.ireturn, 1) := by decide +kernel
theorem dX9_put_25 : decode mX9_put.2.1 25 = .ok (.aload_n 0, 1) := by decide +kernel
theorem dX9_put_26 : decode mX9_put.2.1 26 = .ok (.getfield 12, 3) := by decide +kernel
theorem dX9_put_29 : decode mX9_put.2.1 29 = .ok (.iload_n 1, 1) := by decide +kernel
theorem dX9_put_30 : decode mX9_put.2.1 30 = .ok (.iload_n 2, 1) := by decide +kernel
theorem dX9_put_31 : decode mX9_put.2.1 31 = .ok (.invokevirtual 105, 3) := by decide +kernel
theorem dX9_put_34 : decode mX9_put.2.1 34 = .ok (.istore 4, 2) := by decide +kernel
theorem dX9_put_36 : decode mX9_put.2.1 36 = .ok (.aload_n 0, 1) := by decide +kernel
theorem dX9_put_37 : decode mX9_put.2.1 37 = .ok (.getfield 18, 3) := by decide +kernel
theorem dX9_put_40 : decode mX9_put.2.1 40 = .ok (.aload_n 0, 1) := by decide +kernel
theorem dX9_put_41 : decode mX9_put.2.1 41 = .ok (.getfield 12, 3) := by decide +kernel
theorem dX9_put_44 : decode mX9_put.2.1 44 = .ok (.invokevirtual 109, 3) := by decide +kernel
theorem dX9_put_47 : decode mX9_put.2.1 47 = .ok (.aload_n 0, 1) := by decide +kernel
theorem dX9_put_48 : decode mX9_put.2.1 48 = .ok (.getfield 18, 3) := by decide +kernel
theorem dX9_put_51 : decode mX9_put.2.1 51 = .ok (.getfield 113, 3) := by decide +kernel
theorem dX9_put_54 : decode mX9_put.2.1 54 = .ok (.aload_n 0, 1) := by decide +kernel
theorem dX9_put_55 : decode mX9_put.2.1 55 = .ok (.getfield 18, 3) := by decide +kernel
theorem dX9_put_58 : decode mX9_put.2.1 58 = .ok (.iload_n 1, 1) := by decide +kernel
theorem dX9_put_59 : decode mX9_put.2.1 59 = .ok (.iload_n 2, 1) := by decide +kernel
theorem dX9_put_60 : decode mX9_put.2.1 60 = .ok (.invokevirtual 117, 3) := by decide +kernel
theorem dX9_put_63 : decode mX9_put.2.1 63 = .ok (.iload_n 3, 1) := by decide +kernel
theorem dX9_put_64 : decode mX9_put.2.1 64 = .ok (.iastore, 1) := by decide +kernel
theorem dX9_put_65 : decode mX9_put.2.1 65 = .ok (.aload_n 0, 1) := by decide +kernel
theorem dX9_put_66 : decode mX9_put.2.1 66 = .ok (.invokevirtual 120, 3) := by decide +kernel
theorem dX9_put_69 : decode mX9_put.2.1 69 = .ok (.pop, 1) := by decide +kernel
theorem dX9_put_70 : decode mX9_put.2.1 70 = .ok (.iload 4, 2) := by decide +kernel
theorem dX9_put_72 : decode mX9_put.2.1 72 = .ok (.ireturn, 1) := by decide +kernel
theorem dX9_at_0 : decode mX9_at.2.1 0 = .ok (.aload_n 0, 1) := by decide +kernel
theorem dX9_at_1 : decode mX9_at.2.1 1 = .ok (.getfield 12, 3) := by decide +kernel
theorem dX9_at_4 : decode mX9_at.2.1 4 = .ok (.iload_n 1, 1) := by decide +kernel
theorem dX9_at_5 : decode mX9_at.2.1 5 = .ok (.iload_n 2, 1) := by decide +kernel
theorem dX9_at_6 : decode mX9_at.2.1 6 = .ok (.invokevirtual 101, 3) := by decide +kernel
theorem dX9_at_9 : decode mX9_at.2.1 9 = .ok (.ifCond .eq 15, 3) := by decide +kernel
theorem dX9_at_12 : decode mX9_at.2.1 12 = .ok (.aload_n 0, 1) := by decide +kernel
theorem dX9_at_13 : decode mX9_at.2.1 13 = .ok (.getfield 12, 3) := by decide +kernel
theorem dX9_at_16 : decode mX9_at.2.1 16 = .ok (.iload_n 1, 1) := by decide +kernel
theorem dX9_at_17 : decode mX9_at.2.1 17 = .ok (.iload_n 2, 1) := by decide +kernel
theorem dX9_at_18 : decode mX9_at.2.1 18 = .ok (.invokevirtual 105, 3) := by decide +kernel
theorem dX9_at_21 : decode mX9_at.2.1 21 = .ok (.goto 4, 3) := by decide +kernel
theorem dX9_at_24 : decode mX9_at.2.1 24 = .ok (.iconst (-1), 1) := by decide +kernel
theorem dX9_at_25 : decode mX9_at.2.1 25 = .ok (.ireturn, 1) := by decide +kernel
theorem dX9_cut_0 : decode mX9_cut.2.1 0 = .ok (.aload_n 0, 1) := by decide +kernel
theorem dX9_cut_1 : decode mX9_cut.2.1 1 = .ok (.getfield 12, 3) := by decide +kernel
theorem dX9_cut_4 : decode mX9_cut.2.1 4 = .ok (.iload_n 1, 1) := by decide +kernel
theorem dX9_cut_5 : decode mX9_cut.2.1 5 = .ok (.invokevirtual 124, 3) := by decide +kernel
theorem dX9_cut_8 : decode mX9_cut.2.1 8 = .ok (.ifCond .eq 15, 3) := by decide +kernel
theorem dX9_cut_11 : decode mX9_cut.2.1 11 = .ok (.iload_n 2, 1) := by decide +kernel
theorem dX9_cut_12 : decode mX9_cut.2.1 12 = .ok (.bipush (-99), 2) := by decide +kernel
theorem dX9_cut_14 : decode mX9_cut.2.1 14 = .ok (.if_icmp .lt 9, 3) := by decide +kernel
theorem dX9_cut_17 : decode mX9_cut.2.1 17 = .ok (.iload_n 2, 1) := by decide +kernel
theorem dX9_cut_18 : decode mX9_cut.2.1 18 = .ok (.bipush 99, 2) := by decide +kernel
theorem dX9_cut_20 : decode mX9_cut.2.1 20 = .ok (.if_icmp .le 5, 3) := by decide +kernel
theorem dX9_cut_23 : decode mX9_cut.2.1 23 = .ok (.iconst (-1), 1) := by decide +kernel
theorem dX9_cut_24 : decode mX9_cut.2.1 24 = .ok (.ireturn, 1) := by decide +kernel
theorem dX9_cut_25 : decode mX9_cut.2.1 25 = .ok (.aload_n 0, 1) := by decide +kernel
theorem dX9_cut_26 : decode mX9_cut.2.1 26 = .ok (.getfield 18, 3) := by decide +kernel
theorem dX9_cut_29 : decode mX9_cut.2.1 29 = .ok (.aload_n 0, 1) := by decide +kernel
theorem dX9_cut_30 : decode mX9_cut.2.1 30 = .ok (.getfield 12, 3) := by decide +kernel
theorem dX9_cut_33 : decode mX9_cut.2.1 33 = .ok (.invokevirtual 109, 3) := by decide +kernel
theorem dX9_cut_36 : decode mX9_cut.2.1 36 = .ok (.aload_n 0, 1) := by decide +kernel
theorem dX9_cut_37 : decode mX9_cut.2.1 37 = .ok (.getfield 12, 3) := by decide +kernel
theorem dX9_cut_40 : decode mX9_cut.2.1 40 = .ok (.iload_n 1, 1) := by decide +kernel
theorem dX9_cut_41 : decode mX9_cut.2.1 41 = .ok (.invokevirtual 128, 3) := by decide +kernel
theorem dX9_cut_44 : decode mX9_cut.2.1 44 = .ok (.istore_n 3, 1) := by decide +kernel
theorem dX9_cut_45 : decode mX9_cut.2.1 45 = .ok (.iconst 0, 1) := by decide +kernel
theorem dX9_cut_46 : decode mX9_cut.2.1 46 = .ok (.istore 4, 2) := by decide +kernel
theorem dX9_cut_48 : decode mX9_cut.2.1 48 = .ok (.iload 4, 2) := by decide +kernel
theorem dX9_cut_50 : decode mX9_cut.2.1 50 = .ok (.aload_n 0, 1) := by decide +kernel
theorem dX9_cut_51 : decode mX9_cut.2.1 51 = .ok (.getfield 12, 3) := by decide +kernel
theorem dX9_cut_54 : decode mX9_cut.2.1 54 = .ok (.invokevirtual 132, 3) := by decide +kernel
theorem dX9_cut_57 : decode mX9_cut.2.1 57 = .ok (.if_icmp .ge 30, 3) := by decide +kernel
theorem dX9_cut_60 : decode mX9_cut.2.1 60 = .ok (.aload_n 0, 1) := by decide +kernel
theorem dX9_cut_61 : decode mX9_cut.2.1 61 = .ok (.getfield 18, 3) := by decide +kernel
theorem dX9_cut_64 : decode mX9_cut.2.1 64 = .ok (.getfield 113, 3) := by decide +kernel
theorem dX9_cut_67 : decode mX9_cut.2.1 67 = .ok (.iload 4, 2) := by decide +kernel
theorem dX9_cut_69 : decode mX9_cut.2.1 69 = .ok (.dup2, 1) := by decide +kernel
theorem dX9_cut_70 : decode mX9_cut.2.1 70 = .ok (.iaload, 1) := by decide +kernel
theorem dX9_cut_71 : decode mX9_cut.2.1 71 = .ok (.iload_n 3, 1) := by decide +kernel
theorem dX9_cut_72 : decode mX9_cut.2.1 72 = .ok (.iload 4, 2) := by decide +kernel
theorem dX9_cut_74 : decode mX9_cut.2.1 74 = .ok (.ishr, 1) := by decide +kernel
theorem dX9_cut_75 : decode mX9_cut.2.1 75 = .ok (.iconst 1, 1) := by decide +kernel
theorem dX9_cut_76 : decode mX9_cut.2.1 76 = .ok (.iand, 1) := by decide +kernel
theorem dX9_cut_77 : decode mX9_cut.2.1 77 = .ok (.iload_n 2, 1) := by decide +kernel
theorem dX9_cut_78 : decode mX9_cut.2.1 78 = .ok (.imul, 1) := by decide +kernel
theorem dX9_cut_79 : decode mX9_cut.2.1 79 = .ok (.iadd, 1) := by decide +kernel
theorem dX9_cut_80 : decode mX9_cut.2.1 80 = .ok (.iastore, 1) := by decide +kernel
theorem dX9_cut_81 : decode mX9_cut.2.1 81 = .ok (.iinc 4 1, 3) := by decide +kernel
theorem dX9_cut_84 : decode mX9_cut.2.1 84 = .ok (.goto (-36), 3) := by decide +kernel
theorem dX9_cut_87 : decode mX9_cut.2.1 87 = .ok (.aload_n 0, 1) := by decide +kernel
theorem dX9_cut_88 : decode mX9_cut.2.1 88 = .ok (.invokevirtual 135, 3) := by decide +kernel
theorem dX9_cut_91 : decode mX9_cut.2.1 91 = .ok (.ireturn, 1) := by decide +kernel
theorem dX9_paths_0 : decode mX9_paths.2.1 0 = .ok (.aload_n 0, 1) := by decide +kernel
theorem dX9_paths_1 : decode mX9_paths.2.1 1 = .ok (.getfield 18, 3) := by decide +kernel
theorem dX9_paths_4 : decode mX9_paths.2.1 4 = .ok (.aload_n 0, 1) := by decide +kernel
theorem dX9_paths_5 : decode mX9_paths.2.1 5 = .ok (.getfield 12, 3) := by decide +kernel
theorem dX9_paths_8 : decode mX9_paths.2.1 8 = .ok (.invokevirtual 109, 3) := by decide +kernel
theorem dX9_paths_11 : decode mX9_paths.2.1 11 = .ok (.aload_n 0, 1) := by decide +kernel
theorem dX9_paths_12 : decode mX9_paths.2.1 12 = .ok (.getfield 18, 3) := by decide +kernel
theorem dX9_paths_15 : decode mX9_paths.2.1 15 = .ok (.invokevirtual 138, 3) := by decide +kernel
theorem dX9_paths_18 : decode mX9_paths.2.1 18 = .ok (.aload_n 0, 1) := by decide +kernel
theorem dX9_paths_19 : decode mX9_paths.2.1 19 = .ok (.invokevirtual 120, 3) := by decide +kernel
theorem dX9_paths_22 : decode mX9_paths.2.1 22 = .ok (.ireturn, 1) := by decide +kernel
theorem dX9_place_0 : decode mX9_place.2.1 0 = .ok (.aload_n 0, 1) := by decide +kernel
theorem dX9_place_1 : decode mX9_place.2.1 1 = .ok (.getfield 12, 3) := by decide +kernel
theorem dX9_place_4 : decode mX9_place.2.1 4 = .ok (.iload_n 1, 1) := by decide +kernel
theorem dX9_place_5 : decode mX9_place.2.1 5 = .ok (.invokevirtual 141, 3) := by decide +kernel
theorem dX9_place_8 : decode mX9_place.2.1 8 = .ok (.ifCond .eq 23, 3) := by decide +kernel
theorem dX9_place_11 : decode mX9_place.2.1 11 = .ok (.iload_n 2, 1) := by decide +kernel
theorem dX9_place_12 : decode mX9_place.2.1 12 = .ok (.ifCond .lt 19, 3) := by decide +kernel
theorem dX9_place_15 : decode mX9_place.2.1 15 = .ok (.iload_n 2, 1) := by decide +kernel
theorem dX9_place_16 : decode mX9_place.2.1 16 = .ok (.bipush 99, 2) := by decide +kernel
theorem dX9_place_18 : decode mX9_place.2.1 18 = .ok (.if_icmp .gt 13, 3) := by decide +kernel
theorem dX9_place_21 : decode mX9_place.2.1 21 = .ok (.iload_n 3, 1) := by decide +kernel
theorem dX9_place_22 : decode mX9_place.2.1 22 = .ok (.ifCond .lt 9, 3) := by decide +kernel
theorem dX9_place_25 : decode mX9_place.2.1 25 = .ok (.iload_n 3, 1) := by decide +kernel
theorem dX9_place_26 : decode mX9_place.2.1 26 = .ok (.bipush 99, 2) := by decide +kernel
theorem dX9_place_28 : decode mX9_place.2.1 28 = .ok (.if_icmp .le 5, 3) := by decide +kernel
theorem dX9_place_31 : decode mX9_place.2.1 31 = .ok (.iconst (-1), 1) := by decide +kernel
theorem dX9_place_32 : decode mX9_place.2.1 32 = .ok (.ireturn, 1) := by decide +kernel
theorem dX9_place_33 : decode mX9_place.2.1 33 = .ok (.bipush 100, 2) := by decide +kernel
theorem dX9_place_35 : decode mX9_place.2.1 35 = .ok (.aload_n 0, 1) := by decide +kernel
theorem dX9_place_36 : decode mX9_place.2.1 36 = .ok (.getfield 24, 3) := by decide +kernel
theorem dX9_place_39 : decode mX9_place.2.1 39 = .ok (.getfield 144, 3) := by decide +kernel
theorem dX9_place_42 : decode mX9_place.2.1 42 = .ok (.iload_n 1, 1) := by decide +kernel
theorem dX9_place_43 : decode mX9_place.2.1 43 = .ok (.iaload, 1) := by decide +kernel
theorem dX9_place_44 : decode mX9_place.2.1 44 = .ok (.imul, 1) := by decide +kernel
theorem dX9_place_45 : decode mX9_place.2.1 45 = .ok (.aload_n 0, 1) := by decide +kernel
theorem dX9_place_46 : decode mX9_place.2.1 46 = .ok (.getfield 24, 3) := by decide +kernel
theorem dX9_place_49 : decode mX9_place.2.1 49 = .ok (.getfield 147, 3) := by decide +kernel
theorem dX9_place_52 : decode mX9_place.2.1 52 = .ok (.iload_n 1, 1) := by decide +kernel
theorem dX9_place_53 : decode mX9_place.2.1 53 = .ok (.iaload, 1) := by decide +kernel
theorem dX9_place_54 : decode mX9_place.2.1 54 = .ok (.iadd, 1) := by decide +kernel
theorem dX9_place_55 : decode mX9_place.2.1 55 = .ok (.istore 4, 2) := by decide +kernel
theorem dX9_place_57 : decode mX9_place.2.1 57 = .ok (.aload_n 0, 1) := by decide +kernel
theorem dX9_place_58 : decode mX9_place.2.1 58 = .ok (.getfield 24, 3) := by decide +kernel
theorem dX9_place_61 : decode mX9_place.2.1 61 = .ok (.getfield 144, 3) := by decide +kernel
theorem dX9_place_64 : decode mX9_place.2.1 64 = .ok (.iload_n 1, 1) := by decide +kernel
theorem dX9_place_65 : decode mX9_place.2.1 65 = .ok (.iload_n 2, 1) := by decide +kernel
theorem dX9_place_66 : decode mX9_place.2.1 66 = .ok (.iastore, 1) := by decide +kernel
theorem dX9_place_67 : decode mX9_place.2.1 67 = .ok (.aload_n 0, 1) := by decide +kernel
theorem dX9_place_68 : decode mX9_place.2.1 68 = .ok (.getfield 24, 3) := by decide +kernel
theorem dX9_place_71 : decode mX9_place.2.1 71 = .ok (.getfield 147, 3) := by decide +kernel
theorem dX9_place_74 : decode mX9_place.2.1 74 = .ok (.iload_n 1, 1) := by decide +kernel
theorem dX9_place_75 : decode mX9_place.2.1 75 = .ok (.iload_n 3, 1) := by decide +kernel
theorem dX9_place_76 : decode mX9_place.2.1 76 = .ok (.iastore, 1) := by decide +kernel
theorem dX9_place_77 : decode mX9_place.2.1 77 = .ok (.iload 4, 2) := by decide +kernel
theorem dX9_place_79 : decode mX9_place.2.1 79 = .ok (.ireturn, 1) := by decide +kernel
theorem dX9_town_0 : decode mX9_town.2.1 0 = .ok (.aload_n 0, 1) := by decide +kernel
theorem dX9_town_1 : decode mX9_town.2.1 1 = .ok (.getfield 18, 3) := by decide +kernel
theorem dX9_town_4 : decode mX9_town.2.1 4 = .ok (.aload_n 0, 1) := by decide +kernel
theorem dX9_town_5 : decode mX9_town.2.1 5 = .ok (.getfield 12, 3) := by decide +kernel
theorem dX9_town_8 : decode mX9_town.2.1 8 = .ok (.invokevirtual 109, 3) := by decide +kernel
theorem dX9_town_11 : decode mX9_town.2.1 11 = .ok (.iconst 0, 1) := by decide +kernel
theorem dX9_town_12 : decode mX9_town.2.1 12 = .ok (.istore_n 1, 1) := by decide +kernel
theorem dX9_town_13 : decode mX9_town.2.1 13 = .ok (.iload_n 1, 1) := by decide +kernel
theorem dX9_town_14 : decode mX9_town.2.1 14 = .ok (.aload_n 0, 1) := by decide +kernel
theorem dX9_town_15 : decode mX9_town.2.1 15 = .ok (.getfield 12, 3) := by decide +kernel
theorem dX9_town_18 : decode mX9_town.2.1 18 = .ok (.getfield 87, 3) := by decide +kernel
theorem dX9_town_21 : decode mX9_town.2.1 21 = .ok (.if_icmp .ge 56, 3) := by decide +kernel
theorem dX9_town_24 : decode mX9_town.2.1 24 = .ok (.iload_n 1, 1) := by decide +kernel
theorem dX9_town_25 : decode mX9_town.2.1 25 = .ok (.iconst 1, 1) := by decide +kernel
theorem dX9_town_26 : decode mX9_town.2.1 26 = .ok (.iadd, 1) := by decide +kernel
theorem dX9_town_27 : decode mX9_town.2.1 27 = .ok (.istore_n 2, 1) := by decide +kernel
theorem dX9_town_28 : decode mX9_town.2.1 28 = .ok (.iload_n 2, 1) := by decide +kernel
theorem dX9_town_29 : decode mX9_town.2.1 29 = .ok (.aload_n 0, 1) := by decide +kernel
theorem dX9_town_30 : decode mX9_town.2.1 30 = .ok (.getfield 12, 3) := by decide +kernel
theorem dX9_town_33 : decode mX9_town.2.1 33 = .ok (.getfield 87, 3) := by decide +kernel
theorem dX9_town_36 : decode mX9_town.2.1 36 = .ok (.if_icmp .ge 35, 3) := by decide +kernel
theorem dX9_town_39 : decode mX9_town.2.1 39 = .ok (.aload_n 0, 1) := by decide +kernel
theorem dX9_town_40 : decode mX9_town.2.1 40 = .ok (.getfield 18, 3) := by decide +kernel
theorem dX9_town_43 : decode mX9_town.2.1 43 = .ok (.getfield 113, 3) := by decide +kernel
theorem dX9_town_46 : decode mX9_town.2.1 46 = .ok (.aload_n 0, 1) := by decide +kernel
theorem dX9_town_47 : decode mX9_town.2.1 47 = .ok (.getfield 18, 3) := by decide +kernel
theorem dX9_town_50 : decode mX9_town.2.1 50 = .ok (.iload_n 1, 1) := by decide +kernel
theorem dX9_town_51 : decode mX9_town.2.1 51 = .ok (.iload_n 2, 1) := by decide +kernel
theorem dX9_town_52 : decode mX9_town.2.1 52 = .ok (.invokevirtual 117, 3) := by decide +kernel
theorem dX9_town_55 : decode mX9_town.2.1 55 = .ok (.aload_n 0, 1) := by decide +kernel
theorem dX9_town_56 : decode mX9_town.2.1 56 = .ok (.getfield 24, 3) := by decide +kernel
theorem dX9_town_59 : decode mX9_town.2.1 59 = .ok (.iload_n 1, 1) := by decide +kernel
theorem dX9_town_60 : decode mX9_town.2.1 60 = .ok (.iload_n 2, 1) := by decide +kernel
theorem dX9_town_61 : decode mX9_town.2.1 61 = .ok (.invokevirtual 150, 3) := by decide +kernel
theorem dX9_town_64 : decode mX9_town.2.1 64 = .ok (.iastore, 1) := by decide +kernel
theorem dX9_town_65 : decode mX9_town.2.1 65 = .ok (.iinc 2 1, 3) := by decide +kernel
theorem dX9_town_68 : decode mX9_town.2.1 68 = .ok (.goto (-40), 3) := by decide +kernel
theorem dX9_town_71 : decode mX9_town.2.1 71 = .ok (.iinc 1 1, 3) := by decide +kernel
theorem dX9_town_74 : decode mX9_town.2.1 74 = .ok (.goto (-61), 3) := by decide +kernel
theorem dX9_town_77 : decode mX9_town.2.1 77 = .ok (.aload_n 0, 1) := by decide +kernel
theorem dX9_town_78 : decode mX9_town.2.1 78 = .ok (.invokevirtual 120, 3) := by decide +kernel
theorem dX9_town_81 : decode mX9_town.2.1 81 = .ok (.ireturn, 1) := by decide +kernel
theorem dX9_stretch_0 : decode mX9_stretch.2.1 0 = .ok (.iload_n 1, 1) := by decide +kernel
theorem dX9_stretch_1 : decode mX9_stretch.2.1 1 = .ok (.ifCond .lt 9, 3) := by decide +kernel
theorem dX9_stretch_4 : decode mX9_stretch.2.1 4 = .ok (.iload_n 1, 1) := by decide +kernel
theorem dX9_stretch_5 : decode mX9_stretch.2.1 5 = .ok (.bipush 99, 2) := by decide +kernel
theorem dX9_stretch_7 : decode mX9_stretch.2.1 7 = .ok (.if_icmp .le 5, 3) := by decide +kernel
theorem dX9_stretch_10 : decode mX9_stretch.2.1 10 = .ok (.iconst (-1), 1) := by decide +kernel
theorem dX9_stretch_11 : decode mX9_stretch.2.1 11 = .ok (.ireturn, 1) := by decide +kernel
theorem dX9_stretch_12 : decode mX9_stretch.2.1 12 = .ok (.aload_n 0, 1) := by decide +kernel
theorem dX9_stretch_13 : decode mX9_stretch.2.1 13 = .ok (.getfield 18, 3) := by decide +kernel
theorem dX9_stretch_16 : decode mX9_stretch.2.1 16 = .ok (.aload_n 0, 1) := by decide +kernel
theorem dX9_stretch_17 : decode mX9_stretch.2.1 17 = .ok (.getfield 12, 3) := by decide +kernel
theorem dX9_stretch_20 : decode mX9_stretch.2.1 20 = .ok (.invokevirtual 109, 3) := by decide +kernel
theorem dX9_stretch_23 : decode mX9_stretch.2.1 23 = .ok (.iconst 0, 1) := by decide +kernel
theorem dX9_stretch_24 : decode mX9_stretch.2.1 24 = .ok (.istore_n 2, 1) := by decide +kernel
theorem dX9_stretch_25 : decode mX9_stretch.2.1 25 = .ok (.iload_n 2, 1) := by decide +kernel
theorem dX9_stretch_26 : decode mX9_stretch.2.1 26 = .ok (.aload_n 0, 1) := by decide +kernel
theorem dX9_stretch_27 : decode mX9_stretch.2.1 27 = .ok (.getfield 12, 3) := by decide +kernel
theorem dX9_stretch_30 : decode mX9_stretch.2.1 30 = .ok (.invokevirtual 132, 3) := by decide +kernel
theorem dX9_stretch_33 : decode mX9_stretch.2.1 33 = .ok (.if_icmp .ge 22, 3) := by decide +kernel
theorem dX9_stretch_36 : decode mX9_stretch.2.1 36 = .ok (.aload_n 0, 1) := by decide +kernel
theorem dX9_stretch_37 : decode mX9_stretch.2.1 37 = .ok (.getfield 18, 3) := by decide +kernel
theorem dX9_stretch_40 : decode mX9_stretch.2.1 40 = .ok (.getfield 113, 3) := by decide +kernel
theorem dX9_stretch_43 : decode mX9_stretch.2.1 43 = .ok (.iload_n 2, 1) := by decide +kernel
theorem dX9_stretch_44 : decode mX9_stretch.2.1 44 = .ok (.dup2, 1) := by decide +kernel
theorem dX9_stretch_45 : decode mX9_stretch.2.1 45 = .ok (.iaload, 1) := by decide +kernel
theorem dX9_stretch_46 : decode mX9_stretch.2.1 46 = .ok (.iload_n 1, 1) := by decide +kernel
theorem dX9_stretch_47 : decode mX9_stretch.2.1 47 = .ok (.imul, 1) := by decide +kernel
theorem dX9_stretch_48 : decode mX9_stretch.2.1 48 = .ok (.iastore, 1) := by decide +kernel
theorem dX9_stretch_49 : decode mX9_stretch.2.1 49 = .ok (.iinc 2 1, 3) := by decide +kernel
theorem dX9_stretch_52 : decode mX9_stretch.2.1 52 = .ok (.goto (-27), 3) := by decide +kernel
theorem dX9_stretch_55 : decode mX9_stretch.2.1 55 = .ok (.aload_n 0, 1) := by decide +kernel
theorem dX9_stretch_56 : decode mX9_stretch.2.1 56 = .ok (.invokevirtual 135, 3) := by decide +kernel
theorem dX9_stretch_59 : decode mX9_stretch.2.1 59 = .ok (.ireturn, 1) := by decide +kernel
theorem dX9_back_0 : decode mX9_back.2.1 0 = .ok (.aload_n 0, 1) := by decide +kernel
theorem dX9_back_1 : decode mX9_back.2.1 1 = .ok (.getfield 31, 3) := by decide +kernel
theorem dX9_back_4 : decode mX9_back.2.1 4 = .ok (.getfield 153, 3) := by decide +kernel
theorem dX9_back_7 : decode mX9_back.2.1 7 = .ok (.ifCond .ne 6, 3) := by decide +kernel
theorem dX9_back_10 : decode mX9_back.2.1 10 = .ok (.bipush (-5), 2) := by decide +kernel
theorem dX9_back_12 : decode mX9_back.2.1 12 = .ok (.ireturn, 1) := by decide +kernel
theorem dX9_back_13 : decode mX9_back.2.1 13 = .ok (.aload_n 0, 1) := by decide +kernel
theorem dX9_back_14 : decode mX9_back.2.1 14 = .ok (.getfield 31, 3) := by decide +kernel
theorem dX9_back_17 : decode mX9_back.2.1 17 = .ok (.aload_n 0, 1) := by decide +kernel
theorem dX9_back_18 : decode mX9_back.2.1 18 = .ok (.getfield 12, 3) := by decide +kernel
theorem dX9_back_21 : decode mX9_back.2.1 21 = .ok (.invokevirtual 156, 3) := by decide +kernel
theorem dX9_back_24 : decode mX9_back.2.1 24 = .ok (.aload_n 0, 1) := by decide +kernel
theorem dX9_back_25 : decode mX9_back.2.1 25 = .ok (.getfield 24, 3) := by decide +kernel
theorem dX9_back_28 : decode mX9_back.2.1 28 = .ok (.aload_n 0, 1) := by decide +kernel
theorem dX9_back_29 : decode mX9_back.2.1 29 = .ok (.getfield 12, 3) := by decide +kernel
theorem dX9_back_32 : decode mX9_back.2.1 32 = .ok (.getfield 87, 3) := by decide +kernel
theorem dX9_back_35 : decode mX9_back.2.1 35 = .ok (.invokevirtual 95, 3) := by decide +kernel
theorem dX9_back_38 : decode mX9_back.2.1 38 = .ok (.aload_n 0, 1) := by decide +kernel
theorem dX9_back_39 : decode mX9_back.2.1 39 = .ok (.getfield 31, 3) := by decide +kernel
theorem dX9_back_42 : decode mX9_back.2.1 42 = .ok (.getfield 153, 3) := by decide +kernel
theorem dX9_back_45 : decode mX9_back.2.1 45 = .ok (.ireturn, 1) := by decide +kernel
theorem dX9_doDeed_0 : decode mX9_doDeed.2.1 0 = .ok (.aload_n 0, 1) := by decide +kernel
theorem dX9_doDeed_1 : decode mX9_doDeed.2.1 1 = .ok (.getfield 12, 3) := by decide +kernel
theorem dX9_doDeed_4 : decode mX9_doDeed.2.1 4 = .ok (.aload_n 0, 1) := by decide +kernel
theorem dX9_doDeed_5 : decode mX9_doDeed.2.1 5 = .ok (.getfield 18, 3) := by decide +kernel
theorem dX9_doDeed_8 : decode mX9_doDeed.2.1 8 = .ok (.invokevirtual 159, 3) := by decide +kernel
theorem dX9_doDeed_11 : decode mX9_doDeed.2.1 11 = .ok (.istore_n 1, 1) := by decide +kernel
theorem dX9_doDeed_12 : decode mX9_doDeed.2.1 12 = .ok (.iload_n 1, 1) := by decide +kernel
theorem dX9_doDeed_13 : decode mX9_doDeed.2.1 13 = .ok (.ifCond .gt 20, 3) := by decide +kernel
theorem dX9_doDeed_16 : decode mX9_doDeed.2.1 16 = .ok (.aload_n 0, 1) := by decide +kernel
theorem dX9_doDeed_17 : decode mX9_doDeed.2.1 17 = .ok (.getfield 12, 3) := by decide +kernel
theorem dX9_doDeed_20 : decode mX9_doDeed.2.1 20 = .ok (.getfield 87, 3) := by decide +kernel
theorem dX9_doDeed_23 : decode mX9_doDeed.2.1 23 = .ok (.aload_n 0, 1) := by decide +kernel
theorem dX9_doDeed_24 : decode mX9_doDeed.2.1 24 = .ok (.getfield 18, 3) := by decide +kernel
theorem dX9_doDeed_27 : decode mX9_doDeed.2.1 27 = .ok (.getfield 87, 3) := by decide +kernel
theorem dX9_doDeed_30 : decode mX9_doDeed.2.1 30 = .ok (.if_icmp .eq 39, 3) := by decide +kernel
theorem dX9_doDeed_33 : decode mX9_doDeed.2.1 33 = .ok (.aload_n 0, 1) := by decide +kernel
theorem dX9_doDeed_34 : decode mX9_doDeed.2.1 34 = .ok (.getfield 31, 3) := by decide +kernel
theorem dX9_doDeed_37 : decode mX9_doDeed.2.1 37 = .ok (.aload_n 0, 1) := by decide +kernel
theorem dX9_doDeed_38 : decode mX9_doDeed.2.1 38 = .ok (.getfield 12, 3) := by decide +kernel
theorem dX9_doDeed_41 : decode mX9_doDeed.2.1 41 = .ok (.invokevirtual 163, 3) := by decide +kernel
theorem dX9_doDeed_44 : decode mX9_doDeed.2.1 44 = .ok (.aload_n 0, 1) := by decide +kernel
theorem dX9_doDeed_45 : decode mX9_doDeed.2.1 45 = .ok (.getfield 12, 3) := by decide +kernel
theorem dX9_doDeed_48 : decode mX9_doDeed.2.1 48 = .ok (.aload_n 0, 1) := by decide +kernel
theorem dX9_doDeed_49 : decode mX9_doDeed.2.1 49 = .ok (.getfield 18, 3) := by decide +kernel
theorem dX9_doDeed_52 : decode mX9_doDeed.2.1 52 = .ok (.invokevirtual 109, 3) := by decide +kernel
theorem dX9_doDeed_55 : decode mX9_doDeed.2.1 55 = .ok (.aload_n 0, 1) := by decide +kernel
theorem dX9_doDeed_56 : decode mX9_doDeed.2.1 56 = .ok (.getfield 24, 3) := by decide +kernel
theorem dX9_doDeed_59 : decode mX9_doDeed.2.1 59 = .ok (.aload_n 0, 1) := by decide +kernel
theorem dX9_doDeed_60 : decode mX9_doDeed.2.1 60 = .ok (.getfield 12, 3) := by decide +kernel
theorem dX9_doDeed_63 : decode mX9_doDeed.2.1 63 = .ok (.getfield 87, 3) := by decide +kernel
theorem dX9_doDeed_66 : decode mX9_doDeed.2.1 66 = .ok (.invokevirtual 95, 3) := by decide +kernel
theorem dX9_doDeed_69 : decode mX9_doDeed.2.1 69 = .ok (.iload_n 1, 1) := by decide +kernel
theorem dX9_doDeed_70 : decode mX9_doDeed.2.1 70 = .ok (.ireturn, 1) := by decide +kernel
theorem dX9_doDeedInBounds_0 : decode mX9_doDeedInBounds.2.1 0 = .ok (.aload_n 0, 1) := by decide +kernel
theorem dX9_doDeedInBounds_1 : decode mX9_doDeedInBounds.2.1 1 = .ok (.getfield 18, 3) := by decide +kernel
theorem dX9_doDeedInBounds_4 : decode mX9_doDeedInBounds.2.1 4 = .ok (.invokevirtual 166, 3) := by decide +kernel
theorem dX9_doDeedInBounds_7 : decode mX9_doDeedInBounds.2.1 7 = .ok (.ifCond .ne 6, 3) := by decide +kernel
theorem dX9_doDeedInBounds_10 : decode mX9_doDeedInBounds.2.1 10 = .ok (.bipush (-5), 2) := by decide +kernel
theorem dX9_doDeedInBounds_12 : decode mX9_doDeedInBounds.2.1 12 = .ok (.ireturn, 1) := by decide +kernel
theorem dX9_doDeedInBounds_13 : decode mX9_doDeedInBounds.2.1 13 = .ok (.aload_n 0, 1) := by decide +kernel
theorem dX9_doDeedInBounds_14 : decode mX9_doDeedInBounds.2.1 14 = .ok (.invokevirtual 120, 3) := by decide +kernel
theorem dX9_doDeedInBounds_17 : decode mX9_doDeedInBounds.2.1 17 = .ok (.pop, 1) := by decide +kernel
theorem dX9_doDeedInBounds_18 : decode mX9_doDeedInBounds.2.1 18 = .ok (.aload_n 0, 1) := by decide +kernel
theorem dX9_doDeedInBounds_19 : decode mX9_doDeedInBounds.2.1 19 = .ok (.getfield 12, 3) := by decide +kernel
theorem dX9_doDeedInBounds_22 : decode mX9_doDeedInBounds.2.1 22 = .ok (.invokevirtual 170, 3) := by decide +kernel
theorem dX9_doDeedInBounds_25 : decode mX9_doDeedInBounds.2.1 25 = .ok (.ireturn, 1) := by decide +kernel
theorem dX9_triangles_0 : decode mX9_triangles.2.1 0 = .ok (.iload_n 1, 1) := by decide +kernel
theorem dX9_triangles_1 : decode mX9_triangles.2.1 1 = .ok (.ifCond .eq 10, 3) := by decide +kernel
theorem dX9_triangles_4 : decode mX9_triangles.2.1 4 = .ok (.iload_n 1, 1) := by decide +kernel
theorem dX9_triangles_5 : decode mX9_triangles.2.1 5 = .ok (.iconst 1, 1) := by decide +kernel
theorem dX9_triangles_6 : decode mX9_triangles.2.1 6 = .ok (.if_icmp .eq 5, 3) := by decide +kernel
theorem dX9_triangles_9 : decode mX9_triangles.2.1 9 = .ok (.iconst (-1), 1) := by decide +kernel
theorem dX9_triangles_10 : decode mX9_triangles.2.1 10 = .ok (.ireturn, 1) := by decide +kernel
theorem dX9_triangles_11 : decode mX9_triangles.2.1 11 = .ok (.iconst 0, 1) := by decide +kernel
theorem dX9_triangles_12 : decode mX9_triangles.2.1 12 = .ok (.istore_n 2, 1) := by decide +kernel
theorem dX9_triangles_13 : decode mX9_triangles.2.1 13 = .ok (.iconst 0, 1) := by decide +kernel
theorem dX9_triangles_14 : decode mX9_triangles.2.1 14 = .ok (.istore_n 3, 1) := by decide +kernel
theorem dX9_triangles_15 : decode mX9_triangles.2.1 15 = .ok (.iload_n 3, 1) := by decide +kernel
theorem dX9_triangles_16 : decode mX9_triangles.2.1 16 = .ok (.aload_n 0, 1) := by decide +kernel
theorem dX9_triangles_17 : decode mX9_triangles.2.1 17 = .ok (.getfield 12, 3) := by decide +kernel
theorem dX9_triangles_20 : decode mX9_triangles.2.1 20 = .ok (.getfield 87, 3) := by decide +kernel
theorem dX9_triangles_23 : decode mX9_triangles.2.1 23 = .ok (.if_icmp .ge 83, 3) := by decide +kernel
theorem dX9_triangles_26 : decode mX9_triangles.2.1 26 = .ok (.iconst 0, 1) := by decide +kernel
theorem dX9_triangles_27 : decode mX9_triangles.2.1 27 = .ok (.istore 4, 2) := by decide +kernel
theorem dX9_triangles_29 : decode mX9_triangles.2.1 29 = .ok (.iload 4, 2) := by decide +kernel
theorem dX9_triangles_31 : decode mX9_triangles.2.1 31 = .ok (.aload_n 0, 1) := by decide +kernel
theorem dX9_triangles_32 : decode mX9_triangles.2.1 32 = .ok (.getfield 12, 3) := by decide +kernel
theorem dX9_triangles_35 : decode mX9_triangles.2.1 35 = .ok (.getfield 87, 3) := by decide +kernel
theorem dX9_triangles_38 : decode mX9_triangles.2.1 38 = .ok (.if_icmp .ge 62, 3) := by decide +kernel
theorem dX9_triangles_41 : decode mX9_triangles.2.1 41 = .ok (.iload 4, 2) := by decide +kernel
theorem dX9_triangles_43 : decode mX9_triangles.2.1 43 = .ok (.iconst 1, 1) := by decide +kernel
theorem dX9_triangles_44 : decode mX9_triangles.2.1 44 = .ok (.iadd, 1) := by decide +kernel
theorem dX9_triangles_45 : decode mX9_triangles.2.1 45 = .ok (.istore 5, 2) := by decide +kernel
theorem dX9_triangles_47 : decode mX9_triangles.2.1 47 = .ok (.iload 5, 2) := by decide +kernel
theorem dX9_triangles_49 : decode mX9_triangles.2.1 49 = .ok (.aload_n 0, 1) := by decide +kernel
theorem dX9_triangles_50 : decode mX9_triangles.2.1 50 = .ok (.getfield 12, 3) := by decide +kernel
theorem dX9_triangles_53 : decode mX9_triangles.2.1 53 = .ok (.getfield 87, 3) := by decide +kernel
theorem dX9_triangles_56 : decode mX9_triangles.2.1 56 = .ok (.if_icmp .ge 38, 3) := by decide +kernel
theorem dX9_triangles_59 : decode mX9_triangles.2.1 59 = .ok (.aload_n 0, 1) := by decide +kernel
theorem dX9_triangles_60 : decode mX9_triangles.2.1 60 = .ok (.iload_n 3, 1) := by decide +kernel
theorem dX9_triangles_61 : decode mX9_triangles.2.1 61 = .ok (.iload 4, 2) := by decide +kernel
theorem dX9_triangles_63 : decode mX9_triangles.2.1 63 = .ok (.iload 5, 2) := by decide +kernel
theorem dX9_triangles_65 : decode mX9_triangles.2.1 65 = .ok (.invokevirtual 173, 3) := by decide +kernel
theorem dX9_triangles_68 : decode mX9_triangles.2.1 68 = .ok (.ifCond .eq 20, 3) := by decide +kernel
theorem dX9_triangles_71 : decode mX9_triangles.2.1 71 = .ok (.iload_n 1, 1) := by decide +kernel
theorem dX9_triangles_72 : decode mX9_triangles.2.1 72 = .ok (.iconst 1, 1) := by decide +kernel
theorem dX9_triangles_73 : decode mX9_triangles.2.1 73 = .ok (.if_icmp .ne 12, 3) := by decide +kernel
theorem dX9_triangles_76 : decode mX9_triangles.2.1 76 = .ok (.iload_n 3, 1) := by decide +kernel
theorem dX9_triangles_77 : decode mX9_triangles.2.1 77 = .ok (.iload 4, 2) := by decide +kernel
theorem dX9_triangles_79 : decode mX9_triangles.2.1 79 = .ok (.iload 5, 2) := by decide +kernel
theorem dX9_triangles_81 : decode mX9_triangles.2.1 81 = .ok (.invokestatic 177, 3) := by decide +kernel
theorem dX9_triangles_84 : decode mX9_triangles.2.1 84 = .ok (.ireturn, 1) := by decide +kernel
theorem dX9_triangles_85 : decode mX9_triangles.2.1 85 = .ok (.iinc 2 1, 3) := by decide +kernel
theorem dX9_triangles_88 : decode mX9_triangles.2.1 88 = .ok (.iinc 5 1, 3) := by decide +kernel
theorem dX9_triangles_91 : decode mX9_triangles.2.1 91 = .ok (.goto (-44), 3) := by decide +kernel
theorem dX9_triangles_94 : decode mX9_triangles.2.1 94 = .ok (.iinc 4 1, 3) := by decide +kernel
theorem dX9_triangles_97 : decode mX9_triangles.2.1 97 = .ok (.goto (-68), 3) := by decide +kernel
theorem dX9_triangles_100 : decode mX9_triangles.2.1 100 = .ok (.iinc 3 1, 3) := by decide +kernel
theorem dX9_triangles_103 : decode mX9_triangles.2.1 103 = .ok (.goto (-88), 3) := by decide +kernel
theorem dX9_triangles_106 : decode mX9_triangles.2.1 106 = .ok (.iload_n 1, 1) := by decide +kernel
theorem dX9_triangles_107 : decode mX9_triangles.2.1 107 = .ok (.iconst 1, 1) := by decide +kernel
theorem dX9_triangles_108 : decode mX9_triangles.2.1 108 = .ok (.if_icmp .ne 8, 3) := by decide +kernel
theorem dX9_triangles_111 : decode mX9_triangles.2.1 111 = .ok (.bipush (-2), 2) := by decide +kernel
theorem dX9_triangles_113 : decode mX9_triangles.2.1 113 = .ok (.goto 4, 3) := by decide +kernel
theorem dX9_triangles_116 : decode mX9_triangles.2.1 116 = .ok (.iload_n 2, 1) := by decide +kernel
theorem dX9_triangles_117 : decode mX9_triangles.2.1 117 = .ok (.ireturn, 1) := by decide +kernel
theorem dX9_rounds_0 : decode mX9_rounds.2.1 0 = .ok (.iload_n 1, 1) := by decide +kernel
theorem dX9_rounds_1 : decode mX9_rounds.2.1 1 = .ok (.ifCond .eq 10, 3) := by decide +kernel
theorem dX9_rounds_4 : decode mX9_rounds.2.1 4 = .ok (.iload_n 1, 1) := by decide +kernel
theorem dX9_rounds_5 : decode mX9_rounds.2.1 5 = .ok (.iconst 1, 1) := by decide +kernel
theorem dX9_rounds_6 : decode mX9_rounds.2.1 6 = .ok (.if_icmp .eq 5, 3) := by decide +kernel
theorem dX9_rounds_9 : decode mX9_rounds.2.1 9 = .ok (.iconst (-1), 1) := by decide +kernel
theorem dX9_rounds_10 : decode mX9_rounds.2.1 10 = .ok (.ireturn, 1) := by decide +kernel
theorem dX9_rounds_11 : decode mX9_rounds.2.1 11 = .ok (.iconst 0, 1) := by decide +kernel
theorem dX9_rounds_12 : decode mX9_rounds.2.1 12 = .ok (.istore_n 2, 1) := by decide +kernel
theorem dX9_rounds_13 : decode mX9_rounds.2.1 13 = .ok (.iconst 0, 1) := by decide +kernel
theorem dX9_rounds_14 : decode mX9_rounds.2.1 14 = .ok (.istore_n 3, 1) := by decide +kernel
theorem dX9_rounds_15 : decode mX9_rounds.2.1 15 = .ok (.iload_n 3, 1) := by decide +kernel
theorem dX9_rounds_16 : decode mX9_rounds.2.1 16 = .ok (.aload_n 0, 1) := by decide +kernel
theorem dX9_rounds_17 : decode mX9_rounds.2.1 17 = .ok (.getfield 12, 3) := by decide +kernel
theorem dX9_rounds_20 : decode mX9_rounds.2.1 20 = .ok (.getfield 87, 3) := by decide +kernel
theorem dX9_rounds_23 : decode mX9_rounds.2.1 23 = .ok (.if_icmp .ge 85, 3) := by decide +kernel
theorem dX9_rounds_26 : decode mX9_rounds.2.1 26 = .ok (.iload_n 3, 1) := by decide +kernel
theorem dX9_rounds_27 : decode mX9_rounds.2.1 27 = .ok (.iconst 1, 1) := by decide +kernel
theorem dX9_rounds_28 : decode mX9_rounds.2.1 28 = .ok (.iadd, 1) := by decide +kernel
theorem dX9_rounds_29 : decode mX9_rounds.2.1 29 = .ok (.istore 4, 2) := by decide +kernel
theorem dX9_rounds_31 : decode mX9_rounds.2.1 31 = .ok (.iload 4, 2) := by decide +kernel
theorem dX9_rounds_33 : decode mX9_rounds.2.1 33 = .ok (.aload_n 0, 1) := by decide +kernel
theorem dX9_rounds_34 : decode mX9_rounds.2.1 34 = .ok (.getfield 12, 3) := by decide +kernel
theorem dX9_rounds_37 : decode mX9_rounds.2.1 37 = .ok (.getfield 87, 3) := by decide +kernel
theorem dX9_rounds_40 : decode mX9_rounds.2.1 40 = .ok (.if_icmp .ge 62, 3) := by decide +kernel
theorem dX9_rounds_43 : decode mX9_rounds.2.1 43 = .ok (.iload 4, 2) := by decide +kernel
theorem dX9_rounds_45 : decode mX9_rounds.2.1 45 = .ok (.iconst 1, 1) := by decide +kernel
theorem dX9_rounds_46 : decode mX9_rounds.2.1 46 = .ok (.iadd, 1) := by decide +kernel
theorem dX9_rounds_47 : decode mX9_rounds.2.1 47 = .ok (.istore 5, 2) := by decide +kernel
theorem dX9_rounds_49 : decode mX9_rounds.2.1 49 = .ok (.iload 5, 2) := by decide +kernel
theorem dX9_rounds_51 : decode mX9_rounds.2.1 51 = .ok (.aload_n 0, 1) := by decide +kernel
theorem dX9_rounds_52 : decode mX9_rounds.2.1 52 = .ok (.getfield 12, 3) := by decide +kernel
theorem dX9_rounds_55 : decode mX9_rounds.2.1 55 = .ok (.getfield 87, 3) := by decide +kernel
theorem dX9_rounds_58 : decode mX9_rounds.2.1 58 = .ok (.if_icmp .ge 38, 3) := by decide +kernel
theorem dX9_rounds_61 : decode mX9_rounds.2.1 61 = .ok (.aload_n 0, 1) := by decide +kernel
theorem dX9_rounds_62 : decode mX9_rounds.2.1 62 = .ok (.iload_n 3, 1) := by decide +kernel
theorem dX9_rounds_63 : decode mX9_rounds.2.1 63 = .ok (.iload 4, 2) := by decide +kernel
theorem dX9_rounds_65 : decode mX9_rounds.2.1 65 = .ok (.iload 5, 2) := by decide +kernel
theorem dX9_rounds_67 : decode mX9_rounds.2.1 67 = .ok (.invokevirtual 181, 3) := by decide +kernel
theorem dX9_rounds_70 : decode mX9_rounds.2.1 70 = .ok (.ifCond .eq 20, 3) := by decide +kernel
theorem dX9_rounds_73 : decode mX9_rounds.2.1 73 = .ok (.iload_n 1, 1) := by decide +kernel
theorem dX9_rounds_74 : decode mX9_rounds.2.1 74 = .ok (.iconst 1, 1) := by decide +kernel
theorem dX9_rounds_75 : decode mX9_rounds.2.1 75 = .ok (.if_icmp .ne 12, 3) := by decide +kernel
theorem dX9_rounds_78 : decode mX9_rounds.2.1 78 = .ok (.iload_n 3, 1) := by decide +kernel
theorem dX9_rounds_79 : decode mX9_rounds.2.1 79 = .ok (.iload 4, 2) := by decide +kernel
theorem dX9_rounds_81 : decode mX9_rounds.2.1 81 = .ok (.iload 5, 2) := by decide +kernel
theorem dX9_rounds_83 : decode mX9_rounds.2.1 83 = .ok (.invokestatic 177, 3) := by decide +kernel
theorem dX9_rounds_86 : decode mX9_rounds.2.1 86 = .ok (.ireturn, 1) := by decide +kernel
theorem dX9_rounds_87 : decode mX9_rounds.2.1 87 = .ok (.iinc 2 1, 3) := by decide +kernel
theorem dX9_rounds_90 : decode mX9_rounds.2.1 90 = .ok (.iinc 5 1, 3) := by decide +kernel
theorem dX9_rounds_93 : decode mX9_rounds.2.1 93 = .ok (.goto (-44), 3) := by decide +kernel
theorem dX9_rounds_96 : decode mX9_rounds.2.1 96 = .ok (.iinc 4 1, 3) := by decide +kernel
theorem dX9_rounds_99 : decode mX9_rounds.2.1 99 = .ok (.goto (-68), 3) := by decide +kernel
theorem dX9_rounds_102 : decode mX9_rounds.2.1 102 = .ok (.iinc 3 1, 3) := by decide +kernel
theorem dX9_rounds_105 : decode mX9_rounds.2.1 105 = .ok (.goto (-90), 3) := by decide +kernel
theorem dX9_rounds_108 : decode mX9_rounds.2.1 108 = .ok (.iload_n 1, 1) := by decide +kernel
theorem dX9_rounds_109 : decode mX9_rounds.2.1 109 = .ok (.iconst 1, 1) := by decide +kernel
theorem dX9_rounds_110 : decode mX9_rounds.2.1 110 = .ok (.if_icmp .ne 8, 3) := by decide +kernel
theorem dX9_rounds_113 : decode mX9_rounds.2.1 113 = .ok (.bipush (-2), 2) := by decide +kernel
theorem dX9_rounds_115 : decode mX9_rounds.2.1 115 = .ok (.goto 4, 3) := by decide +kernel
theorem dX9_rounds_118 : decode mX9_rounds.2.1 118 = .ok (.iload_n 2, 1) := by decide +kernel
theorem dX9_rounds_119 : decode mX9_rounds.2.1 119 = .ok (.ireturn, 1) := by decide +kernel
theorem dX9_isBrokenTriangle_0 : decode mX9_isBrokenTriangle.2.1 0 = .ok (.iload_n 1, 1) := by decide +kernel
theorem dX9_isBrokenTriangle_1 : decode mX9_isBrokenTriangle.2.1 1 = .ok (.iload_n 2, 1) := by decide +kernel
theorem dX9_isBrokenTriangle_2 : decode mX9_isBrokenTriangle.2.1 2 = .ok (.if_icmp .eq 43, 3) := by decide +kernel
theorem dX9_isBrokenTriangle_5 : decode mX9_isBrokenTriangle.2.1 5 = .ok (.iload_n 1, 1) := by decide +kernel
theorem dX9_isBrokenTriangle_6 : decode mX9_isBrokenTriangle.2.1 6 = .ok (.iload_n 3, 1) := by decide +kernel
theorem dX9_isBrokenTriangle_7 : decode mX9_isBrokenTriangle.2.1 7 = .ok (.if_icmp .eq 38, 3) := by decide +kernel
theorem dX9_isBrokenTriangle_10 : decode mX9_isBrokenTriangle.2.1 10 = .ok (.aload_n 0, 1) := by decide +kernel
theorem dX9_isBrokenTriangle_11 : decode mX9_isBrokenTriangle.2.1 11 = .ok (.getfield 12, 3) := by decide +kernel
theorem dX9_isBrokenTriangle_14 : decode mX9_isBrokenTriangle.2.1 14 = .ok (.iload_n 2, 1) := by decide +kernel
theorem dX9_isBrokenTriangle_15 : decode mX9_isBrokenTriangle.2.1 15 = .ok (.iload_n 3, 1) := by decide +kernel
theorem dX9_isBrokenTriangle_16 : decode mX9_isBrokenTriangle.2.1 16 = .ok (.invokevirtual 105, 3) := by decide +kernel
theorem dX9_isBrokenTriangle_19 : decode mX9_isBrokenTriangle.2.1 19 = .ok (.aload_n 0, 1) := by decide +kernel
theorem dX9_isBrokenTriangle_20 : decode mX9_isBrokenTriangle.2.1 20 = .ok (.getfield 12, 3) := by decide +kernel
theorem dX9_isBrokenTriangle_23 : decode mX9_isBrokenTriangle.2.1 23 = .ok (.iload_n 1, 1) := by decide +kernel
theorem dX9_isBrokenTriangle_24 : decode mX9_isBrokenTriangle.2.1 24 = .ok (.iload_n 2, 1) := by decide +kernel
theorem dX9_isBrokenTriangle_25 : decode mX9_isBrokenTriangle.2.1 25 = .ok (.invokevirtual 105, 3) := by decide +kernel
theorem dX9_isBrokenTriangle_28 : decode mX9_isBrokenTriangle.2.1 28 = .ok (.aload_n 0, 1) := by decide +kernel
theorem dX9_isBrokenTriangle_29 : decode mX9_isBrokenTriangle.2.1 29 = .ok (.getfield 12, 3) := by decide +kernel
theorem dX9_isBrokenTriangle_32 : decode mX9_isBrokenTriangle.2.1 32 = .ok (.iload_n 1, 1) := by decide +kernel
theorem dX9_isBrokenTriangle_33 : decode mX9_isBrokenTriangle.2.1 33 = .ok (.iload_n 3, 1) := by decide +kernel
theorem dX9_isBrokenTriangle_34 : decode mX9_isBrokenTriangle.2.1 34 = .ok (.invokevirtual 105, 3) := by decide +kernel
theorem dX9_isBrokenTriangle_37 : decode mX9_isBrokenTriangle.2.1 37 = .ok (.iadd, 1) := by decide +kernel
theorem dX9_isBrokenTriangle_38 : decode mX9_isBrokenTriangle.2.1 38 = .ok (.if_icmp .le 7, 3) := by decide +kernel
theorem dX9_isBrokenTriangle_41 : decode mX9_isBrokenTriangle.2.1 41 = .ok (.iconst 1, 1) := by decide +kernel
theorem dX9_isBrokenTriangle_42 : decode mX9_isBrokenTriangle.2.1 42 = .ok (.goto 4, 3) := by decide +kernel
theorem dX9_isBrokenTriangle_45 : decode mX9_isBrokenTriangle.2.1 45 = .ok (.iconst 0, 1) := by decide +kernel
theorem dX9_isBrokenTriangle_46 : decode mX9_isBrokenTriangle.2.1 46 = .ok (.ireturn, 1) := by decide +kernel
theorem dX9_isOddRound_0 : decode mX9_isOddRound.2.1 0 = .ok (.aload_n 0, 1) := by decide +kernel
theorem dX9_isOddRound_1 : decode mX9_isOddRound.2.1 1 = .ok (.getfield 12, 3) := by decide +kernel
theorem dX9_isOddRound_4 : decode mX9_isOddRound.2.1 4 = .ok (.iload_n 1, 1) := by decide +kernel
theorem dX9_isOddRound_5 : decode mX9_isOddRound.2.1 5 = .ok (.iload_n 2, 1) := by decide +kernel
theorem dX9_isOddRound_6 : decode mX9_isOddRound.2.1 6 = .ok (.invokevirtual 105, 3) := by decide +kernel
theorem dX9_isOddRound_9 : decode mX9_isOddRound.2.1 9 = .ok (.aload_n 0, 1) := by decide +kernel
theorem dX9_isOddRound_10 : decode mX9_isOddRound.2.1 10 = .ok (.getfield 12, 3) := by decide +kernel
theorem dX9_isOddRound_13 : decode mX9_isOddRound.2.1 13 = .ok (.iload_n 1, 1) := by decide +kernel
theorem dX9_isOddRound_14 : decode mX9_isOddRound.2.1 14 = .ok (.iload_n 3, 1) := by decide +kernel
theorem dX9_isOddRound_15 : decode mX9_isOddRound.2.1 15 = .ok (.invokevirtual 105, 3) := by decide +kernel
theorem dX9_isOddRound_18 : decode mX9_isOddRound.2.1 18 = .ok (.iadd, 1) := by decide +kernel
theorem dX9_isOddRound_19 : decode mX9_isOddRound.2.1 19 = .ok (.aload_n 0, 1) := by decide +kernel
theorem dX9_isOddRound_20 : decode mX9_isOddRound.2.1 20 = .ok (.getfield 12, 3) := by decide +kernel
theorem dX9_isOddRound_23 : decode mX9_isOddRound.2.1 23 = .ok (.iload_n 2, 1) := by decide +kernel
theorem dX9_isOddRound_24 : decode mX9_isOddRound.2.1 24 = .ok (.iload_n 3, 1) := by decide +kernel
theorem dX9_isOddRound_25 : decode mX9_isOddRound.2.1 25 = .ok (.invokevirtual 105, 3) := by decide +kernel
theorem dX9_isOddRound_28 : decode mX9_isOddRound.2.1 28 = .ok (.iadd, 1) := by decide +kernel
theorem dX9_isOddRound_29 : decode mX9_isOddRound.2.1 29 = .ok (.iconst 2, 1) := by decide +kernel
theorem dX9_isOddRound_30 : decode mX9_isOddRound.2.1 30 = .ok (.irem, 1) := by decide +kernel
theorem dX9_isOddRound_31 : decode mX9_isOddRound.2.1 31 = .ok (.iconst 1, 1) := by decide +kernel
theorem dX9_isOddRound_32 : decode mX9_isOddRound.2.1 32 = .ok (.if_icmp .ne 7, 3) := by decide +kernel
theorem dX9_isOddRound_35 : decode mX9_isOddRound.2.1 35 = .ok (.iconst 1, 1) := by decide +kernel
theorem dX9_isOddRound_36 : decode mX9_isOddRound.2.1 36 = .ok (.goto 4, 3) := by decide +kernel
theorem dX9_isOddRound_39 : decode mX9_isOddRound.2.1 39 = .ok (.iconst 0, 1) := by decide +kernel
theorem dX9_isOddRound_40 : decode mX9_isOddRound.2.1 40 = .ok (.ireturn, 1) := by decide +kernel
theorem dX9_told_0 : decode mX9_told.2.1 0 = .ok (.bipush 100, 2) := by decide +kernel
theorem dX9_told_2 : decode mX9_told.2.1 2 = .ok (.iload_n 0, 1) := by decide +kernel
theorem dX9_told_3 : decode mX9_told.2.1 3 = .ok (.imul, 1) := by decide +kernel
theorem dX9_told_4 : decode mX9_told.2.1 4 = .ok (.bipush 10, 2) := by decide +kernel
theorem dX9_told_6 : decode mX9_told.2.1 6 = .ok (.iload_n 1, 1) := by decide +kernel
theorem dX9_told_7 : decode mX9_told.2.1 7 = .ok (.imul, 1) := by decide +kernel
theorem dX9_told_8 : decode mX9_told.2.1 8 = .ok (.iadd, 1) := by decide +kernel
theorem dX9_told_9 : decode mX9_told.2.1 9 = .ok (.iload_n 2, 1) := by decide +kernel
theorem dX9_told_10 : decode mX9_told.2.1 10 = .ok (.iadd, 1) := by decide +kernel
theorem dX9_told_11 : decode mX9_told.2.1 11 = .ok (.ireturn, 1) := by decide +kernel
theorem dX9_walls_0 : decode mX9_walls.2.1 0 = .ok (.iload_n 1, 1) := by decide +kernel
theorem dX9_walls_1 : decode mX9_walls.2.1 1 = .ok (.invokestatic 184, 3) := by decide +kernel
theorem dX9_walls_4 : decode mX9_walls.2.1 4 = .ok (.ifCond .eq 12, 3) := by decide +kernel
theorem dX9_walls_7 : decode mX9_walls.2.1 7 = .ok (.iload_n 2, 1) := by decide +kernel
theorem dX9_walls_8 : decode mX9_walls.2.1 8 = .ok (.ifCond .lt 8, 3) := by decide +kernel
theorem dX9_walls_11 : decode mX9_walls.2.1 11 = .ok (.iload_n 2, 1) := by decide +kernel
theorem dX9_walls_12 : decode mX9_walls.2.1 12 = .ok (.iconst 4, 1) := by decide +kernel
theorem dX9_walls_13 : decode mX9_walls.2.1 13 = .ok (.if_icmp .le 5, 3) := by decide +kernel
theorem dX9_walls_16 : decode mX9_walls.2.1 16 = .ok (.iconst (-1), 1) := by decide +kernel
theorem dX9_walls_17 : decode mX9_walls.2.1 17 = .ok (.ireturn, 1) := by decide +kernel
theorem dX9_walls_18 : decode mX9_walls.2.1 18 = .ok (.iconst 0, 1) := by decide +kernel
theorem dX9_walls_19 : decode mX9_walls.2.1 19 = .ok (.istore_n 3, 1) := by decide +kernel
theorem dX9_walls_20 : decode mX9_walls.2.1 20 = .ok (.iconst 0, 1) := by decide +kernel
theorem dX9_walls_21 : decode mX9_walls.2.1 21 = .ok (.istore 4, 2) := by decide +kernel
theorem dX9_walls_23 : decode mX9_walls.2.1 23 = .ok (.iconst 0, 1) := by decide +kernel
theorem dX9_walls_24 : decode mX9_walls.2.1 24 = .ok (.istore 5, 2) := by decide +kernel
theorem dX9_walls_26 : decode mX9_walls.2.1 26 = .ok (.bipush (-2), 2) := by decide +kernel
theorem dX9_walls_28 : decode mX9_walls.2.1 28 = .ok (.istore 6, 2) := by decide +kernel
theorem dX9_walls_30 : decode mX9_walls.2.1 30 = .ok (.iconst 0, 1) := by decide +kernel
theorem dX9_walls_31 : decode mX9_walls.2.1 31 = .ok (.istore 7, 2) := by decide +kernel
theorem dX9_walls_33 : decode mX9_walls.2.1 33 = .ok (.iconst 0, 1) := by decide +kernel
theorem dX9_walls_34 : decode mX9_walls.2.1 34 = .ok (.istore 8, 2) := by decide +kernel
theorem dX9_walls_36 : decode mX9_walls.2.1 36 = .ok (.aload_n 0, 1) := by decide +kernel
theorem dX9_walls_37 : decode mX9_walls.2.1 37 = .ok (.getfield 68, 3) := by decide +kernel
theorem dX9_walls_40 : decode mX9_walls.2.1 40 = .ok (.aload_n 0, 1) := by decide +kernel
theorem dX9_walls_41 : decode mX9_walls.2.1 41 = .ok (.getfield 12, 3) := by decide +kernel
theorem dX9_walls_44 : decode mX9_walls.2.1 44 = .ok (.iload_n 1, 1) := by decide +kernel
theorem dX9_walls_45 : decode mX9_walls.2.1 45 = .ok (.invokevirtual 187, 3) := by decide +kernel
theorem dX9_walls_48 : decode mX9_walls.2.1 48 = .ok (.iconst 0, 1) := by decide +kernel
theorem dX9_walls_49 : decode mX9_walls.2.1 49 = .ok (.istore 9, 2) := by decide +kernel
theorem dX9_walls_51 : decode mX9_walls.2.1 51 = .ok (.iload 9, 2) := by decide +kernel
theorem dX9_walls_53 : decode mX9_walls.2.1 53 = .ok (.sipush 16807, 3) := by decide +kernel
theorem dX9_walls_56 : decode mX9_walls.2.1 56 = .ok (.if_icmp .ge 88, 3) := by decide +kernel
theorem dX9_walls_59 : decode mX9_walls.2.1 59 = .ok (.aload_n 0, 1) := by decide +kernel
theorem dX9_walls_60 : decode mX9_walls.2.1 60 = .ok (.getfield 68, 3) := by decide +kernel
theorem dX9_walls_63 : decode mX9_walls.2.1 63 = .ok (.getfield 191, 3) := by decide +kernel
theorem dX9_walls_66 : decode mX9_walls.2.1 66 = .ok (.ifCond .eq 78, 3) := by decide +kernel
theorem dX9_walls_69 : decode mX9_walls.2.1 69 = .ok (.aload_n 0, 1) := by decide +kernel
theorem dX9_walls_70 : decode mX9_walls.2.1 70 = .ok (.getfield 68, 3) := by decide +kernel
theorem dX9_walls_73 : decode mX9_walls.2.1 73 = .ok (.invokevirtual 194, 3) := by decide +kernel
theorem dX9_walls_76 : decode mX9_walls.2.1 76 = .ok (.istore 10, 2) := by decide +kernel
theorem dX9_walls_78 : decode mX9_walls.2.1 78 = .ok (.iload 10, 2) := by decide +kernel
theorem dX9_walls_80 : decode mX9_walls.2.1 80 = .ok (.ifCond .le 22, 3) := by decide +kernel
theorem dX9_walls_83 : decode mX9_walls.2.1 83 = .ok (.iload 4, 2) := by decide +kernel
theorem dX9_walls_85 : decode mX9_walls.2.1 85 = .ok (.ifCond .ne 7, 3) := by decide +kernel
theorem dX9_walls_88 : decode mX9_walls.2.1 88 = .ok (.iload_n 3, 1) := by decide +kernel
theorem dX9_walls_89 : decode mX9_walls.2.1 89 = .ok (.goto 5, 3) := by decide +kernel
theorem dX9_walls_92 : decode mX9_walls.2.1 92 = .ok (.iload 6, 2) := by decide +kernel
theorem dX9_walls_94 : decode mX9_walls.2.1 94 = .ok (.istore 6, 2) := by decide +kernel
theorem dX9_walls_96 : decode mX9_walls.2.1 96 = .ok (.iinc 4 1, 3) := by decide +kernel
theorem dX9_walls_99 : decode mX9_walls.2.1 99 = .ok (.goto 11, 3) := by decide +kernel
theorem dX9_walls_102 : decode mX9_walls.2.1 102 = .ok (.iload 10, 2) := by decide +kernel
theorem dX9_walls_104 : decode mX9_walls.2.1 104 = .ok (.ifCond .ne 6, 3) := by decide +kernel
theorem dX9_walls_107 : decode mX9_walls.2.1 107 = .ok (.iinc 5 1, 3) := by decide +kernel
theorem dX9_walls_110 : decode mX9_walls.2.1 110 = .ok (.iload_n 3, 1) := by decide +kernel
theorem dX9_walls_111 : decode mX9_walls.2.1 111 = .ok (.ifCond .eq 10, 3) := by decide +kernel
theorem dX9_walls_114 : decode mX9_walls.2.1 114 = .ok (.iload 10, 2) := by decide +kernel
theorem dX9_walls_116 : decode mX9_walls.2.1 116 = .ok (.iload 8, 2) := by decide +kernel
theorem dX9_walls_118 : decode mX9_walls.2.1 118 = .ok (.if_icmp .le 10, 3) := by decide +kernel
theorem dX9_walls_121 : decode mX9_walls.2.1 121 = .ok (.iload_n 3, 1) := by decide +kernel
theorem dX9_walls_122 : decode mX9_walls.2.1 122 = .ok (.istore 7, 2) := by decide +kernel
theorem dX9_walls_124 : decode mX9_walls.2.1 124 = .ok (.iload 10, 2) := by decide +kernel
theorem dX9_walls_126 : decode mX9_walls.2.1 126 = .ok (.istore 8, 2) := by decide +kernel
theorem dX9_walls_128 : decode mX9_walls.2.1 128 = .ok (.iinc 3 1, 3) := by decide +kernel
theorem dX9_walls_131 : decode mX9_walls.2.1 131 = .ok (.aload_n 0, 1) := by decide +kernel
theorem dX9_walls_132 : decode mX9_walls.2.1 132 = .ok (.getfield 68, 3) := by decide +kernel
theorem dX9_walls_135 : decode mX9_walls.2.1 135 = .ok (.invokevirtual 197, 3) := by decide +kernel
theorem dX9_walls_138 : decode mX9_walls.2.1 138 = .ok (.iinc 9 1, 3) := by decide +kernel
theorem dX9_walls_141 : decode mX9_walls.2.1 141 = .ok (.goto (-90), 3) := by decide +kernel
theorem dX9_walls_144 : decode mX9_walls.2.1 144 = .ok (.iload_n 2, 1) := by decide +kernel
theorem dX9_walls_145 : decode mX9_walls.2.1 145 = .ok (.tableswitch 42 0 3 #[31, 33, 36, 39], 31) := by decide +kernel
theorem dX9_walls_176 : decode mX9_walls.2.1 176 = .ok (.iload_n 3, 1) := by decide +kernel
theorem dX9_walls_177 : decode mX9_walls.2.1 177 = .ok (.ireturn, 1) := by decide +kernel
theorem dX9_walls_178 : decode mX9_walls.2.1 178 = .ok (.iload 4, 2) := by decide +kernel
theorem dX9_walls_180 : decode mX9_walls.2.1 180 = .ok (.ireturn, 1) := by decide +kernel
theorem dX9_walls_181 : decode mX9_walls.2.1 181 = .ok (.iload 5, 2) := by decide +kernel
theorem dX9_walls_183 : decode mX9_walls.2.1 183 = .ok (.ireturn, 1) := by decide +kernel
theorem dX9_walls_184 : decode mX9_walls.2.1 184 = .ok (.iload 6, 2) := by decide +kernel
theorem dX9_walls_186 : decode mX9_walls.2.1 186 = .ok (.ireturn, 1) := by decide +kernel
theorem dX9_walls_187 : decode mX9_walls.2.1 187 = .ok (.iload 7, 2) := by decide +kernel
theorem dX9_walls_189 : decode mX9_walls.2.1 189 = .ok (.ireturn, 1) := by decide +kernel
theorem dX9_wall_0 : decode mX9_wall.2.1 0 = .ok (.iload_n 1, 1) := by decide +kernel
theorem dX9_wall_1 : decode mX9_wall.2.1 1 = .ok (.invokestatic 184, 3) := by decide +kernel
theorem dX9_wall_4 : decode mX9_wall.2.1 4 = .ok (.ifCond .eq 18, 3) := by decide +kernel
theorem dX9_wall_7 : decode mX9_wall.2.1 7 = .ok (.aload_n 0, 1) := by decide +kernel
theorem dX9_wall_8 : decode mX9_wall.2.1 8 = .ok (.getfield 12, 3) := by decide +kernel
theorem dX9_wall_11 : decode mX9_wall.2.1 11 = .ok (.iload_n 3, 1) := by decide +kernel
theorem dX9_wall_12 : decode mX9_wall.2.1 12 = .ok (.invokevirtual 141, 3) := by decide +kernel
theorem dX9_wall_15 : decode mX9_wall.2.1 15 = .ok (.ifCond .eq 7, 3) := by decide +kernel
theorem dX9_wall_18 : decode mX9_wall.2.1 18 = .ok (.iload_n 2, 1) := by decide +kernel
theorem dX9_wall_19 : decode mX9_wall.2.1 19 = .ok (.ifCond .ge 5, 3) := by decide +kernel
theorem dX9_wall_22 : decode mX9_wall.2.1 22 = .ok (.iconst (-1), 1) := by decide +kernel
theorem dX9_wall_23 : decode mX9_wall.2.1 23 = .ok (.ireturn, 1) := by decide +kernel
theorem dX9_wall_24 : decode mX9_wall.2.1 24 = .ok (.aload_n 0, 1) := by decide +kernel
theorem dX9_wall_25 : decode mX9_wall.2.1 25 = .ok (.getfield 68, 3) := by decide +kernel
theorem dX9_wall_28 : decode mX9_wall.2.1 28 = .ok (.aload_n 0, 1) := by decide +kernel
theorem dX9_wall_29 : decode mX9_wall.2.1 29 = .ok (.getfield 12, 3) := by decide +kernel
theorem dX9_wall_32 : decode mX9_wall.2.1 32 = .ok (.iload_n 1, 1) := by decide +kernel
theorem dX9_wall_33 : decode mX9_wall.2.1 33 = .ok (.invokevirtual 187, 3) := by decide +kernel
theorem dX9_wall_36 : decode mX9_wall.2.1 36 = .ok (.aload_n 0, 1) := by decide +kernel
theorem dX9_wall_37 : decode mX9_wall.2.1 37 = .ok (.getfield 68, 3) := by decide +kernel
theorem dX9_wall_40 : decode mX9_wall.2.1 40 = .ok (.iload_n 2, 1) := by decide +kernel
theorem dX9_wall_41 : decode mX9_wall.2.1 41 = .ok (.invokevirtual 200, 3) := by decide +kernel
theorem dX9_wall_44 : decode mX9_wall.2.1 44 = .ok (.aload_n 0, 1) := by decide +kernel
theorem dX9_wall_45 : decode mX9_wall.2.1 45 = .ok (.getfield 68, 3) := by decide +kernel
theorem dX9_wall_48 : decode mX9_wall.2.1 48 = .ok (.getfield 191, 3) := by decide +kernel
theorem dX9_wall_51 : decode mX9_wall.2.1 51 = .ok (.ifCond .eq 17, 3) := by decide +kernel
theorem dX9_wall_54 : decode mX9_wall.2.1 54 = .ok (.aload_n 0, 1) := by decide +kernel
theorem dX9_wall_55 : decode mX9_wall.2.1 55 = .ok (.getfield 68, 3) := by decide +kernel
theorem dX9_wall_58 : decode mX9_wall.2.1 58 = .ok (.getfield 203, 3) := by decide +kernel
theorem dX9_wall_61 : decode mX9_wall.2.1 61 = .ok (.iload_n 3, 1) := by decide +kernel
theorem dX9_wall_62 : decode mX9_wall.2.1 62 = .ok (.iaload, 1) := by decide +kernel
theorem dX9_wall_63 : decode mX9_wall.2.1 63 = .ok (.iconst 3, 1) := by decide +kernel
theorem dX9_wall_64 : decode mX9_wall.2.1 64 = .ok (.iadd, 1) := by decide +kernel
theorem dX9_wall_65 : decode mX9_wall.2.1 65 = .ok (.goto 5, 3) := by decide +kernel
theorem dX9_wall_68 : decode mX9_wall.2.1 68 = .ok (.bipush (-2), 2) := by decide +kernel
theorem dX9_wall_70 : decode mX9_wall.2.1 70 = .ok (.ireturn, 1) := by decide +kernel
theorem dX9_holdWall_0 : decode mX9_holdWall.2.1 0 = .ok (.iload_n 1, 1) := by decide +kernel
theorem dX9_holdWall_1 : decode mX9_holdWall.2.1 1 = .ok (.invokestatic 206, 3) := by decide +kernel
theorem dX9_holdWall_4 : decode mX9_holdWall.2.1 4 = .ok (.ifCond .eq 14, 3) := by decide +kernel
theorem dX9_holdWall_7 : decode mX9_holdWall.2.1 7 = .ok (.iload_n 2, 1) := by decide +kernel
theorem dX9_holdWall_8 : decode mX9_holdWall.2.1 8 = .ok (.invokestatic 184, 3) := by decide +kernel
theorem dX9_holdWall_11 : decode mX9_holdWall.2.1 11 = .ok (.ifCond .eq 7, 3) := by decide +kernel
theorem dX9_holdWall_14 : decode mX9_holdWall.2.1 14 = .ok (.iload_n 3, 1) := by decide +kernel
theorem dX9_holdWall_15 : decode mX9_holdWall.2.1 15 = .ok (.ifCond .ge 5, 3) := by decide +kernel
theorem dX9_holdWall_18 : decode mX9_holdWall.2.1 18 = .ok (.iconst (-1), 1) := by decide +kernel
theorem dX9_holdWall_19 : decode mX9_holdWall.2.1 19 = .ok (.ireturn, 1) := by decide +kernel
theorem dX9_holdWall_20 : decode mX9_holdWall.2.1 20 = .ok (.aload_n 0, 1) := by decide +kernel
theorem dX9_holdWall_21 : decode mX9_holdWall.2.1 21 = .ok (.getfield 68, 3) := by decide +kernel
theorem dX9_holdWall_24 : decode mX9_holdWall.2.1 24 = .ok (.aload_n 0, 1) := by decide +kernel
theorem dX9_holdWall_25 : decode mX9_holdWall.2.1 25 = .ok (.getfield 12, 3) := by decide +kernel
theorem dX9_holdWall_28 : decode mX9_holdWall.2.1 28 = .ok (.iload_n 2, 1) := by decide +kernel
theorem dX9_holdWall_29 : decode mX9_holdWall.2.1 29 = .ok (.invokevirtual 187, 3) := by decide +kernel
theorem dX9_holdWall_32 : decode mX9_holdWall.2.1 32 = .ok (.aload_n 0, 1) := by decide +kernel
theorem dX9_holdWall_33 : decode mX9_holdWall.2.1 33 = .ok (.getfield 68, 3) := by decide +kernel
theorem dX9_holdWall_36 : decode mX9_holdWall.2.1 36 = .ok (.iload_n 3, 1) := by decide +kernel
theorem dX9_holdWall_37 : decode mX9_holdWall.2.1 37 = .ok (.invokevirtual 200, 3) := by decide +kernel
theorem dX9_holdWall_40 : decode mX9_holdWall.2.1 40 = .ok (.aload_n 0, 1) := by decide +kernel
theorem dX9_holdWall_41 : decode mX9_holdWall.2.1 41 = .ok (.getfield 68, 3) := by decide +kernel
theorem dX9_holdWall_44 : decode mX9_holdWall.2.1 44 = .ok (.getfield 191, 3) := by decide +kernel
theorem dX9_holdWall_47 : decode mX9_holdWall.2.1 47 = .ok (.ifCond .ne 6, 3) := by decide +kernel
theorem dX9_holdWall_50 : decode mX9_holdWall.2.1 50 = .ok (.bipush (-2), 2) := by decide +kernel
theorem dX9_holdWall_52 : decode mX9_holdWall.2.1 52 = .ok (.ireturn, 1) := by decide +kernel
theorem dX9_holdWall_53 : decode mX9_holdWall.2.1 53 = .ok (.aload_n 0, 1) := by decide +kernel
theorem dX9_holdWall_54 : decode mX9_holdWall.2.1 54 = .ok (.getfield 47, 3) := by decide +kernel
theorem dX9_holdWall_57 : decode mX9_holdWall.2.1 57 = .ok (.iload_n 1, 1) := by decide +kernel
theorem dX9_holdWall_58 : decode mX9_holdWall.2.1 58 = .ok (.aaload, 1) := by decide +kernel
theorem dX9_holdWall_59 : decode mX9_holdWall.2.1 59 = .ok (.iconst 2, 1) := by decide +kernel
theorem dX9_holdWall_60 : decode mX9_holdWall.2.1 60 = .ok (.aload_n 0, 1) := by decide +kernel
theorem dX9_holdWall_61 : decode mX9_holdWall.2.1 61 = .ok (.getfield 12, 3) := by decide +kernel
theorem dX9_holdWall_64 : decode mX9_holdWall.2.1 64 = .ok (.getfield 87, 3) := by decide +kernel
theorem dX9_holdWall_67 : decode mX9_holdWall.2.1 67 = .ok (.aload_n 0, 1) := by decide +kernel
theorem dX9_holdWall_68 : decode mX9_holdWall.2.1 68 = .ok (.getfield 12, 3) := by decide +kernel
theorem dX9_holdWall_71 : decode mX9_holdWall.2.1 71 = .ok (.getfield 87, 3) := by decide +kernel
theorem dX9_holdWall_74 : decode mX9_holdWall.2.1 74 = .ok (.aload_n 0, 1) := by decide +kernel
theorem dX9_holdWall_75 : decode mX9_holdWall.2.1 75 = .ok (.getfield 68, 3) := by decide +kernel
theorem dX9_holdWall_78 : decode mX9_holdWall.2.1 78 = .ok (.getfield 203, 3) := by decide +kernel
theorem dX9_holdWall_81 : decode mX9_holdWall.2.1 81 = .ok (.invokevirtual 209, 3) := by decide +kernel
theorem dX9_holdWall_84 : decode mX9_holdWall.2.1 84 = .ok (.aload_n 0, 1) := by decide +kernel
theorem dX9_holdWall_85 : decode mX9_holdWall.2.1 85 = .ok (.getfield 47, 3) := by decide +kernel
theorem dX9_holdWall_88 : decode mX9_holdWall.2.1 88 = .ok (.iload_n 1, 1) := by decide +kernel
theorem dX9_holdWall_89 : decode mX9_holdWall.2.1 89 = .ok (.aaload, 1) := by decide +kernel
theorem dX9_holdWall_90 : decode mX9_holdWall.2.1 90 = .ok (.invokevirtual 213, 3) := by decide +kernel
theorem dX9_holdWall_93 : decode mX9_holdWall.2.1 93 = .ok (.ireturn, 1) := by decide +kernel
theorem dX9_wallOf_0 : decode mX9_wallOf.2.1 0 = .ok (.iload_n 1, 1) := by decide +kernel
theorem dX9_wallOf_1 : decode mX9_wallOf.2.1 1 = .ok (.invokestatic 206, 3) := by decide +kernel
theorem dX9_wallOf_4 : decode mX9_wallOf.2.1 4 = .ok (.ifCond .ne 5, 3) := by decide +kernel
theorem dX9_wallOf_7 : decode mX9_wallOf.2.1 7 = .ok (.iconst (-1), 1) := by decide +kernel
theorem dX9_wallOf_8 : decode mX9_wallOf.2.1 8 = .ok (.ireturn, 1) := by decide +kernel
theorem dX9_wallOf_9 : decode mX9_wallOf.2.1 9 = .ok (.aload_n 0, 1) := by decide +kernel
theorem dX9_wallOf_10 : decode mX9_wallOf.2.1 10 = .ok (.iload_n 2, 1) := by decide +kernel
theorem dX9_wallOf_11 : decode mX9_wallOf.2.1 11 = .ok (.iconst 3, 1) := by decide +kernel
theorem dX9_wallOf_12 : decode mX9_wallOf.2.1 12 = .ok (.invokevirtual 216, 3) := by decide +kernel
theorem dX9_wallOf_15 : decode mX9_wallOf.2.1 15 = .ok (.istore_n 3, 1) := by decide +kernel
theorem dX9_wallOf_16 : decode mX9_wallOf.2.1 16 = .ok (.iload_n 3, 1) := by decide +kernel
theorem dX9_wallOf_17 : decode mX9_wallOf.2.1 17 = .ok (.ifCond .eq 5, 3) := by decide +kernel
theorem dX9_wallOf_20 : decode mX9_wallOf.2.1 20 = .ok (.iload_n 3, 1) := by decide +kernel
theorem dX9_wallOf_21 : decode mX9_wallOf.2.1 21 = .ok (.ireturn, 1) := by decide +kernel
theorem dX9_wallOf_22 : decode mX9_wallOf.2.1 22 = .ok (.aload_n 0, 1) := by decide +kernel
theorem dX9_wallOf_23 : decode mX9_wallOf.2.1 23 = .ok (.getfield 47, 3) := by decide +kernel
theorem dX9_wallOf_26 : decode mX9_wallOf.2.1 26 = .ok (.iload_n 2, 1) := by decide +kernel
theorem dX9_wallOf_27 : decode mX9_wallOf.2.1 27 = .ok (.aaload, 1) := by decide +kernel
theorem dX9_wallOf_28 : decode mX9_wallOf.2.1 28 = .ok (.aload_n 0, 1) := by decide +kernel
theorem dX9_wallOf_29 : decode mX9_wallOf.2.1 29 = .ok (.getfield 12, 3) := by decide +kernel
theorem dX9_wallOf_32 : decode mX9_wallOf.2.1 32 = .ok (.getfield 87, 3) := by decide +kernel
theorem dX9_wallOf_35 : decode mX9_wallOf.2.1 35 = .ok (.invokevirtual 219, 3) := by decide +kernel
theorem dX9_wallOf_38 : decode mX9_wallOf.2.1 38 = .ok (.ifCond .ne 6, 3) := by decide +kernel
theorem dX9_wallOf_41 : decode mX9_wallOf.2.1 41 = .ok (.bipush (-5), 2) := by decide +kernel
theorem dX9_wallOf_43 : decode mX9_wallOf.2.1 43 = .ok (.ireturn, 1) := by decide +kernel
theorem dX9_wallOf_44 : decode mX9_wallOf.2.1 44 = .ok (.aload_n 0, 1) := by decide +kernel
theorem dX9_wallOf_45 : decode mX9_wallOf.2.1 45 = .ok (.getfield 47, 3) := by decide +kernel
theorem dX9_wallOf_48 : decode mX9_wallOf.2.1 48 = .ok (.iload_n 1, 1) := by decide +kernel
theorem dX9_wallOf_49 : decode mX9_wallOf.2.1 49 = .ok (.aaload, 1) := by decide +kernel
theorem dX9_wallOf_50 : decode mX9_wallOf.2.1 50 = .ok (.iconst 2, 1) := by decide +kernel
theorem dX9_wallOf_51 : decode mX9_wallOf.2.1 51 = .ok (.aload_n 0, 1) := by decide +kernel
theorem dX9_wallOf_52 : decode mX9_wallOf.2.1 52 = .ok (.getfield 12, 3) := by decide +kernel
theorem dX9_wallOf_55 : decode mX9_wallOf.2.1 55 = .ok (.getfield 87, 3) := by decide +kernel
theorem dX9_wallOf_58 : decode mX9_wallOf.2.1 58 = .ok (.aload_n 0, 1) := by decide +kernel
theorem dX9_wallOf_59 : decode mX9_wallOf.2.1 59 = .ok (.getfield 12, 3) := by decide +kernel
theorem dX9_wallOf_62 : decode mX9_wallOf.2.1 62 = .ok (.getfield 87, 3) := by decide +kernel
theorem dX9_wallOf_65 : decode mX9_wallOf.2.1 65 = .ok (.aload_n 0, 1) := by decide +kernel
theorem dX9_wallOf_66 : decode mX9_wallOf.2.1 66 = .ok (.getfield 47, 3) := by decide +kernel
theorem dX9_wallOf_69 : decode mX9_wallOf.2.1 69 = .ok (.iload_n 2, 1) := by decide +kernel
theorem dX9_wallOf_70 : decode mX9_wallOf.2.1 70 = .ok (.aaload, 1) := by decide +kernel
theorem dX9_wallOf_71 : decode mX9_wallOf.2.1 71 = .ok (.getfield 222, 3) := by decide +kernel
theorem dX9_wallOf_74 : decode mX9_wallOf.2.1 74 = .ok (.invokevirtual 209, 3) := by decide +kernel
theorem dX9_wallOf_77 : decode mX9_wallOf.2.1 77 = .ok (.aload_n 0, 1) := by decide +kernel
theorem dX9_wallOf_78 : decode mX9_wallOf.2.1 78 = .ok (.getfield 47, 3) := by decide +kernel
theorem dX9_wallOf_81 : decode mX9_wallOf.2.1 81 = .ok (.iload_n 1, 1) := by decide +kernel
theorem dX9_wallOf_82 : decode mX9_wallOf.2.1 82 = .ok (.aaload, 1) := by decide +kernel
theorem dX9_wallOf_83 : decode mX9_wallOf.2.1 83 = .ok (.invokevirtual 213, 3) := by decide +kernel
theorem dX9_wallOf_86 : decode mX9_wallOf.2.1 86 = .ok (.ireturn, 1) := by decide +kernel
theorem dX9_value_0 : decode mX9_value.2.1 0 = .ok (.aload_n 0, 1) := by decide +kernel
theorem dX9_value_1 : decode mX9_value.2.1 1 = .ok (.iload_n 1, 1) := by decide +kernel
theorem dX9_value_2 : decode mX9_value.2.1 2 = .ok (.invokevirtual 225, 3) := by decide +kernel
theorem dX9_value_5 : decode mX9_value.2.1 5 = .ok (.ifCond .eq 7, 3) := by decide +kernel
theorem dX9_value_8 : decode mX9_value.2.1 8 = .ok (.ldc2_w 228, 3) := by decide +kernel
theorem dX9_value_11 : decode mX9_value.2.1 11 = .ok (.lreturn, 1) := by decide +kernel
theorem dX9_value_12 : decode mX9_value.2.1 12 = .ok (.aload_n 0, 1) := by decide +kernel
theorem dX9_value_13 : decode mX9_value.2.1 13 = .ok (.getfield 47, 3) := by decide +kernel
theorem dX9_value_16 : decode mX9_value.2.1 16 = .ok (.iload_n 1, 1) := by decide +kernel
theorem dX9_value_17 : decode mX9_value.2.1 17 = .ok (.aaload, 1) := by decide +kernel
theorem dX9_value_18 : decode mX9_value.2.1 18 = .ok (.getfield 222, 3) := by decide +kernel
theorem dX9_value_21 : decode mX9_value.2.1 21 = .ok (.astore_n 2, 1) := by decide +kernel
theorem dX9_value_22 : decode mX9_value.2.1 22 = .ok (.iconst 0, 1) := by decide +kernel
theorem dX9_value_23 : decode mX9_value.2.1 23 = .ok (.istore_n 3, 1) := by decide +kernel
theorem dX9_value_24 : decode mX9_value.2.1 24 = .ok (.iconst 0, 1) := by decide +kernel
theorem dX9_value_25 : decode mX9_value.2.1 25 = .ok (.istore 4, 2) := by decide +kernel
theorem dX9_value_27 : decode mX9_value.2.1 27 = .ok (.iload 4, 2) := by decide +kernel
theorem dX9_value_29 : decode mX9_value.2.1 29 = .ok (.aload_n 0, 1) := by decide +kernel
theorem dX9_value_30 : decode mX9_value.2.1 30 = .ok (.getfield 12, 3) := by decide +kernel
theorem dX9_value_33 : decode mX9_value.2.1 33 = .ok (.getfield 87, 3) := by decide +kernel
theorem dX9_value_36 : decode mX9_value.2.1 36 = .ok (.if_icmp .ge 57, 3) := by decide +kernel
theorem dX9_value_39 : decode mX9_value.2.1 39 = .ok (.iload 4, 2) := by decide +kernel
theorem dX9_value_41 : decode mX9_value.2.1 41 = .ok (.iconst 1, 1) := by decide +kernel
theorem dX9_value_42 : decode mX9_value.2.1 42 = .ok (.iadd, 1) := by decide +kernel
theorem dX9_value_43 : decode mX9_value.2.1 43 = .ok (.istore 5, 2) := by decide +kernel
theorem dX9_value_45 : decode mX9_value.2.1 45 = .ok (.iload 5, 2) := by decide +kernel
theorem dX9_value_47 : decode mX9_value.2.1 47 = .ok (.aload_n 0, 1) := by decide +kernel
theorem dX9_value_48 : decode mX9_value.2.1 48 = .ok (.getfield 12, 3) := by decide +kernel
theorem dX9_value_51 : decode mX9_value.2.1 51 = .ok (.getfield 87, 3) := by decide +kernel
theorem dX9_value_54 : decode mX9_value.2.1 54 = .ok (.if_icmp .ge 33, 3) := by decide +kernel
theorem dX9_value_57 : decode mX9_value.2.1 57 = .ok (.iload_n 3, 1) := by decide +kernel
theorem dX9_value_58 : decode mX9_value.2.1 58 = .ok (.aload_n 2, 1) := by decide +kernel
theorem dX9_value_59 : decode mX9_value.2.1 59 = .ok (.iload 4, 2) := by decide +kernel
theorem dX9_value_61 : decode mX9_value.2.1 61 = .ok (.iaload, 1) := by decide +kernel
theorem dX9_value_62 : decode mX9_value.2.1 62 = .ok (.aload_n 2, 1) := by decide +kernel
theorem dX9_value_63 : decode mX9_value.2.1 63 = .ok (.iload 5, 2) := by decide +kernel
theorem dX9_value_65 : decode mX9_value.2.1 65 = .ok (.iaload, 1) := by decide +kernel
theorem dX9_value_66 : decode mX9_value.2.1 66 = .ok (.imul, 1) := by decide +kernel
theorem dX9_value_67 : decode mX9_value.2.1 67 = .ok (.aload_n 0, 1) := by decide +kernel
theorem dX9_value_68 : decode mX9_value.2.1 68 = .ok (.getfield 12, 3) := by decide +kernel
theorem dX9_value_71 : decode mX9_value.2.1 71 = .ok (.iload 4, 2) := by decide +kernel
theorem dX9_value_73 : decode mX9_value.2.1 73 = .ok (.iload 5, 2) := by decide +kernel
theorem dX9_value_75 : decode mX9_value.2.1 75 = .ok (.invokevirtual 105, 3) := by decide +kernel
theorem dX9_value_78 : decode mX9_value.2.1 78 = .ok (.imul, 1) := by decide +kernel
theorem dX9_value_79 : decode mX9_value.2.1 79 = .ok (.iadd, 1) := by decide +kernel
theorem dX9_value_80 : decode mX9_value.2.1 80 = .ok (.istore_n 3, 1) := by decide +kernel
theorem dX9_value_81 : decode mX9_value.2.1 81 = .ok (.iinc 5 1, 3) := by decide +kernel
theorem dX9_value_84 : decode mX9_value.2.1 84 = .ok (.goto (-39), 3) := by decide +kernel
theorem dX9_value_87 : decode mX9_value.2.1 87 = .ok (.iinc 4 1, 3) := by decide +kernel
theorem dX9_value_90 : decode mX9_value.2.1 90 = .ok (.goto (-63), 3) := by decide +kernel
theorem dX9_value_93 : decode mX9_value.2.1 93 = .ok (.iload_n 3, 1) := by decide +kernel
theorem dX9_value_94 : decode mX9_value.2.1 94 = .ok (.i2l, 1) := by decide +kernel
theorem dX9_value_95 : decode mX9_value.2.1 95 = .ok (.lreturn, 1) := by decide +kernel
theorem dX9_roots_0 : decode mX9_roots.2.1 0 = .ok (.iload_n 2, 1) := by decide +kernel
theorem dX9_roots_1 : decode mX9_roots.2.1 1 = .ok (.ifCond .lt 8, 3) := by decide +kernel
theorem dX9_roots_4 : decode mX9_roots.2.1 4 = .ok (.iload_n 2, 1) := by decide +kernel
theorem dX9_roots_5 : decode mX9_roots.2.1 5 = .ok (.iconst 2, 1) := by decide +kernel
theorem dX9_roots_6 : decode mX9_roots.2.1 6 = .ok (.if_icmp .le 5, 3) := by decide +kernel
theorem dX9_roots_9 : decode mX9_roots.2.1 9 = .ok (.iconst (-1), 1) := by decide +kernel
theorem dX9_roots_10 : decode mX9_roots.2.1 10 = .ok (.ireturn, 1) := by decide +kernel
theorem dX9_roots_11 : decode mX9_roots.2.1 11 = .ok (.aload_n 0, 1) := by decide +kernel
theorem dX9_roots_12 : decode mX9_roots.2.1 12 = .ok (.iload_n 1, 1) := by decide +kernel
theorem dX9_roots_13 : decode mX9_roots.2.1 13 = .ok (.invokevirtual 225, 3) := by decide +kernel
theorem dX9_roots_16 : decode mX9_roots.2.1 16 = .ok (.istore_n 3, 1) := by decide +kernel
theorem dX9_roots_17 : decode mX9_roots.2.1 17 = .ok (.iload_n 3, 1) := by decide +kernel
theorem dX9_roots_18 : decode mX9_roots.2.1 18 = .ok (.ifCond .eq 5, 3) := by decide +kernel
theorem dX9_roots_21 : decode mX9_roots.2.1 21 = .ok (.iload_n 3, 1) := by decide +kernel
theorem dX9_roots_22 : decode mX9_roots.2.1 22 = .ok (.ireturn, 1) := by decide +kernel
theorem dX9_roots_23 : decode mX9_roots.2.1 23 = .ok (.iload_n 2, 1) := by decide +kernel
theorem dX9_roots_24 : decode mX9_roots.2.1 24 = .ok (.ifCond .ne 14, 3) := by decide +kernel
theorem dX9_roots_27 : decode mX9_roots.2.1 27 = .ok (.aload_n 0, 1) := by decide +kernel
theorem dX9_roots_28 : decode mX9_roots.2.1 28 = .ok (.aload_n 0, 1) := by decide +kernel
theorem dX9_roots_29 : decode mX9_roots.2.1 29 = .ok (.getfield 47, 3) := by decide +kernel
theorem dX9_roots_32 : decode mX9_roots.2.1 32 = .ok (.iload_n 1, 1) := by decide +kernel
theorem dX9_roots_33 : decode mX9_roots.2.1 33 = .ok (.aaload, 1) := by decide +kernel
theorem dX9_roots_34 : decode mX9_roots.2.1 34 = .ok (.invokevirtual 230, 3) := by decide +kernel
theorem dX9_roots_37 : decode mX9_roots.2.1 37 = .ok (.ireturn, 1) := by decide +kernel
theorem dX9_roots_38 : decode mX9_roots.2.1 38 = .ok (.aload_n 0, 1) := by decide +kernel
theorem dX9_roots_39 : decode mX9_roots.2.1 39 = .ok (.aload_n 0, 1) := by decide +kernel
theorem dX9_roots_40 : decode mX9_roots.2.1 40 = .ok (.getfield 47, 3) := by decide +kernel
theorem dX9_roots_43 : decode mX9_roots.2.1 43 = .ok (.iload_n 1, 1) := by decide +kernel
theorem dX9_roots_44 : decode mX9_roots.2.1 44 = .ok (.aaload, 1) := by decide +kernel
theorem dX9_roots_45 : decode mX9_roots.2.1 45 = .ok (.invokevirtual 234, 3) := by decide +kernel
theorem dX9_roots_48 : decode mX9_roots.2.1 48 = .ok (.istore 4, 2) := by decide +kernel
theorem dX9_roots_50 : decode mX9_roots.2.1 50 = .ok (.iload_n 2, 1) := by decide +kernel
theorem dX9_roots_51 : decode mX9_roots.2.1 51 = .ok (.iconst 1, 1) := by decide +kernel
theorem dX9_roots_52 : decode mX9_roots.2.1 52 = .ok (.if_icmp .ne 6, 3) := by decide +kernel
theorem dX9_roots_55 : decode mX9_roots.2.1 55 = .ok (.iload 4, 2) := by decide +kernel
theorem dX9_roots_57 : decode mX9_roots.2.1 57 = .ok (.ireturn, 1) := by decide +kernel
theorem dX9_roots_58 : decode mX9_roots.2.1 58 = .ok (.iload 4, 2) := by decide +kernel
theorem dX9_roots_60 : decode mX9_roots.2.1 60 = .ok (.aload_n 0, 1) := by decide +kernel
theorem dX9_roots_61 : decode mX9_roots.2.1 61 = .ok (.getfield 12, 3) := by decide +kernel
theorem dX9_roots_64 : decode mX9_roots.2.1 64 = .ok (.invokevirtual 132, 3) := by decide +kernel
theorem dX9_roots_67 : decode mX9_roots.2.1 67 = .ok (.iconst 1, 1) := by decide +kernel
theorem dX9_roots_68 : decode mX9_roots.2.1 68 = .ok (.isub, 1) := by decide +kernel
theorem dX9_roots_69 : decode mX9_roots.2.1 69 = .ok (.if_icmp .ne 7, 3) := by decide +kernel
theorem dX9_roots_72 : decode mX9_roots.2.1 72 = .ok (.iconst 1, 1) := by decide +kernel
theorem dX9_roots_73 : decode mX9_roots.2.1 73 = .ok (.goto 4, 3) := by decide +kernel
theorem dX9_roots_76 : decode mX9_roots.2.1 76 = .ok (.iconst 0, 1) := by decide +kernel
theorem dX9_roots_77 : decode mX9_roots.2.1 77 = .ok (.ireturn, 1) := by decide +kernel
theorem dX9_root_0 : decode mX9_root.2.1 0 = .ok (.iload_n 1, 1) := by decide +kernel
theorem dX9_root_1 : decode mX9_root.2.1 1 = .ok (.invokestatic 206, 3) := by decide +kernel
theorem dX9_root_4 : decode mX9_root.2.1 4 = .ok (.ifCond .eq 7, 3) := by decide +kernel
theorem dX9_root_7 : decode mX9_root.2.1 7 = .ok (.iload_n 2, 1) := by decide +kernel
theorem dX9_root_8 : decode mX9_root.2.1 8 = .ok (.ifCond .ge 5, 3) := by decide +kernel
theorem dX9_root_11 : decode mX9_root.2.1 11 = .ok (.iconst (-1), 1) := by decide +kernel
theorem dX9_root_12 : decode mX9_root.2.1 12 = .ok (.ireturn, 1) := by decide +kernel
theorem dX9_root_13 : decode mX9_root.2.1 13 = .ok (.aload_n 0, 1) := by decide +kernel
theorem dX9_root_14 : decode mX9_root.2.1 14 = .ok (.iload_n 1, 1) := by decide +kernel
theorem dX9_root_15 : decode mX9_root.2.1 15 = .ok (.invokevirtual 225, 3) := by decide +kernel
theorem dX9_root_18 : decode mX9_root.2.1 18 = .ok (.istore_n 3, 1) := by decide +kernel
theorem dX9_root_19 : decode mX9_root.2.1 19 = .ok (.iload_n 3, 1) := by decide +kernel
theorem dX9_root_20 : decode mX9_root.2.1 20 = .ok (.ifCond .eq 5, 3) := by decide +kernel
theorem dX9_root_23 : decode mX9_root.2.1 23 = .ok (.iload_n 3, 1) := by decide +kernel
theorem dX9_root_24 : decode mX9_root.2.1 24 = .ok (.ireturn, 1) := by decide +kernel
theorem dX9_root_25 : decode mX9_root.2.1 25 = .ok (.iconst 0, 1) := by decide +kernel
theorem dX9_root_26 : decode mX9_root.2.1 26 = .ok (.istore 4, 2) := by decide +kernel
theorem dX9_root_28 : decode mX9_root.2.1 28 = .ok (.iconst 1, 1) := by decide +kernel
theorem dX9_root_29 : decode mX9_root.2.1 29 = .ok (.istore 5, 2) := by decide +kernel

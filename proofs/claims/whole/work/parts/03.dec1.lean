theorem dX9_root_31 : decode mX9_root.2.1 31 = .ok (.iload 5, 2) := by decide +kernel
theorem dX9_root_33 : decode mX9_root.2.1 33 = .ok (.aload_n 0, 1) := by decide +kernel
theorem dX9_root_34 : decode mX9_root.2.1 34 = .ok (.getfield 12, 3) := by decide +kernel
theorem dX9_root_37 : decode mX9_root.2.1 37 = .ok (.invokevirtual 237, 3) := by decide +kernel
theorem dX9_root_40 : decode mX9_root.2.1 40 = .ok (.if_icmp .gt 35, 3) := by decide +kernel
theorem dX9_root_43 : decode mX9_root.2.1 43 = .ok (.aload_n 0, 1) := by decide +kernel
theorem dX9_root_44 : decode mX9_root.2.1 44 = .ok (.getfield 47, 3) := by decide +kernel
theorem dX9_root_47 : decode mX9_root.2.1 47 = .ok (.iload_n 1, 1) := by decide +kernel
theorem dX9_root_48 : decode mX9_root.2.1 48 = .ok (.aaload, 1) := by decide +kernel
theorem dX9_root_49 : decode mX9_root.2.1 49 = .ok (.iload 5, 2) := by decide +kernel
theorem dX9_root_51 : decode mX9_root.2.1 51 = .ok (.invokestatic 240, 3) := by decide +kernel
theorem dX9_root_54 : decode mX9_root.2.1 54 = .ok (.ifCond .eq 15, 3) := by decide +kernel
theorem dX9_root_57 : decode mX9_root.2.1 57 = .ok (.iload 4, 2) := by decide +kernel
theorem dX9_root_59 : decode mX9_root.2.1 59 = .ok (.iload_n 2, 1) := by decide +kernel
theorem dX9_root_60 : decode mX9_root.2.1 60 = .ok (.if_icmp .ne 6, 3) := by decide +kernel
theorem dX9_root_63 : decode mX9_root.2.1 63 = .ok (.iload 5, 2) := by decide +kernel
theorem dX9_root_65 : decode mX9_root.2.1 65 = .ok (.ireturn, 1) := by decide +kernel
theorem dX9_root_66 : decode mX9_root.2.1 66 = .ok (.iinc 4 1, 3) := by decide +kernel
theorem dX9_root_69 : decode mX9_root.2.1 69 = .ok (.iinc 5 1, 3) := by decide +kernel
theorem dX9_root_72 : decode mX9_root.2.1 72 = .ok (.goto (-41), 3) := by decide +kernel
theorem dX9_root_75 : decode mX9_root.2.1 75 = .ok (.bipush (-2), 2) := by decide +kernel
theorem dX9_root_77 : decode mX9_root.2.1 77 = .ok (.ireturn, 1) := by decide +kernel
theorem dX9_switched_0 : decode mX9_switched.2.1 0 = .ok (.iload_n 1, 1) := by decide +kernel
theorem dX9_switched_1 : decode mX9_switched.2.1 1 = .ok (.invokestatic 206, 3) := by decide +kernel
theorem dX9_switched_4 : decode mX9_switched.2.1 4 = .ok (.ifCond .eq 14, 3) := by decide +kernel
theorem dX9_switched_7 : decode mX9_switched.2.1 7 = .ok (.aload_n 0, 1) := by decide +kernel
theorem dX9_switched_8 : decode mX9_switched.2.1 8 = .ok (.getfield 12, 3) := by decide +kernel
theorem dX9_switched_11 : decode mX9_switched.2.1 11 = .ok (.iload_n 2, 1) := by decide +kernel
theorem dX9_switched_12 : decode mX9_switched.2.1 12 = .ok (.invokevirtual 124, 3) := by decide +kernel
theorem dX9_switched_15 : decode mX9_switched.2.1 15 = .ok (.ifCond .ne 5, 3) := by decide +kernel
theorem dX9_switched_18 : decode mX9_switched.2.1 18 = .ok (.iconst (-1), 1) := by decide +kernel
theorem dX9_switched_19 : decode mX9_switched.2.1 19 = .ok (.ireturn, 1) := by decide +kernel
theorem dX9_switched_20 : decode mX9_switched.2.1 20 = .ok (.aload_n 0, 1) := by decide +kernel
theorem dX9_switched_21 : decode mX9_switched.2.1 21 = .ok (.iload_n 1, 1) := by decide +kernel
theorem dX9_switched_22 : decode mX9_switched.2.1 22 = .ok (.invokevirtual 225, 3) := by decide +kernel
theorem dX9_switched_25 : decode mX9_switched.2.1 25 = .ok (.istore_n 3, 1) := by decide +kernel
theorem dX9_switched_26 : decode mX9_switched.2.1 26 = .ok (.iload_n 3, 1) := by decide +kernel
theorem dX9_switched_27 : decode mX9_switched.2.1 27 = .ok (.ifCond .eq 5, 3) := by decide +kernel
theorem dX9_switched_30 : decode mX9_switched.2.1 30 = .ok (.iload_n 3, 1) := by decide +kernel
theorem dX9_switched_31 : decode mX9_switched.2.1 31 = .ok (.ireturn, 1) := by decide +kernel
theorem dX9_switched_32 : decode mX9_switched.2.1 32 = .ok (.aload_n 0, 1) := by decide +kernel
theorem dX9_switched_33 : decode mX9_switched.2.1 33 = .ok (.getfield 47, 3) := by decide +kernel
theorem dX9_switched_36 : decode mX9_switched.2.1 36 = .ok (.iload_n 1, 1) := by decide +kernel
theorem dX9_switched_37 : decode mX9_switched.2.1 37 = .ok (.aaload, 1) := by decide +kernel
theorem dX9_switched_38 : decode mX9_switched.2.1 38 = .ok (.iload_n 2, 1) := by decide +kernel
theorem dX9_switched_39 : decode mX9_switched.2.1 39 = .ok (.invokevirtual 244, 3) := by decide +kernel
theorem dX9_switched_42 : decode mX9_switched.2.1 42 = .ok (.ifCond .eq 6, 3) := by decide +kernel
theorem dX9_switched_45 : decode mX9_switched.2.1 45 = .ok (.bipush (-5), 2) := by decide +kernel
theorem dX9_switched_47 : decode mX9_switched.2.1 47 = .ok (.ireturn, 1) := by decide +kernel
theorem dX9_switched_48 : decode mX9_switched.2.1 48 = .ok (.aload_n 0, 1) := by decide +kernel
theorem dX9_switched_49 : decode mX9_switched.2.1 49 = .ok (.getfield 47, 3) := by decide +kernel
theorem dX9_switched_52 : decode mX9_switched.2.1 52 = .ok (.iload_n 1, 1) := by decide +kernel
theorem dX9_switched_53 : decode mX9_switched.2.1 53 = .ok (.aaload, 1) := by decide +kernel
theorem dX9_switched_54 : decode mX9_switched.2.1 54 = .ok (.iload_n 2, 1) := by decide +kernel
theorem dX9_switched_55 : decode mX9_switched.2.1 55 = .ok (.invokevirtual 247, 3) := by decide +kernel
theorem dX9_switched_58 : decode mX9_switched.2.1 58 = .ok (.ifCond .eq 7, 3) := by decide +kernel
theorem dX9_switched_61 : decode mX9_switched.2.1 61 = .ok (.iconst 1, 1) := by decide +kernel
theorem dX9_switched_62 : decode mX9_switched.2.1 62 = .ok (.goto 4, 3) := by decide +kernel
theorem dX9_switched_65 : decode mX9_switched.2.1 65 = .ok (.iconst 0, 1) := by decide +kernel
theorem dX9_switched_66 : decode mX9_switched.2.1 66 = .ok (.ireturn, 1) := by decide +kernel
theorem dX9_rootCount_0 : decode mX9_rootCount.2.1 0 = .ok (.iconst 0, 1) := by decide +kernel
theorem dX9_rootCount_1 : decode mX9_rootCount.2.1 1 = .ok (.istore_n 2, 1) := by decide +kernel
theorem dX9_rootCount_2 : decode mX9_rootCount.2.1 2 = .ok (.iconst 1, 1) := by decide +kernel
theorem dX9_rootCount_3 : decode mX9_rootCount.2.1 3 = .ok (.istore_n 3, 1) := by decide +kernel
theorem dX9_rootCount_4 : decode mX9_rootCount.2.1 4 = .ok (.iload_n 3, 1) := by decide +kernel
theorem dX9_rootCount_5 : decode mX9_rootCount.2.1 5 = .ok (.aload_n 0, 1) := by decide +kernel
theorem dX9_rootCount_6 : decode mX9_rootCount.2.1 6 = .ok (.getfield 12, 3) := by decide +kernel
theorem dX9_rootCount_9 : decode mX9_rootCount.2.1 9 = .ok (.invokevirtual 237, 3) := by decide +kernel
theorem dX9_rootCount_12 : decode mX9_rootCount.2.1 12 = .ok (.if_icmp .gt 25, 3) := by decide +kernel
theorem dX9_rootCount_15 : decode mX9_rootCount.2.1 15 = .ok (.iload_n 2, 1) := by decide +kernel
theorem dX9_rootCount_16 : decode mX9_rootCount.2.1 16 = .ok (.aload_n 1, 1) := by decide +kernel
theorem dX9_rootCount_17 : decode mX9_rootCount.2.1 17 = .ok (.iload_n 3, 1) := by decide +kernel
theorem dX9_rootCount_18 : decode mX9_rootCount.2.1 18 = .ok (.invokestatic 240, 3) := by decide +kernel
theorem dX9_rootCount_21 : decode mX9_rootCount.2.1 21 = .ok (.ifCond .eq 7, 3) := by decide +kernel
theorem dX9_rootCount_24 : decode mX9_rootCount.2.1 24 = .ok (.iconst 1, 1) := by decide +kernel
theorem dX9_rootCount_25 : decode mX9_rootCount.2.1 25 = .ok (.goto 4, 3) := by decide +kernel
theorem dX9_rootCount_28 : decode mX9_rootCount.2.1 28 = .ok (.iconst 0, 1) := by decide +kernel
theorem dX9_rootCount_29 : decode mX9_rootCount.2.1 29 = .ok (.iadd, 1) := by decide +kernel
theorem dX9_rootCount_30 : decode mX9_rootCount.2.1 30 = .ok (.istore_n 2, 1) := by decide +kernel
theorem dX9_rootCount_31 : decode mX9_rootCount.2.1 31 = .ok (.iinc 3 1, 3) := by decide +kernel
theorem dX9_rootCount_34 : decode mX9_rootCount.2.1 34 = .ok (.goto (-30), 3) := by decide +kernel
theorem dX9_rootCount_37 : decode mX9_rootCount.2.1 37 = .ok (.iload_n 2, 1) := by decide +kernel
theorem dX9_rootCount_38 : decode mX9_rootCount.2.1 38 = .ok (.ireturn, 1) := by decide +kernel
theorem dX9_rootRank_0 : decode mX9_rootRank.2.1 0 = .ok (.aload_n 0, 1) := by decide +kernel
theorem dX9_rootRank_1 : decode mX9_rootRank.2.1 1 = .ok (.getfield 82, 3) := by decide +kernel
theorem dX9_rootRank_4 : decode mX9_rootRank.2.1 4 = .ok (.aload_n 0, 1) := by decide +kernel
theorem dX9_rootRank_5 : decode mX9_rootRank.2.1 5 = .ok (.getfield 12, 3) := by decide +kernel
theorem dX9_rootRank_8 : decode mX9_rootRank.2.1 8 = .ok (.invokevirtual 132, 3) := by decide +kernel
theorem dX9_rootRank_11 : decode mX9_rootRank.2.1 11 = .ok (.invokevirtual 250, 3) := by decide +kernel
theorem dX9_rootRank_14 : decode mX9_rootRank.2.1 14 = .ok (.iconst 1, 1) := by decide +kernel
theorem dX9_rootRank_15 : decode mX9_rootRank.2.1 15 = .ok (.istore_n 2, 1) := by decide +kernel
theorem dX9_rootRank_16 : decode mX9_rootRank.2.1 16 = .ok (.iload_n 2, 1) := by decide +kernel
theorem dX9_rootRank_17 : decode mX9_rootRank.2.1 17 = .ok (.aload_n 0, 1) := by decide +kernel
theorem dX9_rootRank_18 : decode mX9_rootRank.2.1 18 = .ok (.getfield 12, 3) := by decide +kernel
theorem dX9_rootRank_21 : decode mX9_rootRank.2.1 21 = .ok (.invokevirtual 237, 3) := by decide +kernel
theorem dX9_rootRank_24 : decode mX9_rootRank.2.1 24 = .ok (.if_icmp .gt 32, 3) := by decide +kernel
theorem dX9_rootRank_27 : decode mX9_rootRank.2.1 27 = .ok (.aload_n 1, 1) := by decide +kernel
theorem dX9_rootRank_28 : decode mX9_rootRank.2.1 28 = .ok (.iload_n 2, 1) := by decide +kernel
theorem dX9_rootRank_29 : decode mX9_rootRank.2.1 29 = .ok (.invokestatic 240, 3) := by decide +kernel
theorem dX9_rootRank_32 : decode mX9_rootRank.2.1 32 = .ok (.ifCond .eq 18, 3) := by decide +kernel
theorem dX9_rootRank_35 : decode mX9_rootRank.2.1 35 = .ok (.aload_n 0, 1) := by decide +kernel
theorem dX9_rootRank_36 : decode mX9_rootRank.2.1 36 = .ok (.getfield 82, 3) := by decide +kernel
theorem dX9_rootRank_39 : decode mX9_rootRank.2.1 39 = .ok (.aload_n 0, 1) := by decide +kernel
theorem dX9_rootRank_40 : decode mX9_rootRank.2.1 40 = .ok (.getfield 12, 3) := by decide +kernel
theorem dX9_rootRank_43 : decode mX9_rootRank.2.1 43 = .ok (.iload_n 2, 1) := by decide +kernel
theorem dX9_rootRank_44 : decode mX9_rootRank.2.1 44 = .ok (.invokevirtual 128, 3) := by decide +kernel
theorem dX9_rootRank_47 : decode mX9_rootRank.2.1 47 = .ok (.invokevirtual 252, 3) := by decide +kernel
theorem dX9_rootRank_50 : decode mX9_rootRank.2.1 50 = .ok (.iinc 2 1, 3) := by decide +kernel
theorem dX9_rootRank_53 : decode mX9_rootRank.2.1 53 = .ok (.goto (-37), 3) := by decide +kernel
theorem dX9_rootRank_56 : decode mX9_rootRank.2.1 56 = .ok (.aload_n 0, 1) := by decide +kernel
theorem dX9_rootRank_57 : decode mX9_rootRank.2.1 57 = .ok (.getfield 82, 3) := by decide +kernel
theorem dX9_rootRank_60 : decode mX9_rootRank.2.1 60 = .ok (.getfield 255, 3) := by decide +kernel
theorem dX9_rootRank_63 : decode mX9_rootRank.2.1 63 = .ok (.ireturn, 1) := by decide +kernel
theorem dX9_isRoot_0 : decode mX9_isRoot.2.1 0 = .ok (.aload_n 0, 1) := by decide +kernel
theorem dX9_isRoot_1 : decode mX9_isRoot.2.1 1 = .ok (.iload_n 1, 1) := by decide +kernel
theorem dX9_isRoot_2 : decode mX9_isRoot.2.1 2 = .ok (.invokevirtual 244, 3) := by decide +kernel
theorem dX9_isRoot_5 : decode mX9_isRoot.2.1 5 = .ok (.istore_n 2, 1) := by decide +kernel
theorem dX9_isRoot_6 : decode mX9_isRoot.2.1 6 = .ok (.iload_n 2, 1) := by decide +kernel
theorem dX9_isRoot_7 : decode mX9_isRoot.2.1 7 = .ok (.ifCond .eq 8, 3) := by decide +kernel
theorem dX9_isRoot_10 : decode mX9_isRoot.2.1 10 = .ok (.iload_n 2, 1) := by decide +kernel
theorem dX9_isRoot_11 : decode mX9_isRoot.2.1 11 = .ok (.iconst 1, 1) := by decide +kernel
theorem dX9_isRoot_12 : decode mX9_isRoot.2.1 12 = .ok (.if_icmp .ne 7, 3) := by decide +kernel
theorem dX9_isRoot_15 : decode mX9_isRoot.2.1 15 = .ok (.iconst 1, 1) := by decide +kernel
theorem dX9_isRoot_16 : decode mX9_isRoot.2.1 16 = .ok (.goto 4, 3) := by decide +kernel
theorem dX9_isRoot_19 : decode mX9_isRoot.2.1 19 = .ok (.iconst 0, 1) := by decide +kernel
theorem dX9_isRoot_20 : decode mX9_isRoot.2.1 20 = .ok (.ireturn, 1) := by decide +kernel
theorem dX9_isWidth_0 : decode mX9_isWidth.2.1 0 = .ok (.iload_n 0, 1) := by decide +kernel
theorem dX9_isWidth_1 : decode mX9_isWidth.2.1 1 = .ok (.iconst 1, 1) := by decide +kernel
theorem dX9_isWidth_2 : decode mX9_isWidth.2.1 2 = .ok (.if_icmp .lt 12, 3) := by decide +kernel
theorem dX9_isWidth_5 : decode mX9_isWidth.2.1 5 = .ok (.iload_n 0, 1) := by decide +kernel
theorem dX9_isWidth_6 : decode mX9_isWidth.2.1 6 = .ok (.iconst 3, 1) := by decide +kernel
theorem dX9_isWidth_7 : decode mX9_isWidth.2.1 7 = .ok (.if_icmp .gt 7, 3) := by decide +kernel
theorem dX9_isWidth_10 : decode mX9_isWidth.2.1 10 = .ok (.iconst 1, 1) := by decide +kernel
theorem dX9_isWidth_11 : decode mX9_isWidth.2.1 11 = .ok (.goto 4, 3) := by decide +kernel
theorem dX9_isWidth_14 : decode mX9_isWidth.2.1 14 = .ok (.iconst 0, 1) := by decide +kernel
theorem dX9_isWidth_15 : decode mX9_isWidth.2.1 15 = .ok (.ireturn, 1) := by decide +kernel
theorem dX9_sum_0 : decode mX9_sum.2.1 0 = .ok (.iload_n 1, 1) := by decide +kernel
theorem dX9_sum_1 : decode mX9_sum.2.1 1 = .ok (.iconst 1, 1) := by decide +kernel
theorem dX9_sum_2 : decode mX9_sum.2.1 2 = .ok (.if_icmp .lt 30, 3) := by decide +kernel
theorem dX9_sum_5 : decode mX9_sum.2.1 5 = .ok (.iload_n 1, 1) := by decide +kernel
theorem dX9_sum_6 : decode mX9_sum.2.1 6 = .ok (.sipush 9999, 3) := by decide +kernel
theorem dX9_sum_9 : decode mX9_sum.2.1 9 = .ok (.if_icmp .gt 23, 3) := by decide +kernel
theorem dX9_sum_12 : decode mX9_sum.2.1 12 = .ok (.iload_n 2, 1) := by decide +kernel
theorem dX9_sum_13 : decode mX9_sum.2.1 13 = .ok (.iconst (-1), 1) := by decide +kernel
theorem dX9_sum_14 : decode mX9_sum.2.1 14 = .ok (.if_icmp .eq 20, 3) := by decide +kernel
theorem dX9_sum_17 : decode mX9_sum.2.1 17 = .ok (.iload_n 2, 1) := by decide +kernel
theorem dX9_sum_18 : decode mX9_sum.2.1 18 = .ok (.ifCond .eq 16, 3) := by decide +kernel
theorem dX9_sum_21 : decode mX9_sum.2.1 21 = .ok (.aload_n 0, 1) := by decide +kernel
theorem dX9_sum_22 : decode mX9_sum.2.1 22 = .ok (.getfield 12, 3) := by decide +kernel
theorem dX9_sum_25 : decode mX9_sum.2.1 25 = .ok (.iload_n 2, 1) := by decide +kernel
theorem dX9_sum_26 : decode mX9_sum.2.1 26 = .ok (.invokevirtual 124, 3) := by decide +kernel
theorem dX9_sum_29 : decode mX9_sum.2.1 29 = .ok (.ifCond .ne 5, 3) := by decide +kernel
theorem dX9_sum_32 : decode mX9_sum.2.1 32 = .ok (.iconst (-1), 1) := by decide +kernel
theorem dX9_sum_33 : decode mX9_sum.2.1 33 = .ok (.ireturn, 1) := by decide +kernel
theorem dX9_sum_34 : decode mX9_sum.2.1 34 = .ok (.aload_n 0, 1) := by decide +kernel
theorem dX9_sum_35 : decode mX9_sum.2.1 35 = .ok (.getfield 75, 3) := by decide +kernel
theorem dX9_sum_38 : decode mX9_sum.2.1 38 = .ok (.aload_n 0, 1) := by decide +kernel
theorem dX9_sum_39 : decode mX9_sum.2.1 39 = .ok (.getfield 12, 3) := by decide +kernel
theorem dX9_sum_42 : decode mX9_sum.2.1 42 = .ok (.iload_n 1, 1) := by decide +kernel
theorem dX9_sum_43 : decode mX9_sum.2.1 43 = .ok (.invokevirtual 258, 3) := by decide +kernel
theorem dX9_sum_46 : decode mX9_sum.2.1 46 = .ok (.istore_n 3, 1) := by decide +kernel
theorem dX9_sum_47 : decode mX9_sum.2.1 47 = .ok (.iload_n 3, 1) := by decide +kernel
theorem dX9_sum_48 : decode mX9_sum.2.1 48 = .ok (.ifCond .lt 8, 3) := by decide +kernel
theorem dX9_sum_51 : decode mX9_sum.2.1 51 = .ok (.iload_n 2, 1) := by decide +kernel
theorem dX9_sum_52 : decode mX9_sum.2.1 52 = .ok (.iconst (-1), 1) := by decide +kernel
theorem dX9_sum_53 : decode mX9_sum.2.1 53 = .ok (.if_icmp .ne 5, 3) := by decide +kernel
theorem dX9_sum_56 : decode mX9_sum.2.1 56 = .ok (.iload_n 3, 1) := by decide +kernel
theorem dX9_sum_57 : decode mX9_sum.2.1 57 = .ok (.ireturn, 1) := by decide +kernel
theorem dX9_sum_58 : decode mX9_sum.2.1 58 = .ok (.iload_n 2, 1) := by decide +kernel
theorem dX9_sum_59 : decode mX9_sum.2.1 59 = .ok (.ifCond .ne 13, 3) := by decide +kernel
theorem dX9_sum_62 : decode mX9_sum.2.1 62 = .ok (.aload_n 0, 1) := by decide +kernel
theorem dX9_sum_63 : decode mX9_sum.2.1 63 = .ok (.getfield 75, 3) := by decide +kernel
theorem dX9_sum_66 : decode mX9_sum.2.1 66 = .ok (.invokevirtual 262, 3) := by decide +kernel
theorem dX9_sum_69 : decode mX9_sum.2.1 69 = .ok (.goto 12, 3) := by decide +kernel
theorem dX9_sum_72 : decode mX9_sum.2.1 72 = .ok (.aload_n 0, 1) := by decide +kernel
theorem dX9_sum_73 : decode mX9_sum.2.1 73 = .ok (.getfield 75, 3) := by decide +kernel
theorem dX9_sum_76 : decode mX9_sum.2.1 76 = .ok (.getfield 265, 3) := by decide +kernel
theorem dX9_sum_79 : decode mX9_sum.2.1 79 = .ok (.iload_n 2, 1) := by decide +kernel
theorem dX9_sum_80 : decode mX9_sum.2.1 80 = .ok (.iaload, 1) := by decide +kernel
theorem dX9_sum_81 : decode mX9_sum.2.1 81 = .ok (.ireturn, 1) := by decide +kernel
theorem dX9_gauge_0 : decode mX9_gauge.2.1 0 = .ok (.iload_n 1, 1) := by decide +kernel
theorem dX9_gauge_1 : decode mX9_gauge.2.1 1 = .ok (.ifCond .lt 25, 3) := by decide +kernel
theorem dX9_gauge_4 : decode mX9_gauge.2.1 4 = .ok (.iload_n 1, 1) := by decide +kernel
theorem dX9_gauge_5 : decode mX9_gauge.2.1 5 = .ok (.iconst 4, 1) := by decide +kernel
theorem dX9_gauge_6 : decode mX9_gauge.2.1 6 = .ok (.if_icmp .gt 20, 3) := by decide +kernel
theorem dX9_gauge_9 : decode mX9_gauge.2.1 9 = .ok (.iload_n 2, 1) := by decide +kernel
theorem dX9_gauge_10 : decode mX9_gauge.2.1 10 = .ok (.ifCond .lt 16, 3) := by decide +kernel
theorem dX9_gauge_13 : decode mX9_gauge.2.1 13 = .ok (.iload_n 2, 1) := by decide +kernel
theorem dX9_gauge_14 : decode mX9_gauge.2.1 14 = .ok (.iconst 1, 1) := by decide +kernel
theorem dX9_gauge_15 : decode mX9_gauge.2.1 15 = .ok (.aload_n 0, 1) := by decide +kernel
theorem dX9_gauge_16 : decode mX9_gauge.2.1 16 = .ok (.getfield 12, 3) := by decide +kernel
theorem dX9_gauge_19 : decode mX9_gauge.2.1 19 = .ok (.getfield 87, 3) := by decide +kernel
theorem dX9_gauge_22 : decode mX9_gauge.2.1 22 = .ok (.ishl, 1) := by decide +kernel
theorem dX9_gauge_23 : decode mX9_gauge.2.1 23 = .ok (.if_icmp .lt 7, 3) := by decide +kernel
theorem dX9_gauge_26 : decode mX9_gauge.2.1 26 = .ok (.ldc2_w 228, 3) := by decide +kernel
theorem dX9_gauge_29 : decode mX9_gauge.2.1 29 = .ok (.lreturn, 1) := by decide +kernel
theorem dX9_gauge_30 : decode mX9_gauge.2.1 30 = .ok (.iload_n 1, 1) := by decide +kernel
theorem dX9_gauge_31 : decode mX9_gauge.2.1 31 = .ok (.tableswitch 63 0 3 #[29, 36, 43, 56], 29) := by decide +kernel
theorem dX9_gauge_60 : decode mX9_gauge.2.1 60 = .ok (.aload_n 0, 1) := by decide +kernel
theorem dX9_gauge_61 : decode mX9_gauge.2.1 61 = .ok (.iload_n 2, 1) := by decide +kernel
theorem dX9_gauge_62 : decode mX9_gauge.2.1 62 = .ok (.invokevirtual 266, 3) := by decide +kernel
theorem dX9_gauge_65 : decode mX9_gauge.2.1 65 = .ok (.i2l, 1) := by decide +kernel
theorem dX9_gauge_66 : decode mX9_gauge.2.1 66 = .ok (.lreturn, 1) := by decide +kernel
theorem dX9_gauge_67 : decode mX9_gauge.2.1 67 = .ok (.aload_n 0, 1) := by decide +kernel
theorem dX9_gauge_68 : decode mX9_gauge.2.1 68 = .ok (.iload_n 2, 1) := by decide +kernel
theorem dX9_gauge_69 : decode mX9_gauge.2.1 69 = .ok (.invokevirtual 269, 3) := by decide +kernel
theorem dX9_gauge_72 : decode mX9_gauge.2.1 72 = .ok (.i2l, 1) := by decide +kernel
theorem dX9_gauge_73 : decode mX9_gauge.2.1 73 = .ok (.lreturn, 1) := by decide +kernel
theorem dX9_gauge_74 : decode mX9_gauge.2.1 74 = .ok (.aload_n 0, 1) := by decide +kernel
theorem dX9_gauge_75 : decode mX9_gauge.2.1 75 = .ok (.iload_n 2, 1) := by decide +kernel
theorem dX9_gauge_76 : decode mX9_gauge.2.1 76 = .ok (.invokevirtual 272, 3) := by decide +kernel
theorem dX9_gauge_79 : decode mX9_gauge.2.1 79 = .ok (.aload_n 0, 1) := by decide +kernel
theorem dX9_gauge_80 : decode mX9_gauge.2.1 80 = .ok (.iload_n 2, 1) := by decide +kernel
theorem dX9_gauge_81 : decode mX9_gauge.2.1 81 = .ok (.invokevirtual 269, 3) := by decide +kernel
theorem dX9_gauge_84 : decode mX9_gauge.2.1 84 = .ok (.isub, 1) := by decide +kernel
theorem dX9_gauge_85 : decode mX9_gauge.2.1 85 = .ok (.i2l, 1) := by decide +kernel
theorem dX9_gauge_86 : decode mX9_gauge.2.1 86 = .ok (.lreturn, 1) := by decide +kernel
theorem dX9_gauge_87 : decode mX9_gauge.2.1 87 = .ok (.aload_n 0, 1) := by decide +kernel
theorem dX9_gauge_88 : decode mX9_gauge.2.1 88 = .ok (.iload_n 2, 1) := by decide +kernel
theorem dX9_gauge_89 : decode mX9_gauge.2.1 89 = .ok (.invokevirtual 275, 3) := by decide +kernel
theorem dX9_gauge_92 : decode mX9_gauge.2.1 92 = .ok (.i2l, 1) := by decide +kernel
theorem dX9_gauge_93 : decode mX9_gauge.2.1 93 = .ok (.lreturn, 1) := by decide +kernel
theorem dX9_gauge_94 : decode mX9_gauge.2.1 94 = .ok (.aload_n 0, 1) := by decide +kernel
theorem dX9_gauge_95 : decode mX9_gauge.2.1 95 = .ok (.iload_n 2, 1) := by decide +kernel
theorem dX9_gauge_96 : decode mX9_gauge.2.1 96 = .ok (.invokevirtual 266, 3) := by decide +kernel
theorem dX9_gauge_99 : decode mX9_gauge.2.1 99 = .ok (.aload_n 0, 1) := by decide +kernel
theorem dX9_gauge_100 : decode mX9_gauge.2.1 100 = .ok (.iload_n 2, 1) := by decide +kernel
theorem dX9_gauge_101 : decode mX9_gauge.2.1 101 = .ok (.invokevirtual 275, 3) := by decide +kernel
theorem dX9_gauge_104 : decode mX9_gauge.2.1 104 = .ok (.isub, 1) := by decide +kernel
theorem dX9_gauge_105 : decode mX9_gauge.2.1 105 = .ok (.i2l, 1) := by decide +kernel
theorem dX9_gauge_106 : decode mX9_gauge.2.1 106 = .ok (.lreturn, 1) := by decide +kernel
theorem dX9_within_0 : decode mX9_within.2.1 0 = .ok (.iconst 0, 1) := by decide +kernel
theorem dX9_within_1 : decode mX9_within.2.1 1 = .ok (.istore_n 2, 1) := by decide +kernel
theorem dX9_within_2 : decode mX9_within.2.1 2 = .ok (.iconst 0, 1) := by decide +kernel
theorem dX9_within_3 : decode mX9_within.2.1 3 = .ok (.istore_n 3, 1) := by decide +kernel
theorem dX9_within_4 : decode mX9_within.2.1 4 = .ok (.iload_n 3, 1) := by decide +kernel
theorem dX9_within_5 : decode mX9_within.2.1 5 = .ok (.aload_n 0, 1) := by decide +kernel
theorem dX9_within_6 : decode mX9_within.2.1 6 = .ok (.getfield 12, 3) := by decide +kernel
theorem dX9_within_9 : decode mX9_within.2.1 9 = .ok (.getfield 87, 3) := by decide +kernel
theorem dX9_within_12 : decode mX9_within.2.1 12 = .ok (.if_icmp .ge 56, 3) := by decide +kernel
theorem dX9_within_15 : decode mX9_within.2.1 15 = .ok (.iload_n 3, 1) := by decide +kernel
theorem dX9_within_16 : decode mX9_within.2.1 16 = .ok (.iconst 1, 1) := by decide +kernel
theorem dX9_within_17 : decode mX9_within.2.1 17 = .ok (.iadd, 1) := by decide +kernel
theorem dX9_within_18 : decode mX9_within.2.1 18 = .ok (.istore 4, 2) := by decide +kernel
theorem dX9_within_20 : decode mX9_within.2.1 20 = .ok (.iload 4, 2) := by decide +kernel
theorem dX9_within_22 : decode mX9_within.2.1 22 = .ok (.aload_n 0, 1) := by decide +kernel
theorem dX9_within_23 : decode mX9_within.2.1 23 = .ok (.getfield 12, 3) := by decide +kernel
theorem dX9_within_26 : decode mX9_within.2.1 26 = .ok (.getfield 87, 3) := by decide +kernel
theorem dX9_within_29 : decode mX9_within.2.1 29 = .ok (.if_icmp .ge 33, 3) := by decide +kernel
theorem dX9_within_32 : decode mX9_within.2.1 32 = .ok (.iload_n 2, 1) := by decide +kernel
theorem dX9_within_33 : decode mX9_within.2.1 33 = .ok (.iload_n 1, 1) := by decide +kernel
theorem dX9_within_34 : decode mX9_within.2.1 34 = .ok (.iload_n 3, 1) := by decide +kernel
theorem dX9_within_35 : decode mX9_within.2.1 35 = .ok (.ishr, 1) := by decide +kernel
theorem dX9_within_36 : decode mX9_within.2.1 36 = .ok (.iload_n 1, 1) := by decide +kernel
theorem dX9_within_37 : decode mX9_within.2.1 37 = .ok (.iload 4, 2) := by decide +kernel
theorem dX9_within_39 : decode mX9_within.2.1 39 = .ok (.ishr, 1) := by decide +kernel
theorem dX9_within_40 : decode mX9_within.2.1 40 = .ok (.iand, 1) := by decide +kernel
theorem dX9_within_41 : decode mX9_within.2.1 41 = .ok (.iconst 1, 1) := by decide +kernel
theorem dX9_within_42 : decode mX9_within.2.1 42 = .ok (.iand, 1) := by decide +kernel
theorem dX9_within_43 : decode mX9_within.2.1 43 = .ok (.aload_n 0, 1) := by decide +kernel
theorem dX9_within_44 : decode mX9_within.2.1 44 = .ok (.getfield 12, 3) := by decide +kernel
theorem dX9_within_47 : decode mX9_within.2.1 47 = .ok (.iload_n 3, 1) := by decide +kernel
theorem dX9_within_48 : decode mX9_within.2.1 48 = .ok (.iload 4, 2) := by decide +kernel
theorem dX9_within_50 : decode mX9_within.2.1 50 = .ok (.invokevirtual 105, 3) := by decide +kernel
theorem dX9_within_53 : decode mX9_within.2.1 53 = .ok (.imul, 1) := by decide +kernel
theorem dX9_within_54 : decode mX9_within.2.1 54 = .ok (.iadd, 1) := by decide +kernel
theorem dX9_within_55 : decode mX9_within.2.1 55 = .ok (.istore_n 2, 1) := by decide +kernel
theorem dX9_within_56 : decode mX9_within.2.1 56 = .ok (.iinc 4 1, 3) := by decide +kernel
theorem dX9_within_59 : decode mX9_within.2.1 59 = .ok (.goto (-39), 3) := by decide +kernel
theorem dX9_within_62 : decode mX9_within.2.1 62 = .ok (.iinc 3 1, 3) := by decide +kernel
theorem dX9_within_65 : decode mX9_within.2.1 65 = .ok (.goto (-61), 3) := by decide +kernel
theorem dX9_within_68 : decode mX9_within.2.1 68 = .ok (.iload_n 2, 1) := by decide +kernel
theorem dX9_within_69 : decode mX9_within.2.1 69 = .ok (.ireturn, 1) := by decide +kernel
theorem dX9_doubled_0 : decode mX9_doubled.2.1 0 = .ok (.iconst 2, 1) := by decide +kernel
theorem dX9_doubled_1 : decode mX9_doubled.2.1 1 = .ok (.aload_n 0, 1) := by decide +kernel
theorem dX9_doubled_2 : decode mX9_doubled.2.1 2 = .ok (.iload_n 1, 1) := by decide +kernel
theorem dX9_doubled_3 : decode mX9_doubled.2.1 3 = .ok (.invokevirtual 266, 3) := by decide +kernel
theorem dX9_doubled_6 : decode mX9_doubled.2.1 6 = .ok (.imul, 1) := by decide +kernel
theorem dX9_doubled_7 : decode mX9_doubled.2.1 7 = .ok (.ireturn, 1) := by decide +kernel
theorem dX9_across_0 : decode mX9_across.2.1 0 = .ok (.iconst 0, 1) := by decide +kernel
theorem dX9_across_1 : decode mX9_across.2.1 1 = .ok (.istore_n 2, 1) := by decide +kernel
theorem dX9_across_2 : decode mX9_across.2.1 2 = .ok (.iconst 0, 1) := by decide +kernel
theorem dX9_across_3 : decode mX9_across.2.1 3 = .ok (.istore_n 3, 1) := by decide +kernel
theorem dX9_across_4 : decode mX9_across.2.1 4 = .ok (.iload_n 3, 1) := by decide +kernel
theorem dX9_across_5 : decode mX9_across.2.1 5 = .ok (.aload_n 0, 1) := by decide +kernel
theorem dX9_across_6 : decode mX9_across.2.1 6 = .ok (.getfield 12, 3) := by decide +kernel
theorem dX9_across_9 : decode mX9_across.2.1 9 = .ok (.getfield 87, 3) := by decide +kernel
theorem dX9_across_12 : decode mX9_across.2.1 12 = .ok (.if_icmp .ge 56, 3) := by decide +kernel
theorem dX9_across_15 : decode mX9_across.2.1 15 = .ok (.iload_n 3, 1) := by decide +kernel
theorem dX9_across_16 : decode mX9_across.2.1 16 = .ok (.iconst 1, 1) := by decide +kernel
theorem dX9_across_17 : decode mX9_across.2.1 17 = .ok (.iadd, 1) := by decide +kernel
theorem dX9_across_18 : decode mX9_across.2.1 18 = .ok (.istore 4, 2) := by decide +kernel
theorem dX9_across_20 : decode mX9_across.2.1 20 = .ok (.iload 4, 2) := by decide +kernel
theorem dX9_across_22 : decode mX9_across.2.1 22 = .ok (.aload_n 0, 1) := by decide +kernel
theorem dX9_across_23 : decode mX9_across.2.1 23 = .ok (.getfield 12, 3) := by decide +kernel
theorem dX9_across_26 : decode mX9_across.2.1 26 = .ok (.getfield 87, 3) := by decide +kernel
theorem dX9_across_29 : decode mX9_across.2.1 29 = .ok (.if_icmp .ge 33, 3) := by decide +kernel
theorem dX9_across_32 : decode mX9_across.2.1 32 = .ok (.iload_n 2, 1) := by decide +kernel
theorem dX9_across_33 : decode mX9_across.2.1 33 = .ok (.iload_n 1, 1) := by decide +kernel
theorem dX9_across_34 : decode mX9_across.2.1 34 = .ok (.iload_n 3, 1) := by decide +kernel
theorem dX9_across_35 : decode mX9_across.2.1 35 = .ok (.ishr, 1) := by decide +kernel
theorem dX9_across_36 : decode mX9_across.2.1 36 = .ok (.iload_n 1, 1) := by decide +kernel
theorem dX9_across_37 : decode mX9_across.2.1 37 = .ok (.iload 4, 2) := by decide +kernel
theorem dX9_across_39 : decode mX9_across.2.1 39 = .ok (.ishr, 1) := by decide +kernel
theorem dX9_across_40 : decode mX9_across.2.1 40 = .ok (.ixor, 1) := by decide +kernel
theorem dX9_across_41 : decode mX9_across.2.1 41 = .ok (.iconst 1, 1) := by decide +kernel
theorem dX9_across_42 : decode mX9_across.2.1 42 = .ok (.iand, 1) := by decide +kernel
theorem dX9_across_43 : decode mX9_across.2.1 43 = .ok (.aload_n 0, 1) := by decide +kernel
theorem dX9_across_44 : decode mX9_across.2.1 44 = .ok (.getfield 12, 3) := by decide +kernel
theorem dX9_across_47 : decode mX9_across.2.1 47 = .ok (.iload_n 3, 1) := by decide +kernel
theorem dX9_across_48 : decode mX9_across.2.1 48 = .ok (.iload 4, 2) := by decide +kernel
theorem dX9_across_50 : decode mX9_across.2.1 50 = .ok (.invokevirtual 105, 3) := by decide +kernel
theorem dX9_across_53 : decode mX9_across.2.1 53 = .ok (.imul, 1) := by decide +kernel
theorem dX9_across_54 : decode mX9_across.2.1 54 = .ok (.iadd, 1) := by decide +kernel
theorem dX9_across_55 : decode mX9_across.2.1 55 = .ok (.istore_n 2, 1) := by decide +kernel
theorem dX9_across_56 : decode mX9_across.2.1 56 = .ok (.iinc 4 1, 3) := by decide +kernel
theorem dX9_across_59 : decode mX9_across.2.1 59 = .ok (.goto (-39), 3) := by decide +kernel
theorem dX9_across_62 : decode mX9_across.2.1 62 = .ok (.iinc 3 1, 3) := by decide +kernel
theorem dX9_across_65 : decode mX9_across.2.1 65 = .ok (.goto (-61), 3) := by decide +kernel
theorem dX9_across_68 : decode mX9_across.2.1 68 = .ok (.iload_n 2, 1) := by decide +kernel
theorem dX9_across_69 : decode mX9_across.2.1 69 = .ok (.ireturn, 1) := by decide +kernel
theorem dX9_longest_0 : decode mX9_longest.2.1 0 = .ok (.iconst 0, 1) := by decide +kernel
theorem dX9_longest_1 : decode mX9_longest.2.1 1 = .ok (.istore_n 2, 1) := by decide +kernel
theorem dX9_longest_2 : decode mX9_longest.2.1 2 = .ok (.iconst 0, 1) := by decide +kernel
theorem dX9_longest_3 : decode mX9_longest.2.1 3 = .ok (.istore_n 3, 1) := by decide +kernel
theorem dX9_longest_4 : decode mX9_longest.2.1 4 = .ok (.iload_n 3, 1) := by decide +kernel
theorem dX9_longest_5 : decode mX9_longest.2.1 5 = .ok (.aload_n 0, 1) := by decide +kernel
theorem dX9_longest_6 : decode mX9_longest.2.1 6 = .ok (.getfield 12, 3) := by decide +kernel
theorem dX9_longest_9 : decode mX9_longest.2.1 9 = .ok (.getfield 87, 3) := by decide +kernel
theorem dX9_longest_12 : decode mX9_longest.2.1 12 = .ok (.if_icmp .ge 58, 3) := by decide +kernel
theorem dX9_longest_15 : decode mX9_longest.2.1 15 = .ok (.iload_n 3, 1) := by decide +kernel
theorem dX9_longest_16 : decode mX9_longest.2.1 16 = .ok (.iconst 1, 1) := by decide +kernel
theorem dX9_longest_17 : decode mX9_longest.2.1 17 = .ok (.iadd, 1) := by decide +kernel
theorem dX9_longest_18 : decode mX9_longest.2.1 18 = .ok (.istore 4, 2) := by decide +kernel
theorem dX9_longest_20 : decode mX9_longest.2.1 20 = .ok (.iload 4, 2) := by decide +kernel
theorem dX9_longest_22 : decode mX9_longest.2.1 22 = .ok (.aload_n 0, 1) := by decide +kernel
theorem dX9_longest_23 : decode mX9_longest.2.1 23 = .ok (.getfield 12, 3) := by decide +kernel
theorem dX9_longest_26 : decode mX9_longest.2.1 26 = .ok (.getfield 87, 3) := by decide +kernel
theorem dX9_longest_29 : decode mX9_longest.2.1 29 = .ok (.if_icmp .ge 35, 3) := by decide +kernel
theorem dX9_longest_32 : decode mX9_longest.2.1 32 = .ok (.iload_n 2, 1) := by decide +kernel
theorem dX9_longest_33 : decode mX9_longest.2.1 33 = .ok (.iload_n 1, 1) := by decide +kernel
theorem dX9_longest_34 : decode mX9_longest.2.1 34 = .ok (.iload_n 3, 1) := by decide +kernel
theorem dX9_longest_35 : decode mX9_longest.2.1 35 = .ok (.ishr, 1) := by decide +kernel
theorem dX9_longest_36 : decode mX9_longest.2.1 36 = .ok (.iload_n 1, 1) := by decide +kernel
theorem dX9_longest_37 : decode mX9_longest.2.1 37 = .ok (.iload 4, 2) := by decide +kernel
theorem dX9_longest_39 : decode mX9_longest.2.1 39 = .ok (.ishr, 1) := by decide +kernel
theorem dX9_longest_40 : decode mX9_longest.2.1 40 = .ok (.iand, 1) := by decide +kernel
theorem dX9_longest_41 : decode mX9_longest.2.1 41 = .ok (.iconst 1, 1) := by decide +kernel
theorem dX9_longest_42 : decode mX9_longest.2.1 42 = .ok (.iand, 1) := by decide +kernel
theorem dX9_longest_43 : decode mX9_longest.2.1 43 = .ok (.aload_n 0, 1) := by decide +kernel
theorem dX9_longest_44 : decode mX9_longest.2.1 44 = .ok (.getfield 12, 3) := by decide +kernel
theorem dX9_longest_47 : decode mX9_longest.2.1 47 = .ok (.iload_n 3, 1) := by decide +kernel
theorem dX9_longest_48 : decode mX9_longest.2.1 48 = .ok (.iload 4, 2) := by decide +kernel
theorem dX9_longest_50 : decode mX9_longest.2.1 50 = .ok (.invokevirtual 105, 3) := by decide +kernel
theorem dX9_longest_53 : decode mX9_longest.2.1 53 = .ok (.imul, 1) := by decide +kernel
theorem dX9_longest_54 : decode mX9_longest.2.1 54 = .ok (.invokestatic 278, 3) := by decide +kernel
theorem dX9_longest_57 : decode mX9_longest.2.1 57 = .ok (.istore_n 2, 1) := by decide +kernel
theorem dX9_longest_58 : decode mX9_longest.2.1 58 = .ok (.iinc 4 1, 3) := by decide +kernel
theorem dX9_longest_61 : decode mX9_longest.2.1 61 = .ok (.goto (-41), 3) := by decide +kernel
theorem dX9_longest_64 : decode mX9_longest.2.1 64 = .ok (.iinc 3 1, 3) := by decide +kernel
theorem dX9_longest_67 : decode mX9_longest.2.1 67 = .ok (.goto (-63), 3) := by decide +kernel
theorem dX9_longest_70 : decode mX9_longest.2.1 70 = .ok (.iload_n 2, 1) := by decide +kernel
theorem dX9_longest_71 : decode mX9_longest.2.1 71 = .ok (.ireturn, 1) := by decide +kernel
theorem dX9_feed_0 : decode mX9_feed.2.1 0 = .ok (.iload_n 2, 1) := by decide +kernel
theorem dX9_feed_1 : decode mX9_feed.2.1 1 = .ok (.iconst 1, 1) := by decide +kernel
theorem dX9_feed_2 : decode mX9_feed.2.1 2 = .ok (.if_icmp .lt 8, 3) := by decide +kernel
theorem dX9_feed_5 : decode mX9_feed.2.1 5 = .ok (.iload_n 2, 1) := by decide +kernel
theorem dX9_feed_6 : decode mX9_feed.2.1 6 = .ok (.iconst 4, 1) := by decide +kernel
theorem dX9_feed_7 : decode mX9_feed.2.1 7 = .ok (.if_icmp .le 5, 3) := by decide +kernel
theorem dX9_feed_10 : decode mX9_feed.2.1 10 = .ok (.iconst (-1), 1) := by decide +kernel
theorem dX9_feed_11 : decode mX9_feed.2.1 11 = .ok (.ireturn, 1) := by decide +kernel
theorem dX9_feed_12 : decode mX9_feed.2.1 12 = .ok (.aload_n 0, 1) := by decide +kernel
theorem dX9_feed_13 : decode mX9_feed.2.1 13 = .ok (.getfield 54, 3) := by decide +kernel
theorem dX9_feed_16 : decode mX9_feed.2.1 16 = .ok (.getfield 283, 3) := by decide +kernel
theorem dX9_feed_19 : decode mX9_feed.2.1 19 = .ok (.iload_n 2, 1) := by decide +kernel
theorem dX9_feed_20 : decode mX9_feed.2.1 20 = .ok (.iadd, 1) := by decide +kernel
theorem dX9_feed_21 : decode mX9_feed.2.1 21 = .ok (.bipush 80, 2) := by decide +kernel
theorem dX9_feed_23 : decode mX9_feed.2.1 23 = .ok (.if_icmp .le 6, 3) := by decide +kernel
theorem dX9_feed_26 : decode mX9_feed.2.1 26 = .ok (.bipush (-3), 2) := by decide +kernel
theorem dX9_feed_28 : decode mX9_feed.2.1 28 = .ok (.ireturn, 1) := by decide +kernel
theorem dX9_feed_29 : decode mX9_feed.2.1 29 = .ok (.iload_n 2, 1) := by decide +kernel
theorem dX9_feed_30 : decode mX9_feed.2.1 30 = .ok (.iconst 1, 1) := by decide +kernel
theorem dX9_feed_31 : decode mX9_feed.2.1 31 = .ok (.isub, 1) := by decide +kernel
theorem dX9_feed_32 : decode mX9_feed.2.1 32 = .ok (.istore_n 3, 1) := by decide +kernel
theorem dX9_feed_33 : decode mX9_feed.2.1 33 = .ok (.iload_n 3, 1) := by decide +kernel
theorem dX9_feed_34 : decode mX9_feed.2.1 34 = .ok (.ifCond .lt 26, 3) := by decide +kernel
theorem dX9_feed_37 : decode mX9_feed.2.1 37 = .ok (.aload_n 0, 1) := by decide +kernel
theorem dX9_feed_38 : decode mX9_feed.2.1 38 = .ok (.getfield 54, 3) := by decide +kernel
theorem dX9_feed_41 : decode mX9_feed.2.1 41 = .ok (.iload_n 1, 1) := by decide +kernel
theorem dX9_feed_42 : decode mX9_feed.2.1 42 = .ok (.bipush 8, 2) := by decide +kernel
theorem dX9_feed_44 : decode mX9_feed.2.1 44 = .ok (.iload_n 3, 1) := by decide +kernel
theorem dX9_feed_45 : decode mX9_feed.2.1 45 = .ok (.imul, 1) := by decide +kernel
theorem dX9_feed_46 : decode mX9_feed.2.1 46 = .ok (.ishr, 1) := by decide +kernel
theorem dX9_feed_47 : decode mX9_feed.2.1 47 = .ok (.sipush 255, 3) := by decide +kernel
theorem dX9_feed_50 : decode mX9_feed.2.1 50 = .ok (.iand, 1) := by decide +kernel
theorem dX9_feed_51 : decode mX9_feed.2.1 51 = .ok (.invokevirtual 284, 3) := by decide +kernel
theorem dX9_feed_54 : decode mX9_feed.2.1 54 = .ok (.iinc 3 (-1), 3) := by decide +kernel
theorem dX9_feed_57 : decode mX9_feed.2.1 57 = .ok (.goto (-24), 3) := by decide +kernel
theorem dX9_feed_60 : decode mX9_feed.2.1 60 = .ok (.aload_n 0, 1) := by decide +kernel
theorem dX9_feed_61 : decode mX9_feed.2.1 61 = .ok (.getfield 54, 3) := by decide +kernel
theorem dX9_feed_64 : decode mX9_feed.2.1 64 = .ok (.getfield 283, 3) := by decide +kernel
theorem dX9_feed_67 : decode mX9_feed.2.1 67 = .ok (.ireturn, 1) := by decide +kernel
theorem dX9_wipe_0 : decode mX9_wipe.2.1 0 = .ok (.aload_n 0, 1) := by decide +kernel
theorem dX9_wipe_1 : decode mX9_wipe.2.1 1 = .ok (.getfield 54, 3) := by decide +kernel
theorem dX9_wipe_4 : decode mX9_wipe.2.1 4 = .ok (.getfield 283, 3) := by decide +kernel
theorem dX9_wipe_7 : decode mX9_wipe.2.1 7 = .ok (.istore_n 1, 1) := by decide +kernel
theorem dX9_wipe_8 : decode mX9_wipe.2.1 8 = .ok (.aload_n 0, 1) := by decide +kernel
theorem dX9_wipe_9 : decode mX9_wipe.2.1 9 = .ok (.getfield 54, 3) := by decide +kernel
theorem dX9_wipe_12 : decode mX9_wipe.2.1 12 = .ok (.iconst 0, 1) := by decide +kernel
theorem dX9_wipe_13 : decode mX9_wipe.2.1 13 = .ok (.putfield 283, 3) := by decide +kernel
theorem dX9_wipe_16 : decode mX9_wipe.2.1 16 = .ok (.iload_n 1, 1) := by decide +kernel
theorem dX9_wipe_17 : decode mX9_wipe.2.1 17 = .ok (.ireturn, 1) := by decide +kernel
theorem dX9_read_0 : decode mX9_read.2.1 0 = .ok (.aload_n 0, 1) := by decide +kernel
theorem dX9_read_1 : decode mX9_read.2.1 1 = .ok (.getfield 54, 3) := by decide +kernel
theorem dX9_read_4 : decode mX9_read.2.1 4 = .ok (.aload_n 0, 1) := by decide +kernel
theorem dX9_read_5 : decode mX9_read.2.1 5 = .ok (.getfield 18, 3) := by decide +kernel
theorem dX9_read_8 : decode mX9_read.2.1 8 = .ok (.invokevirtual 287, 3) := by decide +kernel
theorem dX9_read_11 : decode mX9_read.2.1 11 = .ok (.istore_n 1, 1) := by decide +kernel
theorem dX9_read_12 : decode mX9_read.2.1 12 = .ok (.aload_n 0, 1) := by decide +kernel
theorem dX9_read_13 : decode mX9_read.2.1 13 = .ok (.getfield 54, 3) := by decide +kernel
theorem dX9_read_16 : decode mX9_read.2.1 16 = .ok (.iconst 0, 1) := by decide +kernel
theorem dX9_read_17 : decode mX9_read.2.1 17 = .ok (.putfield 283, 3) := by decide +kernel
theorem dX9_read_20 : decode mX9_read.2.1 20 = .ok (.iload_n 1, 1) := by decide +kernel
theorem dX9_read_21 : decode mX9_read.2.1 21 = .ok (.ifCond .lt 9, 3) := by decide +kernel
theorem dX9_read_24 : decode mX9_read.2.1 24 = .ok (.sipush (-1000), 3) := by decide +kernel
theorem dX9_read_27 : decode mX9_read.2.1 27 = .ok (.iload_n 1, 1) := by decide +kernel
theorem dX9_read_28 : decode mX9_read.2.1 28 = .ok (.isub, 1) := by decide +kernel
theorem dX9_read_29 : decode mX9_read.2.1 29 = .ok (.ireturn, 1) := by decide +kernel
theorem dX9_read_30 : decode mX9_read.2.1 30 = .ok (.aload_n 0, 1) := by decide +kernel
theorem dX9_read_31 : decode mX9_read.2.1 31 = .ok (.invokevirtual 120, 3) := by decide +kernel
theorem dX9_read_34 : decode mX9_read.2.1 34 = .ok (.pop, 1) := by decide +kernel
theorem dX9_read_35 : decode mX9_read.2.1 35 = .ok (.aload_n 0, 1) := by decide +kernel
theorem dX9_read_36 : decode mX9_read.2.1 36 = .ok (.getfield 12, 3) := by decide +kernel
theorem dX9_read_39 : decode mX9_read.2.1 39 = .ok (.getfield 87, 3) := by decide +kernel
theorem dX9_read_42 : decode mX9_read.2.1 42 = .ok (.ireturn, 1) := by decide +kernel
theorem dX9_spell_0 : decode mX9_spell.2.1 0 = .ok (.iload_n 1, 1) := by decide +kernel
theorem dX9_spell_1 : decode mX9_spell.2.1 1 = .ok (.iconst (-1), 1) := by decide +kernel
theorem dX9_spell_2 : decode mX9_spell.2.1 2 = .ok (.if_icmp .ge 5, 3) := by decide +kernel
theorem dX9_spell_5 : decode mX9_spell.2.1 5 = .ok (.iconst (-1), 1) := by decide +kernel
theorem dX9_spell_6 : decode mX9_spell.2.1 6 = .ok (.ireturn, 1) := by decide +kernel
theorem dX9_spell_7 : decode mX9_spell.2.1 7 = .ok (.aload_n 0, 1) := by decide +kernel
theorem dX9_spell_8 : decode mX9_spell.2.1 8 = .ok (.getfield 61, 3) := by decide +kernel
theorem dX9_spell_11 : decode mX9_spell.2.1 11 = .ok (.aload_n 0, 1) := by decide +kernel
theorem dX9_spell_12 : decode mX9_spell.2.1 12 = .ok (.getfield 12, 3) := by decide +kernel
theorem dX9_spell_15 : decode mX9_spell.2.1 15 = .ok (.invokevirtual 290, 3) := by decide +kernel
theorem dX9_spell_18 : decode mX9_spell.2.1 18 = .ok (.iload_n 1, 1) := by decide +kernel
theorem dX9_spell_19 : decode mX9_spell.2.1 19 = .ok (.iconst (-1), 1) := by decide +kernel
theorem dX9_spell_20 : decode mX9_spell.2.1 20 = .ok (.if_icmp .ne 11, 3) := by decide +kernel
theorem dX9_spell_23 : decode mX9_spell.2.1 23 = .ok (.aload_n 0, 1) := by decide +kernel
theorem dX9_spell_24 : decode mX9_spell.2.1 24 = .ok (.getfield 61, 3) := by decide +kernel
theorem dX9_spell_27 : decode mX9_spell.2.1 27 = .ok (.getfield 293, 3) := by decide +kernel
theorem dX9_spell_30 : decode mX9_spell.2.1 30 = .ok (.ireturn, 1) := by decide +kernel
theorem dX9_spell_31 : decode mX9_spell.2.1 31 = .ok (.iload_n 1, 1) := by decide +kernel
theorem dX9_spell_32 : decode mX9_spell.2.1 32 = .ok (.aload_n 0, 1) := by decide +kernel
theorem dX9_spell_33 : decode mX9_spell.2.1 33 = .ok (.getfield 61, 3) := by decide +kernel
theorem dX9_spell_36 : decode mX9_spell.2.1 36 = .ok (.getfield 293, 3) := by decide +kernel
theorem dX9_spell_39 : decode mX9_spell.2.1 39 = .ok (.if_icmp .ge 15, 3) := by decide +kernel
theorem dX9_spell_42 : decode mX9_spell.2.1 42 = .ok (.aload_n 0, 1) := by decide +kernel
theorem dX9_spell_43 : decode mX9_spell.2.1 43 = .ok (.getfield 61, 3) := by decide +kernel
theorem dX9_spell_46 : decode mX9_spell.2.1 46 = .ok (.getfield 294, 3) := by decide +kernel
theorem dX9_spell_49 : decode mX9_spell.2.1 49 = .ok (.iload_n 1, 1) := by decide +kernel
theorem dX9_spell_50 : decode mX9_spell.2.1 50 = .ok (.iaload, 1) := by decide +kernel
theorem dX9_spell_51 : decode mX9_spell.2.1 51 = .ok (.goto 5, 3) := by decide +kernel
theorem dX9_spell_54 : decode mX9_spell.2.1 54 = .ok (.bipush (-2), 2) := by decide +kernel
theorem dX9_spell_56 : decode mX9_spell.2.1 56 = .ok (.ireturn, 1) := by decide +kernel
theorem dX9_hold_0 : decode mX9_hold.2.1 0 = .ok (.iload_n 1, 1) := by decide +kernel
theorem dX9_hold_1 : decode mX9_hold.2.1 1 = .ok (.invokestatic 206, 3) := by decide +kernel
theorem dX9_hold_4 : decode mX9_hold.2.1 4 = .ok (.ifCond .ne 5, 3) := by decide +kernel
theorem dX9_hold_7 : decode mX9_hold.2.1 7 = .ok (.iconst (-1), 1) := by decide +kernel
theorem dX9_hold_8 : decode mX9_hold.2.1 8 = .ok (.ireturn, 1) := by decide +kernel
theorem dX9_hold_9 : decode mX9_hold.2.1 9 = .ok (.aload_n 0, 1) := by decide +kernel
theorem dX9_hold_10 : decode mX9_hold.2.1 10 = .ok (.getfield 47, 3) := by decide +kernel
theorem dX9_hold_13 : decode mX9_hold.2.1 13 = .ok (.iload_n 1, 1) := by decide +kernel
theorem dX9_hold_14 : decode mX9_hold.2.1 14 = .ok (.aaload, 1) := by decide +kernel
theorem dX9_hold_15 : decode mX9_hold.2.1 15 = .ok (.iconst 1, 1) := by decide +kernel
theorem dX9_hold_16 : decode mX9_hold.2.1 16 = .ok (.aload_n 0, 1) := by decide +kernel
theorem dX9_hold_17 : decode mX9_hold.2.1 17 = .ok (.getfield 12, 3) := by decide +kernel
theorem dX9_hold_20 : decode mX9_hold.2.1 20 = .ok (.getfield 87, 3) := by decide +kernel
theorem dX9_hold_23 : decode mX9_hold.2.1 23 = .ok (.aload_n 0, 1) := by decide +kernel
theorem dX9_hold_24 : decode mX9_hold.2.1 24 = .ok (.getfield 12, 3) := by decide +kernel
theorem dX9_hold_27 : decode mX9_hold.2.1 27 = .ok (.invokevirtual 132, 3) := by decide +kernel
theorem dX9_hold_30 : decode mX9_hold.2.1 30 = .ok (.aload_n 0, 1) := by decide +kernel
theorem dX9_hold_31 : decode mX9_hold.2.1 31 = .ok (.getfield 12, 3) := by decide +kernel
theorem dX9_hold_34 : decode mX9_hold.2.1 34 = .ok (.getfield 113, 3) := by decide +kernel
theorem dX9_hold_37 : decode mX9_hold.2.1 37 = .ok (.invokevirtual 209, 3) := by decide +kernel
theorem dX9_hold_40 : decode mX9_hold.2.1 40 = .ok (.aload_n 0, 1) := by decide +kernel
theorem dX9_hold_41 : decode mX9_hold.2.1 41 = .ok (.getfield 12, 3) := by decide +kernel
theorem dX9_hold_44 : decode mX9_hold.2.1 44 = .ok (.getfield 87, 3) := by decide +kernel
theorem dX9_hold_47 : decode mX9_hold.2.1 47 = .ok (.ireturn, 1) := by decide +kernel
theorem dX9_lose_0 : decode mX9_lose.2.1 0 = .ok (.iload_n 1, 1) := by decide +kernel
theorem dX9_lose_1 : decode mX9_lose.2.1 1 = .ok (.invokestatic 206, 3) := by decide +kernel
theorem dX9_lose_4 : decode mX9_lose.2.1 4 = .ok (.ifCond .ne 5, 3) := by decide +kernel
theorem dX9_lose_7 : decode mX9_lose.2.1 7 = .ok (.iconst (-1), 1) := by decide +kernel
theorem dX9_lose_8 : decode mX9_lose.2.1 8 = .ok (.ireturn, 1) := by decide +kernel
theorem dX9_lose_9 : decode mX9_lose.2.1 9 = .ok (.aload_n 0, 1) := by decide +kernel
theorem dX9_lose_10 : decode mX9_lose.2.1 10 = .ok (.getfield 47, 3) := by decide +kernel
theorem dX9_lose_13 : decode mX9_lose.2.1 13 = .ok (.iload_n 1, 1) := by decide +kernel
theorem dX9_lose_14 : decode mX9_lose.2.1 14 = .ok (.aaload, 1) := by decide +kernel
theorem dX9_lose_15 : decode mX9_lose.2.1 15 = .ok (.getfield 297, 3) := by decide +kernel
theorem dX9_lose_18 : decode mX9_lose.2.1 18 = .ok (.istore_n 2, 1) := by decide +kernel
theorem dX9_lose_19 : decode mX9_lose.2.1 19 = .ok (.aload_n 0, 1) := by decide +kernel
theorem dX9_lose_20 : decode mX9_lose.2.1 20 = .ok (.getfield 47, 3) := by decide +kernel
theorem dX9_lose_23 : decode mX9_lose.2.1 23 = .ok (.iload_n 1, 1) := by decide +kernel
theorem dX9_lose_24 : decode mX9_lose.2.1 24 = .ok (.aaload, 1) := by decide +kernel
theorem dX9_lose_25 : decode mX9_lose.2.1 25 = .ok (.iconst 0, 1) := by decide +kernel
theorem dX9_lose_26 : decode mX9_lose.2.1 26 = .ok (.putfield 297, 3) := by decide +kernel
theorem dX9_lose_29 : decode mX9_lose.2.1 29 = .ok (.iload_n 2, 1) := by decide +kernel
theorem dX9_lose_30 : decode mX9_lose.2.1 30 = .ok (.ireturn, 1) := by decide +kernel
theorem dX9_taken_0 : decode mX9_taken.2.1 0 = .ok (.iload_n 1, 1) := by decide +kernel
theorem dX9_taken_1 : decode mX9_taken.2.1 1 = .ok (.invokestatic 206, 3) := by decide +kernel
theorem dX9_taken_4 : decode mX9_taken.2.1 4 = .ok (.ifCond .eq 12, 3) := by decide +kernel
theorem dX9_taken_7 : decode mX9_taken.2.1 7 = .ok (.iload_n 2, 1) := by decide +kernel
theorem dX9_taken_8 : decode mX9_taken.2.1 8 = .ok (.ifCond .lt 8, 3) := by decide +kernel
theorem dX9_taken_11 : decode mX9_taken.2.1 11 = .ok (.iload_n 2, 1) := by decide +kernel
theorem dX9_taken_12 : decode mX9_taken.2.1 12 = .ok (.iconst 2, 1) := by decide +kernel
theorem dX9_taken_13 : decode mX9_taken.2.1 13 = .ok (.if_icmp .le 5, 3) := by decide +kernel
theorem dX9_taken_16 : decode mX9_taken.2.1 16 = .ok (.iconst (-1), 1) := by decide +kernel
theorem dX9_taken_17 : decode mX9_taken.2.1 17 = .ok (.ireturn, 1) := by decide +kernel
theorem dX9_taken_18 : decode mX9_taken.2.1 18 = .ok (.aload_n 0, 1) := by decide +kernel
theorem dX9_taken_19 : decode mX9_taken.2.1 19 = .ok (.getfield 47, 3) := by decide +kernel
theorem dX9_taken_22 : decode mX9_taken.2.1 22 = .ok (.iload_n 1, 1) := by decide +kernel
theorem dX9_taken_23 : decode mX9_taken.2.1 23 = .ok (.aaload, 1) := by decide +kernel
theorem dX9_taken_24 : decode mX9_taken.2.1 24 = .ok (.astore_n 3, 1) := by decide +kernel
theorem dX9_taken_25 : decode mX9_taken.2.1 25 = .ok (.aload_n 3, 1) := by decide +kernel
theorem dX9_taken_26 : decode mX9_taken.2.1 26 = .ok (.getfield 297, 3) := by decide +kernel
theorem dX9_taken_29 : decode mX9_taken.2.1 29 = .ok (.ifCond .ne 6, 3) := by decide +kernel
theorem dX9_taken_32 : decode mX9_taken.2.1 32 = .ok (.bipush (-11), 2) := by decide +kernel
theorem dX9_taken_34 : decode mX9_taken.2.1 34 = .ok (.ireturn, 1) := by decide +kernel
theorem dX9_taken_35 : decode mX9_taken.2.1 35 = .ok (.iload_n 2, 1) := by decide +kernel
theorem dX9_taken_36 : decode mX9_taken.2.1 36 = .ok (.ifCond .ne 16, 3) := by decide +kernel
theorem dX9_taken_39 : decode mX9_taken.2.1 39 = .ok (.aload_n 3, 1) := by decide +kernel
theorem dX9_taken_40 : decode mX9_taken.2.1 40 = .ok (.getfield 297, 3) := by decide +kernel
theorem dX9_taken_43 : decode mX9_taken.2.1 43 = .ok (.iconst 1, 1) := by decide +kernel
theorem dX9_taken_44 : decode mX9_taken.2.1 44 = .ok (.if_icmp .ne 8, 3) := by decide +kernel
theorem dX9_taken_47 : decode mX9_taken.2.1 47 = .ok (.aload_n 3, 1) := by decide +kernel
theorem dX9_taken_48 : decode mX9_taken.2.1 48 = .ok (.invokevirtual 300, 3) := by decide +kernel
theorem dX9_taken_51 : decode mX9_taken.2.1 51 = .ok (.ireturn, 1) := by decide +kernel
theorem dX9_taken_52 : decode mX9_taken.2.1 52 = .ok (.iload_n 2, 1) := by decide +kernel
theorem dX9_taken_53 : decode mX9_taken.2.1 53 = .ok (.iconst 1, 1) := by decide +kernel
theorem dX9_taken_54 : decode mX9_taken.2.1 54 = .ok (.if_icmp .ne 16, 3) := by decide +kernel
theorem dX9_taken_57 : decode mX9_taken.2.1 57 = .ok (.aload_n 3, 1) := by decide +kernel
theorem dX9_taken_58 : decode mX9_taken.2.1 58 = .ok (.getfield 297, 3) := by decide +kernel
theorem dX9_taken_61 : decode mX9_taken.2.1 61 = .ok (.iconst 2, 1) := by decide +kernel
theorem dX9_taken_62 : decode mX9_taken.2.1 62 = .ok (.if_icmp .ne 8, 3) := by decide +kernel
theorem dX9_taken_65 : decode mX9_taken.2.1 65 = .ok (.aload_n 3, 1) := by decide +kernel
theorem dX9_taken_66 : decode mX9_taken.2.1 66 = .ok (.invokevirtual 213, 3) := by decide +kernel
theorem dX9_taken_69 : decode mX9_taken.2.1 69 = .ok (.ireturn, 1) := by decide +kernel
theorem dX9_taken_70 : decode mX9_taken.2.1 70 = .ok (.iload_n 2, 1) := by decide +kernel
theorem dX9_taken_71 : decode mX9_taken.2.1 71 = .ok (.iconst 2, 1) := by decide +kernel
theorem dX9_taken_72 : decode mX9_taken.2.1 72 = .ok (.if_icmp .ne 16, 3) := by decide +kernel
theorem dX9_taken_75 : decode mX9_taken.2.1 75 = .ok (.aload_n 3, 1) := by decide +kernel
theorem dX9_taken_76 : decode mX9_taken.2.1 76 = .ok (.getfield 297, 3) := by decide +kernel
theorem dX9_taken_79 : decode mX9_taken.2.1 79 = .ok (.iconst 3, 1) := by decide +kernel
theorem dX9_taken_80 : decode mX9_taken.2.1 80 = .ok (.if_icmp .eq 8, 3) := by decide +kernel
theorem dX9_taken_83 : decode mX9_taken.2.1 83 = .ok (.aload_n 3, 1) := by decide +kernel
theorem dX9_taken_84 : decode mX9_taken.2.1 84 = .ok (.getfield 301, 3) := by decide +kernel
theorem dX9_taken_87 : decode mX9_taken.2.1 87 = .ok (.ireturn, 1) := by decide +kernel
theorem dX9_taken_88 : decode mX9_taken.2.1 88 = .ok (.bipush (-12), 2) := by decide +kernel
theorem dX9_taken_90 : decode mX9_taken.2.1 90 = .ok (.ireturn, 1) := by decide +kernel
theorem dX9_number_0 : decode mX9_number.2.1 0 = .ok (.iload_n 1, 1) := by decide +kernel
theorem dX9_number_1 : decode mX9_number.2.1 1 = .ok (.invokestatic 206, 3) := by decide +kernel
theorem dX9_number_4 : decode mX9_number.2.1 4 = .ok (.ifCond .eq 28, 3) := by decide +kernel
theorem dX9_number_7 : decode mX9_number.2.1 7 = .ok (.aload_n 0, 1) := by decide +kernel
theorem dX9_number_8 : decode mX9_number.2.1 8 = .ok (.getfield 47, 3) := by decide +kernel
theorem dX9_number_11 : decode mX9_number.2.1 11 = .ok (.iload_n 1, 1) := by decide +kernel
theorem dX9_number_12 : decode mX9_number.2.1 12 = .ok (.aaload, 1) := by decide +kernel
theorem dX9_number_13 : decode mX9_number.2.1 13 = .ok (.getfield 297, 3) := by decide +kernel
theorem dX9_number_16 : decode mX9_number.2.1 16 = .ok (.ifCond .eq 16, 3) := by decide +kernel
theorem dX9_number_19 : decode mX9_number.2.1 19 = .ok (.aload_n 0, 1) := by decide +kernel
theorem dX9_number_20 : decode mX9_number.2.1 20 = .ok (.getfield 47, 3) := by decide +kernel
theorem dX9_number_23 : decode mX9_number.2.1 23 = .ok (.iload_n 1, 1) := by decide +kernel
theorem dX9_number_24 : decode mX9_number.2.1 24 = .ok (.aaload, 1) := by decide +kernel
theorem dX9_number_25 : decode mX9_number.2.1 25 = .ok (.iload_n 2, 1) := by decide +kernel
theorem dX9_number_26 : decode mX9_number.2.1 26 = .ok (.invokevirtual 304, 3) := by decide +kernel
theorem dX9_number_29 : decode mX9_number.2.1 29 = .ok (.ifCond .ne 7, 3) := by decide +kernel
theorem dX9_number_32 : decode mX9_number.2.1 32 = .ok (.ldc2_w 228, 3) := by decide +kernel
theorem dX9_number_35 : decode mX9_number.2.1 35 = .ok (.lreturn, 1) := by decide +kernel
theorem dX9_number_36 : decode mX9_number.2.1 36 = .ok (.aload_n 0, 1) := by decide +kernel
theorem dX9_number_37 : decode mX9_number.2.1 37 = .ok (.getfield 47, 3) := by decide +kernel
theorem dX9_number_40 : decode mX9_number.2.1 40 = .ok (.iload_n 1, 1) := by decide +kernel
theorem dX9_number_41 : decode mX9_number.2.1 41 = .ok (.aaload, 1) := by decide +kernel
theorem dX9_number_42 : decode mX9_number.2.1 42 = .ok (.getfield 222, 3) := by decide +kernel
theorem dX9_number_45 : decode mX9_number.2.1 45 = .ok (.iload_n 2, 1) := by decide +kernel
theorem dX9_number_46 : decode mX9_number.2.1 46 = .ok (.iaload, 1) := by decide +kernel
theorem dX9_number_47 : decode mX9_number.2.1 47 = .ok (.i2l, 1) := by decide +kernel
theorem dX9_number_48 : decode mX9_number.2.1 48 = .ok (.lreturn, 1) := by decide +kernel
theorem dX9_row_0 : decode mX9_row.2.1 0 = .ok (.iload_n 1, 1) := by decide +kernel
theorem dX9_row_1 : decode mX9_row.2.1 1 = .ok (.invokestatic 206, 3) := by decide +kernel
theorem dX9_row_4 : decode mX9_row.2.1 4 = .ok (.ifCond .eq 9, 3) := by decide +kernel
theorem dX9_row_7 : decode mX9_row.2.1 7 = .ok (.iload_n 2, 1) := by decide +kernel
theorem dX9_row_8 : decode mX9_row.2.1 8 = .ok (.bipush 20, 2) := by decide +kernel
theorem dX9_row_10 : decode mX9_row.2.1 10 = .ok (.if_icmp .le 5, 3) := by decide +kernel
theorem dX9_row_13 : decode mX9_row.2.1 13 = .ok (.iconst (-1), 1) := by decide +kernel
theorem dX9_row_14 : decode mX9_row.2.1 14 = .ok (.ireturn, 1) := by decide +kernel
theorem dX9_row_15 : decode mX9_row.2.1 15 = .ok (.iload_n 2, 1) := by decide +kernel
theorem dX9_row_16 : decode mX9_row.2.1 16 = .ok (.ifCond .ge 6, 3) := by decide +kernel
theorem dX9_row_19 : decode mX9_row.2.1 19 = .ok (.bipush (-14), 2) := by decide +kernel
theorem dX9_row_21 : decode mX9_row.2.1 21 = .ok (.ireturn, 1) := by decide +kernel
theorem dX9_row_22 : decode mX9_row.2.1 22 = .ok (.aload_n 0, 1) := by decide +kernel
theorem dX9_row_23 : decode mX9_row.2.1 23 = .ok (.getfield 47, 3) := by decide +kernel
theorem dX9_row_26 : decode mX9_row.2.1 26 = .ok (.iload_n 1, 1) := by decide +kernel
theorem dX9_row_27 : decode mX9_row.2.1 27 = .ok (.aaload, 1) := by decide +kernel
theorem dX9_row_28 : decode mX9_row.2.1 28 = .ok (.iload_n 2, 1) := by decide +kernel
theorem dX9_row_29 : decode mX9_row.2.1 29 = .ok (.invokevirtual 307, 3) := by decide +kernel
theorem dX9_row_32 : decode mX9_row.2.1 32 = .ok (.iload_n 2, 1) := by decide +kernel
theorem dX9_row_33 : decode mX9_row.2.1 33 = .ok (.ireturn, 1) := by decide +kernel
theorem dX9_set_0 : decode mX9_set.2.1 0 = .ok (.aload_n 0, 1) := by decide +kernel
theorem dX9_set_1 : decode mX9_set.2.1 1 = .ok (.iload_n 1, 1) := by decide +kernel
theorem dX9_set_2 : decode mX9_set.2.1 2 = .ok (.iconst 3, 1) := by decide +kernel
theorem dX9_set_3 : decode mX9_set.2.1 3 = .ok (.invokevirtual 216, 3) := by decide +kernel
theorem dX9_set_6 : decode mX9_set.2.1 6 = .ok (.istore 4, 2) := by decide +kernel
theorem dX9_set_8 : decode mX9_set.2.1 8 = .ok (.iload 4, 2) := by decide +kernel
theorem dX9_set_10 : decode mX9_set.2.1 10 = .ok (.ifCond .eq 6, 3) := by decide +kernel
theorem dX9_set_13 : decode mX9_set.2.1 13 = .ok (.iload 4, 2) := by decide +kernel
theorem dX9_set_15 : decode mX9_set.2.1 15 = .ok (.ireturn, 1) := by decide +kernel
theorem dX9_set_16 : decode mX9_set.2.1 16 = .ok (.aload_n 0, 1) := by decide +kernel
theorem dX9_set_17 : decode mX9_set.2.1 17 = .ok (.getfield 47, 3) := by decide +kernel
theorem dX9_set_20 : decode mX9_set.2.1 20 = .ok (.iload_n 1, 1) := by decide +kernel
theorem dX9_set_21 : decode mX9_set.2.1 21 = .ok (.aaload, 1) := by decide +kernel
theorem dX9_set_22 : decode mX9_set.2.1 22 = .ok (.iload_n 2, 1) := by decide +kernel
theorem dX9_set_23 : decode mX9_set.2.1 23 = .ok (.invokevirtual 304, 3) := by decide +kernel
theorem dX9_set_26 : decode mX9_set.2.1 26 = .ok (.ifCond .ne 6, 3) := by decide +kernel
theorem dX9_set_29 : decode mX9_set.2.1 29 = .ok (.bipush (-13), 2) := by decide +kernel
theorem dX9_set_31 : decode mX9_set.2.1 31 = .ok (.ireturn, 1) := by decide +kernel
theorem dX9_set_32 : decode mX9_set.2.1 32 = .ok (.aload_n 0, 1) := by decide +kernel
theorem dX9_set_33 : decode mX9_set.2.1 33 = .ok (.getfield 47, 3) := by decide +kernel
theorem dX9_set_36 : decode mX9_set.2.1 36 = .ok (.iload_n 1, 1) := by decide +kernel
theorem dX9_set_37 : decode mX9_set.2.1 37 = .ok (.aaload, 1) := by decide +kernel
theorem dX9_set_38 : decode mX9_set.2.1 38 = .ok (.getfield 222, 3) := by decide +kernel
theorem dX9_set_41 : decode mX9_set.2.1 41 = .ok (.iload_n 2, 1) := by decide +kernel
theorem dX9_set_42 : decode mX9_set.2.1 42 = .ok (.iload_n 3, 1) := by decide +kernel
theorem dX9_set_43 : decode mX9_set.2.1 43 = .ok (.iastore, 1) := by decide +kernel
theorem dX9_set_44 : decode mX9_set.2.1 44 = .ok (.iconst 1, 1) := by decide +kernel
theorem dX9_set_45 : decode mX9_set.2.1 45 = .ok (.ireturn, 1) := by decide +kernel
theorem dX9_judge_0 : decode mX9_judge.2.1 0 = .ok (.aload_n 0, 1) := by decide +kernel
theorem dX9_judge_1 : decode mX9_judge.2.1 1 = .ok (.iload_n 1, 1) := by decide +kernel
theorem dX9_judge_2 : decode mX9_judge.2.1 2 = .ok (.iconst 3, 1) := by decide +kernel
theorem dX9_judge_3 : decode mX9_judge.2.1 3 = .ok (.invokevirtual 216, 3) := by decide +kernel
theorem dX9_judge_6 : decode mX9_judge.2.1 6 = .ok (.istore_n 2, 1) := by decide +kernel
theorem dX9_judge_7 : decode mX9_judge.2.1 7 = .ok (.iload_n 2, 1) := by decide +kernel
theorem dX9_judge_8 : decode mX9_judge.2.1 8 = .ok (.ifCond .eq 5, 3) := by decide +kernel
theorem dX9_judge_11 : decode mX9_judge.2.1 11 = .ok (.iload_n 2, 1) := by decide +kernel
theorem dX9_judge_12 : decode mX9_judge.2.1 12 = .ok (.ireturn, 1) := by decide +kernel
theorem dX9_judge_13 : decode mX9_judge.2.1 13 = .ok (.aload_n 0, 1) := by decide +kernel
theorem dX9_judge_14 : decode mX9_judge.2.1 14 = .ok (.getfield 47, 3) := by decide +kernel
theorem dX9_judge_17 : decode mX9_judge.2.1 17 = .ok (.iload_n 1, 1) := by decide +kernel
theorem dX9_judge_18 : decode mX9_judge.2.1 18 = .ok (.aaload, 1) := by decide +kernel
theorem dX9_judge_19 : decode mX9_judge.2.1 19 = .ok (.astore_n 3, 1) := by decide +kernel
theorem dX9_judge_20 : decode mX9_judge.2.1 20 = .ok (.aload_n 0, 1) := by decide +kernel
theorem dX9_judge_21 : decode mX9_judge.2.1 21 = .ok (.getfield 12, 3) := by decide +kernel
theorem dX9_judge_24 : decode mX9_judge.2.1 24 = .ok (.invokevirtual 132, 3) := by decide +kernel
theorem dX9_judge_27 : decode mX9_judge.2.1 27 = .ok (.istore 4, 2) := by decide +kernel
theorem dX9_judge_29 : decode mX9_judge.2.1 29 = .ok (.iconst 0, 1) := by decide +kernel
theorem dX9_judge_30 : decode mX9_judge.2.1 30 = .ok (.istore 5, 2) := by decide +kernel
theorem dX9_judge_32 : decode mX9_judge.2.1 32 = .ok (.iload 5, 2) := by decide +kernel
theorem dX9_judge_34 : decode mX9_judge.2.1 34 = .ok (.iload 4, 2) := by decide +kernel
theorem dX9_judge_36 : decode mX9_judge.2.1 36 = .ok (.if_icmp .ge 41, 3) := by decide +kernel
theorem dX9_judge_39 : decode mX9_judge.2.1 39 = .ok (.aload_n 3, 1) := by decide +kernel
theorem dX9_judge_40 : decode mX9_judge.2.1 40 = .ok (.iload 5, 2) := by decide +kernel
theorem dX9_judge_42 : decode mX9_judge.2.1 42 = .ok (.invokevirtual 304, 3) := by decide +kernel
theorem dX9_judge_45 : decode mX9_judge.2.1 45 = .ok (.ifCond .eq 23, 3) := by decide +kernel
theorem dX9_judge_48 : decode mX9_judge.2.1 48 = .ok (.aload_n 3, 1) := by decide +kernel
theorem dX9_judge_49 : decode mX9_judge.2.1 49 = .ok (.getfield 222, 3) := by decide +kernel
theorem dX9_judge_52 : decode mX9_judge.2.1 52 = .ok (.iload 5, 2) := by decide +kernel
theorem dX9_judge_54 : decode mX9_judge.2.1 54 = .ok (.iaload, 1) := by decide +kernel
theorem dX9_judge_55 : decode mX9_judge.2.1 55 = .ok (.aload_n 0, 1) := by decide +kernel
theorem dX9_judge_56 : decode mX9_judge.2.1 56 = .ok (.getfield 12, 3) := by decide +kernel
theorem dX9_judge_59 : decode mX9_judge.2.1 59 = .ok (.getfield 113, 3) := by decide +kernel
theorem dX9_judge_62 : decode mX9_judge.2.1 62 = .ok (.iload 5, 2) := by decide +kernel
theorem dX9_judge_64 : decode mX9_judge.2.1 64 = .ok (.iaload, 1) := by decide +kernel
theorem dX9_judge_65 : decode mX9_judge.2.1 65 = .ok (.if_icmp .eq 6, 3) := by decide +kernel
theorem dX9_judge_68 : decode mX9_judge.2.1 68 = .ok (.iload 5, 2) := by decide +kernel
theorem dX9_judge_70 : decode mX9_judge.2.1 70 = .ok (.ireturn, 1) := by decide +kernel
theorem dX9_judge_71 : decode mX9_judge.2.1 71 = .ok (.iinc 5 1, 3) := by decide +kernel
theorem dX9_judge_74 : decode mX9_judge.2.1 74 = .ok (.goto (-42), 3) := by decide +kernel
theorem dX9_judge_77 : decode mX9_judge.2.1 77 = .ok (.aload_n 3, 1) := by decide +kernel
theorem dX9_judge_78 : decode mX9_judge.2.1 78 = .ok (.getfield 310, 3) := by decide +kernel
theorem dX9_judge_81 : decode mX9_judge.2.1 81 = .ok (.iload 4, 2) := by decide +kernel
theorem dX9_judge_83 : decode mX9_judge.2.1 83 = .ok (.if_icmp .le 8, 3) := by decide +kernel
theorem dX9_judge_86 : decode mX9_judge.2.1 86 = .ok (.iload 4, 2) := by decide +kernel
theorem dX9_judge_88 : decode mX9_judge.2.1 88 = .ok (.goto 5, 3) := by decide +kernel
theorem dX9_judge_91 : decode mX9_judge.2.1 91 = .ok (.bipush (-2), 2) := by decide +kernel
theorem dX9_judge_93 : decode mX9_judge.2.1 93 = .ok (.ireturn, 1) := by decide +kernel
theorem dX9_image_0 : decode mX9_image.2.1 0 = .ok (.aload_n 0, 1) := by decide +kernel
theorem dX9_image_1 : decode mX9_image.2.1 1 = .ok (.getfield 35, 3) := by decide +kernel
theorem dX9_image_4 : decode mX9_image.2.1 4 = .ok (.aload_n 0, 1) := by decide +kernel
theorem dX9_image_5 : decode mX9_image.2.1 5 = .ok (.getfield 12, 3) := by decide +kernel
theorem dX9_image_8 : decode mX9_image.2.1 8 = .ok (.invokevirtual 109, 3) := by decide +kernel
theorem dX9_image_11 : decode mX9_image.2.1 11 = .ok (.aload_n 0, 1) := by decide +kernel
theorem dX9_image_12 : decode mX9_image.2.1 12 = .ok (.getfield 38, 3) := by decide +kernel
theorem dX9_image_15 : decode mX9_image.2.1 15 = .ok (.aload_n 0, 1) := by decide +kernel
theorem dX9_image_16 : decode mX9_image.2.1 16 = .ok (.getfield 24, 3) := by decide +kernel
theorem dX9_image_19 : decode mX9_image.2.1 19 = .ok (.invokevirtual 311, 3) := by decide +kernel
theorem dX9_image_22 : decode mX9_image.2.1 22 = .ok (.aload_n 0, 1) := by decide +kernel
theorem dX9_image_23 : decode mX9_image.2.1 23 = .ok (.iconst 1, 1) := by decide +kernel
theorem dX9_image_24 : decode mX9_image.2.1 24 = .ok (.putfield 41, 3) := by decide +kernel
theorem dX9_image_27 : decode mX9_image.2.1 27 = .ok (.aload_n 0, 1) := by decide +kernel
theorem dX9_image_28 : decode mX9_image.2.1 28 = .ok (.getfield 12, 3) := by decide +kernel
theorem dX9_image_31 : decode mX9_image.2.1 31 = .ok (.getfield 87, 3) := by decide +kernel
theorem dX9_image_34 : decode mX9_image.2.1 34 = .ok (.ireturn, 1) := by decide +kernel
theorem dX9_undo_0 : decode mX9_undo.2.1 0 = .ok (.aload_n 0, 1) := by decide +kernel
theorem dX9_undo_1 : decode mX9_undo.2.1 1 = .ok (.getfield 41, 3) := by decide +kernel
theorem dX9_undo_4 : decode mX9_undo.2.1 4 = .ok (.ifCond .ne 6, 3) := by decide +kernel
theorem dX9_undo_7 : decode mX9_undo.2.1 7 = .ok (.bipush (-5), 2) := by decide +kernel
theorem dX9_undo_9 : decode mX9_undo.2.1 9 = .ok (.ireturn, 1) := by decide +kernel
theorem dX9_undo_10 : decode mX9_undo.2.1 10 = .ok (.aload_n 0, 1) := by decide +kernel
theorem dX9_undo_11 : decode mX9_undo.2.1 11 = .ok (.getfield 12, 3) := by decide +kernel
theorem dX9_undo_14 : decode mX9_undo.2.1 14 = .ok (.aload_n 0, 1) := by decide +kernel
theorem dX9_undo_15 : decode mX9_undo.2.1 15 = .ok (.getfield 35, 3) := by decide +kernel
theorem dX9_undo_18 : decode mX9_undo.2.1 18 = .ok (.invokevirtual 109, 3) := by decide +kernel
theorem dX9_undo_21 : decode mX9_undo.2.1 21 = .ok (.aload_n 0, 1) := by decide +kernel
theorem dX9_undo_22 : decode mX9_undo.2.1 22 = .ok (.getfield 24, 3) := by decide +kernel
theorem dX9_undo_25 : decode mX9_undo.2.1 25 = .ok (.aload_n 0, 1) := by decide +kernel
theorem dX9_undo_26 : decode mX9_undo.2.1 26 = .ok (.getfield 38, 3) := by decide +kernel
theorem dX9_undo_29 : decode mX9_undo.2.1 29 = .ok (.invokevirtual 311, 3) := by decide +kernel
theorem dX9_undo_32 : decode mX9_undo.2.1 32 = .ok (.aload_n 0, 1) := by decide +kernel
theorem dX9_undo_33 : decode mX9_undo.2.1 33 = .ok (.getfield 31, 3) := by decide +kernel
theorem dX9_undo_36 : decode mX9_undo.2.1 36 = .ok (.invokevirtual 98, 3) := by decide +kernel
theorem dX9_undo_39 : decode mX9_undo.2.1 39 = .ok (.aload_n 0, 1) := by decide +kernel
theorem dX9_undo_40 : decode mX9_undo.2.1 40 = .ok (.getfield 12, 3) := by decide +kernel
theorem dX9_undo_43 : decode mX9_undo.2.1 43 = .ok (.getfield 87, 3) := by decide +kernel
theorem dX9_undo_46 : decode mX9_undo.2.1 46 = .ok (.ireturn, 1) := by decide +kernel
theorem dX9_count_0 : decode mX9_count.2.1 0 = .ok (.iload_n 1, 1) := by decide +kernel
theorem dX9_count_1 : decode mX9_count.2.1 1 = .ok (.tableswitch 75 0 4 #[35, 43, 51, 59, 67], 35) := by decide +kernel
theorem dX9_count_36 : decode mX9_count.2.1 36 = .ok (.aload_n 0, 1) := by decide +kernel
theorem dX9_count_37 : decode mX9_count.2.1 37 = .ok (.getfield 12, 3) := by decide +kernel
theorem dX9_count_40 : decode mX9_count.2.1 40 = .ok (.getfield 87, 3) := by decide +kernel
theorem dX9_count_43 : decode mX9_count.2.1 43 = .ok (.ireturn, 1) := by decide +kernel
theorem dX9_count_44 : decode mX9_count.2.1 44 = .ok (.aload_n 0, 1) := by decide +kernel
theorem dX9_count_45 : decode mX9_count.2.1 45 = .ok (.getfield 12, 3) := by decide +kernel
theorem dX9_count_48 : decode mX9_count.2.1 48 = .ok (.invokevirtual 132, 3) := by decide +kernel
theorem dX9_count_51 : decode mX9_count.2.1 51 = .ok (.ireturn, 1) := by decide +kernel
theorem dX9_count_52 : decode mX9_count.2.1 52 = .ok (.aload_n 0, 1) := by decide +kernel
theorem dX9_count_53 : decode mX9_count.2.1 53 = .ok (.getfield 12, 3) := by decide +kernel
theorem dX9_count_56 : decode mX9_count.2.1 56 = .ok (.invokevirtual 170, 3) := by decide +kernel
theorem dX9_count_59 : decode mX9_count.2.1 59 = .ok (.ireturn, 1) := by decide +kernel
theorem dX9_count_60 : decode mX9_count.2.1 60 = .ok (.aload_n 0, 1) := by decide +kernel
theorem dX9_count_61 : decode mX9_count.2.1 61 = .ok (.getfield 31, 3) := by decide +kernel
theorem dX9_count_64 : decode mX9_count.2.1 64 = .ok (.getfield 153, 3) := by decide +kernel
theorem dX9_count_67 : decode mX9_count.2.1 67 = .ok (.ireturn, 1) := by decide +kernel
theorem dX9_count_68 : decode mX9_count.2.1 68 = .ok (.aload_n 0, 1) := by decide +kernel
theorem dX9_count_69 : decode mX9_count.2.1 69 = .ok (.getfield 54, 3) := by decide +kernel
theorem dX9_count_72 : decode mX9_count.2.1 72 = .ok (.getfield 283, 3) := by decide +kernel
theorem dX9_count_75 : decode mX9_count.2.1 75 = .ok (.ireturn, 1) := by decide +kernel
theorem dX9_count_76 : decode mX9_count.2.1 76 = .ok (.iconst (-1), 1) := by decide +kernel
theorem dX9_count_77 : decode mX9_count.2.1 77 = .ok (.ireturn, 1) := by decide +kernel
theorem dX9_isHolder_0 : decode mX9_isHolder.2.1 0 = .ok (.iload_n 0, 1) := by decide +kernel
theorem dX9_isHolder_1 : decode mX9_isHolder.2.1 1 = .ok (.ifCond .lt 13, 3) := by decide +kernel
theorem dX9_isHolder_4 : decode mX9_isHolder.2.1 4 = .ok (.iload_n 0, 1) := by decide +kernel
theorem dX9_isHolder_5 : decode mX9_isHolder.2.1 5 = .ok (.bipush 6, 2) := by decide +kernel
theorem dX9_isHolder_7 : decode mX9_isHolder.2.1 7 = .ok (.if_icmp .ge 7, 3) := by decide +kernel
theorem dX9_isHolder_10 : decode mX9_isHolder.2.1 10 = .ok (.iconst 1, 1) := by decide +kernel
theorem dX9_isHolder_11 : decode mX9_isHolder.2.1 11 = .ok (.goto 4, 3) := by decide +kernel
theorem dX9_isHolder_14 : decode mX9_isHolder.2.1 14 = .ok (.iconst 0, 1) := by decide +kernel
theorem dX9_isHolder_15 : decode mX9_isHolder.2.1 15 = .ok (.ireturn, 1) := by decide +kernel
theorem dX9_refusalOfKind_0 : decode mX9_refusalOfKind.2.1 0 = .ok (.iload_n 1, 1) := by decide +kernel
theorem dX9_refusalOfKind_1 : decode mX9_refusalOfKind.2.1 1 = .ok (.invokestatic 206, 3) := by decide +kernel
theorem dX9_refusalOfKind_4 : decode mX9_refusalOfKind.2.1 4 = .ok (.ifCond .ne 5, 3) := by decide +kernel
theorem dX9_refusalOfKind_7 : decode mX9_refusalOfKind.2.1 7 = .ok (.iconst (-1), 1) := by decide +kernel
theorem dX9_refusalOfKind_8 : decode mX9_refusalOfKind.2.1 8 = .ok (.ireturn, 1) := by decide +kernel
theorem dX9_refusalOfKind_9 : decode mX9_refusalOfKind.2.1 9 = .ok (.aload_n 0, 1) := by decide +kernel
theorem dX9_refusalOfKind_10 : decode mX9_refusalOfKind.2.1 10 = .ok (.getfield 47, 3) := by decide +kernel
theorem dX9_refusalOfKind_13 : decode mX9_refusalOfKind.2.1 13 = .ok (.iload_n 1, 1) := by decide +kernel
theorem dX9_refusalOfKind_14 : decode mX9_refusalOfKind.2.1 14 = .ok (.aaload, 1) := by decide +kernel
theorem dX9_refusalOfKind_15 : decode mX9_refusalOfKind.2.1 15 = .ok (.getfield 297, 3) := by decide +kernel
theorem dX9_refusalOfKind_18 : decode mX9_refusalOfKind.2.1 18 = .ok (.ifCond .ne 6, 3) := by decide +kernel
theorem dX9_refusalOfKind_21 : decode mX9_refusalOfKind.2.1 21 = .ok (.bipush (-11), 2) := by decide +kernel
theorem dX9_refusalOfKind_23 : decode mX9_refusalOfKind.2.1 23 = .ok (.ireturn, 1) := by decide +kernel
theorem dX9_refusalOfKind_24 : decode mX9_refusalOfKind.2.1 24 = .ok (.aload_n 0, 1) := by decide +kernel
theorem dX9_refusalOfKind_25 : decode mX9_refusalOfKind.2.1 25 = .ok (.getfield 47, 3) := by decide +kernel
theorem dX9_refusalOfKind_28 : decode mX9_refusalOfKind.2.1 28 = .ok (.iload_n 1, 1) := by decide +kernel
theorem dX9_refusalOfKind_29 : decode mX9_refusalOfKind.2.1 29 = .ok (.aaload, 1) := by decide +kernel
theorem dX9_refusalOfKind_30 : decode mX9_refusalOfKind.2.1 30 = .ok (.getfield 297, 3) := by decide +kernel
theorem dX9_refusalOfKind_33 : decode mX9_refusalOfKind.2.1 33 = .ok (.iload_n 2, 1) := by decide +kernel
theorem dX9_refusalOfKind_34 : decode mX9_refusalOfKind.2.1 34 = .ok (.if_icmp .ne 7, 3) := by decide +kernel
theorem dX9_refusalOfKind_37 : decode mX9_refusalOfKind.2.1 37 = .ok (.iconst 0, 1) := by decide +kernel
theorem dX9_refusalOfKind_38 : decode mX9_refusalOfKind.2.1 38 = .ok (.goto 5, 3) := by decide +kernel
theorem dX9_refusalOfKind_41 : decode mX9_refusalOfKind.2.1 41 = .ok (.bipush (-12), 2) := by decide +kernel
theorem dX9_refusalOfKind_43 : decode mX9_refusalOfKind.2.1 43 = .ok (.ireturn, 1) := by decide +kernel
theorem dX9_refusalOfWall_0 : decode mX9_refusalOfWall.2.1 0 = .ok (.aload_n 0, 1) := by decide +kernel
theorem dX9_refusalOfWall_1 : decode mX9_refusalOfWall.2.1 1 = .ok (.iload_n 1, 1) := by decide +kernel
theorem dX9_refusalOfWall_2 : decode mX9_refusalOfWall.2.1 2 = .ok (.iconst 2, 1) := by decide +kernel
theorem dX9_refusalOfWall_3 : decode mX9_refusalOfWall.2.1 3 = .ok (.invokevirtual 216, 3) := by decide +kernel
theorem dX9_refusalOfWall_6 : decode mX9_refusalOfWall.2.1 6 = .ok (.istore_n 2, 1) := by decide +kernel
theorem dX9_refusalOfWall_7 : decode mX9_refusalOfWall.2.1 7 = .ok (.iload_n 2, 1) := by decide +kernel
theorem dX9_refusalOfWall_8 : decode mX9_refusalOfWall.2.1 8 = .ok (.ifCond .eq 5, 3) := by decide +kernel
theorem dX9_refusalOfWall_11 : decode mX9_refusalOfWall.2.1 11 = .ok (.iload_n 2, 1) := by decide +kernel
theorem dX9_refusalOfWall_12 : decode mX9_refusalOfWall.2.1 12 = .ok (.ireturn, 1) := by decide +kernel
theorem dX9_refusalOfWall_13 : decode mX9_refusalOfWall.2.1 13 = .ok (.aload_n 0, 1) := by decide +kernel
theorem dX9_refusalOfWall_14 : decode mX9_refusalOfWall.2.1 14 = .ok (.getfield 47, 3) := by decide +kernel
theorem dX9_refusalOfWall_17 : decode mX9_refusalOfWall.2.1 17 = .ok (.iload_n 1, 1) := by decide +kernel
theorem dX9_refusalOfWall_18 : decode mX9_refusalOfWall.2.1 18 = .ok (.aaload, 1) := by decide +kernel
theorem dX9_refusalOfWall_19 : decode mX9_refusalOfWall.2.1 19 = .ok (.getfield 301, 3) := by decide +kernel
theorem dX9_refusalOfWall_22 : decode mX9_refusalOfWall.2.1 22 = .ok (.aload_n 0, 1) := by decide +kernel
theorem dX9_refusalOfWall_23 : decode mX9_refusalOfWall.2.1 23 = .ok (.getfield 12, 3) := by decide +kernel
theorem dX9_refusalOfWall_26 : decode mX9_refusalOfWall.2.1 26 = .ok (.getfield 87, 3) := by decide +kernel
theorem dX9_refusalOfWall_29 : decode mX9_refusalOfWall.2.1 29 = .ok (.if_icmp .ne 7, 3) := by decide +kernel
theorem dX9_refusalOfWall_32 : decode mX9_refusalOfWall.2.1 32 = .ok (.iconst 0, 1) := by decide +kernel
theorem dX9_refusalOfWall_33 : decode mX9_refusalOfWall.2.1 33 = .ok (.goto 5, 3) := by decide +kernel
theorem dX9_refusalOfWall_36 : decode mX9_refusalOfWall.2.1 36 = .ok (.bipush (-5), 2) := by decide +kernel
theorem dX9_refusalOfWall_38 : decode mX9_refusalOfWall.2.1 38 = .ok (.ireturn, 1) := by decide +kernel
theorem dX10_init_0 : decode mX10_init.2.1 0 = .ok (.aload_n 0, 1) := by decide +kernel
theorem dX10_init_1 : decode mX10_init.2.1 1 = .ok (.invokespecial 3, 3) := by decide +kernel
theorem dX10_init_4 : decode mX10_init.2.1 4 = .ok (.aload_n 0, 1) := by decide +kernel
theorem dX10_init_5 : decode mX10_init.2.1 5 = .ok (.iconst 4, 1) := by decide +kernel
theorem dX10_init_6 : decode mX10_init.2.1 6 = .ok (.putfield 9, 3) := by decide +kernel
theorem dX10_init_9 : decode mX10_init.2.1 9 = .ok (.aload_n 0, 1) := by decide +kernel
theorem dX10_init_10 : decode mX10_init.2.1 10 = .ok (.bipush 36, 2) := by decide +kernel
theorem dX10_init_12 : decode mX10_init.2.1 12 = .ok (.newarray .int, 2) := by decide +kernel
theorem dX10_init_14 : decode mX10_init.2.1 14 = .ok (.putfield 15, 3) := by decide +kernel
theorem dX10_init_17 : decode mX10_init.2.1 17 = .ok (.aload_n 0, 1) := by decide +kernel
theorem dX10_init_18 : decode mX10_init.2.1 18 = .ok (.bipush 6, 2) := by decide +kernel
theorem dX10_init_20 : decode mX10_init.2.1 20 = .ok (.newarray .int, 2) := by decide +kernel
theorem dX10_init_22 : decode mX10_init.2.1 22 = .ok (.putfield 19, 3) := by decide +kernel
theorem dX10_init_25 : decode mX10_init.2.1 25 = .ok (.aload_n 0, 1) := by decide +kernel
theorem dX10_init_26 : decode mX10_init.2.1 26 = .ok (.bipush 6, 2) := by decide +kernel
theorem dX10_init_28 : decode mX10_init.2.1 28 = .ok (.newarray .int, 2) := by decide +kernel
theorem dX10_init_30 : decode mX10_init.2.1 30 = .ok (.putfield 22, 3) := by decide +kernel
theorem dX10_init_33 : decode mX10_init.2.1 33 = .ok (.aload_n 0, 1) := by decide +kernel
theorem dX10_init_34 : decode mX10_init.2.1 34 = .ok (.bipush 8, 2) := by decide +kernel
theorem dX10_init_36 : decode mX10_init.2.1 36 = .ok (.newarray .int, 2) := by decide +kernel
theorem dX10_init_38 : decode mX10_init.2.1 38 = .ok (.putfield 25, 3) := by decide +kernel
theorem dX10_init_41 : decode mX10_init.2.1 41 = .ok (.aload_n 0, 1) := by decide +kernel
theorem dX10_init_42 : decode mX10_init.2.1 42 = .ok (.sipush 288, 3) := by decide +kernel
theorem dX10_init_45 : decode mX10_init.2.1 45 = .ok (.newarray .int, 2) := by decide +kernel
theorem dX10_init_47 : decode mX10_init.2.1 47 = .ok (.putfield 28, 3) := by decide +kernel
theorem dX10_init_50 : decode mX10_init.2.1 50 = .ok (.aload_n 0, 1) := by decide +kernel
theorem dX10_init_51 : decode mX10_init.2.1 51 = .ok (.bipush 80, 2) := by decide +kernel
theorem dX10_init_53 : decode mX10_init.2.1 53 = .ok (.newarray .int, 2) := by decide +kernel
theorem dX10_init_55 : decode mX10_init.2.1 55 = .ok (.putfield 31, 3) := by decide +kernel
theorem dX10_init_58 : decode mX10_init.2.1 58 = .ok (.aload_n 0, 1) := by decide +kernel
theorem dX10_init_59 : decode mX10_init.2.1 59 = .ok (.bipush 6, 2) := by decide +kernel
theorem dX10_init_61 : decode mX10_init.2.1 61 = .ok (.newarray .int, 2) := by decide +kernel
theorem dX10_init_63 : decode mX10_init.2.1 63 = .ok (.putfield 34, 3) := by decide +kernel
theorem dX10_init_66 : decode mX10_init.2.1 66 = .ok (.aload_n 0, 1) := by decide +kernel
theorem dX10_init_67 : decode mX10_init.2.1 67 = .ok (.bipush 6, 2) := by decide +kernel
theorem dX10_init_69 : decode mX10_init.2.1 69 = .ok (.newarray .int, 2) := by decide +kernel
theorem dX10_init_71 : decode mX10_init.2.1 71 = .ok (.putfield 37, 3) := by decide +kernel
theorem dX10_init_74 : decode mX10_init.2.1 74 = .ok (.aload_n 0, 1) := by decide +kernel
theorem dX10_init_75 : decode mX10_init.2.1 75 = .ok (.bipush 120, 2) := by decide +kernel
theorem dX10_init_77 : decode mX10_init.2.1 77 = .ok (.newarray .int, 2) := by decide +kernel
theorem dX10_init_79 : decode mX10_init.2.1 79 = .ok (.putfield 40, 3) := by decide +kernel
theorem dX10_init_82 : decode mX10_init.2.1 82 = .ok (.aload_n 0, 1) := by decide +kernel
theorem dX10_init_83 : decode mX10_init.2.1 83 = .ok (.bipush 36, 2) := by decide +kernel
theorem dX10_init_85 : decode mX10_init.2.1 85 = .ok (.newarray .int, 2) := by decide +kernel
theorem dX10_init_87 : decode mX10_init.2.1 87 = .ok (.putfield 43, 3) := by decide +kernel
theorem dX10_init_90 : decode mX10_init.2.1 90 = .ok (.aload_n 0, 1) := by decide +kernel
theorem dX10_init_91 : decode mX10_init.2.1 91 = .ok (.bipush 6, 2) := by decide +kernel
theorem dX10_init_93 : decode mX10_init.2.1 93 = .ok (.newarray .int, 2) := by decide +kernel
theorem dX10_init_95 : decode mX10_init.2.1 95 = .ok (.putfield 46, 3) := by decide +kernel
theorem dX10_init_98 : decode mX10_init.2.1 98 = .ok (.aload_n 0, 1) := by decide +kernel
theorem dX10_init_99 : decode mX10_init.2.1 99 = .ok (.bipush 6, 2) := by decide +kernel
theorem dX10_init_101 : decode mX10_init.2.1 101 = .ok (.newarray .int, 2) := by decide +kernel
theorem dX10_init_103 : decode mX10_init.2.1 103 = .ok (.putfield 49, 3) := by decide +kernel
theorem dX10_init_106 : decode mX10_init.2.1 106 = .ok (.aload_n 0, 1) := by decide +kernel
theorem dX10_init_107 : decode mX10_init.2.1 107 = .ok (.bipush 36, 2) := by decide +kernel
theorem dX10_init_109 : decode mX10_init.2.1 109 = .ok (.newarray .int, 2) := by decide +kernel
theorem dX10_init_111 : decode mX10_init.2.1 111 = .ok (.putfield 52, 3) := by decide +kernel
theorem dX10_init_114 : decode mX10_init.2.1 114 = .ok (.aload_n 0, 1) := by decide +kernel
theorem dX10_init_115 : decode mX10_init.2.1 115 = .ok (.bipush 6, 2) := by decide +kernel
theorem dX10_init_117 : decode mX10_init.2.1 117 = .ok (.newarray .int, 2) := by decide +kernel
theorem dX10_init_119 : decode mX10_init.2.1 119 = .ok (.putfield 55, 3) := by decide +kernel
theorem dX10_init_122 : decode mX10_init.2.1 122 = .ok (.aload_n 0, 1) := by decide +kernel
theorem dX10_init_123 : decode mX10_init.2.1 123 = .ok (.sipush 465, 3) := by decide +kernel
theorem dX10_init_126 : decode mX10_init.2.1 126 = .ok (.newarray .long, 2) := by decide +kernel
theorem dX10_init_128 : decode mX10_init.2.1 128 = .ok (.putfield 58, 3) := by decide +kernel
theorem dX10_init_131 : decode mX10_init.2.1 131 = .ok (.aload_n 0, 1) := by decide +kernel
theorem dX10_init_132 : decode mX10_init.2.1 132 = .ok (.bipush 36, 2) := by decide +kernel
theorem dX10_init_134 : decode mX10_init.2.1 134 = .ok (.newarray .int, 2) := by decide +kernel
theorem dX10_init_136 : decode mX10_init.2.1 136 = .ok (.putfield 62, 3) := by decide +kernel
theorem dX10_init_139 : decode mX10_init.2.1 139 = .ok (.aload_n 0, 1) := by decide +kernel
theorem dX10_init_140 : decode mX10_init.2.1 140 = .ok (.bipush 32, 2) := by decide +kernel
theorem dX10_init_142 : decode mX10_init.2.1 142 = .ok (.newarray .int, 2) := by decide +kernel
theorem dX10_init_144 : decode mX10_init.2.1 144 = .ok (.putfield 65, 3) := by decide +kernel
theorem dX10_init_147 : decode mX10_init.2.1 147 = .ok (.aload_n 0, 1) := by decide +kernel
theorem dX10_init_148 : decode mX10_init.2.1 148 = .ok (.bipush 36, 2) := by decide +kernel
theorem dX10_init_150 : decode mX10_init.2.1 150 = .ok (.newarray .int, 2) := by decide +kernel
theorem dX10_init_152 : decode mX10_init.2.1 152 = .ok (.putfield 68, 3) := by decide +kernel
theorem dX10_init_155 : decode mX10_init.2.1 155 = .ok (.aload_n 0, 1) := by decide +kernel
theorem dX10_init_156 : decode mX10_init.2.1 156 = .ok (.bipush 120, 2) := by decide +kernel
theorem dX10_init_158 : decode mX10_init.2.1 158 = .ok (.newarray .int, 2) := by decide +kernel
theorem dX10_init_160 : decode mX10_init.2.1 160 = .ok (.putfield 71, 3) := by decide +kernel
theorem dX10_init_163 : decode mX10_init.2.1 163 = .ok (.aload_n 0, 1) := by decide +kernel
theorem dX10_init_164 : decode mX10_init.2.1 164 = .ok (.iconst 0, 1) := by decide +kernel
theorem dX10_init_165 : decode mX10_init.2.1 165 = .ok (.putfield 74, 3) := by decide +kernel
theorem dX10_init_168 : decode mX10_init.2.1 168 = .ok (.return_, 1) := by decide +kernel
theorem dX10_in_0 : decode mX10_in.2.1 0 = .ok (.lload_n 0, 1) := by decide +kernel
theorem dX10_in_1 : decode mX10_in.2.1 1 = .ok (.lload_n 2, 1) := by decide +kernel
theorem dX10_in_2 : decode mX10_in.2.1 2 = .ok (.lcmp, 1) := by decide +kernel
theorem dX10_in_3 : decode mX10_in.2.1 3 = .ok (.ifCond .lt 14, 3) := by decide +kernel
theorem dX10_in_6 : decode mX10_in.2.1 6 = .ok (.lload_n 0, 1) := by decide +kernel
theorem dX10_in_7 : decode mX10_in.2.1 7 = .ok (.lload 4, 2) := by decide +kernel
theorem dX10_in_9 : decode mX10_in.2.1 9 = .ok (.lcmp, 1) := by decide +kernel
theorem dX10_in_10 : decode mX10_in.2.1 10 = .ok (.ifCond .gt 7, 3) := by decide +kernel
theorem dX10_in_13 : decode mX10_in.2.1 13 = .ok (.iconst 1, 1) := by decide +kernel
theorem dX10_in_14 : decode mX10_in.2.1 14 = .ok (.goto 4, 3) := by decide +kernel
theorem dX10_in_17 : decode mX10_in.2.1 17 = .ok (.iconst 0, 1) := by decide +kernel
theorem dX10_in_18 : decode mX10_in.2.1 18 = .ok (.ireturn, 1) := by decide +kernel
theorem dX10_isPoint_0 : decode mX10_isPoint.2.1 0 = .ok (.iload_n 1, 1) := by decide +kernel
theorem dX10_isPoint_1 : decode mX10_isPoint.2.1 1 = .ok (.i2l, 1) := by decide +kernel
theorem dX10_isPoint_2 : decode mX10_isPoint.2.1 2 = .ok (.lconst 0, 1) := by decide +kernel
theorem dX10_isPoint_3 : decode mX10_isPoint.2.1 3 = .ok (.aload_n 0, 1) := by decide +kernel
theorem dX10_isPoint_4 : decode mX10_isPoint.2.1 4 = .ok (.getfield 9, 3) := by decide +kernel
theorem dX10_isPoint_7 : decode mX10_isPoint.2.1 7 = .ok (.iconst 1, 1) := by decide +kernel
theorem dX10_isPoint_8 : decode mX10_isPoint.2.1 8 = .ok (.isub, 1) := by decide +kernel
theorem dX10_isPoint_9 : decode mX10_isPoint.2.1 9 = .ok (.i2l, 1) := by decide +kernel
theorem dX10_isPoint_10 : decode mX10_isPoint.2.1 10 = .ok (.invokestatic 77, 3) := by decide +kernel
theorem dX10_isPoint_13 : decode mX10_isPoint.2.1 13 = .ok (.ireturn, 1) := by decide +kernel
theorem dX10_isTwo_0 : decode mX10_isTwo.2.1 0 = .ok (.aload_n 0, 1) := by decide +kernel
theorem dX10_isTwo_1 : decode mX10_isTwo.2.1 1 = .ok (.iload_n 1, 1) := by decide +kernel
theorem dX10_isTwo_2 : decode mX10_isTwo.2.1 2 = .ok (.invokevirtual 81, 3) := by decide +kernel
theorem dX10_isTwo_5 : decode mX10_isTwo.2.1 5 = .ok (.ifCond .eq 20, 3) := by decide +kernel
theorem dX10_isTwo_8 : decode mX10_isTwo.2.1 8 = .ok (.aload_n 0, 1) := by decide +kernel
theorem dX10_isTwo_9 : decode mX10_isTwo.2.1 9 = .ok (.iload_n 2, 1) := by decide +kernel
theorem dX10_isTwo_10 : decode mX10_isTwo.2.1 10 = .ok (.invokevirtual 81, 3) := by decide +kernel
theorem dX10_isTwo_13 : decode mX10_isTwo.2.1 13 = .ok (.ifCond .eq 12, 3) := by decide +kernel
theorem dX10_isTwo_16 : decode mX10_isTwo.2.1 16 = .ok (.iload_n 1, 1) := by decide +kernel
theorem dX10_isTwo_17 : decode mX10_isTwo.2.1 17 = .ok (.iload_n 2, 1) := by decide +kernel
theorem dX10_isTwo_18 : decode mX10_isTwo.2.1 18 = .ok (.if_icmp .eq 7, 3) := by decide +kernel
theorem dX10_isTwo_21 : decode mX10_isTwo.2.1 21 = .ok (.iconst 1, 1) := by decide +kernel
theorem dX10_isTwo_22 : decode mX10_isTwo.2.1 22 = .ok (.goto 4, 3) := by decide +kernel
theorem dX10_isTwo_25 : decode mX10_isTwo.2.1 25 = .ok (.iconst 0, 1) := by decide +kernel
theorem dX10_isTwo_26 : decode mX10_isTwo.2.1 26 = .ok (.ireturn, 1) := by decide +kernel
theorem dX10_cuts_0 : decode mX10_cuts.2.1 0 = .ok (.iconst 1, 1) := by decide +kernel
theorem dX10_cuts_1 : decode mX10_cuts.2.1 1 = .ok (.aload_n 0, 1) := by decide +kernel
theorem dX10_cuts_2 : decode mX10_cuts.2.1 2 = .ok (.getfield 9, 3) := by decide +kernel
theorem dX10_cuts_5 : decode mX10_cuts.2.1 5 = .ok (.iconst 1, 1) := by decide +kernel
theorem dX10_cuts_6 : decode mX10_cuts.2.1 6 = .ok (.isub, 1) := by decide +kernel
theorem dX10_cuts_7 : decode mX10_cuts.2.1 7 = .ok (.ishl, 1) := by decide +kernel
theorem dX10_cuts_8 : decode mX10_cuts.2.1 8 = .ok (.iconst 1, 1) := by decide +kernel
theorem dX10_cuts_9 : decode mX10_cuts.2.1 9 = .ok (.isub, 1) := by decide +kernel
theorem dX10_cuts_10 : decode mX10_cuts.2.1 10 = .ok (.ireturn, 1) := by decide +kernel
theorem dX10_isCut_0 : decode mX10_isCut.2.1 0 = .ok (.iload_n 1, 1) := by decide +kernel
theorem dX10_isCut_1 : decode mX10_isCut.2.1 1 = .ok (.i2l, 1) := by decide +kernel
theorem dX10_isCut_2 : decode mX10_isCut.2.1 2 = .ok (.lconst 1, 1) := by decide +kernel
theorem dX10_isCut_3 : decode mX10_isCut.2.1 3 = .ok (.aload_n 0, 1) := by decide +kernel
theorem dX10_isCut_4 : decode mX10_isCut.2.1 4 = .ok (.invokevirtual 85, 3) := by decide +kernel
theorem dX10_isCut_7 : decode mX10_isCut.2.1 7 = .ok (.i2l, 1) := by decide +kernel
theorem dX10_isCut_8 : decode mX10_isCut.2.1 8 = .ok (.invokestatic 77, 3) := by decide +kernel
theorem dX10_isCut_11 : decode mX10_isCut.2.1 11 = .ok (.ireturn, 1) := by decide +kernel
theorem dX10_has_0 : decode mX10_has.2.1 0 = .ok (.iload_n 1, 1) := by decide +kernel
theorem dX10_has_1 : decode mX10_has.2.1 1 = .ok (.ifCond .le 18, 3) := by decide +kernel
theorem dX10_has_4 : decode mX10_has.2.1 4 = .ok (.iload_n 0, 1) := by decide +kernel
theorem dX10_has_5 : decode mX10_has.2.1 5 = .ok (.iload_n 1, 1) := by decide +kernel
theorem dX10_has_6 : decode mX10_has.2.1 6 = .ok (.iconst 1, 1) := by decide +kernel
theorem dX10_has_7 : decode mX10_has.2.1 7 = .ok (.isub, 1) := by decide +kernel
theorem dX10_has_8 : decode mX10_has.2.1 8 = .ok (.ishr, 1) := by decide +kernel
theorem dX10_has_9 : decode mX10_has.2.1 9 = .ok (.iconst 1, 1) := by decide +kernel
theorem dX10_has_10 : decode mX10_has.2.1 10 = .ok (.iand, 1) := by decide +kernel
theorem dX10_has_11 : decode mX10_has.2.1 11 = .ok (.iconst 1, 1) := by decide +kernel
theorem dX10_has_12 : decode mX10_has.2.1 12 = .ok (.if_icmp .ne 7, 3) := by decide +kernel
theorem dX10_has_15 : decode mX10_has.2.1 15 = .ok (.iconst 1, 1) := by decide +kernel
theorem dX10_has_16 : decode mX10_has.2.1 16 = .ok (.goto 4, 3) := by decide +kernel
theorem dX10_has_19 : decode mX10_has.2.1 19 = .ok (.iconst 0, 1) := by decide +kernel
theorem dX10_has_20 : decode mX10_has.2.1 20 = .ok (.ireturn, 1) := by decide +kernel
theorem dX10_separates_0 : decode mX10_separates.2.1 0 = .ok (.iload_n 0, 1) := by decide +kernel
theorem dX10_separates_1 : decode mX10_separates.2.1 1 = .ok (.iload_n 1, 1) := by decide +kernel
theorem dX10_separates_2 : decode mX10_separates.2.1 2 = .ok (.invokestatic 89, 3) := by decide +kernel
theorem dX10_separates_5 : decode mX10_separates.2.1 5 = .ok (.iload_n 0, 1) := by decide +kernel
theorem dX10_separates_6 : decode mX10_separates.2.1 6 = .ok (.iload_n 2, 1) := by decide +kernel
theorem dX10_separates_7 : decode mX10_separates.2.1 7 = .ok (.invokestatic 89, 3) := by decide +kernel
theorem dX10_separates_10 : decode mX10_separates.2.1 10 = .ok (.if_icmp .eq 7, 3) := by decide +kernel
theorem dX10_separates_13 : decode mX10_separates.2.1 13 = .ok (.iconst 1, 1) := by decide +kernel
theorem dX10_separates_14 : decode mX10_separates.2.1 14 = .ok (.goto 4, 3) := by decide +kernel
theorem dX10_separates_17 : decode mX10_separates.2.1 17 = .ok (.iconst 0, 1) := by decide +kernel
theorem dX10_separates_18 : decode mX10_separates.2.1 18 = .ok (.ireturn, 1) := by decide +kernel
theorem dX10_pairsOf_0 : decode mX10_pairsOf.2.1 0 = .ok (.iload_n 0, 1) := by decide +kernel
theorem dX10_pairsOf_1 : decode mX10_pairsOf.2.1 1 = .ok (.iload_n 0, 1) := by decide +kernel
theorem dX10_pairsOf_2 : decode mX10_pairsOf.2.1 2 = .ok (.iconst 1, 1) := by decide +kernel
theorem dX10_pairsOf_3 : decode mX10_pairsOf.2.1 3 = .ok (.isub, 1) := by decide +kernel
theorem dX10_pairsOf_4 : decode mX10_pairsOf.2.1 4 = .ok (.imul, 1) := by decide +kernel
theorem dX10_pairsOf_5 : decode mX10_pairsOf.2.1 5 = .ok (.iconst 2, 1) := by decide +kernel
theorem dX10_pairsOf_6 : decode mX10_pairsOf.2.1 6 = .ok (.idiv, 1) := by decide +kernel
theorem dX10_pairsOf_7 : decode mX10_pairsOf.2.1 7 = .ok (.ireturn, 1) := by decide +kernel
theorem dX10_copies_0 : decode mX10_copies.2.1 0 = .ok (.iconst 0, 1) := by decide +kernel
theorem dX10_copies_1 : decode mX10_copies.2.1 1 = .ok (.istore_n 2, 1) := by decide +kernel
theorem dX10_copies_2 : decode mX10_copies.2.1 2 = .ok (.iload_n 2, 1) := by decide +kernel
theorem dX10_copies_3 : decode mX10_copies.2.1 3 = .ok (.aload_n 0, 1) := by decide +kernel
theorem dX10_copies_4 : decode mX10_copies.2.1 4 = .ok (.arraylength, 1) := by decide +kernel
theorem dX10_copies_5 : decode mX10_copies.2.1 5 = .ok (.if_icmp .ge 15, 3) := by decide +kernel
theorem dX10_copies_8 : decode mX10_copies.2.1 8 = .ok (.aload_n 1, 1) := by decide +kernel
theorem dX10_copies_9 : decode mX10_copies.2.1 9 = .ok (.iload_n 2, 1) := by decide +kernel
theorem dX10_copies_10 : decode mX10_copies.2.1 10 = .ok (.aload_n 0, 1) := by decide +kernel
theorem dX10_copies_11 : decode mX10_copies.2.1 11 = .ok (.iload_n 2, 1) := by decide +kernel
theorem dX10_copies_12 : decode mX10_copies.2.1 12 = .ok (.iaload, 1) := by decide +kernel
theorem dX10_copies_13 : decode mX10_copies.2.1 13 = .ok (.iastore, 1) := by decide +kernel
theorem dX10_copies_14 : decode mX10_copies.2.1 14 = .ok (.iinc 2 1, 3) := by decide +kernel
theorem dX10_copies_17 : decode mX10_copies.2.1 17 = .ok (.goto (-15), 3) := by decide +kernel
theorem dX10_copies_20 : decode mX10_copies.2.1 20 = .ok (.return_, 1) := by decide +kernel
theorem dX10_all_0 : decode mX10_all.2.1 0 = .ok (.iconst 0, 1) := by decide +kernel
theorem dX10_all_1 : decode mX10_all.2.1 1 = .ok (.istore_n 1, 1) := by decide +kernel
theorem dX10_all_2 : decode mX10_all.2.1 2 = .ok (.iconst 0, 1) := by decide +kernel
theorem dX10_all_3 : decode mX10_all.2.1 3 = .ok (.istore_n 2, 1) := by decide +kernel
theorem dX10_all_4 : decode mX10_all.2.1 4 = .ok (.iload_n 2, 1) := by decide +kernel
theorem dX10_all_5 : decode mX10_all.2.1 5 = .ok (.aload_n 0, 1) := by decide +kernel
theorem dX10_all_6 : decode mX10_all.2.1 6 = .ok (.getfield 9, 3) := by decide +kernel
theorem dX10_all_9 : decode mX10_all.2.1 9 = .ok (.if_icmp .ge 41, 3) := by decide +kernel
theorem dX10_all_12 : decode mX10_all.2.1 12 = .ok (.iload_n 2, 1) := by decide +kernel
theorem dX10_all_13 : decode mX10_all.2.1 13 = .ok (.iconst 1, 1) := by decide +kernel
theorem dX10_all_14 : decode mX10_all.2.1 14 = .ok (.iadd, 1) := by decide +kernel
theorem dX10_all_15 : decode mX10_all.2.1 15 = .ok (.istore_n 3, 1) := by decide +kernel
theorem dX10_all_16 : decode mX10_all.2.1 16 = .ok (.iload_n 3, 1) := by decide +kernel
theorem dX10_all_17 : decode mX10_all.2.1 17 = .ok (.aload_n 0, 1) := by decide +kernel
theorem dX10_all_18 : decode mX10_all.2.1 18 = .ok (.getfield 9, 3) := by decide +kernel
theorem dX10_all_21 : decode mX10_all.2.1 21 = .ok (.if_icmp .ge 23, 3) := by decide +kernel
theorem dX10_all_24 : decode mX10_all.2.1 24 = .ok (.iload_n 1, 1) := by decide +kernel
theorem dX10_all_25 : decode mX10_all.2.1 25 = .ok (.aload_n 0, 1) := by decide +kernel
theorem dX10_all_26 : decode mX10_all.2.1 26 = .ok (.getfield 15, 3) := by decide +kernel
theorem dX10_all_29 : decode mX10_all.2.1 29 = .ok (.bipush 6, 2) := by decide +kernel
theorem dX10_all_31 : decode mX10_all.2.1 31 = .ok (.iload_n 2, 1) := by decide +kernel
theorem dX10_all_32 : decode mX10_all.2.1 32 = .ok (.imul, 1) := by decide +kernel
theorem dX10_all_33 : decode mX10_all.2.1 33 = .ok (.iload_n 3, 1) := by decide +kernel
theorem dX10_all_34 : decode mX10_all.2.1 34 = .ok (.iadd, 1) := by decide +kernel
theorem dX10_all_35 : decode mX10_all.2.1 35 = .ok (.iaload, 1) := by decide +kernel
theorem dX10_all_36 : decode mX10_all.2.1 36 = .ok (.iadd, 1) := by decide +kernel
theorem dX10_all_37 : decode mX10_all.2.1 37 = .ok (.istore_n 1, 1) := by decide +kernel
theorem dX10_all_38 : decode mX10_all.2.1 38 = .ok (.iinc 3 1, 3) := by decide +kernel
theorem dX10_all_41 : decode mX10_all.2.1 41 = .ok (.goto (-25), 3) := by decide +kernel
theorem dX10_all_44 : decode mX10_all.2.1 44 = .ok (.iinc 2 1, 3) := by decide +kernel
theorem dX10_all_47 : decode mX10_all.2.1 47 = .ok (.goto (-43), 3) := by decide +kernel
theorem dX10_all_50 : decode mX10_all.2.1 50 = .ok (.iload_n 1, 1) := by decide +kernel
theorem dX10_all_51 : decode mX10_all.2.1 51 = .ok (.ireturn, 1) := by decide +kernel
theorem dX10_is_0 : decode mX10_is.2.1 0 = .ok (.aload_n 0, 1) := by decide +kernel
theorem dX10_is_1 : decode mX10_is.2.1 1 = .ok (.getfield 15, 3) := by decide +kernel
theorem dX10_is_4 : decode mX10_is.2.1 4 = .ok (.bipush 6, 2) := by decide +kernel
theorem dX10_is_6 : decode mX10_is.2.1 6 = .ok (.iload_n 1, 1) := by decide +kernel
theorem dX10_is_7 : decode mX10_is.2.1 7 = .ok (.imul, 1) := by decide +kernel
theorem dX10_is_8 : decode mX10_is.2.1 8 = .ok (.iload_n 2, 1) := by decide +kernel
theorem dX10_is_9 : decode mX10_is.2.1 9 = .ok (.iadd, 1) := by decide +kernel
theorem dX10_is_10 : decode mX10_is.2.1 10 = .ok (.iload_n 3, 1) := by decide +kernel
theorem dX10_is_11 : decode mX10_is.2.1 11 = .ok (.iastore, 1) := by decide +kernel
theorem dX10_is_12 : decode mX10_is.2.1 12 = .ok (.aload_n 0, 1) := by decide +kernel
theorem dX10_is_13 : decode mX10_is.2.1 13 = .ok (.getfield 15, 3) := by decide +kernel
theorem dX10_is_16 : decode mX10_is.2.1 16 = .ok (.bipush 6, 2) := by decide +kernel
theorem dX10_is_18 : decode mX10_is.2.1 18 = .ok (.iload_n 2, 1) := by decide +kernel
theorem dX10_is_19 : decode mX10_is.2.1 19 = .ok (.imul, 1) := by decide +kernel
theorem dX10_is_20 : decode mX10_is.2.1 20 = .ok (.iload_n 1, 1) := by decide +kernel
theorem dX10_is_21 : decode mX10_is.2.1 21 = .ok (.iadd, 1) := by decide +kernel
theorem dX10_is_22 : decode mX10_is.2.1 22 = .ok (.iload_n 3, 1) := by decide +kernel
theorem dX10_is_23 : decode mX10_is.2.1 23 = .ok (.iastore, 1) := by decide +kernel
theorem dX10_is_24 : decode mX10_is.2.1 24 = .ok (.return_, 1) := by decide +kernel
theorem dX10_ahead_0 : decode mX10_ahead.2.1 0 = .ok (.aload_n 0, 1) := by decide +kernel
theorem dX10_ahead_1 : decode mX10_ahead.2.1 1 = .ok (.aload_n 0, 1) := by decide +kernel
theorem dX10_ahead_2 : decode mX10_ahead.2.1 2 = .ok (.getfield 9, 3) := by decide +kernel
theorem dX10_ahead_5 : decode mX10_ahead.2.1 5 = .ok (.putfield 93, 3) := by decide +kernel
theorem dX10_ahead_8 : decode mX10_ahead.2.1 8 = .ok (.aload_n 0, 1) := by decide +kernel
theorem dX10_ahead_9 : decode mX10_ahead.2.1 9 = .ok (.getfield 15, 3) := by decide +kernel
theorem dX10_ahead_12 : decode mX10_ahead.2.1 12 = .ok (.aload_n 0, 1) := by decide +kernel
theorem dX10_ahead_13 : decode mX10_ahead.2.1 13 = .ok (.getfield 52, 3) := by decide +kernel
theorem dX10_ahead_16 : decode mX10_ahead.2.1 16 = .ok (.invokestatic 96, 3) := by decide +kernel
theorem dX10_ahead_19 : decode mX10_ahead.2.1 19 = .ok (.return_, 1) := by decide +kernel
theorem dX10_done_0 : decode mX10_done.2.1 0 = .ok (.iconst 0, 1) := by decide +kernel
theorem dX10_done_1 : decode mX10_done.2.1 1 = .ok (.istore_n 1, 1) := by decide +kernel
theorem dX10_done_2 : decode mX10_done.2.1 2 = .ok (.iconst 0, 1) := by decide +kernel
theorem dX10_done_3 : decode mX10_done.2.1 3 = .ok (.istore_n 2, 1) := by decide +kernel
theorem dX10_done_4 : decode mX10_done.2.1 4 = .ok (.iload_n 2, 1) := by decide +kernel
theorem dX10_done_5 : decode mX10_done.2.1 5 = .ok (.aload_n 0, 1) := by decide +kernel
theorem dX10_done_6 : decode mX10_done.2.1 6 = .ok (.getfield 9, 3) := by decide +kernel
theorem dX10_done_9 : decode mX10_done.2.1 9 = .ok (.if_icmp .ge 60, 3) := by decide +kernel
theorem dX10_done_12 : decode mX10_done.2.1 12 = .ok (.iload_n 2, 1) := by decide +kernel
theorem dX10_done_13 : decode mX10_done.2.1 13 = .ok (.iconst 1, 1) := by decide +kernel
theorem dX10_done_14 : decode mX10_done.2.1 14 = .ok (.iadd, 1) := by decide +kernel
theorem dX10_done_15 : decode mX10_done.2.1 15 = .ok (.istore_n 3, 1) := by decide +kernel
theorem dX10_done_16 : decode mX10_done.2.1 16 = .ok (.iload_n 3, 1) := by decide +kernel
theorem dX10_done_17 : decode mX10_done.2.1 17 = .ok (.aload_n 0, 1) := by decide +kernel
theorem dX10_done_18 : decode mX10_done.2.1 18 = .ok (.getfield 9, 3) := by decide +kernel
theorem dX10_done_21 : decode mX10_done.2.1 21 = .ok (.if_icmp .ge 42, 3) := by decide +kernel
theorem dX10_done_24 : decode mX10_done.2.1 24 = .ok (.iload_n 1, 1) := by decide +kernel
theorem dX10_done_25 : decode mX10_done.2.1 25 = .ok (.aload_n 0, 1) := by decide +kernel
theorem dX10_done_26 : decode mX10_done.2.1 26 = .ok (.getfield 15, 3) := by decide +kernel
theorem dX10_done_29 : decode mX10_done.2.1 29 = .ok (.bipush 6, 2) := by decide +kernel
theorem dX10_done_31 : decode mX10_done.2.1 31 = .ok (.iload_n 2, 1) := by decide +kernel
theorem dX10_done_32 : decode mX10_done.2.1 32 = .ok (.imul, 1) := by decide +kernel
theorem dX10_done_33 : decode mX10_done.2.1 33 = .ok (.iload_n 3, 1) := by decide +kernel
theorem dX10_done_34 : decode mX10_done.2.1 34 = .ok (.iadd, 1) := by decide +kernel
theorem dX10_done_35 : decode mX10_done.2.1 35 = .ok (.iaload, 1) := by decide +kernel
theorem dX10_done_36 : decode mX10_done.2.1 36 = .ok (.aload_n 0, 1) := by decide +kernel
theorem dX10_done_37 : decode mX10_done.2.1 37 = .ok (.getfield 52, 3) := by decide +kernel
theorem dX10_done_40 : decode mX10_done.2.1 40 = .ok (.bipush 6, 2) := by decide +kernel
theorem dX10_done_42 : decode mX10_done.2.1 42 = .ok (.iload_n 2, 1) := by decide +kernel
theorem dX10_done_43 : decode mX10_done.2.1 43 = .ok (.imul, 1) := by decide +kernel
theorem dX10_done_44 : decode mX10_done.2.1 44 = .ok (.iload_n 3, 1) := by decide +kernel
theorem dX10_done_45 : decode mX10_done.2.1 45 = .ok (.iadd, 1) := by decide +kernel
theorem dX10_done_46 : decode mX10_done.2.1 46 = .ok (.iaload, 1) := by decide +kernel
theorem dX10_done_47 : decode mX10_done.2.1 47 = .ok (.if_icmp .eq 7, 3) := by decide +kernel
theorem dX10_done_50 : decode mX10_done.2.1 50 = .ok (.iconst 1, 1) := by decide +kernel
theorem dX10_done_51 : decode mX10_done.2.1 51 = .ok (.goto 4, 3) := by decide +kernel
theorem dX10_done_54 : decode mX10_done.2.1 54 = .ok (.iconst 0, 1) := by decide +kernel
theorem dX10_done_55 : decode mX10_done.2.1 55 = .ok (.iadd, 1) := by decide +kernel
theorem dX10_done_56 : decode mX10_done.2.1 56 = .ok (.istore_n 1, 1) := by decide +kernel
theorem dX10_done_57 : decode mX10_done.2.1 57 = .ok (.iinc 3 1, 3) := by decide +kernel
theorem dX10_done_60 : decode mX10_done.2.1 60 = .ok (.goto (-44), 3) := by decide +kernel
theorem dX10_done_63 : decode mX10_done.2.1 63 = .ok (.iinc 2 1, 3) := by decide +kernel
theorem dX10_done_66 : decode mX10_done.2.1 66 = .ok (.goto (-62), 3) := by decide +kernel
theorem dX10_done_69 : decode mX10_done.2.1 69 = .ok (.iload_n 1, 1) := by decide +kernel
theorem dX10_done_70 : decode mX10_done.2.1 70 = .ok (.ifCond .ne 16, 3) := by decide +kernel
theorem dX10_done_73 : decode mX10_done.2.1 73 = .ok (.aload_n 0, 1) := by decide +kernel
theorem dX10_done_74 : decode mX10_done.2.1 74 = .ok (.getfield 9, 3) := by decide +kernel
theorem dX10_done_77 : decode mX10_done.2.1 77 = .ok (.aload_n 0, 1) := by decide +kernel
theorem dX10_done_78 : decode mX10_done.2.1 78 = .ok (.getfield 93, 3) := by decide +kernel
theorem dX10_done_81 : decode mX10_done.2.1 81 = .ok (.if_icmp .ne 5, 3) := by decide +kernel
theorem dX10_done_84 : decode mX10_done.2.1 84 = .ok (.iconst 0, 1) := by decide +kernel
theorem dX10_done_85 : decode mX10_done.2.1 85 = .ok (.ireturn, 1) := by decide +kernel
theorem dX10_done_86 : decode mX10_done.2.1 86 = .ok (.aload_n 0, 1) := by decide +kernel
theorem dX10_done_87 : decode mX10_done.2.1 87 = .ok (.getfield 100, 3) := by decide +kernel
theorem dX10_done_90 : decode mX10_done.2.1 90 = .ok (.bipush 8, 2) := by decide +kernel
theorem dX10_done_92 : decode mX10_done.2.1 92 = .ok (.if_icmp .ne 79, 3) := by decide +kernel
theorem dX10_done_95 : decode mX10_done.2.1 95 = .ok (.iconst 1, 1) := by decide +kernel
theorem dX10_done_96 : decode mX10_done.2.1 96 = .ok (.istore_n 2, 1) := by decide +kernel
theorem dX10_done_97 : decode mX10_done.2.1 97 = .ok (.iload_n 2, 1) := by decide +kernel
theorem dX10_done_98 : decode mX10_done.2.1 98 = .ok (.bipush 8, 2) := by decide +kernel
theorem dX10_done_100 : decode mX10_done.2.1 100 = .ok (.if_icmp .ge 61, 3) := by decide +kernel
theorem dX10_done_103 : decode mX10_done.2.1 103 = .ok (.aload_n 0, 1) := by decide +kernel
theorem dX10_done_104 : decode mX10_done.2.1 104 = .ok (.getfield 25, 3) := by decide +kernel
theorem dX10_done_107 : decode mX10_done.2.1 107 = .ok (.iload_n 2, 1) := by decide +kernel
theorem dX10_done_108 : decode mX10_done.2.1 108 = .ok (.iconst 1, 1) := by decide +kernel
theorem dX10_done_109 : decode mX10_done.2.1 109 = .ok (.isub, 1) := by decide +kernel
theorem dX10_done_110 : decode mX10_done.2.1 110 = .ok (.aload_n 0, 1) := by decide +kernel
theorem dX10_done_111 : decode mX10_done.2.1 111 = .ok (.getfield 25, 3) := by decide +kernel
theorem dX10_done_114 : decode mX10_done.2.1 114 = .ok (.iload_n 2, 1) := by decide +kernel
theorem dX10_done_115 : decode mX10_done.2.1 115 = .ok (.iaload, 1) := by decide +kernel
theorem dX10_done_116 : decode mX10_done.2.1 116 = .ok (.iastore, 1) := by decide +kernel
theorem dX10_done_117 : decode mX10_done.2.1 117 = .ok (.iconst 0, 1) := by decide +kernel
theorem dX10_done_118 : decode mX10_done.2.1 118 = .ok (.istore_n 3, 1) := by decide +kernel
theorem dX10_done_119 : decode mX10_done.2.1 119 = .ok (.iload_n 3, 1) := by decide +kernel
theorem dX10_done_120 : decode mX10_done.2.1 120 = .ok (.bipush 36, 2) := by decide +kernel
theorem dX10_done_122 : decode mX10_done.2.1 122 = .ok (.if_icmp .ge 33, 3) := by decide +kernel
theorem dX10_done_125 : decode mX10_done.2.1 125 = .ok (.aload_n 0, 1) := by decide +kernel
theorem dX10_done_126 : decode mX10_done.2.1 126 = .ok (.getfield 28, 3) := by decide +kernel
theorem dX10_done_129 : decode mX10_done.2.1 129 = .ok (.bipush 36, 2) := by decide +kernel
theorem dX10_done_131 : decode mX10_done.2.1 131 = .ok (.iload_n 2, 1) := by decide +kernel
theorem dX10_done_132 : decode mX10_done.2.1 132 = .ok (.iconst 1, 1) := by decide +kernel
theorem dX10_done_133 : decode mX10_done.2.1 133 = .ok (.isub, 1) := by decide +kernel
theorem dX10_done_134 : decode mX10_done.2.1 134 = .ok (.imul, 1) := by decide +kernel
theorem dX10_done_135 : decode mX10_done.2.1 135 = .ok (.iload_n 3, 1) := by decide +kernel
theorem dX10_done_136 : decode mX10_done.2.1 136 = .ok (.iadd, 1) := by decide +kernel
theorem dX10_done_137 : decode mX10_done.2.1 137 = .ok (.aload_n 0, 1) := by decide +kernel
theorem dX10_done_138 : decode mX10_done.2.1 138 = .ok (.getfield 28, 3) := by decide +kernel
theorem dX10_done_141 : decode mX10_done.2.1 141 = .ok (.bipush 36, 2) := by decide +kernel
theorem dX10_done_143 : decode mX10_done.2.1 143 = .ok (.iload_n 2, 1) := by decide +kernel
theorem dX10_done_144 : decode mX10_done.2.1 144 = .ok (.imul, 1) := by decide +kernel
theorem dX10_done_145 : decode mX10_done.2.1 145 = .ok (.iload_n 3, 1) := by decide +kernel
theorem dX10_done_146 : decode mX10_done.2.1 146 = .ok (.iadd, 1) := by decide +kernel
theorem dX10_done_147 : decode mX10_done.2.1 147 = .ok (.iaload, 1) := by decide +kernel
theorem dX10_done_148 : decode mX10_done.2.1 148 = .ok (.iastore, 1) := by decide +kernel
theorem dX10_done_149 : decode mX10_done.2.1 149 = .ok (.iinc 3 1, 3) := by decide +kernel
theorem dX10_done_152 : decode mX10_done.2.1 152 = .ok (.goto (-33), 3) := by decide +kernel
theorem dX10_done_155 : decode mX10_done.2.1 155 = .ok (.iinc 2 1, 3) := by decide +kernel
theorem dX10_done_158 : decode mX10_done.2.1 158 = .ok (.goto (-61), 3) := by decide +kernel
theorem dX10_done_161 : decode mX10_done.2.1 161 = .ok (.aload_n 0, 1) := by decide +kernel
theorem dX10_done_162 : decode mX10_done.2.1 162 = .ok (.dup, 1) := by decide +kernel
theorem dX10_done_163 : decode mX10_done.2.1 163 = .ok (.getfield 100, 3) := by decide +kernel
theorem dX10_done_166 : decode mX10_done.2.1 166 = .ok (.iconst 1, 1) := by decide +kernel
theorem dX10_done_167 : decode mX10_done.2.1 167 = .ok (.isub, 1) := by decide +kernel
theorem dX10_done_168 : decode mX10_done.2.1 168 = .ok (.putfield 100, 3) := by decide +kernel
theorem dX10_done_171 : decode mX10_done.2.1 171 = .ok (.aload_n 0, 1) := by decide +kernel
theorem dX10_done_172 : decode mX10_done.2.1 172 = .ok (.getfield 25, 3) := by decide +kernel
theorem dX10_done_175 : decode mX10_done.2.1 175 = .ok (.aload_n 0, 1) := by decide +kernel
theorem dX10_done_176 : decode mX10_done.2.1 176 = .ok (.getfield 100, 3) := by decide +kernel
theorem dX10_done_179 : decode mX10_done.2.1 179 = .ok (.aload_n 0, 1) := by decide +kernel
theorem dX10_done_180 : decode mX10_done.2.1 180 = .ok (.getfield 93, 3) := by decide +kernel
theorem dX10_done_183 : decode mX10_done.2.1 183 = .ok (.iastore, 1) := by decide +kernel
theorem dX10_done_184 : decode mX10_done.2.1 184 = .ok (.iconst 0, 1) := by decide +kernel
theorem dX10_done_185 : decode mX10_done.2.1 185 = .ok (.istore_n 2, 1) := by decide +kernel
theorem dX10_done_186 : decode mX10_done.2.1 186 = .ok (.iload_n 2, 1) := by decide +kernel
theorem dX10_done_187 : decode mX10_done.2.1 187 = .ok (.bipush 36, 2) := by decide +kernel
theorem dX10_done_189 : decode mX10_done.2.1 189 = .ok (.if_icmp .ge 29, 3) := by decide +kernel
theorem dX10_done_192 : decode mX10_done.2.1 192 = .ok (.aload_n 0, 1) := by decide +kernel
theorem dX10_done_193 : decode mX10_done.2.1 193 = .ok (.getfield 28, 3) := by decide +kernel
theorem dX10_done_196 : decode mX10_done.2.1 196 = .ok (.bipush 36, 2) := by decide +kernel
theorem dX10_done_198 : decode mX10_done.2.1 198 = .ok (.aload_n 0, 1) := by decide +kernel
theorem dX10_done_199 : decode mX10_done.2.1 199 = .ok (.getfield 100, 3) := by decide +kernel
theorem dX10_done_202 : decode mX10_done.2.1 202 = .ok (.imul, 1) := by decide +kernel
theorem dX10_done_203 : decode mX10_done.2.1 203 = .ok (.iload_n 2, 1) := by decide +kernel
theorem dX10_done_204 : decode mX10_done.2.1 204 = .ok (.iadd, 1) := by decide +kernel
theorem dX10_done_205 : decode mX10_done.2.1 205 = .ok (.aload_n 0, 1) := by decide +kernel
theorem dX10_done_206 : decode mX10_done.2.1 206 = .ok (.getfield 52, 3) := by decide +kernel
theorem dX10_done_209 : decode mX10_done.2.1 209 = .ok (.iload_n 2, 1) := by decide +kernel
theorem dX10_done_210 : decode mX10_done.2.1 210 = .ok (.iaload, 1) := by decide +kernel
theorem dX10_done_211 : decode mX10_done.2.1 211 = .ok (.iastore, 1) := by decide +kernel
theorem dX10_done_212 : decode mX10_done.2.1 212 = .ok (.iinc 2 1, 3) := by decide +kernel
theorem dX10_done_215 : decode mX10_done.2.1 215 = .ok (.goto (-29), 3) := by decide +kernel
theorem dX10_done_218 : decode mX10_done.2.1 218 = .ok (.aload_n 0, 1) := by decide +kernel
theorem dX10_done_219 : decode mX10_done.2.1 219 = .ok (.dup, 1) := by decide +kernel
theorem dX10_done_220 : decode mX10_done.2.1 220 = .ok (.getfield 100, 3) := by decide +kernel
theorem dX10_done_223 : decode mX10_done.2.1 223 = .ok (.iconst 1, 1) := by decide +kernel
theorem dX10_done_224 : decode mX10_done.2.1 224 = .ok (.iadd, 1) := by decide +kernel
theorem dX10_done_225 : decode mX10_done.2.1 225 = .ok (.putfield 100, 3) := by decide +kernel
theorem dX10_done_228 : decode mX10_done.2.1 228 = .ok (.iload_n 1, 1) := by decide +kernel
theorem dX10_done_229 : decode mX10_done.2.1 229 = .ok (.ireturn, 1) := by decide +kernel
theorem dX10_becomes_0 : decode mX10_becomes.2.1 0 = .ok (.aload_n 0, 1) := by decide +kernel
theorem dX10_becomes_1 : decode mX10_becomes.2.1 1 = .ok (.iload_n 1, 1) := by decide +kernel
theorem dX10_becomes_2 : decode mX10_becomes.2.1 2 = .ok (.putfield 9, 3) := by decide +kernel
theorem dX10_becomes_5 : decode mX10_becomes.2.1 5 = .ok (.iload_n 1, 1) := by decide +kernel
theorem dX10_becomes_6 : decode mX10_becomes.2.1 6 = .ok (.istore_n 2, 1) := by decide +kernel
theorem dX10_becomes_7 : decode mX10_becomes.2.1 7 = .ok (.iload_n 2, 1) := by decide +kernel
theorem dX10_becomes_8 : decode mX10_becomes.2.1 8 = .ok (.bipush 6, 2) := by decide +kernel
theorem dX10_becomes_10 : decode mX10_becomes.2.1 10 = .ok (.if_icmp .ge 23, 3) := by decide +kernel
theorem dX10_becomes_13 : decode mX10_becomes.2.1 13 = .ok (.aload_n 0, 1) := by decide +kernel
theorem dX10_becomes_14 : decode mX10_becomes.2.1 14 = .ok (.getfield 19, 3) := by decide +kernel
theorem dX10_becomes_17 : decode mX10_becomes.2.1 17 = .ok (.iload_n 2, 1) := by decide +kernel
theorem dX10_becomes_18 : decode mX10_becomes.2.1 18 = .ok (.iconst 0, 1) := by decide +kernel
theorem dX10_becomes_19 : decode mX10_becomes.2.1 19 = .ok (.iastore, 1) := by decide +kernel
theorem dX10_becomes_20 : decode mX10_becomes.2.1 20 = .ok (.aload_n 0, 1) := by decide +kernel
theorem dX10_becomes_21 : decode mX10_becomes.2.1 21 = .ok (.getfield 22, 3) := by decide +kernel
theorem dX10_becomes_24 : decode mX10_becomes.2.1 24 = .ok (.iload_n 2, 1) := by decide +kernel
theorem dX10_becomes_25 : decode mX10_becomes.2.1 25 = .ok (.iconst 0, 1) := by decide +kernel
theorem dX10_becomes_26 : decode mX10_becomes.2.1 26 = .ok (.iastore, 1) := by decide +kernel
theorem dX10_becomes_27 : decode mX10_becomes.2.1 27 = .ok (.iinc 2 1, 3) := by decide +kernel
theorem dX10_becomes_30 : decode mX10_becomes.2.1 30 = .ok (.goto (-23), 3) := by decide +kernel
theorem dX10_becomes_33 : decode mX10_becomes.2.1 33 = .ok (.return_, 1) := by decide +kernel
theorem dX10_points_0 : decode mX10_points.2.1 0 = .ok (.iload_n 1, 1) := by decide +kernel
theorem dX10_points_1 : decode mX10_points.2.1 1 = .ok (.i2l, 1) := by decide +kernel
theorem dX10_points_2 : decode mX10_points.2.1 2 = .ok (.ldc2_w 103, 3) := by decide +kernel
theorem dX10_points_5 : decode mX10_points.2.1 5 = .ok (.ldc2_w 105, 3) := by decide +kernel
theorem dX10_points_8 : decode mX10_points.2.1 8 = .ok (.invokestatic 77, 3) := by decide +kernel
theorem dX10_points_11 : decode mX10_points.2.1 11 = .ok (.ifCond .ne 5, 3) := by decide +kernel
theorem dX10_points_14 : decode mX10_points.2.1 14 = .ok (.iconst (-1), 1) := by decide +kernel
theorem dX10_points_15 : decode mX10_points.2.1 15 = .ok (.ireturn, 1) := by decide +kernel
theorem dX10_points_16 : decode mX10_points.2.1 16 = .ok (.aload_n 0, 1) := by decide +kernel
theorem dX10_points_17 : decode mX10_points.2.1 17 = .ok (.getfield 9, 3) := by decide +kernel
theorem dX10_points_20 : decode mX10_points.2.1 20 = .ok (.istore_n 2, 1) := by decide +kernel
theorem dX10_points_21 : decode mX10_points.2.1 21 = .ok (.aload_n 0, 1) := by decide +kernel
theorem dX10_points_22 : decode mX10_points.2.1 22 = .ok (.iload_n 1, 1) := by decide +kernel
theorem dX10_points_23 : decode mX10_points.2.1 23 = .ok (.putfield 9, 3) := by decide +kernel
theorem dX10_points_26 : decode mX10_points.2.1 26 = .ok (.iconst 0, 1) := by decide +kernel
theorem dX10_points_27 : decode mX10_points.2.1 27 = .ok (.istore_n 3, 1) := by decide +kernel
theorem dX10_points_28 : decode mX10_points.2.1 28 = .ok (.iload_n 3, 1) := by decide +kernel
theorem dX10_points_29 : decode mX10_points.2.1 29 = .ok (.bipush 36, 2) := by decide +kernel
theorem dX10_points_31 : decode mX10_points.2.1 31 = .ok (.if_icmp .ge 16, 3) := by decide +kernel
theorem dX10_points_34 : decode mX10_points.2.1 34 = .ok (.aload_n 0, 1) := by decide +kernel
theorem dX10_points_35 : decode mX10_points.2.1 35 = .ok (.getfield 15, 3) := by decide +kernel
theorem dX10_points_38 : decode mX10_points.2.1 38 = .ok (.iload_n 3, 1) := by decide +kernel
theorem dX10_points_39 : decode mX10_points.2.1 39 = .ok (.iconst 0, 1) := by decide +kernel
theorem dX10_points_40 : decode mX10_points.2.1 40 = .ok (.iastore, 1) := by decide +kernel
theorem dX10_points_41 : decode mX10_points.2.1 41 = .ok (.iinc 3 1, 3) := by decide +kernel
theorem dX10_points_44 : decode mX10_points.2.1 44 = .ok (.goto (-16), 3) := by decide +kernel
theorem dX10_points_47 : decode mX10_points.2.1 47 = .ok (.iconst 0, 1) := by decide +kernel
theorem dX10_points_48 : decode mX10_points.2.1 48 = .ok (.istore_n 3, 1) := by decide +kernel
theorem dX10_points_49 : decode mX10_points.2.1 49 = .ok (.iload_n 3, 1) := by decide +kernel
theorem dX10_points_50 : decode mX10_points.2.1 50 = .ok (.bipush 6, 2) := by decide +kernel
theorem dX10_points_52 : decode mX10_points.2.1 52 = .ok (.if_icmp .ge 23, 3) := by decide +kernel
theorem dX10_points_55 : decode mX10_points.2.1 55 = .ok (.aload_n 0, 1) := by decide +kernel
theorem dX10_points_56 : decode mX10_points.2.1 56 = .ok (.getfield 19, 3) := by decide +kernel
theorem dX10_points_59 : decode mX10_points.2.1 59 = .ok (.iload_n 3, 1) := by decide +kernel
theorem dX10_points_60 : decode mX10_points.2.1 60 = .ok (.iconst 0, 1) := by decide +kernel
theorem dX10_points_61 : decode mX10_points.2.1 61 = .ok (.iastore, 1) := by decide +kernel
theorem dX10_points_62 : decode mX10_points.2.1 62 = .ok (.aload_n 0, 1) := by decide +kernel
theorem dX10_points_63 : decode mX10_points.2.1 63 = .ok (.getfield 22, 3) := by decide +kernel
theorem dX10_points_66 : decode mX10_points.2.1 66 = .ok (.iload_n 3, 1) := by decide +kernel
theorem dX10_points_67 : decode mX10_points.2.1 67 = .ok (.iconst 0, 1) := by decide +kernel
theorem dX10_points_68 : decode mX10_points.2.1 68 = .ok (.iastore, 1) := by decide +kernel
theorem dX10_points_69 : decode mX10_points.2.1 69 = .ok (.iinc 3 1, 3) := by decide +kernel
theorem dX10_points_72 : decode mX10_points.2.1 72 = .ok (.goto (-23), 3) := by decide +kernel
theorem dX10_points_75 : decode mX10_points.2.1 75 = .ok (.aload_n 0, 1) := by decide +kernel
theorem dX10_points_76 : decode mX10_points.2.1 76 = .ok (.iconst 0, 1) := by decide +kernel
theorem dX10_points_77 : decode mX10_points.2.1 77 = .ok (.putfield 100, 3) := by decide +kernel
theorem dX10_points_80 : decode mX10_points.2.1 80 = .ok (.iload_n 2, 1) := by decide +kernel
theorem dX10_points_81 : decode mX10_points.2.1 81 = .ok (.ireturn, 1) := by decide +kernel
theorem dX10_put_0 : decode mX10_put.2.1 0 = .ok (.aload_n 0, 1) := by decide +kernel
theorem dX10_put_1 : decode mX10_put.2.1 1 = .ok (.iload_n 1, 1) := by decide +kernel
theorem dX10_put_2 : decode mX10_put.2.1 2 = .ok (.iload_n 2, 1) := by decide +kernel
theorem dX10_put_3 : decode mX10_put.2.1 3 = .ok (.invokevirtual 107, 3) := by decide +kernel
theorem dX10_put_6 : decode mX10_put.2.1 6 = .ok (.ifCond .eq 15, 3) := by decide +kernel
theorem dX10_put_9 : decode mX10_put.2.1 9 = .ok (.iload_n 3, 1) := by decide +kernel
theorem dX10_put_10 : decode mX10_put.2.1 10 = .ok (.i2l, 1) := by decide +kernel
theorem dX10_put_11 : decode mX10_put.2.1 11 = .ok (.lconst 0, 1) := by decide +kernel
theorem dX10_put_12 : decode mX10_put.2.1 12 = .ok (.ldc2_w 110, 3) := by decide +kernel
theorem dX10_put_15 : decode mX10_put.2.1 15 = .ok (.invokestatic 77, 3) := by decide +kernel
theorem dX10_put_18 : decode mX10_put.2.1 18 = .ok (.ifCond .ne 5, 3) := by decide +kernel
theorem dX10_put_21 : decode mX10_put.2.1 21 = .ok (.iconst (-1), 1) := by decide +kernel
theorem dX10_put_22 : decode mX10_put.2.1 22 = .ok (.ireturn, 1) := by decide +kernel
theorem dX10_put_23 : decode mX10_put.2.1 23 = .ok (.aload_n 0, 1) := by decide +kernel
theorem dX10_put_24 : decode mX10_put.2.1 24 = .ok (.getfield 15, 3) := by decide +kernel
theorem dX10_put_27 : decode mX10_put.2.1 27 = .ok (.bipush 6, 2) := by decide +kernel
theorem dX10_put_29 : decode mX10_put.2.1 29 = .ok (.iload_n 1, 1) := by decide +kernel
theorem dX10_put_30 : decode mX10_put.2.1 30 = .ok (.imul, 1) := by decide +kernel
theorem dX10_put_31 : decode mX10_put.2.1 31 = .ok (.iload_n 2, 1) := by decide +kernel
theorem dX10_put_32 : decode mX10_put.2.1 32 = .ok (.iadd, 1) := by decide +kernel
theorem dX10_put_33 : decode mX10_put.2.1 33 = .ok (.iaload, 1) := by decide +kernel
theorem dX10_put_34 : decode mX10_put.2.1 34 = .ok (.istore 4, 2) := by decide +kernel
theorem dX10_put_36 : decode mX10_put.2.1 36 = .ok (.aload_n 0, 1) := by decide +kernel
theorem dX10_put_37 : decode mX10_put.2.1 37 = .ok (.invokevirtual 112, 3) := by decide +kernel
theorem dX10_put_40 : decode mX10_put.2.1 40 = .ok (.aload_n 0, 1) := by decide +kernel
theorem dX10_put_41 : decode mX10_put.2.1 41 = .ok (.iload_n 1, 1) := by decide +kernel
theorem dX10_put_42 : decode mX10_put.2.1 42 = .ok (.iload_n 2, 1) := by decide +kernel
theorem dX10_put_43 : decode mX10_put.2.1 43 = .ok (.iload_n 3, 1) := by decide +kernel
theorem dX10_put_44 : decode mX10_put.2.1 44 = .ok (.invokevirtual 115, 3) := by decide +kernel
theorem dX10_put_47 : decode mX10_put.2.1 47 = .ok (.aload_n 0, 1) := by decide +kernel
theorem dX10_put_48 : decode mX10_put.2.1 48 = .ok (.invokevirtual 119, 3) := by decide +kernel
theorem dX10_put_51 : decode mX10_put.2.1 51 = .ok (.pop, 1) := by decide +kernel
theorem dX10_put_52 : decode mX10_put.2.1 52 = .ok (.iload 4, 2) := by decide +kernel
theorem dX10_put_54 : decode mX10_put.2.1 54 = .ok (.ireturn, 1) := by decide +kernel
theorem dX10_at_0 : decode mX10_at.2.1 0 = .ok (.aload_n 0, 1) := by decide +kernel
theorem dX10_at_1 : decode mX10_at.2.1 1 = .ok (.iload_n 1, 1) := by decide +kernel
theorem dX10_at_2 : decode mX10_at.2.1 2 = .ok (.iload_n 2, 1) := by decide +kernel
theorem dX10_at_3 : decode mX10_at.2.1 3 = .ok (.invokevirtual 107, 3) := by decide +kernel
theorem dX10_at_6 : decode mX10_at.2.1 6 = .ok (.ifCond .eq 17, 3) := by decide +kernel
theorem dX10_at_9 : decode mX10_at.2.1 9 = .ok (.aload_n 0, 1) := by decide +kernel
theorem dX10_at_10 : decode mX10_at.2.1 10 = .ok (.getfield 15, 3) := by decide +kernel
theorem dX10_at_13 : decode mX10_at.2.1 13 = .ok (.bipush 6, 2) := by decide +kernel
theorem dX10_at_15 : decode mX10_at.2.1 15 = .ok (.iload_n 1, 1) := by decide +kernel
theorem dX10_at_16 : decode mX10_at.2.1 16 = .ok (.imul, 1) := by decide +kernel
theorem dX10_at_17 : decode mX10_at.2.1 17 = .ok (.iload_n 2, 1) := by decide +kernel
theorem dX10_at_18 : decode mX10_at.2.1 18 = .ok (.iadd, 1) := by decide +kernel
theorem dX10_at_19 : decode mX10_at.2.1 19 = .ok (.iaload, 1) := by decide +kernel
theorem dX10_at_20 : decode mX10_at.2.1 20 = .ok (.goto 4, 3) := by decide +kernel
theorem dX10_at_23 : decode mX10_at.2.1 23 = .ok (.iconst (-1), 1) := by decide +kernel
theorem dX10_at_24 : decode mX10_at.2.1 24 = .ok (.ireturn, 1) := by decide +kernel
theorem dX10_cut_0 : decode mX10_cut.2.1 0 = .ok (.aload_n 0, 1) := by decide +kernel
theorem dX10_cut_1 : decode mX10_cut.2.1 1 = .ok (.iload_n 1, 1) := by decide +kernel
theorem dX10_cut_2 : decode mX10_cut.2.1 2 = .ok (.invokevirtual 122, 3) := by decide +kernel
theorem dX10_cut_5 : decode mX10_cut.2.1 5 = .ok (.ifCond .eq 17, 3) := by decide +kernel
theorem dX10_cut_8 : decode mX10_cut.2.1 8 = .ok (.iload_n 2, 1) := by decide +kernel
theorem dX10_cut_9 : decode mX10_cut.2.1 9 = .ok (.i2l, 1) := by decide +kernel
theorem dX10_cut_10 : decode mX10_cut.2.1 10 = .ok (.ldc2_w 125, 3) := by decide +kernel
theorem dX10_cut_13 : decode mX10_cut.2.1 13 = .ok (.ldc2_w 127, 3) := by decide +kernel
theorem dX10_cut_16 : decode mX10_cut.2.1 16 = .ok (.invokestatic 77, 3) := by decide +kernel
theorem dX10_cut_19 : decode mX10_cut.2.1 19 = .ok (.ifCond .ne 5, 3) := by decide +kernel
theorem dX10_cut_22 : decode mX10_cut.2.1 22 = .ok (.iconst (-1), 1) := by decide +kernel
theorem dX10_cut_23 : decode mX10_cut.2.1 23 = .ok (.ireturn, 1) := by decide +kernel
theorem dX10_cut_24 : decode mX10_cut.2.1 24 = .ok (.iconst 0, 1) := by decide +kernel
theorem dX10_cut_25 : decode mX10_cut.2.1 25 = .ok (.istore_n 3, 1) := by decide +kernel
theorem dX10_cut_26 : decode mX10_cut.2.1 26 = .ok (.iload_n 3, 1) := by decide +kernel
theorem dX10_cut_27 : decode mX10_cut.2.1 27 = .ok (.aload_n 0, 1) := by decide +kernel
theorem dX10_cut_28 : decode mX10_cut.2.1 28 = .ok (.getfield 9, 3) := by decide +kernel
theorem dX10_cut_31 : decode mX10_cut.2.1 31 = .ok (.if_icmp .ge 67, 3) := by decide +kernel
theorem dX10_cut_34 : decode mX10_cut.2.1 34 = .ok (.iload_n 3, 1) := by decide +kernel
theorem dX10_cut_35 : decode mX10_cut.2.1 35 = .ok (.iconst 1, 1) := by decide +kernel
theorem dX10_cut_36 : decode mX10_cut.2.1 36 = .ok (.iadd, 1) := by decide +kernel
theorem dX10_cut_37 : decode mX10_cut.2.1 37 = .ok (.istore 4, 2) := by decide +kernel
theorem dX10_cut_39 : decode mX10_cut.2.1 39 = .ok (.iload 4, 2) := by decide +kernel
theorem dX10_cut_41 : decode mX10_cut.2.1 41 = .ok (.aload_n 0, 1) := by decide +kernel
theorem dX10_cut_42 : decode mX10_cut.2.1 42 = .ok (.getfield 9, 3) := by decide +kernel
theorem dX10_cut_45 : decode mX10_cut.2.1 45 = .ok (.if_icmp .ge 47, 3) := by decide +kernel
theorem dX10_cut_48 : decode mX10_cut.2.1 48 = .ok (.iload_n 1, 1) := by decide +kernel
theorem dX10_cut_49 : decode mX10_cut.2.1 49 = .ok (.iload_n 3, 1) := by decide +kernel
theorem dX10_cut_50 : decode mX10_cut.2.1 50 = .ok (.iload 4, 2) := by decide +kernel
theorem dX10_cut_52 : decode mX10_cut.2.1 52 = .ok (.invokestatic 129, 3) := by decide +kernel
theorem dX10_cut_55 : decode mX10_cut.2.1 55 = .ok (.ifCond .eq 31, 3) := by decide +kernel
theorem dX10_cut_58 : decode mX10_cut.2.1 58 = .ok (.aload_n 0, 1) := by decide +kernel
theorem dX10_cut_59 : decode mX10_cut.2.1 59 = .ok (.getfield 15, 3) := by decide +kernel
theorem dX10_cut_62 : decode mX10_cut.2.1 62 = .ok (.bipush 6, 2) := by decide +kernel
theorem dX10_cut_64 : decode mX10_cut.2.1 64 = .ok (.iload_n 3, 1) := by decide +kernel
theorem dX10_cut_65 : decode mX10_cut.2.1 65 = .ok (.imul, 1) := by decide +kernel
theorem dX10_cut_66 : decode mX10_cut.2.1 66 = .ok (.iload 4, 2) := by decide +kernel
theorem dX10_cut_68 : decode mX10_cut.2.1 68 = .ok (.iadd, 1) := by decide +kernel
theorem dX10_cut_69 : decode mX10_cut.2.1 69 = .ok (.iaload, 1) := by decide +kernel
theorem dX10_cut_70 : decode mX10_cut.2.1 70 = .ok (.iload_n 2, 1) := by decide +kernel
theorem dX10_cut_71 : decode mX10_cut.2.1 71 = .ok (.iadd, 1) := by decide +kernel
theorem dX10_cut_72 : decode mX10_cut.2.1 72 = .ok (.i2l, 1) := by decide +kernel
theorem dX10_cut_73 : decode mX10_cut.2.1 73 = .ok (.lconst 0, 1) := by decide +kernel
theorem dX10_cut_74 : decode mX10_cut.2.1 74 = .ok (.ldc2_w 110, 3) := by decide +kernel
theorem dX10_cut_77 : decode mX10_cut.2.1 77 = .ok (.invokestatic 77, 3) := by decide +kernel
theorem dX10_cut_80 : decode mX10_cut.2.1 80 = .ok (.ifCond .ne 6, 3) := by decide +kernel
theorem dX10_cut_83 : decode mX10_cut.2.1 83 = .ok (.bipush (-5), 2) := by decide +kernel
theorem dX10_cut_85 : decode mX10_cut.2.1 85 = .ok (.ireturn, 1) := by decide +kernel
theorem dX10_cut_86 : decode mX10_cut.2.1 86 = .ok (.iinc 4 1, 3) := by decide +kernel
theorem dX10_cut_89 : decode mX10_cut.2.1 89 = .ok (.goto (-50), 3) := by decide +kernel
theorem dX10_cut_92 : decode mX10_cut.2.1 92 = .ok (.iinc 3 1, 3) := by decide +kernel
theorem dX10_cut_95 : decode mX10_cut.2.1 95 = .ok (.goto (-69), 3) := by decide +kernel
theorem dX10_cut_98 : decode mX10_cut.2.1 98 = .ok (.aload_n 0, 1) := by decide +kernel
theorem dX10_cut_99 : decode mX10_cut.2.1 99 = .ok (.invokevirtual 112, 3) := by decide +kernel
theorem dX10_cut_102 : decode mX10_cut.2.1 102 = .ok (.iconst 0, 1) := by decide +kernel
theorem dX10_cut_103 : decode mX10_cut.2.1 103 = .ok (.istore_n 3, 1) := by decide +kernel
theorem dX10_cut_104 : decode mX10_cut.2.1 104 = .ok (.iload_n 3, 1) := by decide +kernel
theorem dX10_cut_105 : decode mX10_cut.2.1 105 = .ok (.aload_n 0, 1) := by decide +kernel
theorem dX10_cut_106 : decode mX10_cut.2.1 106 = .ok (.getfield 9, 3) := by decide +kernel
theorem dX10_cut_109 : decode mX10_cut.2.1 109 = .ok (.if_icmp .ge 60, 3) := by decide +kernel
theorem dX10_cut_112 : decode mX10_cut.2.1 112 = .ok (.iload_n 3, 1) := by decide +kernel
theorem dX10_cut_113 : decode mX10_cut.2.1 113 = .ok (.iconst 1, 1) := by decide +kernel
theorem dX10_cut_114 : decode mX10_cut.2.1 114 = .ok (.iadd, 1) := by decide +kernel
theorem dX10_cut_115 : decode mX10_cut.2.1 115 = .ok (.istore 4, 2) := by decide +kernel
theorem dX10_cut_117 : decode mX10_cut.2.1 117 = .ok (.iload 4, 2) := by decide +kernel
theorem dX10_cut_119 : decode mX10_cut.2.1 119 = .ok (.aload_n 0, 1) := by decide +kernel
theorem dX10_cut_120 : decode mX10_cut.2.1 120 = .ok (.getfield 9, 3) := by decide +kernel
theorem dX10_cut_123 : decode mX10_cut.2.1 123 = .ok (.if_icmp .ge 40, 3) := by decide +kernel
theorem dX10_cut_126 : decode mX10_cut.2.1 126 = .ok (.iload_n 1, 1) := by decide +kernel
theorem dX10_cut_127 : decode mX10_cut.2.1 127 = .ok (.iload_n 3, 1) := by decide +kernel
theorem dX10_cut_128 : decode mX10_cut.2.1 128 = .ok (.iload 4, 2) := by decide +kernel
theorem dX10_cut_130 : decode mX10_cut.2.1 130 = .ok (.invokestatic 129, 3) := by decide +kernel
theorem dX10_cut_133 : decode mX10_cut.2.1 133 = .ok (.ifCond .eq 24, 3) := by decide +kernel
theorem dX10_cut_136 : decode mX10_cut.2.1 136 = .ok (.aload_n 0, 1) := by decide +kernel
theorem dX10_cut_137 : decode mX10_cut.2.1 137 = .ok (.iload_n 3, 1) := by decide +kernel
theorem dX10_cut_138 : decode mX10_cut.2.1 138 = .ok (.iload 4, 2) := by decide +kernel
theorem dX10_cut_140 : decode mX10_cut.2.1 140 = .ok (.aload_n 0, 1) := by decide +kernel
theorem dX10_cut_141 : decode mX10_cut.2.1 141 = .ok (.getfield 15, 3) := by decide +kernel
theorem dX10_cut_144 : decode mX10_cut.2.1 144 = .ok (.bipush 6, 2) := by decide +kernel
theorem dX10_cut_146 : decode mX10_cut.2.1 146 = .ok (.iload_n 3, 1) := by decide +kernel
theorem dX10_cut_147 : decode mX10_cut.2.1 147 = .ok (.imul, 1) := by decide +kernel
theorem dX10_cut_148 : decode mX10_cut.2.1 148 = .ok (.iload 4, 2) := by decide +kernel
theorem dX10_cut_150 : decode mX10_cut.2.1 150 = .ok (.iadd, 1) := by decide +kernel
theorem dX10_cut_151 : decode mX10_cut.2.1 151 = .ok (.iaload, 1) := by decide +kernel
theorem dX10_cut_152 : decode mX10_cut.2.1 152 = .ok (.iload_n 2, 1) := by decide +kernel
theorem dX10_cut_153 : decode mX10_cut.2.1 153 = .ok (.iadd, 1) := by decide +kernel
theorem dX10_cut_154 : decode mX10_cut.2.1 154 = .ok (.invokevirtual 115, 3) := by decide +kernel
theorem dX10_cut_157 : decode mX10_cut.2.1 157 = .ok (.iinc 4 1, 3) := by decide +kernel
theorem dX10_cut_160 : decode mX10_cut.2.1 160 = .ok (.goto (-43), 3) := by decide +kernel
theorem dX10_cut_163 : decode mX10_cut.2.1 163 = .ok (.iinc 3 1, 3) := by decide +kernel
theorem dX10_cut_166 : decode mX10_cut.2.1 166 = .ok (.goto (-62), 3) := by decide +kernel
theorem dX10_cut_169 : decode mX10_cut.2.1 169 = .ok (.aload_n 0, 1) := by decide +kernel
theorem dX10_cut_170 : decode mX10_cut.2.1 170 = .ok (.invokevirtual 119, 3) := by decide +kernel
theorem dX10_cut_173 : decode mX10_cut.2.1 173 = .ok (.pop, 1) := by decide +kernel
theorem dX10_cut_174 : decode mX10_cut.2.1 174 = .ok (.aload_n 0, 1) := by decide +kernel
theorem dX10_cut_175 : decode mX10_cut.2.1 175 = .ok (.invokevirtual 133, 3) := by decide +kernel
theorem dX10_cut_178 : decode mX10_cut.2.1 178 = .ok (.ireturn, 1) := by decide +kernel
theorem dX10_paths_0 : decode mX10_paths.2.1 0 = .ok (.aload_n 0, 1) := by decide +kernel
theorem dX10_paths_1 : decode mX10_paths.2.1 1 = .ok (.invokevirtual 112, 3) := by decide +kernel
theorem dX10_paths_4 : decode mX10_paths.2.1 4 = .ok (.iconst 0, 1) := by decide +kernel
theorem dX10_paths_5 : decode mX10_paths.2.1 5 = .ok (.istore_n 1, 1) := by decide +kernel
theorem dX10_paths_6 : decode mX10_paths.2.1 6 = .ok (.iload_n 1, 1) := by decide +kernel
theorem dX10_paths_7 : decode mX10_paths.2.1 7 = .ok (.aload_n 0, 1) := by decide +kernel
theorem dX10_paths_8 : decode mX10_paths.2.1 8 = .ok (.getfield 9, 3) := by decide +kernel
theorem dX10_paths_11 : decode mX10_paths.2.1 11 = .ok (.if_icmp .ge 95, 3) := by decide +kernel
theorem dX10_paths_14 : decode mX10_paths.2.1 14 = .ok (.iconst 0, 1) := by decide +kernel
theorem dX10_paths_15 : decode mX10_paths.2.1 15 = .ok (.istore_n 2, 1) := by decide +kernel
theorem dX10_paths_16 : decode mX10_paths.2.1 16 = .ok (.iload_n 2, 1) := by decide +kernel
theorem dX10_paths_17 : decode mX10_paths.2.1 17 = .ok (.aload_n 0, 1) := by decide +kernel
theorem dX10_paths_18 : decode mX10_paths.2.1 18 = .ok (.getfield 9, 3) := by decide +kernel
theorem dX10_paths_21 : decode mX10_paths.2.1 21 = .ok (.if_icmp .ge 79, 3) := by decide +kernel
theorem dX10_paths_24 : decode mX10_paths.2.1 24 = .ok (.iconst 0, 1) := by decide +kernel
theorem dX10_paths_25 : decode mX10_paths.2.1 25 = .ok (.istore_n 3, 1) := by decide +kernel
theorem dX10_paths_26 : decode mX10_paths.2.1 26 = .ok (.iload_n 3, 1) := by decide +kernel
theorem dX10_paths_27 : decode mX10_paths.2.1 27 = .ok (.aload_n 0, 1) := by decide +kernel
theorem dX10_paths_28 : decode mX10_paths.2.1 28 = .ok (.getfield 9, 3) := by decide +kernel
theorem dX10_paths_31 : decode mX10_paths.2.1 31 = .ok (.if_icmp .ge 63, 3) := by decide +kernel
theorem dX10_paths_34 : decode mX10_paths.2.1 34 = .ok (.aload_n 0, 1) := by decide +kernel
theorem dX10_paths_35 : decode mX10_paths.2.1 35 = .ok (.getfield 15, 3) := by decide +kernel
theorem dX10_paths_38 : decode mX10_paths.2.1 38 = .ok (.bipush 6, 2) := by decide +kernel
theorem dX10_paths_40 : decode mX10_paths.2.1 40 = .ok (.iload_n 2, 1) := by decide +kernel
theorem dX10_paths_41 : decode mX10_paths.2.1 41 = .ok (.imul, 1) := by decide +kernel
theorem dX10_paths_42 : decode mX10_paths.2.1 42 = .ok (.iload_n 1, 1) := by decide +kernel
theorem dX10_paths_43 : decode mX10_paths.2.1 43 = .ok (.iadd, 1) := by decide +kernel
theorem dX10_paths_44 : decode mX10_paths.2.1 44 = .ok (.iaload, 1) := by decide +kernel
theorem dX10_paths_45 : decode mX10_paths.2.1 45 = .ok (.aload_n 0, 1) := by decide +kernel
theorem dX10_paths_46 : decode mX10_paths.2.1 46 = .ok (.getfield 15, 3) := by decide +kernel
theorem dX10_paths_49 : decode mX10_paths.2.1 49 = .ok (.bipush 6, 2) := by decide +kernel
theorem dX10_paths_51 : decode mX10_paths.2.1 51 = .ok (.iload_n 1, 1) := by decide +kernel
theorem dX10_paths_52 : decode mX10_paths.2.1 52 = .ok (.imul, 1) := by decide +kernel
theorem dX10_paths_53 : decode mX10_paths.2.1 53 = .ok (.iload_n 3, 1) := by decide +kernel
theorem dX10_paths_54 : decode mX10_paths.2.1 54 = .ok (.iadd, 1) := by decide +kernel
theorem dX10_paths_55 : decode mX10_paths.2.1 55 = .ok (.iaload, 1) := by decide +kernel
theorem dX10_paths_56 : decode mX10_paths.2.1 56 = .ok (.iadd, 1) := by decide +kernel
theorem dX10_paths_57 : decode mX10_paths.2.1 57 = .ok (.istore 4, 2) := by decide +kernel
theorem dX10_paths_59 : decode mX10_paths.2.1 59 = .ok (.iload_n 2, 1) := by decide +kernel
theorem dX10_paths_60 : decode mX10_paths.2.1 60 = .ok (.iload_n 3, 1) := by decide +kernel
theorem dX10_paths_61 : decode mX10_paths.2.1 61 = .ok (.if_icmp .eq 27, 3) := by decide +kernel
theorem dX10_paths_64 : decode mX10_paths.2.1 64 = .ok (.iload 4, 2) := by decide +kernel
theorem dX10_paths_66 : decode mX10_paths.2.1 66 = .ok (.aload_n 0, 1) := by decide +kernel
theorem dX10_paths_67 : decode mX10_paths.2.1 67 = .ok (.getfield 15, 3) := by decide +kernel
theorem dX10_paths_70 : decode mX10_paths.2.1 70 = .ok (.bipush 6, 2) := by decide +kernel
theorem dX10_paths_72 : decode mX10_paths.2.1 72 = .ok (.iload_n 2, 1) := by decide +kernel
theorem dX10_paths_73 : decode mX10_paths.2.1 73 = .ok (.imul, 1) := by decide +kernel
theorem dX10_paths_74 : decode mX10_paths.2.1 74 = .ok (.iload_n 3, 1) := by decide +kernel
theorem dX10_paths_75 : decode mX10_paths.2.1 75 = .ok (.iadd, 1) := by decide +kernel
theorem dX10_paths_76 : decode mX10_paths.2.1 76 = .ok (.iaload, 1) := by decide +kernel
theorem dX10_paths_77 : decode mX10_paths.2.1 77 = .ok (.if_icmp .ge 11, 3) := by decide +kernel
theorem dX10_paths_80 : decode mX10_paths.2.1 80 = .ok (.aload_n 0, 1) := by decide +kernel
theorem dX10_paths_81 : decode mX10_paths.2.1 81 = .ok (.iload_n 2, 1) := by decide +kernel
theorem dX10_paths_82 : decode mX10_paths.2.1 82 = .ok (.iload_n 3, 1) := by decide +kernel
theorem dX10_paths_83 : decode mX10_paths.2.1 83 = .ok (.iload 4, 2) := by decide +kernel
theorem dX10_paths_85 : decode mX10_paths.2.1 85 = .ok (.invokevirtual 115, 3) := by decide +kernel
theorem dX10_paths_88 : decode mX10_paths.2.1 88 = .ok (.iinc 3 1, 3) := by decide +kernel
theorem dX10_paths_91 : decode mX10_paths.2.1 91 = .ok (.goto (-65), 3) := by decide +kernel
theorem dX10_paths_94 : decode mX10_paths.2.1 94 = .ok (.iinc 2 1, 3) := by decide +kernel
theorem dX10_paths_97 : decode mX10_paths.2.1 97 = .ok (.goto (-81), 3) := by decide +kernel
theorem dX10_paths_100 : decode mX10_paths.2.1 100 = .ok (.iinc 1 1, 3) := by decide +kernel
theorem dX10_paths_103 : decode mX10_paths.2.1 103 = .ok (.goto (-97), 3) := by decide +kernel
theorem dX10_paths_106 : decode mX10_paths.2.1 106 = .ok (.aload_n 0, 1) := by decide +kernel
theorem dX10_paths_107 : decode mX10_paths.2.1 107 = .ok (.invokevirtual 119, 3) := by decide +kernel
theorem dX10_paths_110 : decode mX10_paths.2.1 110 = .ok (.ireturn, 1) := by decide +kernel
theorem dX10_place_0 : decode mX10_place.2.1 0 = .ok (.aload_n 0, 1) := by decide +kernel
theorem dX10_place_1 : decode mX10_place.2.1 1 = .ok (.iload_n 1, 1) := by decide +kernel
theorem dX10_place_2 : decode mX10_place.2.1 2 = .ok (.invokevirtual 81, 3) := by decide +kernel
theorem dX10_place_5 : decode mX10_place.2.1 5 = .ok (.ifCond .eq 27, 3) := by decide +kernel
theorem dX10_place_8 : decode mX10_place.2.1 8 = .ok (.iload_n 2, 1) := by decide +kernel
theorem dX10_place_9 : decode mX10_place.2.1 9 = .ok (.i2l, 1) := by decide +kernel
theorem dX10_place_10 : decode mX10_place.2.1 10 = .ok (.lconst 0, 1) := by decide +kernel
theorem dX10_place_11 : decode mX10_place.2.1 11 = .ok (.ldc2_w 127, 3) := by decide +kernel
theorem dX10_place_14 : decode mX10_place.2.1 14 = .ok (.invokestatic 77, 3) := by decide +kernel
theorem dX10_place_17 : decode mX10_place.2.1 17 = .ok (.ifCond .eq 15, 3) := by decide +kernel
theorem dX10_place_20 : decode mX10_place.2.1 20 = .ok (.iload_n 3, 1) := by decide +kernel
theorem dX10_place_21 : decode mX10_place.2.1 21 = .ok (.i2l, 1) := by decide +kernel
theorem dX10_place_22 : decode mX10_place.2.1 22 = .ok (.lconst 0, 1) := by decide +kernel
theorem dX10_place_23 : decode mX10_place.2.1 23 = .ok (.ldc2_w 127, 3) := by decide +kernel
theorem dX10_place_26 : decode mX10_place.2.1 26 = .ok (.invokestatic 77, 3) := by decide +kernel
theorem dX10_place_29 : decode mX10_place.2.1 29 = .ok (.ifCond .ne 5, 3) := by decide +kernel
theorem dX10_place_32 : decode mX10_place.2.1 32 = .ok (.iconst (-1), 1) := by decide +kernel
theorem dX10_place_33 : decode mX10_place.2.1 33 = .ok (.ireturn, 1) := by decide +kernel
theorem dX10_place_34 : decode mX10_place.2.1 34 = .ok (.bipush 100, 2) := by decide +kernel
theorem dX10_place_36 : decode mX10_place.2.1 36 = .ok (.aload_n 0, 1) := by decide +kernel
theorem dX10_place_37 : decode mX10_place.2.1 37 = .ok (.getfield 19, 3) := by decide +kernel
theorem dX10_place_40 : decode mX10_place.2.1 40 = .ok (.iload_n 1, 1) := by decide +kernel
theorem dX10_place_41 : decode mX10_place.2.1 41 = .ok (.iaload, 1) := by decide +kernel
theorem dX10_place_42 : decode mX10_place.2.1 42 = .ok (.imul, 1) := by decide +kernel
theorem dX10_place_43 : decode mX10_place.2.1 43 = .ok (.aload_n 0, 1) := by decide +kernel
theorem dX10_place_44 : decode mX10_place.2.1 44 = .ok (.getfield 22, 3) := by decide +kernel
theorem dX10_place_47 : decode mX10_place.2.1 47 = .ok (.iload_n 1, 1) := by decide +kernel
theorem dX10_place_48 : decode mX10_place.2.1 48 = .ok (.iaload, 1) := by decide +kernel
theorem dX10_place_49 : decode mX10_place.2.1 49 = .ok (.iadd, 1) := by decide +kernel
theorem dX10_place_50 : decode mX10_place.2.1 50 = .ok (.istore 4, 2) := by decide +kernel
theorem dX10_place_52 : decode mX10_place.2.1 52 = .ok (.aload_n 0, 1) := by decide +kernel
theorem dX10_place_53 : decode mX10_place.2.1 53 = .ok (.getfield 19, 3) := by decide +kernel
theorem dX10_place_56 : decode mX10_place.2.1 56 = .ok (.iload_n 1, 1) := by decide +kernel
theorem dX10_place_57 : decode mX10_place.2.1 57 = .ok (.iload_n 2, 1) := by decide +kernel
theorem dX10_place_58 : decode mX10_place.2.1 58 = .ok (.iastore, 1) := by decide +kernel
theorem dX10_place_59 : decode mX10_place.2.1 59 = .ok (.aload_n 0, 1) := by decide +kernel
theorem dX10_place_60 : decode mX10_place.2.1 60 = .ok (.getfield 22, 3) := by decide +kernel
theorem dX10_place_63 : decode mX10_place.2.1 63 = .ok (.iload_n 1, 1) := by decide +kernel
theorem dX10_place_64 : decode mX10_place.2.1 64 = .ok (.iload_n 3, 1) := by decide +kernel
theorem dX10_place_65 : decode mX10_place.2.1 65 = .ok (.iastore, 1) := by decide +kernel
theorem dX10_place_66 : decode mX10_place.2.1 66 = .ok (.iload 4, 2) := by decide +kernel
theorem dX10_place_68 : decode mX10_place.2.1 68 = .ok (.ireturn, 1) := by decide +kernel
theorem dX10_off_0 : decode mX10_off.2.1 0 = .ok (.iload_n 0, 1) := by decide +kernel
theorem dX10_off_1 : decode mX10_off.2.1 1 = .ok (.iload_n 1, 1) := by decide +kernel
theorem dX10_off_2 : decode mX10_off.2.1 2 = .ok (.if_icmp .ge 9, 3) := by decide +kernel
theorem dX10_off_5 : decode mX10_off.2.1 5 = .ok (.iload_n 1, 1) := by decide +kernel
theorem dX10_off_6 : decode mX10_off.2.1 6 = .ok (.iload_n 0, 1) := by decide +kernel
theorem dX10_off_7 : decode mX10_off.2.1 7 = .ok (.isub, 1) := by decide +kernel
theorem dX10_off_8 : decode mX10_off.2.1 8 = .ok (.goto 6, 3) := by decide +kernel
theorem dX10_off_11 : decode mX10_off.2.1 11 = .ok (.iload_n 0, 1) := by decide +kernel
theorem dX10_off_12 : decode mX10_off.2.1 12 = .ok (.iload_n 1, 1) := by decide +kernel
theorem dX10_off_13 : decode mX10_off.2.1 13 = .ok (.isub, 1) := by decide +kernel
theorem dX10_off_14 : decode mX10_off.2.1 14 = .ok (.ireturn, 1) := by decide +kernel
theorem dX10_town_0 : decode mX10_town.2.1 0 = .ok (.aload_n 0, 1) := by decide +kernel
theorem dX10_town_1 : decode mX10_town.2.1 1 = .ok (.invokevirtual 112, 3) := by decide +kernel
theorem dX10_town_4 : decode mX10_town.2.1 4 = .ok (.iconst 0, 1) := by decide +kernel
theorem dX10_town_5 : decode mX10_town.2.1 5 = .ok (.istore_n 1, 1) := by decide +kernel
theorem dX10_town_6 : decode mX10_town.2.1 6 = .ok (.iload_n 1, 1) := by decide +kernel
theorem dX10_town_7 : decode mX10_town.2.1 7 = .ok (.aload_n 0, 1) := by decide +kernel
theorem dX10_town_8 : decode mX10_town.2.1 8 = .ok (.getfield 9, 3) := by decide +kernel
theorem dX10_town_11 : decode mX10_town.2.1 11 = .ok (.if_icmp .ge 64, 3) := by decide +kernel
theorem dX10_town_14 : decode mX10_town.2.1 14 = .ok (.iload_n 1, 1) := by decide +kernel
theorem dX10_town_15 : decode mX10_town.2.1 15 = .ok (.iconst 1, 1) := by decide +kernel
theorem dX10_town_16 : decode mX10_town.2.1 16 = .ok (.iadd, 1) := by decide +kernel
theorem dX10_town_17 : decode mX10_town.2.1 17 = .ok (.istore_n 2, 1) := by decide +kernel
theorem dX10_town_18 : decode mX10_town.2.1 18 = .ok (.iload_n 2, 1) := by decide +kernel
theorem dX10_town_19 : decode mX10_town.2.1 19 = .ok (.aload_n 0, 1) := by decide +kernel
theorem dX10_town_20 : decode mX10_town.2.1 20 = .ok (.getfield 9, 3) := by decide +kernel
theorem dX10_town_23 : decode mX10_town.2.1 23 = .ok (.if_icmp .ge 46, 3) := by decide +kernel
theorem dX10_town_26 : decode mX10_town.2.1 26 = .ok (.aload_n 0, 1) := by decide +kernel
theorem dX10_town_27 : decode mX10_town.2.1 27 = .ok (.iload_n 1, 1) := by decide +kernel
theorem dX10_town_28 : decode mX10_town.2.1 28 = .ok (.iload_n 2, 1) := by decide +kernel
theorem dX10_town_29 : decode mX10_town.2.1 29 = .ok (.aload_n 0, 1) := by decide +kernel
theorem dX10_town_30 : decode mX10_town.2.1 30 = .ok (.getfield 19, 3) := by decide +kernel
theorem dX10_town_33 : decode mX10_town.2.1 33 = .ok (.iload_n 1, 1) := by decide +kernel
theorem dX10_town_34 : decode mX10_town.2.1 34 = .ok (.iaload, 1) := by decide +kernel
theorem dX10_town_35 : decode mX10_town.2.1 35 = .ok (.aload_n 0, 1) := by decide +kernel
theorem dX10_town_36 : decode mX10_town.2.1 36 = .ok (.getfield 19, 3) := by decide +kernel
theorem dX10_town_39 : decode mX10_town.2.1 39 = .ok (.iload_n 2, 1) := by decide +kernel
theorem dX10_town_40 : decode mX10_town.2.1 40 = .ok (.iaload, 1) := by decide +kernel
theorem dX10_town_41 : decode mX10_town.2.1 41 = .ok (.invokestatic 136, 3) := by decide +kernel
theorem dX10_town_44 : decode mX10_town.2.1 44 = .ok (.aload_n 0, 1) := by decide +kernel
theorem dX10_town_45 : decode mX10_town.2.1 45 = .ok (.getfield 22, 3) := by decide +kernel
theorem dX10_town_48 : decode mX10_town.2.1 48 = .ok (.iload_n 1, 1) := by decide +kernel
theorem dX10_town_49 : decode mX10_town.2.1 49 = .ok (.iaload, 1) := by decide +kernel
theorem dX10_town_50 : decode mX10_town.2.1 50 = .ok (.aload_n 0, 1) := by decide +kernel
theorem dX10_town_51 : decode mX10_town.2.1 51 = .ok (.getfield 22, 3) := by decide +kernel
theorem dX10_town_54 : decode mX10_town.2.1 54 = .ok (.iload_n 2, 1) := by decide +kernel
theorem dX10_town_55 : decode mX10_town.2.1 55 = .ok (.iaload, 1) := by decide +kernel
theorem dX10_town_56 : decode mX10_town.2.1 56 = .ok (.invokestatic 136, 3) := by decide +kernel
theorem dX10_town_59 : decode mX10_town.2.1 59 = .ok (.iadd, 1) := by decide +kernel
theorem dX10_town_60 : decode mX10_town.2.1 60 = .ok (.invokevirtual 115, 3) := by decide +kernel
theorem dX10_town_63 : decode mX10_town.2.1 63 = .ok (.iinc 2 1, 3) := by decide +kernel
theorem dX10_town_66 : decode mX10_town.2.1 66 = .ok (.goto (-48), 3) := by decide +kernel
theorem dX10_town_69 : decode mX10_town.2.1 69 = .ok (.iinc 1 1, 3) := by decide +kernel
theorem dX10_town_72 : decode mX10_town.2.1 72 = .ok (.goto (-66), 3) := by decide +kernel
theorem dX10_town_75 : decode mX10_town.2.1 75 = .ok (.aload_n 0, 1) := by decide +kernel
theorem dX10_town_76 : decode mX10_town.2.1 76 = .ok (.invokevirtual 119, 3) := by decide +kernel
theorem dX10_town_79 : decode mX10_town.2.1 79 = .ok (.ireturn, 1) := by decide +kernel
theorem dX10_stretch_0 : decode mX10_stretch.2.1 0 = .ok (.iload_n 1, 1) := by decide +kernel
theorem dX10_stretch_1 : decode mX10_stretch.2.1 1 = .ok (.i2l, 1) := by decide +kernel
theorem dX10_stretch_2 : decode mX10_stretch.2.1 2 = .ok (.lconst 0, 1) := by decide +kernel
theorem dX10_stretch_3 : decode mX10_stretch.2.1 3 = .ok (.ldc2_w 127, 3) := by decide +kernel
theorem dX10_stretch_6 : decode mX10_stretch.2.1 6 = .ok (.invokestatic 77, 3) := by decide +kernel
theorem dX10_stretch_9 : decode mX10_stretch.2.1 9 = .ok (.ifCond .ne 5, 3) := by decide +kernel
theorem dX10_stretch_12 : decode mX10_stretch.2.1 12 = .ok (.iconst (-1), 1) := by decide +kernel
theorem dX10_stretch_13 : decode mX10_stretch.2.1 13 = .ok (.ireturn, 1) := by decide +kernel
theorem dX10_stretch_14 : decode mX10_stretch.2.1 14 = .ok (.iconst 0, 1) := by decide +kernel
theorem dX10_stretch_15 : decode mX10_stretch.2.1 15 = .ok (.istore_n 2, 1) := by decide +kernel
theorem dX10_stretch_16 : decode mX10_stretch.2.1 16 = .ok (.iload_n 2, 1) := by decide +kernel
theorem dX10_stretch_17 : decode mX10_stretch.2.1 17 = .ok (.aload_n 0, 1) := by decide +kernel
theorem dX10_stretch_18 : decode mX10_stretch.2.1 18 = .ok (.getfield 9, 3) := by decide +kernel
theorem dX10_stretch_21 : decode mX10_stretch.2.1 21 = .ok (.if_icmp .ge 49, 3) := by decide +kernel
theorem dX10_stretch_24 : decode mX10_stretch.2.1 24 = .ok (.iload_n 2, 1) := by decide +kernel
theorem dX10_stretch_25 : decode mX10_stretch.2.1 25 = .ok (.iconst 1, 1) := by decide +kernel
theorem dX10_stretch_26 : decode mX10_stretch.2.1 26 = .ok (.iadd, 1) := by decide +kernel
theorem dX10_stretch_27 : decode mX10_stretch.2.1 27 = .ok (.istore_n 3, 1) := by decide +kernel
theorem dX10_stretch_28 : decode mX10_stretch.2.1 28 = .ok (.iload_n 3, 1) := by decide +kernel
theorem dX10_stretch_29 : decode mX10_stretch.2.1 29 = .ok (.aload_n 0, 1) := by decide +kernel
theorem dX10_stretch_30 : decode mX10_stretch.2.1 30 = .ok (.getfield 9, 3) := by decide +kernel
theorem dX10_stretch_33 : decode mX10_stretch.2.1 33 = .ok (.if_icmp .ge 31, 3) := by decide +kernel
theorem dX10_stretch_36 : decode mX10_stretch.2.1 36 = .ok (.iload_n 1, 1) := by decide +kernel
theorem dX10_stretch_37 : decode mX10_stretch.2.1 37 = .ok (.aload_n 0, 1) := by decide +kernel
theorem dX10_stretch_38 : decode mX10_stretch.2.1 38 = .ok (.getfield 15, 3) := by decide +kernel
theorem dX10_stretch_41 : decode mX10_stretch.2.1 41 = .ok (.bipush 6, 2) := by decide +kernel
theorem dX10_stretch_43 : decode mX10_stretch.2.1 43 = .ok (.iload_n 2, 1) := by decide +kernel
theorem dX10_stretch_44 : decode mX10_stretch.2.1 44 = .ok (.imul, 1) := by decide +kernel
theorem dX10_stretch_45 : decode mX10_stretch.2.1 45 = .ok (.iload_n 3, 1) := by decide +kernel
theorem dX10_stretch_46 : decode mX10_stretch.2.1 46 = .ok (.iadd, 1) := by decide +kernel
theorem dX10_stretch_47 : decode mX10_stretch.2.1 47 = .ok (.iaload, 1) := by decide +kernel
theorem dX10_stretch_48 : decode mX10_stretch.2.1 48 = .ok (.imul, 1) := by decide +kernel
theorem dX10_stretch_49 : decode mX10_stretch.2.1 49 = .ok (.sipush 999, 3) := by decide +kernel
theorem dX10_stretch_52 : decode mX10_stretch.2.1 52 = .ok (.if_icmp .le 6, 3) := by decide +kernel
theorem dX10_stretch_55 : decode mX10_stretch.2.1 55 = .ok (.bipush (-5), 2) := by decide +kernel
theorem dX10_stretch_57 : decode mX10_stretch.2.1 57 = .ok (.ireturn, 1) := by decide +kernel
theorem dX10_stretch_58 : decode mX10_stretch.2.1 58 = .ok (.iinc 3 1, 3) := by decide +kernel
theorem dX10_stretch_61 : decode mX10_stretch.2.1 61 = .ok (.goto (-33), 3) := by decide +kernel
theorem dX10_stretch_64 : decode mX10_stretch.2.1 64 = .ok (.iinc 2 1, 3) := by decide +kernel
theorem dX10_stretch_67 : decode mX10_stretch.2.1 67 = .ok (.goto (-51), 3) := by decide +kernel
theorem dX10_stretch_70 : decode mX10_stretch.2.1 70 = .ok (.aload_n 0, 1) := by decide +kernel
theorem dX10_stretch_71 : decode mX10_stretch.2.1 71 = .ok (.invokevirtual 112, 3) := by decide +kernel
theorem dX10_stretch_74 : decode mX10_stretch.2.1 74 = .ok (.iconst 0, 1) := by decide +kernel
theorem dX10_stretch_75 : decode mX10_stretch.2.1 75 = .ok (.istore_n 2, 1) := by decide +kernel
theorem dX10_stretch_76 : decode mX10_stretch.2.1 76 = .ok (.iload_n 2, 1) := by decide +kernel
theorem dX10_stretch_77 : decode mX10_stretch.2.1 77 = .ok (.aload_n 0, 1) := by decide +kernel
theorem dX10_stretch_78 : decode mX10_stretch.2.1 78 = .ok (.getfield 9, 3) := by decide +kernel
theorem dX10_stretch_81 : decode mX10_stretch.2.1 81 = .ok (.if_icmp .ge 46, 3) := by decide +kernel
theorem dX10_stretch_84 : decode mX10_stretch.2.1 84 = .ok (.iload_n 2, 1) := by decide +kernel
theorem dX10_stretch_85 : decode mX10_stretch.2.1 85 = .ok (.iconst 1, 1) := by decide +kernel
theorem dX10_stretch_86 : decode mX10_stretch.2.1 86 = .ok (.iadd, 1) := by decide +kernel
theorem dX10_stretch_87 : decode mX10_stretch.2.1 87 = .ok (.istore_n 3, 1) := by decide +kernel
theorem dX10_stretch_88 : decode mX10_stretch.2.1 88 = .ok (.iload_n 3, 1) := by decide +kernel
theorem dX10_stretch_89 : decode mX10_stretch.2.1 89 = .ok (.aload_n 0, 1) := by decide +kernel
theorem dX10_stretch_90 : decode mX10_stretch.2.1 90 = .ok (.getfield 9, 3) := by decide +kernel
theorem dX10_stretch_93 : decode mX10_stretch.2.1 93 = .ok (.if_icmp .ge 28, 3) := by decide +kernel
theorem dX10_stretch_96 : decode mX10_stretch.2.1 96 = .ok (.aload_n 0, 1) := by decide +kernel
theorem dX10_stretch_97 : decode mX10_stretch.2.1 97 = .ok (.iload_n 2, 1) := by decide +kernel
theorem dX10_stretch_98 : decode mX10_stretch.2.1 98 = .ok (.iload_n 3, 1) := by decide +kernel
theorem dX10_stretch_99 : decode mX10_stretch.2.1 99 = .ok (.iload_n 1, 1) := by decide +kernel
theorem dX10_stretch_100 : decode mX10_stretch.2.1 100 = .ok (.aload_n 0, 1) := by decide +kernel
theorem dX10_stretch_101 : decode mX10_stretch.2.1 101 = .ok (.getfield 15, 3) := by decide +kernel
theorem dX10_stretch_104 : decode mX10_stretch.2.1 104 = .ok (.bipush 6, 2) := by decide +kernel
theorem dX10_stretch_106 : decode mX10_stretch.2.1 106 = .ok (.iload_n 2, 1) := by decide +kernel
theorem dX10_stretch_107 : decode mX10_stretch.2.1 107 = .ok (.imul, 1) := by decide +kernel
theorem dX10_stretch_108 : decode mX10_stretch.2.1 108 = .ok (.iload_n 3, 1) := by decide +kernel
theorem dX10_stretch_109 : decode mX10_stretch.2.1 109 = .ok (.iadd, 1) := by decide +kernel
theorem dX10_stretch_110 : decode mX10_stretch.2.1 110 = .ok (.iaload, 1) := by decide +kernel
theorem dX10_stretch_111 : decode mX10_stretch.2.1 111 = .ok (.imul, 1) := by decide +kernel
theorem dX10_stretch_112 : decode mX10_stretch.2.1 112 = .ok (.invokevirtual 115, 3) := by decide +kernel
theorem dX10_stretch_115 : decode mX10_stretch.2.1 115 = .ok (.iinc 3 1, 3) := by decide +kernel
theorem dX10_stretch_118 : decode mX10_stretch.2.1 118 = .ok (.goto (-30), 3) := by decide +kernel
theorem dX10_stretch_121 : decode mX10_stretch.2.1 121 = .ok (.iinc 2 1, 3) := by decide +kernel
theorem dX10_stretch_124 : decode mX10_stretch.2.1 124 = .ok (.goto (-48), 3) := by decide +kernel
theorem dX10_stretch_127 : decode mX10_stretch.2.1 127 = .ok (.aload_n 0, 1) := by decide +kernel
theorem dX10_stretch_128 : decode mX10_stretch.2.1 128 = .ok (.invokevirtual 119, 3) := by decide +kernel
theorem dX10_stretch_131 : decode mX10_stretch.2.1 131 = .ok (.pop, 1) := by decide +kernel
theorem dX10_stretch_132 : decode mX10_stretch.2.1 132 = .ok (.aload_n 0, 1) := by decide +kernel
theorem dX10_stretch_133 : decode mX10_stretch.2.1 133 = .ok (.invokevirtual 133, 3) := by decide +kernel
theorem dX10_stretch_136 : decode mX10_stretch.2.1 136 = .ok (.ireturn, 1) := by decide +kernel
theorem dX10_back_0 : decode mX10_back.2.1 0 = .ok (.aload_n 0, 1) := by decide +kernel
theorem dX10_back_1 : decode mX10_back.2.1 1 = .ok (.getfield 100, 3) := by decide +kernel
theorem dX10_back_4 : decode mX10_back.2.1 4 = .ok (.ifCond .ne 6, 3) := by decide +kernel
theorem dX10_back_7 : decode mX10_back.2.1 7 = .ok (.bipush (-5), 2) := by decide +kernel
theorem dX10_back_9 : decode mX10_back.2.1 9 = .ok (.ireturn, 1) := by decide +kernel
theorem dX10_back_10 : decode mX10_back.2.1 10 = .ok (.aload_n 0, 1) := by decide +kernel
theorem dX10_back_11 : decode mX10_back.2.1 11 = .ok (.dup, 1) := by decide +kernel
theorem dX10_back_12 : decode mX10_back.2.1 12 = .ok (.getfield 100, 3) := by decide +kernel
theorem dX10_back_15 : decode mX10_back.2.1 15 = .ok (.iconst 1, 1) := by decide +kernel
theorem dX10_back_16 : decode mX10_back.2.1 16 = .ok (.isub, 1) := by decide +kernel
theorem dX10_back_17 : decode mX10_back.2.1 17 = .ok (.putfield 100, 3) := by decide +kernel
theorem dX10_back_20 : decode mX10_back.2.1 20 = .ok (.aload_n 0, 1) := by decide +kernel
theorem dX10_back_21 : decode mX10_back.2.1 21 = .ok (.aload_n 0, 1) := by decide +kernel
theorem dX10_back_22 : decode mX10_back.2.1 22 = .ok (.getfield 25, 3) := by decide +kernel
theorem dX10_back_25 : decode mX10_back.2.1 25 = .ok (.aload_n 0, 1) := by decide +kernel
theorem dX10_back_26 : decode mX10_back.2.1 26 = .ok (.getfield 100, 3) := by decide +kernel
theorem dX10_back_29 : decode mX10_back.2.1 29 = .ok (.iaload, 1) := by decide +kernel
theorem dX10_back_30 : decode mX10_back.2.1 30 = .ok (.invokevirtual 140, 3) := by decide +kernel
theorem dX10_back_33 : decode mX10_back.2.1 33 = .ok (.iconst 0, 1) := by decide +kernel
theorem dX10_back_34 : decode mX10_back.2.1 34 = .ok (.istore_n 1, 1) := by decide +kernel
theorem dX10_back_35 : decode mX10_back.2.1 35 = .ok (.iload_n 1, 1) := by decide +kernel
theorem dX10_back_36 : decode mX10_back.2.1 36 = .ok (.bipush 36, 2) := by decide +kernel
theorem dX10_back_38 : decode mX10_back.2.1 38 = .ok (.if_icmp .ge 29, 3) := by decide +kernel
theorem dX10_back_41 : decode mX10_back.2.1 41 = .ok (.aload_n 0, 1) := by decide +kernel
theorem dX10_back_42 : decode mX10_back.2.1 42 = .ok (.getfield 15, 3) := by decide +kernel
theorem dX10_back_45 : decode mX10_back.2.1 45 = .ok (.iload_n 1, 1) := by decide +kernel
theorem dX10_back_46 : decode mX10_back.2.1 46 = .ok (.aload_n 0, 1) := by decide +kernel
theorem dX10_back_47 : decode mX10_back.2.1 47 = .ok (.getfield 28, 3) := by decide +kernel
theorem dX10_back_50 : decode mX10_back.2.1 50 = .ok (.bipush 36, 2) := by decide +kernel
theorem dX10_back_52 : decode mX10_back.2.1 52 = .ok (.aload_n 0, 1) := by decide +kernel
theorem dX10_back_53 : decode mX10_back.2.1 53 = .ok (.getfield 100, 3) := by decide +kernel
theorem dX10_back_56 : decode mX10_back.2.1 56 = .ok (.imul, 1) := by decide +kernel
theorem dX10_back_57 : decode mX10_back.2.1 57 = .ok (.iload_n 1, 1) := by decide +kernel
theorem dX10_back_58 : decode mX10_back.2.1 58 = .ok (.iadd, 1) := by decide +kernel
theorem dX10_back_59 : decode mX10_back.2.1 59 = .ok (.iaload, 1) := by decide +kernel
theorem dX10_back_60 : decode mX10_back.2.1 60 = .ok (.iastore, 1) := by decide +kernel
theorem dX10_back_61 : decode mX10_back.2.1 61 = .ok (.iinc 1 1, 3) := by decide +kernel
theorem dX10_back_64 : decode mX10_back.2.1 64 = .ok (.goto (-29), 3) := by decide +kernel
theorem dX10_back_67 : decode mX10_back.2.1 67 = .ok (.aload_n 0, 1) := by decide +kernel
theorem dX10_back_68 : decode mX10_back.2.1 68 = .ok (.getfield 100, 3) := by decide +kernel
theorem dX10_back_71 : decode mX10_back.2.1 71 = .ok (.ireturn, 1) := by decide +kernel
theorem dX10_triangles_0 : decode mX10_triangles.2.1 0 = .ok (.iload_n 1, 1) := by decide +kernel
theorem dX10_triangles_1 : decode mX10_triangles.2.1 1 = .ok (.i2l, 1) := by decide +kernel
theorem dX10_triangles_2 : decode mX10_triangles.2.1 2 = .ok (.lconst 0, 1) := by decide +kernel
theorem dX10_triangles_3 : decode mX10_triangles.2.1 3 = .ok (.lconst 1, 1) := by decide +kernel
theorem dX10_triangles_4 : decode mX10_triangles.2.1 4 = .ok (.invokestatic 77, 3) := by decide +kernel
theorem dX10_triangles_7 : decode mX10_triangles.2.1 7 = .ok (.ifCond .ne 5, 3) := by decide +kernel
theorem dX10_triangles_10 : decode mX10_triangles.2.1 10 = .ok (.iconst (-1), 1) := by decide +kernel
theorem dX10_triangles_11 : decode mX10_triangles.2.1 11 = .ok (.ireturn, 1) := by decide +kernel
theorem dX10_triangles_12 : decode mX10_triangles.2.1 12 = .ok (.iconst 0, 1) := by decide +kernel
theorem dX10_triangles_13 : decode mX10_triangles.2.1 13 = .ok (.istore_n 2, 1) := by decide +kernel
theorem dX10_triangles_14 : decode mX10_triangles.2.1 14 = .ok (.bipush (-2), 2) := by decide +kernel
theorem dX10_triangles_16 : decode mX10_triangles.2.1 16 = .ok (.istore_n 3, 1) := by decide +kernel
theorem dX10_triangles_17 : decode mX10_triangles.2.1 17 = .ok (.iconst 0, 1) := by decide +kernel
theorem dX10_triangles_18 : decode mX10_triangles.2.1 18 = .ok (.istore 4, 2) := by decide +kernel
theorem dX10_triangles_20 : decode mX10_triangles.2.1 20 = .ok (.iload 4, 2) := by decide +kernel
theorem dX10_triangles_22 : decode mX10_triangles.2.1 22 = .ok (.aload_n 0, 1) := by decide +kernel
theorem dX10_triangles_23 : decode mX10_triangles.2.1 23 = .ok (.getfield 9, 3) := by decide +kernel
theorem dX10_triangles_26 : decode mX10_triangles.2.1 26 = .ok (.if_icmp .ge 134, 3) := by decide +kernel
theorem dX10_triangles_29 : decode mX10_triangles.2.1 29 = .ok (.iconst 0, 1) := by decide +kernel
theorem dX10_triangles_30 : decode mX10_triangles.2.1 30 = .ok (.istore 5, 2) := by decide +kernel
theorem dX10_triangles_32 : decode mX10_triangles.2.1 32 = .ok (.iload 5, 2) := by decide +kernel
theorem dX10_triangles_34 : decode mX10_triangles.2.1 34 = .ok (.aload_n 0, 1) := by decide +kernel
theorem dX10_triangles_35 : decode mX10_triangles.2.1 35 = .ok (.getfield 9, 3) := by decide +kernel
theorem dX10_triangles_38 : decode mX10_triangles.2.1 38 = .ok (.if_icmp .ge 116, 3) := by decide +kernel
theorem dX10_triangles_41 : decode mX10_triangles.2.1 41 = .ok (.iload 5, 2) := by decide +kernel
theorem dX10_triangles_43 : decode mX10_triangles.2.1 43 = .ok (.iconst 1, 1) := by decide +kernel
theorem dX10_triangles_44 : decode mX10_triangles.2.1 44 = .ok (.iadd, 1) := by decide +kernel
theorem dX10_triangles_45 : decode mX10_triangles.2.1 45 = .ok (.istore 6, 2) := by decide +kernel
theorem dX10_triangles_47 : decode mX10_triangles.2.1 47 = .ok (.iload 6, 2) := by decide +kernel
theorem dX10_triangles_49 : decode mX10_triangles.2.1 49 = .ok (.aload_n 0, 1) := by decide +kernel
theorem dX10_triangles_50 : decode mX10_triangles.2.1 50 = .ok (.getfield 9, 3) := by decide +kernel
theorem dX10_triangles_53 : decode mX10_triangles.2.1 53 = .ok (.if_icmp .ge 95, 3) := by decide +kernel
theorem dX10_triangles_56 : decode mX10_triangles.2.1 56 = .ok (.iload 4, 2) := by decide +kernel
theorem dX10_triangles_58 : decode mX10_triangles.2.1 58 = .ok (.iload 5, 2) := by decide +kernel
theorem dX10_triangles_60 : decode mX10_triangles.2.1 60 = .ok (.if_icmp .eq 82, 3) := by decide +kernel
theorem dX10_triangles_63 : decode mX10_triangles.2.1 63 = .ok (.iload 4, 2) := by decide +kernel
theorem dX10_triangles_65 : decode mX10_triangles.2.1 65 = .ok (.iload 6, 2) := by decide +kernel
theorem dX10_triangles_67 : decode mX10_triangles.2.1 67 = .ok (.if_icmp .eq 75, 3) := by decide +kernel
theorem dX10_triangles_70 : decode mX10_triangles.2.1 70 = .ok (.aload_n 0, 1) := by decide +kernel
theorem dX10_triangles_71 : decode mX10_triangles.2.1 71 = .ok (.getfield 15, 3) := by decide +kernel
theorem dX10_triangles_74 : decode mX10_triangles.2.1 74 = .ok (.bipush 6, 2) := by decide +kernel
theorem dX10_triangles_76 : decode mX10_triangles.2.1 76 = .ok (.iload 5, 2) := by decide +kernel
theorem dX10_triangles_78 : decode mX10_triangles.2.1 78 = .ok (.imul, 1) := by decide +kernel
theorem dX10_triangles_79 : decode mX10_triangles.2.1 79 = .ok (.iload 6, 2) := by decide +kernel
theorem dX10_triangles_81 : decode mX10_triangles.2.1 81 = .ok (.iadd, 1) := by decide +kernel
theorem dX10_triangles_82 : decode mX10_triangles.2.1 82 = .ok (.iaload, 1) := by decide +kernel
theorem dX10_triangles_83 : decode mX10_triangles.2.1 83 = .ok (.aload_n 0, 1) := by decide +kernel
theorem dX10_triangles_84 : decode mX10_triangles.2.1 84 = .ok (.getfield 15, 3) := by decide +kernel
theorem dX10_triangles_87 : decode mX10_triangles.2.1 87 = .ok (.bipush 6, 2) := by decide +kernel
theorem dX10_triangles_89 : decode mX10_triangles.2.1 89 = .ok (.iload 4, 2) := by decide +kernel
theorem dX10_triangles_91 : decode mX10_triangles.2.1 91 = .ok (.imul, 1) := by decide +kernel
theorem dX10_triangles_92 : decode mX10_triangles.2.1 92 = .ok (.iload 5, 2) := by decide +kernel
theorem dX10_triangles_94 : decode mX10_triangles.2.1 94 = .ok (.iadd, 1) := by decide +kernel
theorem dX10_triangles_95 : decode mX10_triangles.2.1 95 = .ok (.iaload, 1) := by decide +kernel
theorem dX10_triangles_96 : decode mX10_triangles.2.1 96 = .ok (.aload_n 0, 1) := by decide +kernel
theorem dX10_triangles_97 : decode mX10_triangles.2.1 97 = .ok (.getfield 15, 3) := by decide +kernel
theorem dX10_triangles_100 : decode mX10_triangles.2.1 100 = .ok (.bipush 6, 2) := by decide +kernel
theorem dX10_triangles_102 : decode mX10_triangles.2.1 102 = .ok (.iload 4, 2) := by decide +kernel
theorem dX10_triangles_104 : decode mX10_triangles.2.1 104 = .ok (.imul, 1) := by decide +kernel
theorem dX10_triangles_105 : decode mX10_triangles.2.1 105 = .ok (.iload 6, 2) := by decide +kernel
theorem dX10_triangles_107 : decode mX10_triangles.2.1 107 = .ok (.iadd, 1) := by decide +kernel
theorem dX10_triangles_108 : decode mX10_triangles.2.1 108 = .ok (.iaload, 1) := by decide +kernel
theorem dX10_triangles_109 : decode mX10_triangles.2.1 109 = .ok (.iadd, 1) := by decide +kernel
theorem dX10_triangles_110 : decode mX10_triangles.2.1 110 = .ok (.if_icmp .gt 6, 3) := by decide +kernel
theorem dX10_triangles_113 : decode mX10_triangles.2.1 113 = .ok (.goto 29, 3) := by decide +kernel
theorem dX10_triangles_116 : decode mX10_triangles.2.1 116 = .ok (.iload_n 2, 1) := by decide +kernel
theorem dX10_triangles_117 : decode mX10_triangles.2.1 117 = .ok (.ifCond .ne 20, 3) := by decide +kernel
theorem dX10_triangles_120 : decode mX10_triangles.2.1 120 = .ok (.bipush 100, 2) := by decide +kernel
theorem dX10_triangles_122 : decode mX10_triangles.2.1 122 = .ok (.iload 4, 2) := by decide +kernel
theorem dX10_triangles_124 : decode mX10_triangles.2.1 124 = .ok (.imul, 1) := by decide +kernel
theorem dX10_triangles_125 : decode mX10_triangles.2.1 125 = .ok (.bipush 10, 2) := by decide +kernel
theorem dX10_triangles_127 : decode mX10_triangles.2.1 127 = .ok (.iload 5, 2) := by decide +kernel
theorem dX10_triangles_129 : decode mX10_triangles.2.1 129 = .ok (.imul, 1) := by decide +kernel
theorem dX10_triangles_130 : decode mX10_triangles.2.1 130 = .ok (.iadd, 1) := by decide +kernel
theorem dX10_triangles_131 : decode mX10_triangles.2.1 131 = .ok (.iload 6, 2) := by decide +kernel
theorem dX10_triangles_133 : decode mX10_triangles.2.1 133 = .ok (.iadd, 1) := by decide +kernel
theorem dX10_triangles_134 : decode mX10_triangles.2.1 134 = .ok (.goto 4, 3) := by decide +kernel
theorem dX10_triangles_137 : decode mX10_triangles.2.1 137 = .ok (.iload_n 3, 1) := by decide +kernel
theorem dX10_triangles_138 : decode mX10_triangles.2.1 138 = .ok (.istore_n 3, 1) := by decide +kernel
theorem dX10_triangles_139 : decode mX10_triangles.2.1 139 = .ok (.iinc 2 1, 3) := by decide +kernel
theorem dX10_triangles_142 : decode mX10_triangles.2.1 142 = .ok (.iinc 6 1, 3) := by decide +kernel
theorem dX10_triangles_145 : decode mX10_triangles.2.1 145 = .ok (.goto (-98), 3) := by decide +kernel
theorem dX10_triangles_148 : decode mX10_triangles.2.1 148 = .ok (.iinc 5 1, 3) := by decide +kernel
theorem dX10_triangles_151 : decode mX10_triangles.2.1 151 = .ok (.goto (-119), 3) := by decide +kernel
theorem dX10_triangles_154 : decode mX10_triangles.2.1 154 = .ok (.iinc 4 1, 3) := by decide +kernel
theorem dX10_triangles_157 : decode mX10_triangles.2.1 157 = .ok (.goto (-137), 3) := by decide +kernel
theorem dX10_triangles_160 : decode mX10_triangles.2.1 160 = .ok (.iload_n 1, 1) := by decide +kernel
theorem dX10_triangles_161 : decode mX10_triangles.2.1 161 = .ok (.ifCond .ne 7, 3) := by decide +kernel
theorem dX10_triangles_164 : decode mX10_triangles.2.1 164 = .ok (.iload_n 2, 1) := by decide +kernel
theorem dX10_triangles_165 : decode mX10_triangles.2.1 165 = .ok (.goto 4, 3) := by decide +kernel
theorem dX10_triangles_168 : decode mX10_triangles.2.1 168 = .ok (.iload_n 3, 1) := by decide +kernel
theorem dX10_triangles_169 : decode mX10_triangles.2.1 169 = .ok (.ireturn, 1) := by decide +kernel
theorem dX10_rounds_0 : decode mX10_rounds.2.1 0 = .ok (.iload_n 1, 1) := by decide +kernel
theorem dX10_rounds_1 : decode mX10_rounds.2.1 1 = .ok (.i2l, 1) := by decide +kernel
theorem dX10_rounds_2 : decode mX10_rounds.2.1 2 = .ok (.lconst 0, 1) := by decide +kernel
theorem dX10_rounds_3 : decode mX10_rounds.2.1 3 = .ok (.lconst 1, 1) := by decide +kernel
theorem dX10_rounds_4 : decode mX10_rounds.2.1 4 = .ok (.invokestatic 77, 3) := by decide +kernel
theorem dX10_rounds_7 : decode mX10_rounds.2.1 7 = .ok (.ifCond .ne 5, 3) := by decide +kernel
theorem dX10_rounds_10 : decode mX10_rounds.2.1 10 = .ok (.iconst (-1), 1) := by decide +kernel
theorem dX10_rounds_11 : decode mX10_rounds.2.1 11 = .ok (.ireturn, 1) := by decide +kernel
theorem dX10_rounds_12 : decode mX10_rounds.2.1 12 = .ok (.iconst 0, 1) := by decide +kernel
theorem dX10_rounds_13 : decode mX10_rounds.2.1 13 = .ok (.istore_n 2, 1) := by decide +kernel
theorem dX10_rounds_14 : decode mX10_rounds.2.1 14 = .ok (.bipush (-2), 2) := by decide +kernel
theorem dX10_rounds_16 : decode mX10_rounds.2.1 16 = .ok (.istore_n 3, 1) := by decide +kernel
theorem dX10_rounds_17 : decode mX10_rounds.2.1 17 = .ok (.iconst 0, 1) := by decide +kernel
theorem dX10_rounds_18 : decode mX10_rounds.2.1 18 = .ok (.istore 4, 2) := by decide +kernel
theorem dX10_rounds_20 : decode mX10_rounds.2.1 20 = .ok (.iload 4, 2) := by decide +kernel
theorem dX10_rounds_22 : decode mX10_rounds.2.1 22 = .ok (.aload_n 0, 1) := by decide +kernel
theorem dX10_rounds_23 : decode mX10_rounds.2.1 23 = .ok (.getfield 9, 3) := by decide +kernel
theorem dX10_rounds_26 : decode mX10_rounds.2.1 26 = .ok (.if_icmp .ge 126, 3) := by decide +kernel
theorem dX10_rounds_29 : decode mX10_rounds.2.1 29 = .ok (.iload 4, 2) := by decide +kernel
theorem dX10_rounds_31 : decode mX10_rounds.2.1 31 = .ok (.iconst 1, 1) := by decide +kernel
theorem dX10_rounds_32 : decode mX10_rounds.2.1 32 = .ok (.iadd, 1) := by decide +kernel
theorem dX10_rounds_33 : decode mX10_rounds.2.1 33 = .ok (.istore 5, 2) := by decide +kernel
theorem dX10_rounds_35 : decode mX10_rounds.2.1 35 = .ok (.iload 5, 2) := by decide +kernel
theorem dX10_rounds_37 : decode mX10_rounds.2.1 37 = .ok (.aload_n 0, 1) := by decide +kernel
theorem dX10_rounds_38 : decode mX10_rounds.2.1 38 = .ok (.getfield 9, 3) := by decide +kernel
theorem dX10_rounds_41 : decode mX10_rounds.2.1 41 = .ok (.if_icmp .ge 105, 3) := by decide +kernel
theorem dX10_rounds_44 : decode mX10_rounds.2.1 44 = .ok (.iload 5, 2) := by decide +kernel
theorem dX10_rounds_46 : decode mX10_rounds.2.1 46 = .ok (.iconst 1, 1) := by decide +kernel
theorem dX10_rounds_47 : decode mX10_rounds.2.1 47 = .ok (.iadd, 1) := by decide +kernel
theorem dX10_rounds_48 : decode mX10_rounds.2.1 48 = .ok (.istore 6, 2) := by decide +kernel
theorem dX10_rounds_50 : decode mX10_rounds.2.1 50 = .ok (.iload 6, 2) := by decide +kernel
theorem dX10_rounds_52 : decode mX10_rounds.2.1 52 = .ok (.aload_n 0, 1) := by decide +kernel
theorem dX10_rounds_53 : decode mX10_rounds.2.1 53 = .ok (.getfield 9, 3) := by decide +kernel
theorem dX10_rounds_56 : decode mX10_rounds.2.1 56 = .ok (.if_icmp .ge 84, 3) := by decide +kernel
theorem dX10_rounds_59 : decode mX10_rounds.2.1 59 = .ok (.aload_n 0, 1) := by decide +kernel
theorem dX10_rounds_60 : decode mX10_rounds.2.1 60 = .ok (.getfield 15, 3) := by decide +kernel
theorem dX10_rounds_63 : decode mX10_rounds.2.1 63 = .ok (.bipush 6, 2) := by decide +kernel
theorem dX10_rounds_65 : decode mX10_rounds.2.1 65 = .ok (.iload 4, 2) := by decide +kernel
theorem dX10_rounds_67 : decode mX10_rounds.2.1 67 = .ok (.imul, 1) := by decide +kernel
theorem dX10_rounds_68 : decode mX10_rounds.2.1 68 = .ok (.iload 5, 2) := by decide +kernel
theorem dX10_rounds_70 : decode mX10_rounds.2.1 70 = .ok (.iadd, 1) := by decide +kernel
theorem dX10_rounds_71 : decode mX10_rounds.2.1 71 = .ok (.iaload, 1) := by decide +kernel
theorem dX10_rounds_72 : decode mX10_rounds.2.1 72 = .ok (.aload_n 0, 1) := by decide +kernel
theorem dX10_rounds_73 : decode mX10_rounds.2.1 73 = .ok (.getfield 15, 3) := by decide +kernel
theorem dX10_rounds_76 : decode mX10_rounds.2.1 76 = .ok (.bipush 6, 2) := by decide +kernel
theorem dX10_rounds_78 : decode mX10_rounds.2.1 78 = .ok (.iload 4, 2) := by decide +kernel
theorem dX10_rounds_80 : decode mX10_rounds.2.1 80 = .ok (.imul, 1) := by decide +kernel
theorem dX10_rounds_81 : decode mX10_rounds.2.1 81 = .ok (.iload 6, 2) := by decide +kernel
theorem dX10_rounds_83 : decode mX10_rounds.2.1 83 = .ok (.iadd, 1) := by decide +kernel
theorem dX10_rounds_84 : decode mX10_rounds.2.1 84 = .ok (.iaload, 1) := by decide +kernel
theorem dX10_rounds_85 : decode mX10_rounds.2.1 85 = .ok (.iadd, 1) := by decide +kernel
theorem dX10_rounds_86 : decode mX10_rounds.2.1 86 = .ok (.aload_n 0, 1) := by decide +kernel
theorem dX10_rounds_87 : decode mX10_rounds.2.1 87 = .ok (.getfield 15, 3) := by decide +kernel
theorem dX10_rounds_90 : decode mX10_rounds.2.1 90 = .ok (.bipush 6, 2) := by decide +kernel
theorem dX10_rounds_92 : decode mX10_rounds.2.1 92 = .ok (.iload 5, 2) := by decide +kernel
theorem dX10_rounds_94 : decode mX10_rounds.2.1 94 = .ok (.imul, 1) := by decide +kernel
theorem dX10_rounds_95 : decode mX10_rounds.2.1 95 = .ok (.iload 6, 2) := by decide +kernel
theorem dX10_rounds_97 : decode mX10_rounds.2.1 97 = .ok (.iadd, 1) := by decide +kernel
theorem dX10_rounds_98 : decode mX10_rounds.2.1 98 = .ok (.iaload, 1) := by decide +kernel
theorem dX10_rounds_99 : decode mX10_rounds.2.1 99 = .ok (.iadd, 1) := by decide +kernel
theorem dX10_rounds_100 : decode mX10_rounds.2.1 100 = .ok (.iconst 2, 1) := by decide +kernel
theorem dX10_rounds_101 : decode mX10_rounds.2.1 101 = .ok (.irem, 1) := by decide +kernel
theorem dX10_rounds_102 : decode mX10_rounds.2.1 102 = .ok (.ifCond .ne 6, 3) := by decide +kernel
theorem dX10_rounds_105 : decode mX10_rounds.2.1 105 = .ok (.goto 29, 3) := by decide +kernel
theorem dX10_rounds_108 : decode mX10_rounds.2.1 108 = .ok (.iload_n 2, 1) := by decide +kernel
theorem dX10_rounds_109 : decode mX10_rounds.2.1 109 = .ok (.ifCond .ne 20, 3) := by decide +kernel
theorem dX10_rounds_112 : decode mX10_rounds.2.1 112 = .ok (.bipush 100, 2) := by decide +kernel
theorem dX10_rounds_114 : decode mX10_rounds.2.1 114 = .ok (.iload 4, 2) := by decide +kernel
theorem dX10_rounds_116 : decode mX10_rounds.2.1 116 = .ok (.imul, 1) := by decide +kernel
theorem dX10_rounds_117 : decode mX10_rounds.2.1 117 = .ok (.bipush 10, 2) := by decide +kernel
theorem dX10_rounds_119 : decode mX10_rounds.2.1 119 = .ok (.iload 5, 2) := by decide +kernel
theorem dX10_rounds_121 : decode mX10_rounds.2.1 121 = .ok (.imul, 1) := by decide +kernel
theorem dX10_rounds_122 : decode mX10_rounds.2.1 122 = .ok (.iadd, 1) := by decide +kernel
theorem dX10_rounds_123 : decode mX10_rounds.2.1 123 = .ok (.iload 6, 2) := by decide +kernel
theorem dX10_rounds_125 : decode mX10_rounds.2.1 125 = .ok (.iadd, 1) := by decide +kernel
theorem dX10_rounds_126 : decode mX10_rounds.2.1 126 = .ok (.goto 4, 3) := by decide +kernel
theorem dX10_rounds_129 : decode mX10_rounds.2.1 129 = .ok (.iload_n 3, 1) := by decide +kernel
theorem dX10_rounds_130 : decode mX10_rounds.2.1 130 = .ok (.istore_n 3, 1) := by decide +kernel
theorem dX10_rounds_131 : decode mX10_rounds.2.1 131 = .ok (.iinc 2 1, 3) := by decide +kernel
theorem dX10_rounds_134 : decode mX10_rounds.2.1 134 = .ok (.iinc 6 1, 3) := by decide +kernel
theorem dX10_rounds_137 : decode mX10_rounds.2.1 137 = .ok (.goto (-87), 3) := by decide +kernel
theorem dX10_rounds_140 : decode mX10_rounds.2.1 140 = .ok (.iinc 5 1, 3) := by decide +kernel
theorem dX10_rounds_143 : decode mX10_rounds.2.1 143 = .ok (.goto (-108), 3) := by decide +kernel
theorem dX10_rounds_146 : decode mX10_rounds.2.1 146 = .ok (.iinc 4 1, 3) := by decide +kernel
theorem dX10_rounds_149 : decode mX10_rounds.2.1 149 = .ok (.goto (-129), 3) := by decide +kernel
theorem dX10_rounds_152 : decode mX10_rounds.2.1 152 = .ok (.iload_n 1, 1) := by decide +kernel
theorem dX10_rounds_153 : decode mX10_rounds.2.1 153 = .ok (.ifCond .ne 7, 3) := by decide +kernel
theorem dX10_rounds_156 : decode mX10_rounds.2.1 156 = .ok (.iload_n 2, 1) := by decide +kernel
theorem dX10_rounds_157 : decode mX10_rounds.2.1 157 = .ok (.goto 4, 3) := by decide +kernel
theorem dX10_rounds_160 : decode mX10_rounds.2.1 160 = .ok (.iload_n 3, 1) := by decide +kernel
theorem dX10_rounds_161 : decode mX10_rounds.2.1 161 = .ok (.ireturn, 1) := by decide +kernel
theorem dX10_begins_0 : decode mX10_begins.2.1 0 = .ok (.iconst 0, 1) := by decide +kernel
theorem dX10_begins_1 : decode mX10_begins.2.1 1 = .ok (.istore_n 2, 1) := by decide +kernel
theorem dX10_begins_2 : decode mX10_begins.2.1 2 = .ok (.iload_n 2, 1) := by decide +kernel
theorem dX10_begins_3 : decode mX10_begins.2.1 3 = .ok (.aload_n 0, 1) := by decide +kernel
theorem dX10_begins_4 : decode mX10_begins.2.1 4 = .ok (.getfield 9, 3) := by decide +kernel
theorem dX10_begins_7 : decode mX10_begins.2.1 7 = .ok (.if_icmp .ge 17, 3) := by decide +kernel
theorem dX10_begins_10 : decode mX10_begins.2.1 10 = .ok (.aload_n 0, 1) := by decide +kernel
theorem dX10_begins_11 : decode mX10_begins.2.1 11 = .ok (.getfield 55, 3) := by decide +kernel
theorem dX10_begins_14 : decode mX10_begins.2.1 14 = .ok (.iload_n 2, 1) := by decide +kernel
theorem dX10_begins_15 : decode mX10_begins.2.1 15 = .ok (.iload_n 1, 1) := by decide +kernel
theorem dX10_begins_16 : decode mX10_begins.2.1 16 = .ok (.ineg, 1) := by decide +kernel
theorem dX10_begins_17 : decode mX10_begins.2.1 17 = .ok (.iastore, 1) := by decide +kernel
theorem dX10_begins_18 : decode mX10_begins.2.1 18 = .ok (.iinc 2 1, 3) := by decide +kernel
theorem dX10_begins_21 : decode mX10_begins.2.1 21 = .ok (.goto (-19), 3) := by decide +kernel
theorem dX10_begins_24 : decode mX10_begins.2.1 24 = .ok (.return_, 1) := by decide +kernel
theorem dX10_goesOn_0 : decode mX10_goesOn.2.1 0 = .ok (.aload_n 0, 1) := by decide +kernel
theorem dX10_goesOn_1 : decode mX10_goesOn.2.1 1 = .ok (.getfield 9, 3) := by decide +kernel
theorem dX10_goesOn_4 : decode mX10_goesOn.2.1 4 = .ok (.iconst 1, 1) := by decide +kernel
theorem dX10_goesOn_5 : decode mX10_goesOn.2.1 5 = .ok (.isub, 1) := by decide +kernel
theorem dX10_goesOn_6 : decode mX10_goesOn.2.1 6 = .ok (.istore_n 2, 1) := by decide +kernel
theorem dX10_goesOn_7 : decode mX10_goesOn.2.1 7 = .ok (.iload_n 2, 1) := by decide +kernel
theorem dX10_goesOn_8 : decode mX10_goesOn.2.1 8 = .ok (.ifCond .lt 27, 3) := by decide +kernel
theorem dX10_goesOn_11 : decode mX10_goesOn.2.1 11 = .ok (.aload_n 0, 1) := by decide +kernel
theorem dX10_goesOn_12 : decode mX10_goesOn.2.1 12 = .ok (.getfield 55, 3) := by decide +kernel
theorem dX10_goesOn_15 : decode mX10_goesOn.2.1 15 = .ok (.iload_n 2, 1) := by decide +kernel
theorem dX10_goesOn_16 : decode mX10_goesOn.2.1 16 = .ok (.iaload, 1) := by decide +kernel
theorem dX10_goesOn_17 : decode mX10_goesOn.2.1 17 = .ok (.iload_n 1, 1) := by decide +kernel
theorem dX10_goesOn_18 : decode mX10_goesOn.2.1 18 = .ok (.if_icmp .ne 17, 3) := by decide +kernel
theorem dX10_goesOn_21 : decode mX10_goesOn.2.1 21 = .ok (.aload_n 0, 1) := by decide +kernel
theorem dX10_goesOn_22 : decode mX10_goesOn.2.1 22 = .ok (.getfield 55, 3) := by decide +kernel
theorem dX10_goesOn_25 : decode mX10_goesOn.2.1 25 = .ok (.iload_n 2, 1) := by decide +kernel
theorem dX10_goesOn_26 : decode mX10_goesOn.2.1 26 = .ok (.iload_n 1, 1) := by decide +kernel
theorem dX10_goesOn_27 : decode mX10_goesOn.2.1 27 = .ok (.ineg, 1) := by decide +kernel
theorem dX10_goesOn_28 : decode mX10_goesOn.2.1 28 = .ok (.iastore, 1) := by decide +kernel
theorem dX10_goesOn_29 : decode mX10_goesOn.2.1 29 = .ok (.iinc 2 (-1), 3) := by decide +kernel
theorem dX10_goesOn_32 : decode mX10_goesOn.2.1 32 = .ok (.goto (-25), 3) := by decide +kernel
theorem dX10_goesOn_35 : decode mX10_goesOn.2.1 35 = .ok (.iload_n 2, 1) := by decide +kernel
theorem dX10_goesOn_36 : decode mX10_goesOn.2.1 36 = .ok (.ifCond .ge 5, 3) := by decide +kernel
theorem dX10_goesOn_39 : decode mX10_goesOn.2.1 39 = .ok (.iconst 0, 1) := by decide +kernel
theorem dX10_goesOn_40 : decode mX10_goesOn.2.1 40 = .ok (.ireturn, 1) := by decide +kernel
theorem dX10_goesOn_41 : decode mX10_goesOn.2.1 41 = .ok (.aload_n 0, 1) := by decide +kernel
theorem dX10_goesOn_42 : decode mX10_goesOn.2.1 42 = .ok (.getfield 55, 3) := by decide +kernel
theorem dX10_goesOn_45 : decode mX10_goesOn.2.1 45 = .ok (.iload_n 2, 1) := by decide +kernel
theorem dX10_goesOn_46 : decode mX10_goesOn.2.1 46 = .ok (.dup2, 1) := by decide +kernel
theorem dX10_goesOn_47 : decode mX10_goesOn.2.1 47 = .ok (.iaload, 1) := by decide +kernel
theorem dX10_goesOn_48 : decode mX10_goesOn.2.1 48 = .ok (.iconst 1, 1) := by decide +kernel
theorem dX10_goesOn_49 : decode mX10_goesOn.2.1 49 = .ok (.iadd, 1) := by decide +kernel
theorem dX10_goesOn_50 : decode mX10_goesOn.2.1 50 = .ok (.iastore, 1) := by decide +kernel
theorem dX10_goesOn_51 : decode mX10_goesOn.2.1 51 = .ok (.iconst 1, 1) := by decide +kernel
theorem dX10_goesOn_52 : decode mX10_goesOn.2.1 52 = .ok (.ireturn, 1) := by decide +kernel
theorem dX10_isWall_0 : decode mX10_isWall.2.1 0 = .ok (.iconst 0, 1) := by decide +kernel
theorem dX10_isWall_1 : decode mX10_isWall.2.1 1 = .ok (.istore_n 2, 1) := by decide +kernel
theorem dX10_isWall_2 : decode mX10_isWall.2.1 2 = .ok (.iconst 0, 1) := by decide +kernel
theorem dX10_isWall_3 : decode mX10_isWall.2.1 3 = .ok (.istore_n 3, 1) := by decide +kernel
theorem dX10_isWall_4 : decode mX10_isWall.2.1 4 = .ok (.iload_n 3, 1) := by decide +kernel
theorem dX10_isWall_5 : decode mX10_isWall.2.1 5 = .ok (.iload_n 1, 1) := by decide +kernel
theorem dX10_isWall_6 : decode mX10_isWall.2.1 6 = .ok (.if_icmp .ge 39, 3) := by decide +kernel
theorem dX10_isWall_9 : decode mX10_isWall.2.1 9 = .ok (.aload_n 0, 1) := by decide +kernel
theorem dX10_isWall_10 : decode mX10_isWall.2.1 10 = .ok (.getfield 55, 3) := by decide +kernel
theorem dX10_isWall_13 : decode mX10_isWall.2.1 13 = .ok (.iload_n 3, 1) := by decide +kernel
theorem dX10_isWall_14 : decode mX10_isWall.2.1 14 = .ok (.iaload, 1) := by decide +kernel
theorem dX10_isWall_15 : decode mX10_isWall.2.1 15 = .ok (.i2l, 1) := by decide +kernel
theorem dX10_isWall_16 : decode mX10_isWall.2.1 16 = .ok (.ldc2_w 144, 3) := by decide +kernel
theorem dX10_isWall_19 : decode mX10_isWall.2.1 19 = .ok (.ldc2_w 146, 3) := by decide +kernel
theorem dX10_isWall_22 : decode mX10_isWall.2.1 22 = .ok (.invokestatic 77, 3) := by decide +kernel
theorem dX10_isWall_25 : decode mX10_isWall.2.1 25 = .ok (.ifCond .ne 5, 3) := by decide +kernel
theorem dX10_isWall_28 : decode mX10_isWall.2.1 28 = .ok (.iconst 0, 1) := by decide +kernel
theorem dX10_isWall_29 : decode mX10_isWall.2.1 29 = .ok (.ireturn, 1) := by decide +kernel
theorem dX10_isWall_30 : decode mX10_isWall.2.1 30 = .ok (.iload_n 2, 1) := by decide +kernel
theorem dX10_isWall_31 : decode mX10_isWall.2.1 31 = .ok (.aload_n 0, 1) := by decide +kernel
theorem dX10_isWall_32 : decode mX10_isWall.2.1 32 = .ok (.getfield 55, 3) := by decide +kernel
theorem dX10_isWall_35 : decode mX10_isWall.2.1 35 = .ok (.iload_n 3, 1) := by decide +kernel
theorem dX10_isWall_36 : decode mX10_isWall.2.1 36 = .ok (.iaload, 1) := by decide +kernel
theorem dX10_isWall_37 : decode mX10_isWall.2.1 37 = .ok (.iadd, 1) := by decide +kernel
theorem dX10_isWall_38 : decode mX10_isWall.2.1 38 = .ok (.istore_n 2, 1) := by decide +kernel
theorem dX10_isWall_39 : decode mX10_isWall.2.1 39 = .ok (.iinc 3 1, 3) := by decide +kernel
theorem dX10_isWall_42 : decode mX10_isWall.2.1 42 = .ok (.goto (-38), 3) := by decide +kernel
theorem dX10_isWall_45 : decode mX10_isWall.2.1 45 = .ok (.iload_n 2, 1) := by decide +kernel
theorem dX10_isWall_46 : decode mX10_isWall.2.1 46 = .ok (.iconst 1, 1) := by decide +kernel
theorem dX10_isWall_47 : decode mX10_isWall.2.1 47 = .ok (.if_icmp .ne 7, 3) := by decide +kernel
theorem dX10_isWall_50 : decode mX10_isWall.2.1 50 = .ok (.iconst 1, 1) := by decide +kernel
theorem dX10_isWall_51 : decode mX10_isWall.2.1 51 = .ok (.goto 4, 3) := by decide +kernel
theorem dX10_isWall_54 : decode mX10_isWall.2.1 54 = .ok (.iconst 0, 1) := by decide +kernel
theorem dX10_isWall_55 : decode mX10_isWall.2.1 55 = .ok (.ireturn, 1) := by decide +kernel
theorem dX10_valueNow_0 : decode mX10_valueNow.2.1 0 = .ok (.iconst 0, 1) := by decide +kernel
theorem dX10_valueNow_1 : decode mX10_valueNow.2.1 1 = .ok (.istore_n 1, 1) := by decide +kernel
theorem dX10_valueNow_2 : decode mX10_valueNow.2.1 2 = .ok (.iconst 0, 1) := by decide +kernel
theorem dX10_valueNow_3 : decode mX10_valueNow.2.1 3 = .ok (.istore_n 2, 1) := by decide +kernel
theorem dX10_valueNow_4 : decode mX10_valueNow.2.1 4 = .ok (.iload_n 2, 1) := by decide +kernel
theorem dX10_valueNow_5 : decode mX10_valueNow.2.1 5 = .ok (.aload_n 0, 1) := by decide +kernel
theorem dX10_valueNow_6 : decode mX10_valueNow.2.1 6 = .ok (.getfield 9, 3) := by decide +kernel
theorem dX10_valueNow_9 : decode mX10_valueNow.2.1 9 = .ok (.if_icmp .ge 55, 3) := by decide +kernel
theorem dX10_valueNow_12 : decode mX10_valueNow.2.1 12 = .ok (.iload_n 2, 1) := by decide +kernel
theorem dX10_valueNow_13 : decode mX10_valueNow.2.1 13 = .ok (.iconst 1, 1) := by decide +kernel
theorem dX10_valueNow_14 : decode mX10_valueNow.2.1 14 = .ok (.iadd, 1) := by decide +kernel
theorem dX10_valueNow_15 : decode mX10_valueNow.2.1 15 = .ok (.istore_n 3, 1) := by decide +kernel
theorem dX10_valueNow_16 : decode mX10_valueNow.2.1 16 = .ok (.iload_n 3, 1) := by decide +kernel
theorem dX10_valueNow_17 : decode mX10_valueNow.2.1 17 = .ok (.aload_n 0, 1) := by decide +kernel
theorem dX10_valueNow_18 : decode mX10_valueNow.2.1 18 = .ok (.getfield 9, 3) := by decide +kernel
theorem dX10_valueNow_21 : decode mX10_valueNow.2.1 21 = .ok (.if_icmp .ge 37, 3) := by decide +kernel
theorem dX10_valueNow_24 : decode mX10_valueNow.2.1 24 = .ok (.iload_n 1, 1) := by decide +kernel
theorem dX10_valueNow_25 : decode mX10_valueNow.2.1 25 = .ok (.aload_n 0, 1) := by decide +kernel
theorem dX10_valueNow_26 : decode mX10_valueNow.2.1 26 = .ok (.getfield 55, 3) := by decide +kernel
theorem dX10_valueNow_29 : decode mX10_valueNow.2.1 29 = .ok (.iload_n 2, 1) := by decide +kernel
theorem dX10_valueNow_30 : decode mX10_valueNow.2.1 30 = .ok (.iaload, 1) := by decide +kernel
theorem dX10_valueNow_31 : decode mX10_valueNow.2.1 31 = .ok (.aload_n 0, 1) := by decide +kernel
theorem dX10_valueNow_32 : decode mX10_valueNow.2.1 32 = .ok (.getfield 55, 3) := by decide +kernel
theorem dX10_valueNow_35 : decode mX10_valueNow.2.1 35 = .ok (.iload_n 3, 1) := by decide +kernel
theorem dX10_valueNow_36 : decode mX10_valueNow.2.1 36 = .ok (.iaload, 1) := by decide +kernel
theorem dX10_valueNow_37 : decode mX10_valueNow.2.1 37 = .ok (.imul, 1) := by decide +kernel
theorem dX10_valueNow_38 : decode mX10_valueNow.2.1 38 = .ok (.aload_n 0, 1) := by decide +kernel
theorem dX10_valueNow_39 : decode mX10_valueNow.2.1 39 = .ok (.getfield 15, 3) := by decide +kernel
theorem dX10_valueNow_42 : decode mX10_valueNow.2.1 42 = .ok (.bipush 6, 2) := by decide +kernel
theorem dX10_valueNow_44 : decode mX10_valueNow.2.1 44 = .ok (.iload_n 2, 1) := by decide +kernel
theorem dX10_valueNow_45 : decode mX10_valueNow.2.1 45 = .ok (.imul, 1) := by decide +kernel
theorem dX10_valueNow_46 : decode mX10_valueNow.2.1 46 = .ok (.iload_n 3, 1) := by decide +kernel
theorem dX10_valueNow_47 : decode mX10_valueNow.2.1 47 = .ok (.iadd, 1) := by decide +kernel
theorem dX10_valueNow_48 : decode mX10_valueNow.2.1 48 = .ok (.iaload, 1) := by decide +kernel
theorem dX10_valueNow_49 : decode mX10_valueNow.2.1 49 = .ok (.imul, 1) := by decide +kernel
theorem dX10_valueNow_50 : decode mX10_valueNow.2.1 50 = .ok (.iadd, 1) := by decide +kernel
theorem dX10_valueNow_51 : decode mX10_valueNow.2.1 51 = .ok (.istore_n 1, 1) := by decide +kernel
theorem dX10_valueNow_52 : decode mX10_valueNow.2.1 52 = .ok (.iinc 3 1, 3) := by decide +kernel
theorem dX10_valueNow_55 : decode mX10_valueNow.2.1 55 = .ok (.goto (-39), 3) := by decide +kernel
theorem dX10_valueNow_58 : decode mX10_valueNow.2.1 58 = .ok (.iinc 2 1, 3) := by decide +kernel
theorem dX10_valueNow_61 : decode mX10_valueNow.2.1 61 = .ok (.goto (-57), 3) := by decide +kernel
theorem dX10_valueNow_64 : decode mX10_valueNow.2.1 64 = .ok (.iload_n 1, 1) := by decide +kernel
theorem dX10_valueNow_65 : decode mX10_valueNow.2.1 65 = .ok (.ireturn, 1) := by decide +kernel
theorem dX10_widthNow_0 : decode mX10_widthNow.2.1 0 = .ok (.iconst 0, 1) := by decide +kernel
theorem dX10_widthNow_1 : decode mX10_widthNow.2.1 1 = .ok (.istore_n 2, 1) := by decide +kernel
theorem dX10_widthNow_2 : decode mX10_widthNow.2.1 2 = .ok (.iconst 0, 1) := by decide +kernel
theorem dX10_widthNow_3 : decode mX10_widthNow.2.1 3 = .ok (.istore_n 3, 1) := by decide +kernel
theorem dX10_widthNow_4 : decode mX10_widthNow.2.1 4 = .ok (.iload_n 3, 1) := by decide +kernel
theorem dX10_widthNow_5 : decode mX10_widthNow.2.1 5 = .ok (.iload_n 1, 1) := by decide +kernel
theorem dX10_widthNow_6 : decode mX10_widthNow.2.1 6 = .ok (.if_icmp .ge 24, 3) := by decide +kernel
theorem dX10_widthNow_9 : decode mX10_widthNow.2.1 9 = .ok (.iload_n 2, 1) := by decide +kernel
theorem dX10_widthNow_10 : decode mX10_widthNow.2.1 10 = .ok (.aload_n 0, 1) := by decide +kernel
theorem dX10_widthNow_11 : decode mX10_widthNow.2.1 11 = .ok (.getfield 55, 3) := by decide +kernel
theorem dX10_widthNow_14 : decode mX10_widthNow.2.1 14 = .ok (.iload_n 3, 1) := by decide +kernel
theorem dX10_widthNow_15 : decode mX10_widthNow.2.1 15 = .ok (.iaload, 1) := by decide +kernel
theorem dX10_widthNow_16 : decode mX10_widthNow.2.1 16 = .ok (.iconst 0, 1) := by decide +kernel
theorem dX10_widthNow_17 : decode mX10_widthNow.2.1 17 = .ok (.invokestatic 136, 3) := by decide +kernel
theorem dX10_widthNow_20 : decode mX10_widthNow.2.1 20 = .ok (.invokestatic 148, 3) := by decide +kernel
theorem dX10_widthNow_23 : decode mX10_widthNow.2.1 23 = .ok (.istore_n 2, 1) := by decide +kernel
theorem dX10_widthNow_24 : decode mX10_widthNow.2.1 24 = .ok (.iinc 3 1, 3) := by decide +kernel
theorem dX10_widthNow_27 : decode mX10_widthNow.2.1 27 = .ok (.goto (-23), 3) := by decide +kernel
theorem dX10_widthNow_30 : decode mX10_widthNow.2.1 30 = .ok (.iload_n 2, 1) := by decide +kernel
theorem dX10_widthNow_31 : decode mX10_widthNow.2.1 31 = .ok (.ireturn, 1) := by decide +kernel
theorem dX10_walls_0 : decode mX10_walls.2.1 0 = .ok (.iload_n 1, 1) := by decide +kernel
theorem dX10_walls_1 : decode mX10_walls.2.1 1 = .ok (.i2l, 1) := by decide +kernel
theorem dX10_walls_2 : decode mX10_walls.2.1 2 = .ok (.lconst 1, 1) := by decide +kernel
theorem dX10_walls_3 : decode mX10_walls.2.1 3 = .ok (.ldc2_w 146, 3) := by decide +kernel
theorem dX10_walls_6 : decode mX10_walls.2.1 6 = .ok (.invokestatic 77, 3) := by decide +kernel
theorem dX10_walls_9 : decode mX10_walls.2.1 9 = .ok (.ifCond .eq 15, 3) := by decide +kernel
theorem dX10_walls_12 : decode mX10_walls.2.1 12 = .ok (.iload_n 2, 1) := by decide +kernel
theorem dX10_walls_13 : decode mX10_walls.2.1 13 = .ok (.i2l, 1) := by decide +kernel
theorem dX10_walls_14 : decode mX10_walls.2.1 14 = .ok (.lconst 0, 1) := by decide +kernel
theorem dX10_walls_15 : decode mX10_walls.2.1 15 = .ok (.ldc2_w 153, 3) := by decide +kernel
theorem dX10_walls_18 : decode mX10_walls.2.1 18 = .ok (.invokestatic 77, 3) := by decide +kernel
theorem dX10_walls_21 : decode mX10_walls.2.1 21 = .ok (.ifCond .ne 5, 3) := by decide +kernel
theorem dX10_walls_24 : decode mX10_walls.2.1 24 = .ok (.iconst (-1), 1) := by decide +kernel
theorem dX10_walls_25 : decode mX10_walls.2.1 25 = .ok (.ireturn, 1) := by decide +kernel
theorem dX10_walls_26 : decode mX10_walls.2.1 26 = .ok (.iconst 0, 1) := by decide +kernel
theorem dX10_walls_27 : decode mX10_walls.2.1 27 = .ok (.istore_n 3, 1) := by decide +kernel
theorem dX10_walls_28 : decode mX10_walls.2.1 28 = .ok (.iconst 0, 1) := by decide +kernel
theorem dX10_walls_29 : decode mX10_walls.2.1 29 = .ok (.istore 4, 2) := by decide +kernel
theorem dX10_walls_31 : decode mX10_walls.2.1 31 = .ok (.iconst 0, 1) := by decide +kernel
theorem dX10_walls_32 : decode mX10_walls.2.1 32 = .ok (.istore 5, 2) := by decide +kernel
theorem dX10_walls_34 : decode mX10_walls.2.1 34 = .ok (.bipush (-2), 2) := by decide +kernel
theorem dX10_walls_36 : decode mX10_walls.2.1 36 = .ok (.istore 6, 2) := by decide +kernel
theorem dX10_walls_38 : decode mX10_walls.2.1 38 = .ok (.bipush (-2), 2) := by decide +kernel
theorem dX10_walls_40 : decode mX10_walls.2.1 40 = .ok (.istore 7, 2) := by decide +kernel
theorem dX10_walls_42 : decode mX10_walls.2.1 42 = .ok (.iconst 0, 1) := by decide +kernel
theorem dX10_walls_43 : decode mX10_walls.2.1 43 = .ok (.istore 8, 2) := by decide +kernel
theorem dX10_walls_45 : decode mX10_walls.2.1 45 = .ok (.aload_n 0, 1) := by decide +kernel
theorem dX10_walls_46 : decode mX10_walls.2.1 46 = .ok (.iload_n 1, 1) := by decide +kernel
theorem dX10_walls_47 : decode mX10_walls.2.1 47 = .ok (.invokevirtual 155, 3) := by decide +kernel
theorem dX10_walls_50 : decode mX10_walls.2.1 50 = .ok (.iconst 1, 1) := by decide +kernel
theorem dX10_walls_51 : decode mX10_walls.2.1 51 = .ok (.istore 9, 2) := by decide +kernel
theorem dX10_walls_53 : decode mX10_walls.2.1 53 = .ok (.iload 9, 2) := by decide +kernel
theorem dX10_walls_55 : decode mX10_walls.2.1 55 = .ok (.ifCond .eq 94, 3) := by decide +kernel
theorem dX10_walls_58 : decode mX10_walls.2.1 58 = .ok (.aload_n 0, 1) := by decide +kernel
theorem dX10_walls_59 : decode mX10_walls.2.1 59 = .ok (.aload_n 0, 1) := by decide +kernel
theorem dX10_walls_60 : decode mX10_walls.2.1 60 = .ok (.getfield 9, 3) := by decide +kernel
theorem dX10_walls_63 : decode mX10_walls.2.1 63 = .ok (.invokevirtual 158, 3) := by decide +kernel
theorem dX10_walls_66 : decode mX10_walls.2.1 66 = .ok (.ifCond .eq 73, 3) := by decide +kernel
theorem dX10_walls_69 : decode mX10_walls.2.1 69 = .ok (.aload_n 0, 1) := by decide +kernel
theorem dX10_walls_70 : decode mX10_walls.2.1 70 = .ok (.invokevirtual 161, 3) := by decide +kernel
theorem dX10_walls_73 : decode mX10_walls.2.1 73 = .ok (.istore 10, 2) := by decide +kernel
theorem dX10_walls_75 : decode mX10_walls.2.1 75 = .ok (.iload 10, 2) := by decide +kernel
theorem dX10_walls_77 : decode mX10_walls.2.1 77 = .ok (.ifCond .le 11, 3) := by decide +kernel
theorem dX10_walls_80 : decode mX10_walls.2.1 80 = .ok (.iload 4, 2) := by decide +kernel
theorem dX10_walls_82 : decode mX10_walls.2.1 82 = .ok (.ifCond .ne 6, 3) := by decide +kernel
theorem dX10_walls_85 : decode mX10_walls.2.1 85 = .ok (.iload_n 3, 1) := by decide +kernel
theorem dX10_walls_86 : decode mX10_walls.2.1 86 = .ok (.istore 6, 2) := by decide +kernel
theorem dX10_walls_88 : decode mX10_walls.2.1 88 = .ok (.iload 4, 2) := by decide +kernel
theorem dX10_walls_90 : decode mX10_walls.2.1 90 = .ok (.iload 10, 2) := by decide +kernel
theorem dX10_walls_92 : decode mX10_walls.2.1 92 = .ok (.ifCond .le 7, 3) := by decide +kernel
theorem dX10_walls_95 : decode mX10_walls.2.1 95 = .ok (.iconst 1, 1) := by decide +kernel
theorem dX10_walls_96 : decode mX10_walls.2.1 96 = .ok (.goto 4, 3) := by decide +kernel
theorem dX10_walls_99 : decode mX10_walls.2.1 99 = .ok (.iconst 0, 1) := by decide +kernel
theorem dX10_walls_100 : decode mX10_walls.2.1 100 = .ok (.iadd, 1) := by decide +kernel
theorem dX10_walls_101 : decode mX10_walls.2.1 101 = .ok (.istore 4, 2) := by decide +kernel
theorem dX10_walls_103 : decode mX10_walls.2.1 103 = .ok (.iload 5, 2) := by decide +kernel
theorem dX10_walls_105 : decode mX10_walls.2.1 105 = .ok (.iload 10, 2) := by decide +kernel
theorem dX10_walls_107 : decode mX10_walls.2.1 107 = .ok (.ifCond .ne 7, 3) := by decide +kernel
theorem dX10_walls_110 : decode mX10_walls.2.1 110 = .ok (.iconst 1, 1) := by decide +kernel
theorem dX10_walls_111 : decode mX10_walls.2.1 111 = .ok (.goto 4, 3) := by decide +kernel
theorem dX10_walls_114 : decode mX10_walls.2.1 114 = .ok (.iconst 0, 1) := by decide +kernel
theorem dX10_walls_115 : decode mX10_walls.2.1 115 = .ok (.iadd, 1) := by decide +kernel
theorem dX10_walls_116 : decode mX10_walls.2.1 116 = .ok (.istore 5, 2) := by decide +kernel
theorem dX10_walls_118 : decode mX10_walls.2.1 118 = .ok (.iload_n 3, 1) := by decide +kernel
theorem dX10_walls_119 : decode mX10_walls.2.1 119 = .ok (.ifCond .eq 10, 3) := by decide +kernel
theorem dX10_walls_122 : decode mX10_walls.2.1 122 = .ok (.iload 10, 2) := by decide +kernel
theorem dX10_walls_124 : decode mX10_walls.2.1 124 = .ok (.iload 8, 2) := by decide +kernel
theorem dX10_walls_126 : decode mX10_walls.2.1 126 = .ok (.if_icmp .le 10, 3) := by decide +kernel
theorem dX10_walls_129 : decode mX10_walls.2.1 129 = .ok (.iload_n 3, 1) := by decide +kernel
theorem dX10_walls_130 : decode mX10_walls.2.1 130 = .ok (.istore 7, 2) := by decide +kernel
theorem dX10_walls_132 : decode mX10_walls.2.1 132 = .ok (.iload 10, 2) := by decide +kernel
theorem dX10_walls_134 : decode mX10_walls.2.1 134 = .ok (.istore 8, 2) := by decide +kernel
theorem dX10_walls_136 : decode mX10_walls.2.1 136 = .ok (.iinc 3 1, 3) := by decide +kernel
theorem dX10_walls_139 : decode mX10_walls.2.1 139 = .ok (.aload_n 0, 1) := by decide +kernel
theorem dX10_walls_140 : decode mX10_walls.2.1 140 = .ok (.iload_n 1, 1) := by decide +kernel
theorem dX10_walls_141 : decode mX10_walls.2.1 141 = .ok (.invokevirtual 164, 3) := by decide +kernel
theorem dX10_walls_144 : decode mX10_walls.2.1 144 = .ok (.istore 9, 2) := by decide +kernel
theorem dX10_walls_146 : decode mX10_walls.2.1 146 = .ok (.goto (-93), 3) := by decide +kernel
theorem dX10_walls_149 : decode mX10_walls.2.1 149 = .ok (.iload_n 2, 1) := by decide +kernel
theorem dX10_walls_150 : decode mX10_walls.2.1 150 = .ok (.tableswitch 41 0 3 #[30, 32, 35, 38], 30) := by decide +kernel
theorem dX10_walls_180 : decode mX10_walls.2.1 180 = .ok (.iload_n 3, 1) := by decide +kernel
theorem dX10_walls_181 : decode mX10_walls.2.1 181 = .ok (.ireturn, 1) := by decide +kernel
theorem dX10_walls_182 : decode mX10_walls.2.1 182 = .ok (.iload 4, 2) := by decide +kernel
theorem dX10_walls_184 : decode mX10_walls.2.1 184 = .ok (.ireturn, 1) := by decide +kernel
theorem dX10_walls_185 : decode mX10_walls.2.1 185 = .ok (.iload 5, 2) := by decide +kernel
theorem dX10_walls_187 : decode mX10_walls.2.1 187 = .ok (.ireturn, 1) := by decide +kernel
theorem dX10_walls_188 : decode mX10_walls.2.1 188 = .ok (.iload 6, 2) := by decide +kernel
theorem dX10_walls_190 : decode mX10_walls.2.1 190 = .ok (.ireturn, 1) := by decide +kernel
theorem dX10_walls_191 : decode mX10_walls.2.1 191 = .ok (.iload 7, 2) := by decide +kernel
theorem dX10_walls_193 : decode mX10_walls.2.1 193 = .ok (.ireturn, 1) := by decide +kernel
theorem dX10_finds_0 : decode mX10_finds.2.1 0 = .ok (.iload_n 2, 1) := by decide +kernel
theorem dX10_finds_1 : decode mX10_finds.2.1 1 = .ok (.istore_n 3, 1) := by decide +kernel
theorem dX10_finds_2 : decode mX10_finds.2.1 2 = .ok (.aload_n 0, 1) := by decide +kernel
theorem dX10_finds_3 : decode mX10_finds.2.1 3 = .ok (.iload_n 1, 1) := by decide +kernel
theorem dX10_finds_4 : decode mX10_finds.2.1 4 = .ok (.invokevirtual 155, 3) := by decide +kernel
theorem dX10_finds_7 : decode mX10_finds.2.1 7 = .ok (.iconst 1, 1) := by decide +kernel
theorem dX10_finds_8 : decode mX10_finds.2.1 8 = .ok (.istore 4, 2) := by decide +kernel
theorem dX10_finds_10 : decode mX10_finds.2.1 10 = .ok (.iload 4, 2) := by decide +kernel
theorem dX10_finds_12 : decode mX10_finds.2.1 12 = .ok (.ifCond .eq 33, 3) := by decide +kernel
theorem dX10_finds_15 : decode mX10_finds.2.1 15 = .ok (.aload_n 0, 1) := by decide +kernel
theorem dX10_finds_16 : decode mX10_finds.2.1 16 = .ok (.aload_n 0, 1) := by decide +kernel
theorem dX10_finds_17 : decode mX10_finds.2.1 17 = .ok (.getfield 9, 3) := by decide +kernel
theorem dX10_finds_20 : decode mX10_finds.2.1 20 = .ok (.invokevirtual 158, 3) := by decide +kernel
theorem dX10_finds_23 : decode mX10_finds.2.1 23 = .ok (.ifCond .eq 12, 3) := by decide +kernel
theorem dX10_finds_26 : decode mX10_finds.2.1 26 = .ok (.iload_n 3, 1) := by decide +kernel
theorem dX10_finds_27 : decode mX10_finds.2.1 27 = .ok (.ifCond .ne 5, 3) := by decide +kernel
theorem dX10_finds_30 : decode mX10_finds.2.1 30 = .ok (.iconst 1, 1) := by decide +kernel
theorem dX10_finds_31 : decode mX10_finds.2.1 31 = .ok (.ireturn, 1) := by decide +kernel
theorem dX10_finds_32 : decode mX10_finds.2.1 32 = .ok (.iinc 3 (-1), 3) := by decide +kernel
theorem dX10_finds_35 : decode mX10_finds.2.1 35 = .ok (.aload_n 0, 1) := by decide +kernel
theorem dX10_finds_36 : decode mX10_finds.2.1 36 = .ok (.iload_n 1, 1) := by decide +kernel
theorem dX10_finds_37 : decode mX10_finds.2.1 37 = .ok (.invokevirtual 164, 3) := by decide +kernel
theorem dX10_finds_40 : decode mX10_finds.2.1 40 = .ok (.istore 4, 2) := by decide +kernel
theorem dX10_finds_42 : decode mX10_finds.2.1 42 = .ok (.goto (-32), 3) := by decide +kernel
theorem dX10_finds_45 : decode mX10_finds.2.1 45 = .ok (.iconst 0, 1) := by decide +kernel
theorem dX10_finds_46 : decode mX10_finds.2.1 46 = .ok (.ireturn, 1) := by decide +kernel
theorem dX10_wall_0 : decode mX10_wall.2.1 0 = .ok (.iload_n 1, 1) := by decide +kernel
theorem dX10_wall_1 : decode mX10_wall.2.1 1 = .ok (.i2l, 1) := by decide +kernel
theorem dX10_wall_2 : decode mX10_wall.2.1 2 = .ok (.lconst 1, 1) := by decide +kernel
theorem dX10_wall_3 : decode mX10_wall.2.1 3 = .ok (.ldc2_w 146, 3) := by decide +kernel
theorem dX10_wall_6 : decode mX10_wall.2.1 6 = .ok (.invokestatic 77, 3) := by decide +kernel
theorem dX10_wall_9 : decode mX10_wall.2.1 9 = .ok (.ifCond .eq 15, 3) := by decide +kernel
theorem dX10_wall_12 : decode mX10_wall.2.1 12 = .ok (.aload_n 0, 1) := by decide +kernel
theorem dX10_wall_13 : decode mX10_wall.2.1 13 = .ok (.iload_n 3, 1) := by decide +kernel
theorem dX10_wall_14 : decode mX10_wall.2.1 14 = .ok (.invokevirtual 81, 3) := by decide +kernel
theorem dX10_wall_17 : decode mX10_wall.2.1 17 = .ok (.ifCond .eq 7, 3) := by decide +kernel
theorem dX10_wall_20 : decode mX10_wall.2.1 20 = .ok (.iload_n 2, 1) := by decide +kernel
theorem dX10_wall_21 : decode mX10_wall.2.1 21 = .ok (.ifCond .ge 5, 3) := by decide +kernel
theorem dX10_wall_24 : decode mX10_wall.2.1 24 = .ok (.iconst (-1), 1) := by decide +kernel
theorem dX10_wall_25 : decode mX10_wall.2.1 25 = .ok (.ireturn, 1) := by decide +kernel
theorem dX10_wall_26 : decode mX10_wall.2.1 26 = .ok (.aload_n 0, 1) := by decide +kernel
theorem dX10_wall_27 : decode mX10_wall.2.1 27 = .ok (.iload_n 1, 1) := by decide +kernel
theorem dX10_wall_28 : decode mX10_wall.2.1 28 = .ok (.iload_n 2, 1) := by decide +kernel
theorem dX10_wall_29 : decode mX10_wall.2.1 29 = .ok (.invokevirtual 167, 3) := by decide +kernel
theorem dX10_wall_32 : decode mX10_wall.2.1 32 = .ok (.ifCond .eq 14, 3) := by decide +kernel
theorem dX10_wall_35 : decode mX10_wall.2.1 35 = .ok (.aload_n 0, 1) := by decide +kernel
theorem dX10_wall_36 : decode mX10_wall.2.1 36 = .ok (.getfield 55, 3) := by decide +kernel
theorem dX10_wall_39 : decode mX10_wall.2.1 39 = .ok (.iload_n 3, 1) := by decide +kernel
theorem dX10_wall_40 : decode mX10_wall.2.1 40 = .ok (.iaload, 1) := by decide +kernel
theorem dX10_wall_41 : decode mX10_wall.2.1 41 = .ok (.iconst 3, 1) := by decide +kernel
theorem dX10_wall_42 : decode mX10_wall.2.1 42 = .ok (.iadd, 1) := by decide +kernel
theorem dX10_wall_43 : decode mX10_wall.2.1 43 = .ok (.goto 5, 3) := by decide +kernel
theorem dX10_wall_46 : decode mX10_wall.2.1 46 = .ok (.bipush (-2), 2) := by decide +kernel
theorem dX10_wall_48 : decode mX10_wall.2.1 48 = .ok (.ireturn, 1) := by decide +kernel
theorem dX10_isHolder_0 : decode mX10_isHolder.2.1 0 = .ok (.iload_n 0, 1) := by decide +kernel
theorem dX10_isHolder_1 : decode mX10_isHolder.2.1 1 = .ok (.i2l, 1) := by decide +kernel
theorem dX10_isHolder_2 : decode mX10_isHolder.2.1 2 = .ok (.lconst 0, 1) := by decide +kernel
theorem dX10_isHolder_3 : decode mX10_isHolder.2.1 3 = .ok (.ldc2_w 170, 3) := by decide +kernel
theorem dX10_isHolder_6 : decode mX10_isHolder.2.1 6 = .ok (.invokestatic 77, 3) := by decide +kernel
theorem dX10_isHolder_9 : decode mX10_isHolder.2.1 9 = .ok (.ireturn, 1) := by decide +kernel
theorem dX10_holdsWall_0 : decode mX10_holdsWall.2.1 0 = .ok (.aload_n 0, 1) := by decide +kernel
theorem dX10_holdsWall_1 : decode mX10_holdsWall.2.1 1 = .ok (.getfield 34, 3) := by decide +kernel
theorem dX10_holdsWall_4 : decode mX10_holdsWall.2.1 4 = .ok (.iload_n 1, 1) := by decide +kernel
theorem dX10_holdsWall_5 : decode mX10_holdsWall.2.1 5 = .ok (.iconst 2, 1) := by decide +kernel
theorem dX10_holdsWall_6 : decode mX10_holdsWall.2.1 6 = .ok (.iastore, 1) := by decide +kernel
theorem dX10_holdsWall_7 : decode mX10_holdsWall.2.1 7 = .ok (.aload_n 0, 1) := by decide +kernel
theorem dX10_holdsWall_8 : decode mX10_holdsWall.2.1 8 = .ok (.getfield 37, 3) := by decide +kernel
theorem dX10_holdsWall_11 : decode mX10_holdsWall.2.1 11 = .ok (.iload_n 1, 1) := by decide +kernel
theorem dX10_holdsWall_12 : decode mX10_holdsWall.2.1 12 = .ok (.aload_n 0, 1) := by decide +kernel
theorem dX10_holdsWall_13 : decode mX10_holdsWall.2.1 13 = .ok (.getfield 9, 3) := by decide +kernel
theorem dX10_holdsWall_16 : decode mX10_holdsWall.2.1 16 = .ok (.iastore, 1) := by decide +kernel
theorem dX10_holdsWall_17 : decode mX10_holdsWall.2.1 17 = .ok (.iconst 0, 1) := by decide +kernel
theorem dX10_holdsWall_18 : decode mX10_holdsWall.2.1 18 = .ok (.istore_n 2, 1) := by decide +kernel
theorem dX10_holdsWall_19 : decode mX10_holdsWall.2.1 19 = .ok (.iload_n 2, 1) := by decide +kernel
theorem dX10_holdsWall_20 : decode mX10_holdsWall.2.1 20 = .ok (.aload_n 0, 1) := by decide +kernel
theorem dX10_holdsWall_21 : decode mX10_holdsWall.2.1 21 = .ok (.getfield 9, 3) := by decide +kernel
theorem dX10_holdsWall_24 : decode mX10_holdsWall.2.1 24 = .ok (.if_icmp .ge 26, 3) := by decide +kernel
theorem dX10_holdsWall_27 : decode mX10_holdsWall.2.1 27 = .ok (.aload_n 0, 1) := by decide +kernel
theorem dX10_holdsWall_28 : decode mX10_holdsWall.2.1 28 = .ok (.getfield 40, 3) := by decide +kernel
theorem dX10_holdsWall_31 : decode mX10_holdsWall.2.1 31 = .ok (.bipush 20, 2) := by decide +kernel
theorem dX10_holdsWall_33 : decode mX10_holdsWall.2.1 33 = .ok (.iload_n 1, 1) := by decide +kernel
theorem dX10_holdsWall_34 : decode mX10_holdsWall.2.1 34 = .ok (.imul, 1) := by decide +kernel
theorem dX10_holdsWall_35 : decode mX10_holdsWall.2.1 35 = .ok (.iload_n 2, 1) := by decide +kernel
theorem dX10_holdsWall_36 : decode mX10_holdsWall.2.1 36 = .ok (.iadd, 1) := by decide +kernel
theorem dX10_holdsWall_37 : decode mX10_holdsWall.2.1 37 = .ok (.aload_n 0, 1) := by decide +kernel
theorem dX10_holdsWall_38 : decode mX10_holdsWall.2.1 38 = .ok (.getfield 55, 3) := by decide +kernel
theorem dX10_holdsWall_41 : decode mX10_holdsWall.2.1 41 = .ok (.iload_n 2, 1) := by decide +kernel
theorem dX10_holdsWall_42 : decode mX10_holdsWall.2.1 42 = .ok (.iaload, 1) := by decide +kernel
theorem dX10_holdsWall_43 : decode mX10_holdsWall.2.1 43 = .ok (.iastore, 1) := by decide +kernel
theorem dX10_holdsWall_44 : decode mX10_holdsWall.2.1 44 = .ok (.iinc 2 1, 3) := by decide +kernel
theorem dX10_holdsWall_47 : decode mX10_holdsWall.2.1 47 = .ok (.goto (-28), 3) := by decide +kernel
theorem dX10_holdsWall_50 : decode mX10_holdsWall.2.1 50 = .ok (.aload_n 0, 1) := by decide +kernel
theorem dX10_holdsWall_51 : decode mX10_holdsWall.2.1 51 = .ok (.aload_n 0, 1) := by decide +kernel
theorem dX10_holdsWall_52 : decode mX10_holdsWall.2.1 52 = .ok (.getfield 9, 3) := by decide +kernel
theorem dX10_holdsWall_55 : decode mX10_holdsWall.2.1 55 = .ok (.invokevirtual 172, 3) := by decide +kernel
theorem dX10_holdsWall_58 : decode mX10_holdsWall.2.1 58 = .ok (.ireturn, 1) := by decide +kernel
theorem dX10_holdWall_0 : decode mX10_holdWall.2.1 0 = .ok (.iload_n 1, 1) := by decide +kernel
theorem dX10_holdWall_1 : decode mX10_holdWall.2.1 1 = .ok (.invokestatic 176, 3) := by decide +kernel
theorem dX10_holdWall_4 : decode mX10_holdWall.2.1 4 = .ok (.ifCond .eq 19, 3) := by decide +kernel
theorem dX10_holdWall_7 : decode mX10_holdWall.2.1 7 = .ok (.iload_n 2, 1) := by decide +kernel
theorem dX10_holdWall_8 : decode mX10_holdWall.2.1 8 = .ok (.i2l, 1) := by decide +kernel
theorem dX10_holdWall_9 : decode mX10_holdWall.2.1 9 = .ok (.lconst 1, 1) := by decide +kernel
theorem dX10_holdWall_10 : decode mX10_holdWall.2.1 10 = .ok (.ldc2_w 146, 3) := by decide +kernel
theorem dX10_holdWall_13 : decode mX10_holdWall.2.1 13 = .ok (.invokestatic 77, 3) := by decide +kernel
theorem dX10_holdWall_16 : decode mX10_holdWall.2.1 16 = .ok (.ifCond .eq 7, 3) := by decide +kernel
theorem dX10_holdWall_19 : decode mX10_holdWall.2.1 19 = .ok (.iload_n 3, 1) := by decide +kernel
theorem dX10_holdWall_20 : decode mX10_holdWall.2.1 20 = .ok (.ifCond .ge 5, 3) := by decide +kernel
theorem dX10_holdWall_23 : decode mX10_holdWall.2.1 23 = .ok (.iconst (-1), 1) := by decide +kernel
theorem dX10_holdWall_24 : decode mX10_holdWall.2.1 24 = .ok (.ireturn, 1) := by decide +kernel
theorem dX10_holdWall_25 : decode mX10_holdWall.2.1 25 = .ok (.aload_n 0, 1) := by decide +kernel
theorem dX10_holdWall_26 : decode mX10_holdWall.2.1 26 = .ok (.iload_n 2, 1) := by decide +kernel
theorem dX10_holdWall_27 : decode mX10_holdWall.2.1 27 = .ok (.iload_n 3, 1) := by decide +kernel
theorem dX10_holdWall_28 : decode mX10_holdWall.2.1 28 = .ok (.invokevirtual 167, 3) := by decide +kernel
theorem dX10_holdWall_31 : decode mX10_holdWall.2.1 31 = .ok (.ifCond .eq 11, 3) := by decide +kernel
theorem dX10_holdWall_34 : decode mX10_holdWall.2.1 34 = .ok (.aload_n 0, 1) := by decide +kernel
theorem dX10_holdWall_35 : decode mX10_holdWall.2.1 35 = .ok (.iload_n 1, 1) := by decide +kernel
theorem dX10_holdWall_36 : decode mX10_holdWall.2.1 36 = .ok (.invokevirtual 179, 3) := by decide +kernel
theorem dX10_holdWall_39 : decode mX10_holdWall.2.1 39 = .ok (.goto 5, 3) := by decide +kernel
theorem dX10_holdWall_42 : decode mX10_holdWall.2.1 42 = .ok (.bipush (-2), 2) := by decide +kernel
theorem dX10_holdWall_44 : decode mX10_holdWall.2.1 44 = .ok (.ireturn, 1) := by decide +kernel
theorem dX10_wallOf_0 : decode mX10_wallOf.2.1 0 = .ok (.iload_n 1, 1) := by decide +kernel
theorem dX10_wallOf_1 : decode mX10_wallOf.2.1 1 = .ok (.invokestatic 176, 3) := by decide +kernel
theorem dX10_wallOf_4 : decode mX10_wallOf.2.1 4 = .ok (.ifCond .eq 10, 3) := by decide +kernel
theorem dX10_wallOf_7 : decode mX10_wallOf.2.1 7 = .ok (.iload_n 2, 1) := by decide +kernel
theorem dX10_wallOf_8 : decode mX10_wallOf.2.1 8 = .ok (.invokestatic 176, 3) := by decide +kernel
theorem dX10_wallOf_11 : decode mX10_wallOf.2.1 11 = .ok (.ifCond .ne 5, 3) := by decide +kernel
theorem dX10_wallOf_14 : decode mX10_wallOf.2.1 14 = .ok (.iconst (-1), 1) := by decide +kernel
theorem dX10_wallOf_15 : decode mX10_wallOf.2.1 15 = .ok (.ireturn, 1) := by decide +kernel
theorem dX10_wallOf_16 : decode mX10_wallOf.2.1 16 = .ok (.aload_n 0, 1) := by decide +kernel
theorem dX10_wallOf_17 : decode mX10_wallOf.2.1 17 = .ok (.getfield 34, 3) := by decide +kernel
theorem dX10_wallOf_20 : decode mX10_wallOf.2.1 20 = .ok (.iload_n 2, 1) := by decide +kernel
theorem dX10_wallOf_21 : decode mX10_wallOf.2.1 21 = .ok (.iaload, 1) := by decide +kernel
theorem dX10_wallOf_22 : decode mX10_wallOf.2.1 22 = .ok (.ifCond .ne 6, 3) := by decide +kernel
theorem dX10_wallOf_25 : decode mX10_wallOf.2.1 25 = .ok (.bipush (-11), 2) := by decide +kernel
theorem dX10_wallOf_27 : decode mX10_wallOf.2.1 27 = .ok (.ireturn, 1) := by decide +kernel
theorem dX10_wallOf_28 : decode mX10_wallOf.2.1 28 = .ok (.aload_n 0, 1) := by decide +kernel
theorem dX10_wallOf_29 : decode mX10_wallOf.2.1 29 = .ok (.getfield 34, 3) := by decide +kernel
theorem dX10_wallOf_32 : decode mX10_wallOf.2.1 32 = .ok (.iload_n 2, 1) := by decide +kernel
theorem dX10_wallOf_33 : decode mX10_wallOf.2.1 33 = .ok (.iaload, 1) := by decide +kernel
theorem dX10_wallOf_34 : decode mX10_wallOf.2.1 34 = .ok (.iconst 3, 1) := by decide +kernel
theorem dX10_wallOf_35 : decode mX10_wallOf.2.1 35 = .ok (.if_icmp .eq 6, 3) := by decide +kernel
theorem dX10_wallOf_38 : decode mX10_wallOf.2.1 38 = .ok (.bipush (-12), 2) := by decide +kernel
theorem dX10_wallOf_40 : decode mX10_wallOf.2.1 40 = .ok (.ireturn, 1) := by decide +kernel
theorem dX10_wallOf_41 : decode mX10_wallOf.2.1 41 = .ok (.aload_n 0, 1) := by decide +kernel
theorem dX10_wallOf_42 : decode mX10_wallOf.2.1 42 = .ok (.getfield 37, 3) := by decide +kernel
theorem dX10_wallOf_45 : decode mX10_wallOf.2.1 45 = .ok (.iload_n 2, 1) := by decide +kernel
theorem dX10_wallOf_46 : decode mX10_wallOf.2.1 46 = .ok (.iaload, 1) := by decide +kernel
theorem dX10_wallOf_47 : decode mX10_wallOf.2.1 47 = .ok (.aload_n 0, 1) := by decide +kernel
theorem dX10_wallOf_48 : decode mX10_wallOf.2.1 48 = .ok (.getfield 9, 3) := by decide +kernel
theorem dX10_wallOf_51 : decode mX10_wallOf.2.1 51 = .ok (.if_icmp .ge 6, 3) := by decide +kernel
theorem dX10_wallOf_54 : decode mX10_wallOf.2.1 54 = .ok (.bipush (-5), 2) := by decide +kernel
theorem dX10_wallOf_56 : decode mX10_wallOf.2.1 56 = .ok (.ireturn, 1) := by decide +kernel
theorem dX10_wallOf_57 : decode mX10_wallOf.2.1 57 = .ok (.iconst 0, 1) := by decide +kernel
theorem dX10_wallOf_58 : decode mX10_wallOf.2.1 58 = .ok (.istore_n 3, 1) := by decide +kernel
theorem dX10_wallOf_59 : decode mX10_wallOf.2.1 59 = .ok (.iload_n 3, 1) := by decide +kernel
theorem dX10_wallOf_60 : decode mX10_wallOf.2.1 60 = .ok (.aload_n 0, 1) := by decide +kernel
theorem dX10_wallOf_61 : decode mX10_wallOf.2.1 61 = .ok (.getfield 9, 3) := by decide +kernel
theorem dX10_wallOf_64 : decode mX10_wallOf.2.1 64 = .ok (.if_icmp .ge 26, 3) := by decide +kernel
theorem dX10_wallOf_67 : decode mX10_wallOf.2.1 67 = .ok (.aload_n 0, 1) := by decide +kernel
theorem dX10_wallOf_68 : decode mX10_wallOf.2.1 68 = .ok (.getfield 55, 3) := by decide +kernel
theorem dX10_wallOf_71 : decode mX10_wallOf.2.1 71 = .ok (.iload_n 3, 1) := by decide +kernel
theorem dX10_wallOf_72 : decode mX10_wallOf.2.1 72 = .ok (.aload_n 0, 1) := by decide +kernel
theorem dX10_wallOf_73 : decode mX10_wallOf.2.1 73 = .ok (.getfield 40, 3) := by decide +kernel
theorem dX10_wallOf_76 : decode mX10_wallOf.2.1 76 = .ok (.bipush 20, 2) := by decide +kernel
theorem dX10_wallOf_78 : decode mX10_wallOf.2.1 78 = .ok (.iload_n 2, 1) := by decide +kernel
theorem dX10_wallOf_79 : decode mX10_wallOf.2.1 79 = .ok (.imul, 1) := by decide +kernel
theorem dX10_wallOf_80 : decode mX10_wallOf.2.1 80 = .ok (.iload_n 3, 1) := by decide +kernel
theorem dX10_wallOf_81 : decode mX10_wallOf.2.1 81 = .ok (.iadd, 1) := by decide +kernel
theorem dX10_wallOf_82 : decode mX10_wallOf.2.1 82 = .ok (.iaload, 1) := by decide +kernel
theorem dX10_wallOf_83 : decode mX10_wallOf.2.1 83 = .ok (.iastore, 1) := by decide +kernel
theorem dX10_wallOf_84 : decode mX10_wallOf.2.1 84 = .ok (.iinc 3 1, 3) := by decide +kernel
theorem dX10_wallOf_87 : decode mX10_wallOf.2.1 87 = .ok (.goto (-28), 3) := by decide +kernel
theorem dX10_wallOf_90 : decode mX10_wallOf.2.1 90 = .ok (.aload_n 0, 1) := by decide +kernel
theorem dX10_wallOf_91 : decode mX10_wallOf.2.1 91 = .ok (.aload_n 0, 1) := by decide +kernel
theorem dX10_wallOf_92 : decode mX10_wallOf.2.1 92 = .ok (.getfield 9, 3) := by decide +kernel
theorem dX10_wallOf_95 : decode mX10_wallOf.2.1 95 = .ok (.invokevirtual 158, 3) := by decide +kernel
theorem dX10_wallOf_98 : decode mX10_wallOf.2.1 98 = .ok (.ifCond .eq 11, 3) := by decide +kernel
theorem dX10_wallOf_101 : decode mX10_wallOf.2.1 101 = .ok (.aload_n 0, 1) := by decide +kernel
theorem dX10_wallOf_102 : decode mX10_wallOf.2.1 102 = .ok (.iload_n 1, 1) := by decide +kernel
theorem dX10_wallOf_103 : decode mX10_wallOf.2.1 103 = .ok (.invokevirtual 179, 3) := by decide +kernel
theorem dX10_wallOf_106 : decode mX10_wallOf.2.1 106 = .ok (.goto 5, 3) := by decide +kernel
theorem dX10_wallOf_109 : decode mX10_wallOf.2.1 109 = .ok (.bipush (-5), 2) := by decide +kernel
theorem dX10_wallOf_111 : decode mX10_wallOf.2.1 111 = .ok (.ireturn, 1) := by decide +kernel
theorem dX10_bar_0 : decode mX10_bar.2.1 0 = .ok (.aload_n 0, 1) := by decide +kernel
theorem dX10_bar_1 : decode mX10_bar.2.1 1 = .ok (.getfield 34, 3) := by decide +kernel
theorem dX10_bar_4 : decode mX10_bar.2.1 4 = .ok (.iload_n 1, 1) := by decide +kernel
theorem dX10_bar_5 : decode mX10_bar.2.1 5 = .ok (.iaload, 1) := by decide +kernel
theorem dX10_bar_6 : decode mX10_bar.2.1 6 = .ok (.ifCond .ne 6, 3) := by decide +kernel
theorem dX10_bar_9 : decode mX10_bar.2.1 9 = .ok (.bipush (-11), 2) := by decide +kernel
theorem dX10_bar_11 : decode mX10_bar.2.1 11 = .ok (.ireturn, 1) := by decide +kernel
theorem dX10_bar_12 : decode mX10_bar.2.1 12 = .ok (.aload_n 0, 1) := by decide +kernel
theorem dX10_bar_13 : decode mX10_bar.2.1 13 = .ok (.getfield 34, 3) := by decide +kernel
theorem dX10_bar_16 : decode mX10_bar.2.1 16 = .ok (.iload_n 1, 1) := by decide +kernel
theorem dX10_bar_17 : decode mX10_bar.2.1 17 = .ok (.iaload, 1) := by decide +kernel
theorem dX10_bar_18 : decode mX10_bar.2.1 18 = .ok (.iconst 2, 1) := by decide +kernel
theorem dX10_bar_19 : decode mX10_bar.2.1 19 = .ok (.if_icmp .eq 6, 3) := by decide +kernel
theorem dX10_bar_22 : decode mX10_bar.2.1 22 = .ok (.bipush (-12), 2) := by decide +kernel
theorem dX10_bar_24 : decode mX10_bar.2.1 24 = .ok (.ireturn, 1) := by decide +kernel
theorem dX10_bar_25 : decode mX10_bar.2.1 25 = .ok (.aload_n 0, 1) := by decide +kernel
theorem dX10_bar_26 : decode mX10_bar.2.1 26 = .ok (.getfield 37, 3) := by decide +kernel
theorem dX10_bar_29 : decode mX10_bar.2.1 29 = .ok (.iload_n 1, 1) := by decide +kernel
theorem dX10_bar_30 : decode mX10_bar.2.1 30 = .ok (.iaload, 1) := by decide +kernel
theorem dX10_bar_31 : decode mX10_bar.2.1 31 = .ok (.aload_n 0, 1) := by decide +kernel
theorem dX10_bar_32 : decode mX10_bar.2.1 32 = .ok (.getfield 9, 3) := by decide +kernel
theorem dX10_bar_35 : decode mX10_bar.2.1 35 = .ok (.if_icmp .eq 6, 3) := by decide +kernel
theorem dX10_bar_38 : decode mX10_bar.2.1 38 = .ok (.bipush (-5), 2) := by decide +kernel
theorem dX10_bar_40 : decode mX10_bar.2.1 40 = .ok (.ireturn, 1) := by decide +kernel
theorem dX10_bar_41 : decode mX10_bar.2.1 41 = .ok (.iconst 0, 1) := by decide +kernel
theorem dX10_bar_42 : decode mX10_bar.2.1 42 = .ok (.istore_n 2, 1) := by decide +kernel
theorem dX10_bar_43 : decode mX10_bar.2.1 43 = .ok (.iload_n 2, 1) := by decide +kernel
theorem dX10_bar_44 : decode mX10_bar.2.1 44 = .ok (.aload_n 0, 1) := by decide +kernel
theorem dX10_bar_45 : decode mX10_bar.2.1 45 = .ok (.getfield 9, 3) := by decide +kernel
theorem dX10_bar_48 : decode mX10_bar.2.1 48 = .ok (.if_icmp .ge 26, 3) := by decide +kernel
theorem dX10_bar_51 : decode mX10_bar.2.1 51 = .ok (.aload_n 0, 1) := by decide +kernel
theorem dX10_bar_52 : decode mX10_bar.2.1 52 = .ok (.getfield 55, 3) := by decide +kernel
theorem dX10_bar_55 : decode mX10_bar.2.1 55 = .ok (.iload_n 2, 1) := by decide +kernel
theorem dX10_bar_56 : decode mX10_bar.2.1 56 = .ok (.aload_n 0, 1) := by decide +kernel
theorem dX10_bar_57 : decode mX10_bar.2.1 57 = .ok (.getfield 40, 3) := by decide +kernel
theorem dX10_bar_60 : decode mX10_bar.2.1 60 = .ok (.bipush 20, 2) := by decide +kernel
theorem dX10_bar_62 : decode mX10_bar.2.1 62 = .ok (.iload_n 1, 1) := by decide +kernel
theorem dX10_bar_63 : decode mX10_bar.2.1 63 = .ok (.imul, 1) := by decide +kernel
theorem dX10_bar_64 : decode mX10_bar.2.1 64 = .ok (.iload_n 2, 1) := by decide +kernel
theorem dX10_bar_65 : decode mX10_bar.2.1 65 = .ok (.iadd, 1) := by decide +kernel
theorem dX10_bar_66 : decode mX10_bar.2.1 66 = .ok (.iaload, 1) := by decide +kernel
theorem dX10_bar_67 : decode mX10_bar.2.1 67 = .ok (.iastore, 1) := by decide +kernel
theorem dX10_bar_68 : decode mX10_bar.2.1 68 = .ok (.iinc 2 1, 3) := by decide +kernel
theorem dX10_bar_71 : decode mX10_bar.2.1 71 = .ok (.goto (-28), 3) := by decide +kernel
theorem dX10_bar_74 : decode mX10_bar.2.1 74 = .ok (.iconst 0, 1) := by decide +kernel
theorem dX10_bar_75 : decode mX10_bar.2.1 75 = .ok (.ireturn, 1) := by decide +kernel
theorem dX10_value_0 : decode mX10_value.2.1 0 = .ok (.iload_n 1, 1) := by decide +kernel
theorem dX10_value_1 : decode mX10_value.2.1 1 = .ok (.invokestatic 176, 3) := by decide +kernel
theorem dX10_value_4 : decode mX10_value.2.1 4 = .ok (.ifCond .eq 19, 3) := by decide +kernel
theorem dX10_value_7 : decode mX10_value.2.1 7 = .ok (.aload_n 0, 1) := by decide +kernel
theorem dX10_value_8 : decode mX10_value.2.1 8 = .ok (.iload_n 1, 1) := by decide +kernel
theorem dX10_value_9 : decode mX10_value.2.1 9 = .ok (.invokevirtual 182, 3) := by decide +kernel
theorem dX10_value_12 : decode mX10_value.2.1 12 = .ok (.ifCond .ne 11, 3) := by decide +kernel
theorem dX10_value_15 : decode mX10_value.2.1 15 = .ok (.aload_n 0, 1) := by decide +kernel
theorem dX10_value_16 : decode mX10_value.2.1 16 = .ok (.invokevirtual 161, 3) := by decide +kernel
theorem dX10_value_19 : decode mX10_value.2.1 19 = .ok (.i2l, 1) := by decide +kernel
theorem dX10_value_20 : decode mX10_value.2.1 20 = .ok (.goto 6, 3) := by decide +kernel
theorem dX10_value_23 : decode mX10_value.2.1 23 = .ok (.ldc2_w 185, 3) := by decide +kernel
theorem dX10_value_26 : decode mX10_value.2.1 26 = .ok (.lreturn, 1) := by decide +kernel
theorem dX10_isRoot_0 : decode mX10_isRoot.2.1 0 = .ok (.iconst 0, 1) := by decide +kernel
theorem dX10_isRoot_1 : decode mX10_isRoot.2.1 1 = .ok (.istore_n 2, 1) := by decide +kernel
theorem dX10_isRoot_2 : decode mX10_isRoot.2.1 2 = .ok (.iconst 0, 1) := by decide +kernel
theorem dX10_isRoot_3 : decode mX10_isRoot.2.1 3 = .ok (.istore_n 3, 1) := by decide +kernel
theorem dX10_isRoot_4 : decode mX10_isRoot.2.1 4 = .ok (.iload_n 3, 1) := by decide +kernel
theorem dX10_isRoot_5 : decode mX10_isRoot.2.1 5 = .ok (.aload_n 0, 1) := by decide +kernel
theorem dX10_isRoot_6 : decode mX10_isRoot.2.1 6 = .ok (.getfield 9, 3) := by decide +kernel
theorem dX10_isRoot_9 : decode mX10_isRoot.2.1 9 = .ok (.if_icmp .ge 60, 3) := by decide +kernel
theorem dX10_isRoot_12 : decode mX10_isRoot.2.1 12 = .ok (.iload_n 3, 1) := by decide +kernel
theorem dX10_isRoot_13 : decode mX10_isRoot.2.1 13 = .ok (.iconst 1, 1) := by decide +kernel
theorem dX10_isRoot_14 : decode mX10_isRoot.2.1 14 = .ok (.iadd, 1) := by decide +kernel
theorem dX10_isRoot_15 : decode mX10_isRoot.2.1 15 = .ok (.istore 4, 2) := by decide +kernel
theorem dX10_isRoot_17 : decode mX10_isRoot.2.1 17 = .ok (.iload 4, 2) := by decide +kernel
theorem dX10_isRoot_19 : decode mX10_isRoot.2.1 19 = .ok (.aload_n 0, 1) := by decide +kernel
theorem dX10_isRoot_20 : decode mX10_isRoot.2.1 20 = .ok (.getfield 9, 3) := by decide +kernel
theorem dX10_isRoot_23 : decode mX10_isRoot.2.1 23 = .ok (.if_icmp .ge 40, 3) := by decide +kernel
theorem dX10_isRoot_26 : decode mX10_isRoot.2.1 26 = .ok (.iload_n 2, 1) := by decide +kernel
theorem dX10_isRoot_27 : decode mX10_isRoot.2.1 27 = .ok (.iload_n 1, 1) := by decide +kernel
theorem dX10_isRoot_28 : decode mX10_isRoot.2.1 28 = .ok (.iload_n 3, 1) := by decide +kernel
theorem dX10_isRoot_29 : decode mX10_isRoot.2.1 29 = .ok (.iload 4, 2) := by decide +kernel
theorem dX10_isRoot_31 : decode mX10_isRoot.2.1 31 = .ok (.invokestatic 129, 3) := by decide +kernel
theorem dX10_isRoot_34 : decode mX10_isRoot.2.1 34 = .ok (.ifCond .eq 20, 3) := by decide +kernel
theorem dX10_isRoot_37 : decode mX10_isRoot.2.1 37 = .ok (.aload_n 0, 1) := by decide +kernel
theorem dX10_isRoot_38 : decode mX10_isRoot.2.1 38 = .ok (.getfield 55, 3) := by decide +kernel
theorem dX10_isRoot_41 : decode mX10_isRoot.2.1 41 = .ok (.iload_n 3, 1) := by decide +kernel
theorem dX10_isRoot_42 : decode mX10_isRoot.2.1 42 = .ok (.iaload, 1) := by decide +kernel
theorem dX10_isRoot_43 : decode mX10_isRoot.2.1 43 = .ok (.aload_n 0, 1) := by decide +kernel
theorem dX10_isRoot_44 : decode mX10_isRoot.2.1 44 = .ok (.getfield 55, 3) := by decide +kernel
theorem dX10_isRoot_47 : decode mX10_isRoot.2.1 47 = .ok (.iload 4, 2) := by decide +kernel
theorem dX10_isRoot_49 : decode mX10_isRoot.2.1 49 = .ok (.iaload, 1) := by decide +kernel
theorem dX10_isRoot_50 : decode mX10_isRoot.2.1 50 = .ok (.imul, 1) := by decide +kernel
theorem dX10_isRoot_51 : decode mX10_isRoot.2.1 51 = .ok (.goto 4, 3) := by decide +kernel
theorem dX10_isRoot_54 : decode mX10_isRoot.2.1 54 = .ok (.iconst 0, 1) := by decide +kernel
theorem dX10_isRoot_55 : decode mX10_isRoot.2.1 55 = .ok (.iadd, 1) := by decide +kernel
theorem dX10_isRoot_56 : decode mX10_isRoot.2.1 56 = .ok (.istore_n 2, 1) := by decide +kernel
theorem dX10_isRoot_57 : decode mX10_isRoot.2.1 57 = .ok (.iinc 4 1, 3) := by decide +kernel
theorem dX10_isRoot_60 : decode mX10_isRoot.2.1 60 = .ok (.goto (-43), 3) := by decide +kernel
theorem dX10_isRoot_63 : decode mX10_isRoot.2.1 63 = .ok (.iinc 3 1, 3) := by decide +kernel
theorem dX10_isRoot_66 : decode mX10_isRoot.2.1 66 = .ok (.goto (-62), 3) := by decide +kernel
theorem dX10_isRoot_69 : decode mX10_isRoot.2.1 69 = .ok (.iload_n 2, 1) := by decide +kernel
theorem dX10_isRoot_70 : decode mX10_isRoot.2.1 70 = .ok (.ifCond .ne 7, 3) := by decide +kernel
theorem dX10_isRoot_73 : decode mX10_isRoot.2.1 73 = .ok (.iconst 1, 1) := by decide +kernel
theorem dX10_isRoot_74 : decode mX10_isRoot.2.1 74 = .ok (.goto 4, 3) := by decide +kernel
theorem dX10_isRoot_77 : decode mX10_isRoot.2.1 77 = .ok (.iconst 0, 1) := by decide +kernel
theorem dX10_isRoot_78 : decode mX10_isRoot.2.1 78 = .ok (.ireturn, 1) := by decide +kernel
theorem dX10_lays_0 : decode mX10_lays.2.1 0 = .ok (.iconst 0, 1) := by decide +kernel
theorem dX10_lays_1 : decode mX10_lays.2.1 1 = .ok (.istore_n 3, 1) := by decide +kernel
theorem dX10_lays_2 : decode mX10_lays.2.1 2 = .ok (.iconst 0, 1) := by decide +kernel
theorem dX10_lays_3 : decode mX10_lays.2.1 3 = .ok (.istore 4, 2) := by decide +kernel
theorem dX10_lays_5 : decode mX10_lays.2.1 5 = .ok (.iload 4, 2) := by decide +kernel
theorem dX10_lays_7 : decode mX10_lays.2.1 7 = .ok (.aload_n 0, 1) := by decide +kernel
theorem dX10_lays_8 : decode mX10_lays.2.1 8 = .ok (.getfield 9, 3) := by decide +kernel
theorem dX10_lays_11 : decode mX10_lays.2.1 11 = .ok (.if_icmp .ge 60, 3) := by decide +kernel
theorem dX10_lays_14 : decode mX10_lays.2.1 14 = .ok (.iload 4, 2) := by decide +kernel
theorem dX10_lays_16 : decode mX10_lays.2.1 16 = .ok (.iconst 1, 1) := by decide +kernel
theorem dX10_lays_17 : decode mX10_lays.2.1 17 = .ok (.iadd, 1) := by decide +kernel
theorem dX10_lays_18 : decode mX10_lays.2.1 18 = .ok (.istore 5, 2) := by decide +kernel
theorem dX10_lays_20 : decode mX10_lays.2.1 20 = .ok (.iload 5, 2) := by decide +kernel
theorem dX10_lays_22 : decode mX10_lays.2.1 22 = .ok (.aload_n 0, 1) := by decide +kernel
theorem dX10_lays_23 : decode mX10_lays.2.1 23 = .ok (.getfield 9, 3) := by decide +kernel
theorem dX10_lays_26 : decode mX10_lays.2.1 26 = .ok (.if_icmp .ge 39, 3) := by decide +kernel
theorem dX10_lays_29 : decode mX10_lays.2.1 29 = .ok (.aload_n 0, 1) := by decide +kernel
theorem dX10_lays_30 : decode mX10_lays.2.1 30 = .ok (.getfield 58, 3) := by decide +kernel
theorem dX10_lays_33 : decode mX10_lays.2.1 33 = .ok (.bipush 15, 2) := by decide +kernel
theorem dX10_lays_35 : decode mX10_lays.2.1 35 = .ok (.iload_n 1, 1) := by decide +kernel
theorem dX10_lays_36 : decode mX10_lays.2.1 36 = .ok (.imul, 1) := by decide +kernel
theorem dX10_lays_37 : decode mX10_lays.2.1 37 = .ok (.iload_n 3, 1) := by decide +kernel
theorem dX10_lays_38 : decode mX10_lays.2.1 38 = .ok (.iadd, 1) := by decide +kernel
theorem dX10_lays_39 : decode mX10_lays.2.1 39 = .ok (.iload_n 2, 1) := by decide +kernel
theorem dX10_lays_40 : decode mX10_lays.2.1 40 = .ok (.iload 4, 2) := by decide +kernel
theorem dX10_lays_42 : decode mX10_lays.2.1 42 = .ok (.iload 5, 2) := by decide +kernel
theorem dX10_lays_44 : decode mX10_lays.2.1 44 = .ok (.invokestatic 129, 3) := by decide +kernel
theorem dX10_lays_47 : decode mX10_lays.2.1 47 = .ok (.ifCond .eq 7, 3) := by decide +kernel
theorem dX10_lays_50 : decode mX10_lays.2.1 50 = .ok (.lconst 1, 1) := by decide +kernel
theorem dX10_lays_51 : decode mX10_lays.2.1 51 = .ok (.goto 4, 3) := by decide +kernel
theorem dX10_lays_54 : decode mX10_lays.2.1 54 = .ok (.lconst 0, 1) := by decide +kernel
theorem dX10_lays_55 : decode mX10_lays.2.1 55 = .ok (.lastore, 1) := by decide +kernel
theorem dX10_lays_56 : decode mX10_lays.2.1 56 = .ok (.iinc 3 1, 3) := by decide +kernel
theorem dX10_lays_59 : decode mX10_lays.2.1 59 = .ok (.iinc 5 1, 3) := by decide +kernel
theorem dX10_lays_62 : decode mX10_lays.2.1 62 = .ok (.goto (-42), 3) := by decide +kernel
theorem dX10_lays_65 : decode mX10_lays.2.1 65 = .ok (.iinc 4 1, 3) := by decide +kernel
theorem dX10_lays_68 : decode mX10_lays.2.1 68 = .ok (.goto (-63), 3) := by decide +kernel
theorem dX10_lays_71 : decode mX10_lays.2.1 71 = .ok (.return_, 1) := by decide +kernel
theorem dX10_exchanges_0 : decode mX10_exchanges.2.1 0 = .ok (.iconst 0, 1) := by decide +kernel
theorem dX10_exchanges_1 : decode mX10_exchanges.2.1 1 = .ok (.istore_n 3, 1) := by decide +kernel
theorem dX10_exchanges_2 : decode mX10_exchanges.2.1 2 = .ok (.iload_n 3, 1) := by decide +kernel
theorem dX10_exchanges_3 : decode mX10_exchanges.2.1 3 = .ok (.bipush 15, 2) := by decide +kernel
theorem dX10_exchanges_5 : decode mX10_exchanges.2.1 5 = .ok (.if_icmp .ge 57, 3) := by decide +kernel
theorem dX10_exchanges_8 : decode mX10_exchanges.2.1 8 = .ok (.aload_n 0, 1) := by decide +kernel
theorem dX10_exchanges_9 : decode mX10_exchanges.2.1 9 = .ok (.getfield 58, 3) := by decide +kernel
theorem dX10_exchanges_12 : decode mX10_exchanges.2.1 12 = .ok (.bipush 15, 2) := by decide +kernel
theorem dX10_exchanges_14 : decode mX10_exchanges.2.1 14 = .ok (.iload_n 1, 1) := by decide +kernel
theorem dX10_exchanges_15 : decode mX10_exchanges.2.1 15 = .ok (.imul, 1) := by decide +kernel
theorem dX10_exchanges_16 : decode mX10_exchanges.2.1 16 = .ok (.iload_n 3, 1) := by decide +kernel
theorem dX10_exchanges_17 : decode mX10_exchanges.2.1 17 = .ok (.iadd, 1) := by decide +kernel
theorem dX10_exchanges_18 : decode mX10_exchanges.2.1 18 = .ok (.laload, 1) := by decide +kernel
theorem dX10_exchanges_19 : decode mX10_exchanges.2.1 19 = .ok (.lstore 4, 2) := by decide +kernel
theorem dX10_exchanges_21 : decode mX10_exchanges.2.1 21 = .ok (.aload_n 0, 1) := by decide +kernel
theorem dX10_exchanges_22 : decode mX10_exchanges.2.1 22 = .ok (.getfield 58, 3) := by decide +kernel
theorem dX10_exchanges_25 : decode mX10_exchanges.2.1 25 = .ok (.bipush 15, 2) := by decide +kernel
theorem dX10_exchanges_27 : decode mX10_exchanges.2.1 27 = .ok (.iload_n 1, 1) := by decide +kernel
theorem dX10_exchanges_28 : decode mX10_exchanges.2.1 28 = .ok (.imul, 1) := by decide +kernel
theorem dX10_exchanges_29 : decode mX10_exchanges.2.1 29 = .ok (.iload_n 3, 1) := by decide +kernel
theorem dX10_exchanges_30 : decode mX10_exchanges.2.1 30 = .ok (.iadd, 1) := by decide +kernel
theorem dX10_exchanges_31 : decode mX10_exchanges.2.1 31 = .ok (.aload_n 0, 1) := by decide +kernel
theorem dX10_exchanges_32 : decode mX10_exchanges.2.1 32 = .ok (.getfield 58, 3) := by decide +kernel
theorem dX10_exchanges_35 : decode mX10_exchanges.2.1 35 = .ok (.bipush 15, 2) := by decide +kernel
theorem dX10_exchanges_37 : decode mX10_exchanges.2.1 37 = .ok (.iload_n 2, 1) := by decide +kernel
theorem dX10_exchanges_38 : decode mX10_exchanges.2.1 38 = .ok (.imul, 1) := by decide +kernel
theorem dX10_exchanges_39 : decode mX10_exchanges.2.1 39 = .ok (.iload_n 3, 1) := by decide +kernel
theorem dX10_exchanges_40 : decode mX10_exchanges.2.1 40 = .ok (.iadd, 1) := by decide +kernel
theorem dX10_exchanges_41 : decode mX10_exchanges.2.1 41 = .ok (.laload, 1) := by decide +kernel
theorem dX10_exchanges_42 : decode mX10_exchanges.2.1 42 = .ok (.lastore, 1) := by decide +kernel
theorem dX10_exchanges_43 : decode mX10_exchanges.2.1 43 = .ok (.aload_n 0, 1) := by decide +kernel
theorem dX10_exchanges_44 : decode mX10_exchanges.2.1 44 = .ok (.getfield 58, 3) := by decide +kernel
theorem dX10_exchanges_47 : decode mX10_exchanges.2.1 47 = .ok (.bipush 15, 2) := by decide +kernel
theorem dX10_exchanges_49 : decode mX10_exchanges.2.1 49 = .ok (.iload_n 2, 1) := by decide +kernel
theorem dX10_exchanges_50 : decode mX10_exchanges.2.1 50 = .ok (.imul, 1) := by decide +kernel
theorem dX10_exchanges_51 : decode mX10_exchanges.2.1 51 = .ok (.iload_n 3, 1) := by decide +kernel
theorem dX10_exchanges_52 : decode mX10_exchanges.2.1 52 = .ok (.iadd, 1) := by decide +kernel
theorem dX10_exchanges_53 : decode mX10_exchanges.2.1 53 = .ok (.lload 4, 2) := by decide +kernel
theorem dX10_exchanges_55 : decode mX10_exchanges.2.1 55 = .ok (.lastore, 1) := by decide +kernel
theorem dX10_exchanges_56 : decode mX10_exchanges.2.1 56 = .ok (.iinc 3 1, 3) := by decide +kernel
theorem dX10_exchanges_59 : decode mX10_exchanges.2.1 59 = .ok (.goto (-57), 3) := by decide +kernel
theorem dX10_exchanges_62 : decode mX10_exchanges.2.1 62 = .ok (.return_, 1) := by decide +kernel
theorem dX10_rank_0 : decode mX10_rank.2.1 0 = .ok (.iconst 0, 1) := by decide +kernel
theorem dX10_rank_1 : decode mX10_rank.2.1 1 = .ok (.istore_n 2, 1) := by decide +kernel
theorem dX10_rank_2 : decode mX10_rank.2.1 2 = .ok (.lconst 1, 1) := by decide +kernel
theorem dX10_rank_3 : decode mX10_rank.2.1 3 = .ok (.lstore_n 3, 1) := by decide +kernel
theorem dX10_rank_4 : decode mX10_rank.2.1 4 = .ok (.iconst 0, 1) := by decide +kernel
theorem dX10_rank_5 : decode mX10_rank.2.1 5 = .ok (.istore 5, 2) := by decide +kernel
theorem dX10_rank_7 : decode mX10_rank.2.1 7 = .ok (.iload 5, 2) := by decide +kernel
theorem dX10_rank_9 : decode mX10_rank.2.1 9 = .ok (.aload_n 0, 1) := by decide +kernel
theorem dX10_rank_10 : decode mX10_rank.2.1 10 = .ok (.getfield 9, 3) := by decide +kernel
theorem dX10_rank_13 : decode mX10_rank.2.1 13 = .ok (.invokestatic 187, 3) := by decide +kernel
theorem dX10_rank_16 : decode mX10_rank.2.1 16 = .ok (.if_icmp .ge 173, 3) := by decide +kernel
theorem dX10_rank_19 : decode mX10_rank.2.1 19 = .ok (.iload_n 2, 1) := by decide +kernel
theorem dX10_rank_20 : decode mX10_rank.2.1 20 = .ok (.istore 6, 2) := by decide +kernel
theorem dX10_rank_22 : decode mX10_rank.2.1 22 = .ok (.iload 6, 2) := by decide +kernel
theorem dX10_rank_24 : decode mX10_rank.2.1 24 = .ok (.iload_n 1, 1) := by decide +kernel
theorem dX10_rank_25 : decode mX10_rank.2.1 25 = .ok (.if_icmp .ge 27, 3) := by decide +kernel
theorem dX10_rank_28 : decode mX10_rank.2.1 28 = .ok (.aload_n 0, 1) := by decide +kernel
theorem dX10_rank_29 : decode mX10_rank.2.1 29 = .ok (.getfield 58, 3) := by decide +kernel
theorem dX10_rank_32 : decode mX10_rank.2.1 32 = .ok (.bipush 15, 2) := by decide +kernel
theorem dX10_rank_34 : decode mX10_rank.2.1 34 = .ok (.iload 6, 2) := by decide +kernel
theorem dX10_rank_36 : decode mX10_rank.2.1 36 = .ok (.imul, 1) := by decide +kernel
theorem dX10_rank_37 : decode mX10_rank.2.1 37 = .ok (.iload 5, 2) := by decide +kernel

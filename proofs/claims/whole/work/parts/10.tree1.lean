theorem d_T_stepsUp_0 : decode b_T_stepsUp 0 = .ok (.iload_n 1, 1) := by decide +kernel
theorem d_T_stepsUp_1 : decode b_T_stepsUp 1 = .ok (.istore_n 3, 1) := by decide +kernel
theorem d_T_stepsUp_2 : decode b_T_stepsUp 2 = .ok (.iconst 0, 1) := by decide +kernel
theorem d_T_stepsUp_3 : decode b_T_stepsUp 3 = .ok (.istore 4, 2) := by decide +kernel
theorem d_T_stepsUp_5 : decode b_T_stepsUp 5 = .ok (.iload 4, 2) := by decide +kernel
theorem d_T_stepsUp_7 : decode b_T_stepsUp 7 = .ok (.bipush 40, 2) := by decide +kernel
theorem d_T_stepsUp_9 : decode b_T_stepsUp 9 = .ok (.if_icmp .ge 29, 3) := by decide +kernel
theorem d_T_stepsUp_12 : decode b_T_stepsUp 12 = .ok (.iload_n 3, 1) := by decide +kernel
theorem d_T_stepsUp_13 : decode b_T_stepsUp 13 = .ok (.iconst (-1), 1) := by decide +kernel
theorem d_T_stepsUp_14 : decode b_T_stepsUp 14 = .ok (.if_icmp .eq 24, 3) := by decide +kernel
theorem d_T_stepsUp_17 : decode b_T_stepsUp 17 = .ok (.iload_n 3, 1) := by decide +kernel
theorem d_T_stepsUp_18 : decode b_T_stepsUp 18 = .ok (.iload_n 2, 1) := by decide +kernel
theorem d_T_stepsUp_19 : decode b_T_stepsUp 19 = .ok (.if_icmp .ne 6, 3) := by decide +kernel
theorem d_T_stepsUp_22 : decode b_T_stepsUp 22 = .ok (.iload 4, 2) := by decide +kernel
theorem d_T_stepsUp_24 : decode b_T_stepsUp 24 = .ok (.ireturn, 1) := by decide +kernel
theorem d_T_stepsUp_25 : decode b_T_stepsUp 25 = .ok (.aload_n 0, 1) := by decide +kernel
theorem d_T_stepsUp_26 : decode b_T_stepsUp 26 = .ok (.getfield 15, 3) := by decide +kernel
theorem d_T_stepsUp_29 : decode b_T_stepsUp 29 = .ok (.iload_n 3, 1) := by decide +kernel
theorem d_T_stepsUp_30 : decode b_T_stepsUp 30 = .ok (.iaload, 1) := by decide +kernel
theorem d_T_stepsUp_31 : decode b_T_stepsUp 31 = .ok (.istore_n 3, 1) := by decide +kernel
theorem d_T_stepsUp_32 : decode b_T_stepsUp 32 = .ok (.iinc 4 1, 3) := by decide +kernel
theorem d_T_stepsUp_35 : decode b_T_stepsUp 35 = .ok (.goto (-30), 3) := by decide +kernel
theorem d_T_stepsUp_38 : decode b_T_stepsUp 38 = .ok (.iconst (-1), 1) := by decide +kernel
theorem d_T_stepsUp_39 : decode b_T_stepsUp 39 = .ok (.ireturn, 1) := by decide +kernel
theorem d_T_topOf_0 : decode b_T_topOf 0 = .ok (.iload_n 1, 1) := by decide +kernel
theorem d_T_topOf_1 : decode b_T_topOf 1 = .ok (.istore_n 2, 1) := by decide +kernel
theorem d_T_topOf_2 : decode b_T_topOf 2 = .ok (.iconst 0, 1) := by decide +kernel
theorem d_T_topOf_3 : decode b_T_topOf 3 = .ok (.istore_n 3, 1) := by decide +kernel
theorem d_T_topOf_4 : decode b_T_topOf 4 = .ok (.iload_n 3, 1) := by decide +kernel
theorem d_T_topOf_5 : decode b_T_topOf 5 = .ok (.bipush 40, 2) := by decide +kernel
theorem d_T_topOf_7 : decode b_T_topOf 7 = .ok (.if_icmp .ge 26, 3) := by decide +kernel
theorem d_T_topOf_10 : decode b_T_topOf 10 = .ok (.aload_n 0, 1) := by decide +kernel
theorem d_T_topOf_11 : decode b_T_topOf 11 = .ok (.getfield 15, 3) := by decide +kernel
theorem d_T_topOf_14 : decode b_T_topOf 14 = .ok (.iload_n 2, 1) := by decide +kernel
theorem d_T_topOf_15 : decode b_T_topOf 15 = .ok (.iaload, 1) := by decide +kernel
theorem d_T_topOf_16 : decode b_T_topOf 16 = .ok (.iconst (-1), 1) := by decide +kernel
theorem d_T_topOf_17 : decode b_T_topOf 17 = .ok (.if_icmp .eq 16, 3) := by decide +kernel
theorem d_T_topOf_20 : decode b_T_topOf 20 = .ok (.aload_n 0, 1) := by decide +kernel
theorem d_T_topOf_21 : decode b_T_topOf 21 = .ok (.getfield 15, 3) := by decide +kernel
theorem d_T_topOf_24 : decode b_T_topOf 24 = .ok (.iload_n 2, 1) := by decide +kernel
theorem d_T_topOf_25 : decode b_T_topOf 25 = .ok (.iaload, 1) := by decide +kernel
theorem d_T_topOf_26 : decode b_T_topOf 26 = .ok (.istore_n 2, 1) := by decide +kernel
theorem d_T_topOf_27 : decode b_T_topOf 27 = .ok (.iinc 3 1, 3) := by decide +kernel
theorem d_T_topOf_30 : decode b_T_topOf 30 = .ok (.goto (-26), 3) := by decide +kernel
theorem d_T_topOf_33 : decode b_T_topOf 33 = .ok (.iload_n 2, 1) := by decide +kernel
theorem d_T_topOf_34 : decode b_T_topOf 34 = .ok (.ireturn, 1) := by decide +kernel
theorem d_T_takeOut_0 : decode b_T_takeOut 0 = .ok (.iconst 0, 1) := by decide +kernel
theorem d_T_takeOut_1 : decode b_T_takeOut 1 = .ok (.istore_n 2, 1) := by decide +kernel
theorem d_T_takeOut_2 : decode b_T_takeOut 2 = .ok (.iconst 0, 1) := by decide +kernel
theorem d_T_takeOut_3 : decode b_T_takeOut 3 = .ok (.istore_n 3, 1) := by decide +kernel
theorem d_T_takeOut_4 : decode b_T_takeOut 4 = .ok (.iload_n 3, 1) := by decide +kernel
theorem d_T_takeOut_5 : decode b_T_takeOut 5 = .ok (.aload_n 0, 1) := by decide +kernel
theorem d_T_takeOut_6 : decode b_T_takeOut 6 = .ok (.getfield 28, 3) := by decide +kernel
theorem d_T_takeOut_9 : decode b_T_takeOut 9 = .ok (.if_icmp .ge 34, 3) := by decide +kernel
theorem d_T_takeOut_12 : decode b_T_takeOut 12 = .ok (.aload_n 0, 1) := by decide +kernel
theorem d_T_takeOut_13 : decode b_T_takeOut 13 = .ok (.getfield 22, 3) := by decide +kernel
theorem d_T_takeOut_16 : decode b_T_takeOut 16 = .ok (.iload_n 3, 1) := by decide +kernel
theorem d_T_takeOut_17 : decode b_T_takeOut 17 = .ok (.iaload, 1) := by decide +kernel
theorem d_T_takeOut_18 : decode b_T_takeOut 18 = .ok (.iload_n 1, 1) := by decide +kernel
theorem d_T_takeOut_19 : decode b_T_takeOut 19 = .ok (.if_icmp .eq 18, 3) := by decide +kernel
theorem d_T_takeOut_22 : decode b_T_takeOut 22 = .ok (.aload_n 0, 1) := by decide +kernel
theorem d_T_takeOut_23 : decode b_T_takeOut 23 = .ok (.getfield 22, 3) := by decide +kernel
theorem d_T_takeOut_26 : decode b_T_takeOut 26 = .ok (.iload_n 2, 1) := by decide +kernel
theorem d_T_takeOut_27 : decode b_T_takeOut 27 = .ok (.aload_n 0, 1) := by decide +kernel
theorem d_T_takeOut_28 : decode b_T_takeOut 28 = .ok (.getfield 22, 3) := by decide +kernel
theorem d_T_takeOut_31 : decode b_T_takeOut 31 = .ok (.iload_n 3, 1) := by decide +kernel
theorem d_T_takeOut_32 : decode b_T_takeOut 32 = .ok (.iaload, 1) := by decide +kernel
theorem d_T_takeOut_33 : decode b_T_takeOut 33 = .ok (.iastore, 1) := by decide +kernel
theorem d_T_takeOut_34 : decode b_T_takeOut 34 = .ok (.iinc 2 1, 3) := by decide +kernel
theorem d_T_takeOut_37 : decode b_T_takeOut 37 = .ok (.iinc 3 1, 3) := by decide +kernel
theorem d_T_takeOut_40 : decode b_T_takeOut 40 = .ok (.goto (-36), 3) := by decide +kernel
theorem d_T_takeOut_43 : decode b_T_takeOut 43 = .ok (.aload_n 0, 1) := by decide +kernel
theorem d_T_takeOut_44 : decode b_T_takeOut 44 = .ok (.iload_n 2, 1) := by decide +kernel
theorem d_T_takeOut_45 : decode b_T_takeOut 45 = .ok (.putfield 28, 3) := by decide +kernel
theorem d_T_takeOut_48 : decode b_T_takeOut 48 = .ok (.return_, 1) := by decide +kernel
theorem d_T_putAt_0 : decode b_T_putAt 0 = .ok (.aload_n 0, 1) := by decide +kernel
theorem d_T_putAt_1 : decode b_T_putAt 1 = .ok (.getfield 28, 3) := by decide +kernel
theorem d_T_putAt_4 : decode b_T_putAt 4 = .ok (.istore 4, 2) := by decide +kernel
theorem d_T_putAt_6 : decode b_T_putAt 6 = .ok (.iload 4, 2) := by decide +kernel
theorem d_T_putAt_8 : decode b_T_putAt 8 = .ok (.iload_n 1, 1) := by decide +kernel
theorem d_T_putAt_9 : decode b_T_putAt 9 = .ok (.if_icmp .le 25, 3) := by decide +kernel
theorem d_T_putAt_12 : decode b_T_putAt 12 = .ok (.aload_n 0, 1) := by decide +kernel
theorem d_T_putAt_13 : decode b_T_putAt 13 = .ok (.getfield 22, 3) := by decide +kernel
theorem d_T_putAt_16 : decode b_T_putAt 16 = .ok (.iload 4, 2) := by decide +kernel
theorem d_T_putAt_18 : decode b_T_putAt 18 = .ok (.aload_n 0, 1) := by decide +kernel
theorem d_T_putAt_19 : decode b_T_putAt 19 = .ok (.getfield 22, 3) := by decide +kernel
theorem d_T_putAt_22 : decode b_T_putAt 22 = .ok (.iload 4, 2) := by decide +kernel
theorem d_T_putAt_24 : decode b_T_putAt 24 = .ok (.iconst 1, 1) := by decide +kernel
theorem d_T_putAt_25 : decode b_T_putAt 25 = .ok (.isub, 1) := by decide +kernel
theorem d_T_putAt_26 : decode b_T_putAt 26 = .ok (.iaload, 1) := by decide +kernel
theorem d_T_putAt_27 : decode b_T_putAt 27 = .ok (.iastore, 1) := by decide +kernel
theorem d_T_putAt_28 : decode b_T_putAt 28 = .ok (.iinc 4 (-1), 3) := by decide +kernel
theorem d_T_putAt_31 : decode b_T_putAt 31 = .ok (.goto (-25), 3) := by decide +kernel
theorem d_T_putAt_34 : decode b_T_putAt 34 = .ok (.aload_n 0, 1) := by decide +kernel
theorem d_T_putAt_35 : decode b_T_putAt 35 = .ok (.getfield 22, 3) := by decide +kernel
theorem d_T_putAt_38 : decode b_T_putAt 38 = .ok (.iload_n 1, 1) := by decide +kernel
theorem d_T_putAt_39 : decode b_T_putAt 39 = .ok (.iload_n 2, 1) := by decide +kernel
theorem d_T_putAt_40 : decode b_T_putAt 40 = .ok (.iastore, 1) := by decide +kernel
theorem d_T_putAt_41 : decode b_T_putAt 41 = .ok (.aload_n 0, 1) := by decide +kernel
theorem d_T_putAt_42 : decode b_T_putAt 42 = .ok (.getfield 15, 3) := by decide +kernel
theorem d_T_putAt_45 : decode b_T_putAt 45 = .ok (.iload_n 2, 1) := by decide +kernel
theorem d_T_putAt_46 : decode b_T_putAt 46 = .ok (.iload_n 3, 1) := by decide +kernel
theorem d_T_putAt_47 : decode b_T_putAt 47 = .ok (.iastore, 1) := by decide +kernel
theorem d_T_putAt_48 : decode b_T_putAt 48 = .ok (.aload_n 0, 1) := by decide +kernel
theorem d_T_putAt_49 : decode b_T_putAt 49 = .ok (.dup, 1) := by decide +kernel
theorem d_T_putAt_50 : decode b_T_putAt 50 = .ok (.getfield 28, 3) := by decide +kernel
theorem d_T_putAt_53 : decode b_T_putAt 53 = .ok (.iconst 1, 1) := by decide +kernel
theorem d_T_putAt_54 : decode b_T_putAt 54 = .ok (.iadd, 1) := by decide +kernel
theorem d_T_putAt_55 : decode b_T_putAt 55 = .ok (.putfield 28, 3) := by decide +kernel
theorem d_T_putAt_58 : decode b_T_putAt 58 = .ok (.return_, 1) := by decide +kernel
theorem d_T_spotBehind_0 : decode b_T_spotBehind 0 = .ok (.iconst 0, 1) := by decide +kernel
theorem d_T_spotBehind_1 : decode b_T_spotBehind 1 = .ok (.istore_n 3, 1) := by decide +kernel
theorem d_T_spotBehind_2 : decode b_T_spotBehind 2 = .ok (.iload_n 3, 1) := by decide +kernel
theorem d_T_spotBehind_3 : decode b_T_spotBehind 3 = .ok (.aload_n 0, 1) := by decide +kernel
theorem d_T_spotBehind_4 : decode b_T_spotBehind 4 = .ok (.getfield 28, 3) := by decide +kernel
theorem d_T_spotBehind_7 : decode b_T_spotBehind 7 = .ok (.if_icmp .ge 33, 3) := by decide +kernel
theorem d_T_spotBehind_10 : decode b_T_spotBehind 10 = .ok (.aload_n 0, 1) := by decide +kernel
theorem d_T_spotBehind_11 : decode b_T_spotBehind 11 = .ok (.getfield 22, 3) := by decide +kernel
theorem d_T_spotBehind_14 : decode b_T_spotBehind 14 = .ok (.iload_n 3, 1) := by decide +kernel
theorem d_T_spotBehind_15 : decode b_T_spotBehind 15 = .ok (.iaload, 1) := by decide +kernel
theorem d_T_spotBehind_16 : decode b_T_spotBehind 16 = .ok (.iload_n 1, 1) := by decide +kernel
theorem d_T_spotBehind_17 : decode b_T_spotBehind 17 = .ok (.if_icmp .ne 17, 3) := by decide +kernel
theorem d_T_spotBehind_20 : decode b_T_spotBehind 20 = .ok (.aload_n 0, 1) := by decide +kernel
theorem d_T_spotBehind_21 : decode b_T_spotBehind 21 = .ok (.getfield 15, 3) := by decide +kernel
theorem d_T_spotBehind_24 : decode b_T_spotBehind 24 = .ok (.iload_n 1, 1) := by decide +kernel
theorem d_T_spotBehind_25 : decode b_T_spotBehind 25 = .ok (.iaload, 1) := by decide +kernel
theorem d_T_spotBehind_26 : decode b_T_spotBehind 26 = .ok (.iload_n 2, 1) := by decide +kernel
theorem d_T_spotBehind_27 : decode b_T_spotBehind 27 = .ok (.if_icmp .ne 7, 3) := by decide +kernel
theorem d_T_spotBehind_30 : decode b_T_spotBehind 30 = .ok (.iload_n 3, 1) := by decide +kernel
theorem d_T_spotBehind_31 : decode b_T_spotBehind 31 = .ok (.iconst 1, 1) := by decide +kernel
theorem d_T_spotBehind_32 : decode b_T_spotBehind 32 = .ok (.iadd, 1) := by decide +kernel
theorem d_T_spotBehind_33 : decode b_T_spotBehind 33 = .ok (.ireturn, 1) := by decide +kernel
theorem d_T_spotBehind_34 : decode b_T_spotBehind 34 = .ok (.iinc 3 1, 3) := by decide +kernel
theorem d_T_spotBehind_37 : decode b_T_spotBehind 37 = .ok (.goto (-35), 3) := by decide +kernel
theorem d_T_spotBehind_40 : decode b_T_spotBehind 40 = .ok (.iconst 0, 1) := by decide +kernel
theorem d_T_spotBehind_41 : decode b_T_spotBehind 41 = .ok (.ireturn, 1) := by decide +kernel
theorem d_T_childCount_0 : decode b_T_childCount 0 = .ok (.iconst 0, 1) := by decide +kernel
theorem d_T_childCount_1 : decode b_T_childCount 1 = .ok (.istore_n 2, 1) := by decide +kernel
theorem d_T_childCount_2 : decode b_T_childCount 2 = .ok (.iconst 0, 1) := by decide +kernel
theorem d_T_childCount_3 : decode b_T_childCount 3 = .ok (.istore_n 3, 1) := by decide +kernel
theorem d_T_childCount_4 : decode b_T_childCount 4 = .ok (.iload_n 3, 1) := by decide +kernel
theorem d_T_childCount_5 : decode b_T_childCount 5 = .ok (.aload_n 0, 1) := by decide +kernel
theorem d_T_childCount_6 : decode b_T_childCount 6 = .ok (.getfield 28, 3) := by decide +kernel
theorem d_T_childCount_9 : decode b_T_childCount 9 = .ok (.if_icmp .ge 27, 3) := by decide +kernel
theorem d_T_childCount_12 : decode b_T_childCount 12 = .ok (.aload_n 0, 1) := by decide +kernel
theorem d_T_childCount_13 : decode b_T_childCount 13 = .ok (.getfield 15, 3) := by decide +kernel
theorem d_T_childCount_16 : decode b_T_childCount 16 = .ok (.aload_n 0, 1) := by decide +kernel
theorem d_T_childCount_17 : decode b_T_childCount 17 = .ok (.getfield 22, 3) := by decide +kernel
theorem d_T_childCount_20 : decode b_T_childCount 20 = .ok (.iload_n 3, 1) := by decide +kernel
theorem d_T_childCount_21 : decode b_T_childCount 21 = .ok (.iaload, 1) := by decide +kernel
theorem d_T_childCount_22 : decode b_T_childCount 22 = .ok (.iaload, 1) := by decide +kernel
theorem d_T_childCount_23 : decode b_T_childCount 23 = .ok (.iload_n 1, 1) := by decide +kernel
theorem d_T_childCount_24 : decode b_T_childCount 24 = .ok (.if_icmp .ne 6, 3) := by decide +kernel
theorem d_T_childCount_27 : decode b_T_childCount 27 = .ok (.iinc 2 1, 3) := by decide +kernel
theorem d_T_childCount_30 : decode b_T_childCount 30 = .ok (.iinc 3 1, 3) := by decide +kernel
theorem d_T_childCount_33 : decode b_T_childCount 33 = .ok (.goto (-29), 3) := by decide +kernel
theorem d_T_childCount_36 : decode b_T_childCount 36 = .ok (.iload_n 2, 1) := by decide +kernel
theorem d_T_childCount_37 : decode b_T_childCount 37 = .ok (.ireturn, 1) := by decide +kernel
theorem d_T_childAt_0 : decode b_T_childAt 0 = .ok (.iconst 0, 1) := by decide +kernel
theorem d_T_childAt_1 : decode b_T_childAt 1 = .ok (.istore_n 3, 1) := by decide +kernel
theorem d_T_childAt_2 : decode b_T_childAt 2 = .ok (.iconst 0, 1) := by decide +kernel
theorem d_T_childAt_3 : decode b_T_childAt 3 = .ok (.istore 4, 2) := by decide +kernel
theorem d_T_childAt_5 : decode b_T_childAt 5 = .ok (.iload 4, 2) := by decide +kernel
theorem d_T_childAt_7 : decode b_T_childAt 7 = .ok (.aload_n 0, 1) := by decide +kernel
theorem d_T_childAt_8 : decode b_T_childAt 8 = .ok (.getfield 28, 3) := by decide +kernel
theorem d_T_childAt_11 : decode b_T_childAt 11 = .ok (.if_icmp .ge 41, 3) := by decide +kernel
theorem d_T_childAt_14 : decode b_T_childAt 14 = .ok (.aload_n 0, 1) := by decide +kernel
theorem d_T_childAt_15 : decode b_T_childAt 15 = .ok (.getfield 15, 3) := by decide +kernel
theorem d_T_childAt_18 : decode b_T_childAt 18 = .ok (.aload_n 0, 1) := by decide +kernel
theorem d_T_childAt_19 : decode b_T_childAt 19 = .ok (.getfield 22, 3) := by decide +kernel
theorem d_T_childAt_22 : decode b_T_childAt 22 = .ok (.iload 4, 2) := by decide +kernel
theorem d_T_childAt_24 : decode b_T_childAt 24 = .ok (.iaload, 1) := by decide +kernel
theorem d_T_childAt_25 : decode b_T_childAt 25 = .ok (.iaload, 1) := by decide +kernel
theorem d_T_childAt_26 : decode b_T_childAt 26 = .ok (.iload_n 1, 1) := by decide +kernel
theorem d_T_childAt_27 : decode b_T_childAt 27 = .ok (.if_icmp .ne 19, 3) := by decide +kernel
theorem d_T_childAt_30 : decode b_T_childAt 30 = .ok (.iload_n 3, 1) := by decide +kernel
theorem d_T_childAt_31 : decode b_T_childAt 31 = .ok (.iload_n 2, 1) := by decide +kernel
theorem d_T_childAt_32 : decode b_T_childAt 32 = .ok (.if_icmp .ne 11, 3) := by decide +kernel
theorem d_T_childAt_35 : decode b_T_childAt 35 = .ok (.aload_n 0, 1) := by decide +kernel
theorem d_T_childAt_36 : decode b_T_childAt 36 = .ok (.getfield 22, 3) := by decide +kernel
theorem d_T_childAt_39 : decode b_T_childAt 39 = .ok (.iload 4, 2) := by decide +kernel
theorem d_T_childAt_41 : decode b_T_childAt 41 = .ok (.iaload, 1) := by decide +kernel
theorem d_T_childAt_42 : decode b_T_childAt 42 = .ok (.ireturn, 1) := by decide +kernel
theorem d_T_childAt_43 : decode b_T_childAt 43 = .ok (.iinc 3 1, 3) := by decide +kernel
theorem d_T_childAt_46 : decode b_T_childAt 46 = .ok (.iinc 4 1, 3) := by decide +kernel
theorem d_T_childAt_49 : decode b_T_childAt 49 = .ok (.goto (-44), 3) := by decide +kernel
theorem d_T_childAt_52 : decode b_T_childAt 52 = .ok (.iconst (-1), 1) := by decide +kernel
theorem d_T_childAt_53 : decode b_T_childAt 53 = .ok (.ireturn, 1) := by decide +kernel
theorem d_T_placeOf_0 : decode b_T_placeOf 0 = .ok (.iload_n 1, 1) := by decide +kernel
theorem d_T_placeOf_1 : decode b_T_placeOf 1 = .ok (.ifCond .ne 5, 3) := by decide +kernel
theorem d_T_placeOf_4 : decode b_T_placeOf 4 = .ok (.iconst 0, 1) := by decide +kernel
theorem d_T_placeOf_5 : decode b_T_placeOf 5 = .ok (.ireturn, 1) := by decide +kernel
theorem d_T_placeOf_6 : decode b_T_placeOf 6 = .ok (.iconst 0, 1) := by decide +kernel
theorem d_T_placeOf_7 : decode b_T_placeOf 7 = .ok (.istore_n 2, 1) := by decide +kernel
theorem d_T_placeOf_8 : decode b_T_placeOf 8 = .ok (.iconst 0, 1) := by decide +kernel
theorem d_T_placeOf_9 : decode b_T_placeOf 9 = .ok (.istore_n 3, 1) := by decide +kernel
theorem d_T_placeOf_10 : decode b_T_placeOf 10 = .ok (.iload_n 3, 1) := by decide +kernel
theorem d_T_placeOf_11 : decode b_T_placeOf 11 = .ok (.aload_n 0, 1) := by decide +kernel
theorem d_T_placeOf_12 : decode b_T_placeOf 12 = .ok (.getfield 28, 3) := by decide +kernel
theorem d_T_placeOf_15 : decode b_T_placeOf 15 = .ok (.if_icmp .ge 42, 3) := by decide +kernel
theorem d_T_placeOf_18 : decode b_T_placeOf 18 = .ok (.aload_n 0, 1) := by decide +kernel
theorem d_T_placeOf_19 : decode b_T_placeOf 19 = .ok (.getfield 22, 3) := by decide +kernel
theorem d_T_placeOf_22 : decode b_T_placeOf 22 = .ok (.iload_n 3, 1) := by decide +kernel
theorem d_T_placeOf_23 : decode b_T_placeOf 23 = .ok (.iaload, 1) := by decide +kernel
theorem d_T_placeOf_24 : decode b_T_placeOf 24 = .ok (.iload_n 1, 1) := by decide +kernel
theorem d_T_placeOf_25 : decode b_T_placeOf 25 = .ok (.if_icmp .eq 32, 3) := by decide +kernel
theorem d_T_placeOf_28 : decode b_T_placeOf 28 = .ok (.aload_n 0, 1) := by decide +kernel
theorem d_T_placeOf_29 : decode b_T_placeOf 29 = .ok (.getfield 15, 3) := by decide +kernel
theorem d_T_placeOf_32 : decode b_T_placeOf 32 = .ok (.aload_n 0, 1) := by decide +kernel
theorem d_T_placeOf_33 : decode b_T_placeOf 33 = .ok (.getfield 22, 3) := by decide +kernel
theorem d_T_placeOf_36 : decode b_T_placeOf 36 = .ok (.iload_n 3, 1) := by decide +kernel
theorem d_T_placeOf_37 : decode b_T_placeOf 37 = .ok (.iaload, 1) := by decide +kernel
theorem d_T_placeOf_38 : decode b_T_placeOf 38 = .ok (.iaload, 1) := by decide +kernel
theorem d_T_placeOf_39 : decode b_T_placeOf 39 = .ok (.aload_n 0, 1) := by decide +kernel
theorem d_T_placeOf_40 : decode b_T_placeOf 40 = .ok (.getfield 15, 3) := by decide +kernel
theorem d_T_placeOf_43 : decode b_T_placeOf 43 = .ok (.iload_n 1, 1) := by decide +kernel
theorem d_T_placeOf_44 : decode b_T_placeOf 44 = .ok (.iaload, 1) := by decide +kernel
theorem d_T_placeOf_45 : decode b_T_placeOf 45 = .ok (.if_icmp .ne 6, 3) := by decide +kernel
theorem d_T_placeOf_48 : decode b_T_placeOf 48 = .ok (.iinc 2 1, 3) := by decide +kernel
theorem d_T_placeOf_51 : decode b_T_placeOf 51 = .ok (.iinc 3 1, 3) := by decide +kernel
theorem d_T_placeOf_54 : decode b_T_placeOf 54 = .ok (.goto (-44), 3) := by decide +kernel
theorem d_T_placeOf_57 : decode b_T_placeOf 57 = .ok (.iload_n 2, 1) := by decide +kernel
theorem d_T_placeOf_58 : decode b_T_placeOf 58 = .ok (.ireturn, 1) := by decide +kernel
def l_T_stepsUp_5 (T : cT) (x2 : Int32) : Nat → Int32 → Int32 → Int32
  | 0, _, _ => 0
  | n + 1, x3, x4 => (if 40 ≤ x4 then -1 else (if x3 = (-1) then -1 else (if x3 = x2 then x4 else (l_T_stepsUp_5 T x2 n (T.2.1 x3.toNatClampNeg) (x4 + 1)))))
def m_T_stepsUp (T : cT) (x1 : Int32) (x2 : Int32) : Int32 := (l_T_stepsUp_5 T x2 41 x1 0)
set_option maxHeartbeats 1000000 in
set_option maxRecDepth 100000 in
theorem c_T_stepsUp (l : Launch) (dC : Nat → ClassId) (dI : Nat → Nat → Nat) (cI cZ cQ : ClassId) (h0 : Nat) (a1 : Nat) (a2 : Nat) (a3 : Nat) (a4 : Nat) (T : cT) (x1 : Int32) (x2 : Int32) (hpar : ∀ j, j < 40 → -1 ≤ (T.2.1 j).toInt ∧ (T.2.1 j).toInt < 40) (h1 : -1 ≤ x1.toInt ∧ x1.toInt < 40) : vz_C l (dC, dI) classes [(cI, .int), (cZ, .boolean), (cQ, .object "BinTrees$Person")] y_T_stepsUp (Cond.code y_T_stepsUp b_T_stepsUp 5 (some .int) :: vz_tbl) ({ frames := 0, cells := 0, slots := 0, locals := 0 }) [.ref h0, .int x1, .int x2] (wT cI cZ h0 a1 a2 a3 a4 T) (some (.int (m_T_stepsUp T x1 x2))) (wT cI cZ h0 a1 a2 a3 a4 T) := by
  generalize hres : (m_T_stepsUp T x1 x2) = RES
  refine vz_C.of (by decide) (Nat.le_of_ble_eq_true rfl) ?_
  intro p e s m below meth c ls E hl hK hP hD hS
  obtain ⟨hx, hb, hr, hml, hown, hT, hlocks⟩ := E
  obtain ⟨Q, hQ⟩ : ∃ Q, Q = MQ below (vz_Q (dC, dI) classes (wT cI cZ h0 a1 a2 a3 a4 T) (some (.int RES)) (wT cI cZ h0 a1 a2 a3 a4 T)) ([.ref h0, .int x1, .int x2] : List Value).toArray s 0 0 (vz_A (wT cI cZ h0 a1 a2 a3 a4 T)) := ⟨_, rfl⟩
  rw [← hQ]
  have hl : lv_has ls 5 [(0, .ref h0), (1, .int x1), (2, .int x2)] := hl
  have T0 := ti_0
  have T1 := ti_1
  have Tm := ti_m1
  have T8 := ti_8
  have T39 := ti_39
  have T40 := ti_40
  have T4 := ti_4
  have T300 := ti_300
  have k_5 : ∀ (n : Nat) (x3 : Int32) (x4 : Int32), l_T_stepsUp_5 T x2 n x3 x4 = RES → (-1 ≤ x3.toInt ∧ x3.toInt < 40) → (0 ≤ x4.toInt ∧ x4.toInt ≤ 40 ∧ 40 < n + x4.toInt) → ∀ (H : Heap) (locs : List Loc) (ls : Array Slot), va_P (dC, dI) classes (wT cI cZ h0 a1 a2 a3 a4 T) H → va_D (vz_A (wT cI cZ h0 a1 a2 a3 a4 T)) (wT cI cZ h0 a1 a2 a3 a4 T) → va_S (vz_A (wT cI cZ h0 a1 a2 a3 a4 T)) s.heap H locs → lv_has ls 5 [(0, .ref h0), (2, .int x2), (3, .int x3), (4, .int x4)] → W p l e ({ frames := 0, cells := 0, slots := 0, locals := 0 }) s m ([.ref h0, .int x1, .int x2] : List Value).toArray below meth c H locs 0 0 Q (F0 m 5 ls []) := by
    intro n
    induction n with
    | zero =>
      intro x3 x4 hres i3 i4 H locs ls hP hD hS hl
      exfalso
      omega
    | succ n ih =>
      intro x3 x4 hres i3 i4 H locs ls hP hD hS hl
      refine lv_iload hx hb d_T_stepsUp_5 (lv_at hl 3 rfl) ?_
      refine lv_bipush (v := 40) hx hb d_T_stepsUp_7 (by decide) ?_
      refine lv_icmp_ge (tgt := 38) hx hb d_T_stepsUp_9 (by decide) (fun c_9 => ?_) (fun c_9 => ?_)
      · have z_9 : (40 : Int32).toInt ≤ x4.toInt := Int32.le_iff_toInt_le.mp c_9
        refine lv_iconst (v := -1) hx hb d_T_stepsUp_38 (by decide) ?_
        rw [l_T_stepsUp_5, if_pos c_9] at hres
        subst hres
        subst hQ
        exact vz_iret hx hb hr hlocks d_T_stepsUp_39 hS rfl hP
      · have z_9 : ¬ (40 : Int32).toInt ≤ x4.toInt := mt Int32.le_iff_toInt_le.mpr c_9
        refine lv_iload_n hx hb d_T_stepsUp_12 rfl (lv_at hl 2 rfl) ?_
        refine lv_iconst (v := -1) hx hb d_T_stepsUp_13 (by decide) ?_
        refine lv_icmp_eq (tgt := 38) hx hb d_T_stepsUp_14 (by decide) (fun c_14 => ?_) (fun c_14 => ?_)
        · have z_14 : x3.toInt = (-1 : Int32).toInt := congrArg Int32.toInt c_14
          refine lv_iconst (v := -1) hx hb d_T_stepsUp_38 (by decide) ?_
          rw [l_T_stepsUp_5, if_neg c_9, if_pos c_14] at hres
          subst hres
          subst hQ
          exact vz_iret hx hb hr hlocks d_T_stepsUp_39 hS rfl hP
        · have z_14 : ¬ x3.toInt = (-1 : Int32).toInt := mt Int32.toInt_inj.mp c_14
          refine lv_iload_n hx hb d_T_stepsUp_17 rfl (lv_at hl 2 rfl) ?_
          refine lv_iload_n hx hb d_T_stepsUp_18 rfl (lv_at hl 1 rfl) ?_
          refine lv_icmp_ne (tgt := 25) hx hb d_T_stepsUp_19 (by decide) (fun c_19 => ?_) (fun c_19 => ?_)
          · have z_19 : ¬ x3.toInt = x2.toInt := mt Int32.toInt_inj.mp c_19
            refine lv_aload_n hx hb d_T_stepsUp_25 rfl (lv_at hl 0 rfl) ?_
            refine va_get (D := (dC, dI)) (ci := 0) (v := .ref a2) (C := R_T) (T := F_T) (N := 5) hx hb hT i_T hown hK hP 0 rfl rfl 1 (by decide) (hT _ kw_88) (fun _ h9 => h9) rfl d_T_stepsUp_26 ?_
            refine lv_iload_n hx hb d_T_stepsUp_29 rfl (lv_at hl 2 rfl) ?_
            refine va_iald hx hb hK hP 2 0 rfl rfl (ti_vp (by omega) (by omega)) d_T_stepsUp_30 ?_
            refine lv_istore_n (lv' := [(3, .int (T.2.1 x3.toNatClampNeg)), (0, .ref h0), (2, .int x2), (4, .int x4)]) hx hb d_T_stepsUp_31 rfl hl (by decide) rfl (fun ls hl => ?_)
            refine lv_iinc (v := x4 + 1) (lv' := [(4, .int (x4 + 1)), (3, .int (T.2.1 x3.toNatClampNeg)), (0, .ref h0), (2, .int x2)]) hx hb d_T_stepsUp_32 hl (k := 3) rfl rfl (by decide) rfl (fun ls hl => ?_)
            refine lv_goto (tgt := 5) hx hb d_T_stepsUp_35 (by decide) ?_
            rw [l_T_stepsUp_5, if_neg c_9, if_neg c_14, if_neg c_19] at hres
            exact ih (T.2.1 x3.toNatClampNeg) (x4 + 1)  hres (hpar _ (ti_ix (by omega) (by omega))) (by rw [ti_inc (by omega)]; omega) H locs ls hP hD hS (lv_sub hl [2, 3, 1, 0] rfl)
          · have z_19 : x3.toInt = x2.toInt := congrArg Int32.toInt c_19
            refine lv_iload hx hb d_T_stepsUp_22 (lv_at hl 3 rfl) ?_
            rw [l_T_stepsUp_5, if_neg c_9, if_neg c_14, if_pos c_19] at hres
            subst hres
            subst hQ
            exact vz_iret hx hb hr hlocks d_T_stepsUp_24 hS rfl hP
  have hS0 := hS
  refine lv_iload_n hx hb d_T_stepsUp_0 rfl (lv_at hl 1 rfl) ?_
  refine lv_istore_n (lv' := [(3, .int x1), (0, .ref h0), (1, .int x1), (2, .int x2)]) hx hb d_T_stepsUp_1 rfl hl (by decide) rfl (fun ls hl => ?_)
  refine lv_iconst (v := 0) hx hb d_T_stepsUp_2 (by decide) ?_
  refine lv_istore (lv' := [(4, .int 0), (3, .int x1), (0, .ref h0), (1, .int x1), (2, .int x2)]) hx hb d_T_stepsUp_3 hl (by decide) rfl (fun ls hl => ?_)
  rw [m_T_stepsUp] at hres
  exact k_5 41 x1 0  hres (h1) (by omega) _ _ ls hP hD hS (lv_sub hl [2, 4, 1, 0] rfl)

def l_T_topOf_4 (T : cT) : Nat → Int32 → Int32 → Int32
  | 0, _, _ => 0
  | n + 1, x2, x3 => (if 40 ≤ x3 then x2 else (if (T.2.1 x2.toNatClampNeg) = (-1) then x2 else (l_T_topOf_4 T n (T.2.1 x2.toNatClampNeg) (x3 + 1))))
def m_T_topOf (T : cT) (x1 : Int32) : Int32 := (l_T_topOf_4 T 41 x1 0)
set_option maxHeartbeats 1000000 in
set_option maxRecDepth 100000 in
theorem c_T_topOf (l : Launch) (dC : Nat → ClassId) (dI : Nat → Nat → Nat) (cI cZ cQ : ClassId) (h0 : Nat) (a1 : Nat) (a2 : Nat) (a3 : Nat) (a4 : Nat) (T : cT) (x1 : Int32) (hpar : ∀ j, j < 40 → -1 ≤ (T.2.1 j).toInt ∧ (T.2.1 j).toInt < 40) (h1 : 0 ≤ x1.toInt ∧ x1.toInt < 40) : vz_C l (dC, dI) classes [(cI, .int), (cZ, .boolean), (cQ, .object "BinTrees$Person")] y_T_topOf (Cond.code y_T_topOf b_T_topOf 4 (some .int) :: vz_tbl) ({ frames := 0, cells := 0, slots := 0, locals := 0 }) [.ref h0, .int x1] (wT cI cZ h0 a1 a2 a3 a4 T) (some (.int (m_T_topOf T x1))) (wT cI cZ h0 a1 a2 a3 a4 T) := by
  generalize hres : (m_T_topOf T x1) = RES
  refine vz_C.of (by decide) (Nat.le_of_ble_eq_true rfl) ?_
  intro p e s m below meth c ls E hl hK hP hD hS
  obtain ⟨hx, hb, hr, hml, hown, hT, hlocks⟩ := E
  obtain ⟨Q, hQ⟩ : ∃ Q, Q = MQ below (vz_Q (dC, dI) classes (wT cI cZ h0 a1 a2 a3 a4 T) (some (.int RES)) (wT cI cZ h0 a1 a2 a3 a4 T)) ([.ref h0, .int x1] : List Value).toArray s 0 0 (vz_A (wT cI cZ h0 a1 a2 a3 a4 T)) := ⟨_, rfl⟩
  rw [← hQ]
  have hl : lv_has ls 4 [(0, .ref h0), (1, .int x1)] := hl
  have T0 := ti_0
  have T1 := ti_1
  have Tm := ti_m1
  have T8 := ti_8
  have T39 := ti_39
  have T40 := ti_40
  have T4 := ti_4
  have T300 := ti_300
  have k_4 : ∀ (n : Nat) (x2 : Int32) (x3 : Int32), l_T_topOf_4 T n x2 x3 = RES → (0 ≤ x2.toInt ∧ x2.toInt < 40) → (0 ≤ x3.toInt ∧ x3.toInt ≤ 40 ∧ 40 < n + x3.toInt) → ∀ (H : Heap) (locs : List Loc) (ls : Array Slot), va_P (dC, dI) classes (wT cI cZ h0 a1 a2 a3 a4 T) H → va_D (vz_A (wT cI cZ h0 a1 a2 a3 a4 T)) (wT cI cZ h0 a1 a2 a3 a4 T) → va_S (vz_A (wT cI cZ h0 a1 a2 a3 a4 T)) s.heap H locs → lv_has ls 4 [(0, .ref h0), (2, .int x2), (3, .int x3)] → W p l e ({ frames := 0, cells := 0, slots := 0, locals := 0 }) s m ([.ref h0, .int x1] : List Value).toArray below meth c H locs 0 0 Q (F0 m 4 ls []) := by
    intro n
    induction n with
    | zero =>
      intro x2 x3 hres i2 i3 H locs ls hP hD hS hl
      exfalso
      omega
    | succ n ih =>
      intro x2 x3 hres i2 i3 H locs ls hP hD hS hl
      refine lv_iload_n hx hb d_T_topOf_4 rfl (lv_at hl 2 rfl) ?_
      refine lv_bipush (v := 40) hx hb d_T_topOf_5 (by decide) ?_
      refine lv_icmp_ge (tgt := 33) hx hb d_T_topOf_7 (by decide) (fun c_7 => ?_) (fun c_7 => ?_)
      · have z_7 : (40 : Int32).toInt ≤ x3.toInt := Int32.le_iff_toInt_le.mp c_7
        refine lv_iload_n hx hb d_T_topOf_33 rfl (lv_at hl 1 rfl) ?_
        rw [l_T_topOf_4, if_pos c_7] at hres
        subst hres
        subst hQ
        exact vz_iret hx hb hr hlocks d_T_topOf_34 hS rfl hP
      · have z_7 : ¬ (40 : Int32).toInt ≤ x3.toInt := mt Int32.le_iff_toInt_le.mpr c_7
        refine lv_aload_n hx hb d_T_topOf_10 rfl (lv_at hl 0 rfl) ?_
        refine va_get (D := (dC, dI)) (ci := 0) (v := .ref a2) (C := R_T) (T := F_T) (N := 5) hx hb hT i_T hown hK hP 0 rfl rfl 1 (by decide) (hT _ kw_88) (fun _ h9 => h9) rfl d_T_topOf_11 ?_
        refine lv_iload_n hx hb d_T_topOf_14 rfl (lv_at hl 1 rfl) ?_
        refine va_iald hx hb hK hP 2 0 rfl rfl (ti_vp (by omega) (by omega)) d_T_topOf_15 ?_
        refine lv_iconst (v := -1) hx hb d_T_topOf_16 (by decide) ?_
        refine lv_icmp_eq (tgt := 33) hx hb d_T_topOf_17 (by decide) (fun c_17 => ?_) (fun c_17 => ?_)
        · have z_17 : (T.2.1 x2.toNatClampNeg).toInt = (-1 : Int32).toInt := congrArg Int32.toInt c_17
          refine lv_iload_n hx hb d_T_topOf_33 rfl (lv_at hl 1 rfl) ?_
          rw [l_T_topOf_4, if_neg c_7, if_pos c_17] at hres
          subst hres
          subst hQ
          exact vz_iret hx hb hr hlocks d_T_topOf_34 hS rfl hP
        · have z_17 : ¬ (T.2.1 x2.toNatClampNeg).toInt = (-1 : Int32).toInt := mt Int32.toInt_inj.mp c_17
          refine lv_aload_n hx hb d_T_topOf_20 rfl (lv_at hl 0 rfl) ?_
          refine va_get (D := (dC, dI)) (ci := 0) (v := .ref a2) (C := R_T) (T := F_T) (N := 5) hx hb hT i_T hown hK hP 0 rfl rfl 1 (by decide) (hT _ kw_88) (fun _ h9 => h9) rfl d_T_topOf_21 ?_
          refine lv_iload_n hx hb d_T_topOf_24 rfl (lv_at hl 1 rfl) ?_
          refine va_iald hx hb hK hP 2 0 rfl rfl (ti_vp (by omega) (by omega)) d_T_topOf_25 ?_
          refine lv_istore_n (lv' := [(2, .int (T.2.1 x2.toNatClampNeg)), (0, .ref h0), (3, .int x3)]) hx hb d_T_topOf_26 rfl hl (by decide) rfl (fun ls hl => ?_)
          refine lv_iinc (v := x3 + 1) (lv' := [(3, .int (x3 + 1)), (2, .int (T.2.1 x2.toNatClampNeg)), (0, .ref h0)]) hx hb d_T_topOf_27 hl (k := 2) rfl rfl (by decide) rfl (fun ls hl => ?_)
          refine lv_goto (tgt := 4) hx hb d_T_topOf_30 (by decide) ?_
          rw [l_T_topOf_4, if_neg c_7, if_neg c_17] at hres
          exact ih (T.2.1 x2.toNatClampNeg) (x3 + 1)  hres (by have := hpar _ (ti_ix (x := x2) (n := 40) (by omega) (by omega)); omega) (by rw [ti_inc (by omega)]; omega) H locs ls hP hD hS (lv_sub hl [2, 1, 0] rfl)
  have hS0 := hS
  refine lv_iload_n hx hb d_T_topOf_0 rfl (lv_at hl 1 rfl) ?_
  refine lv_istore_n (lv' := [(2, .int x1), (0, .ref h0), (1, .int x1)]) hx hb d_T_topOf_1 rfl hl (by decide) rfl (fun ls hl => ?_)
  refine lv_iconst (v := 0) hx hb d_T_topOf_2 (by decide) ?_
  refine lv_istore_n (lv' := [(3, .int 0), (2, .int x1), (0, .ref h0), (1, .int x1)]) hx hb d_T_topOf_3 rfl hl (by decide) rfl (fun ls hl => ?_)
  rw [m_T_topOf] at hres
  exact k_4 41 x1 0  hres (h1) (by omega) _ _ ls hP hD hS (lv_sub hl [2, 1, 0] rfl)

theorem hW_T_takeOut_45 (cI cZ cQ : ClassId) (q0 q1 q2 q3 q4 : Nat) (S0 : cT) (v : Int32) : (wT cI cZ q0 q1 q2 q3 q4 S0 : va_W).set 0 (q0, .inr (0, [.ref q1, .ref q2, .ref q3, .ref q4, .int S0.2.2.2.2].set 4 (.int v))) = wT cI cZ q0 q1 q2 q3 q4 (S0.1, S0.2.1, S0.2.2.1, S0.2.2.2.1, v) := rfl
theorem hW_T_takeOut_33 (cI cZ cQ : ClassId) (q0 q1 q2 q3 q4 : Nat) (S0 : cT) (v : cA) : (wT cI cZ q0 q1 q2 q3 q4 S0 : va_W).set 4 (q4, .inl (cI, 40, .inl v)) = wT cI cZ q0 q1 q2 q3 q4 (S0.1, S0.2.1, S0.2.2.1, v, S0.2.2.2.2) := rfl
def l_T_takeOut_4 (T : cT) (x1 : Int32) : Nat → Int32 → Int32 → cA → cT
  | 0, _, _, _ => T
  | n + 1, x2, x3, f => (if T.2.2.2.2 ≤ x3 then (T.1, T.2.1, T.2.2.1, f, x2) else (if (f x3.toNatClampNeg) = x1 then (l_T_takeOut_4 T x1 n x2 (x3 + 1) f) else (l_T_takeOut_4 T x1 n (x2 + 1) (x3 + 1) (upd f x2.toNatClampNeg (f x3.toNatClampNeg)))))
def m_T_takeOut (T : cT) (x1 : Int32) : cT := (l_T_takeOut_4 T x1 41 0 0 T.2.2.2.1)
set_option maxHeartbeats 1000000 in
set_option maxRecDepth 100000 in
theorem c_T_takeOut (l : Launch) (dC : Nat → ClassId) (dI : Nat → Nat → Nat) (cI cZ cQ : ClassId) (h0 : Nat) (a1 : Nat) (a2 : Nat) (a3 : Nat) (a4 : Nat) (T : cT) (x1 : Int32) (hsz : 0 ≤ T.2.2.2.2.toInt ∧ T.2.2.2.2.toInt ≤ 40) : vz_C l (dC, dI) classes [(cI, .int), (cZ, .boolean), (cQ, .object "BinTrees$Person")] y_T_takeOut (Cond.code y_T_takeOut b_T_takeOut 4 none :: vz_tbl) ({ frames := 0, cells := 0, slots := 0, locals := 0 }) [.ref h0, .int x1] (wT cI cZ h0 a1 a2 a3 a4 T) (none) (wT cI cZ h0 a1 a2 a3 a4 (m_T_takeOut T x1)) := by
  generalize hres : (m_T_takeOut T x1) = RES
  refine vz_C.of (by decide) (Nat.le_of_ble_eq_true rfl) ?_
  intro p e s m below meth c ls E hl hK hP hD hS
  obtain ⟨hx, hb, hr, hml, hown, hT, hlocks⟩ := E
  obtain ⟨Q, hQ⟩ : ∃ Q, Q = MQ below (vz_Q (dC, dI) classes (wT cI cZ h0 a1 a2 a3 a4 T) (none) (wT cI cZ h0 a1 a2 a3 a4 RES)) ([.ref h0, .int x1] : List Value).toArray s 0 0 (vz_A (wT cI cZ h0 a1 a2 a3 a4 T)) := ⟨_, rfl⟩
  rw [← hQ]
  have hl : lv_has ls 4 [(0, .ref h0), (1, .int x1)] := hl
  have T0 := ti_0
  have T1 := ti_1
  have Tm := ti_m1
  have T8 := ti_8
  have T39 := ti_39
  have T40 := ti_40
  have T4 := ti_4
  have T300 := ti_300
  have k_4 : ∀ (n : Nat) (x2 : Int32) (x3 : Int32) (f : cA), l_T_takeOut_4 T x1 n x2 x3 f = RES → (0 ≤ x2.toInt ∧ x2.toInt ≤ x3.toInt ∧ x3.toInt ≤ T.2.2.2.2.toInt ∧ T.2.2.2.2.toInt < n + x3.toInt) → ∀ (H : Heap) (locs : List Loc) (ls : Array Slot), va_P (dC, dI) classes (wT cI cZ h0 a1 a2 a3 a4 (T.1, T.2.1, T.2.2.1, f, T.2.2.2.2)) H → va_D (vz_A (wT cI cZ h0 a1 a2 a3 a4 T)) (wT cI cZ h0 a1 a2 a3 a4 (T.1, T.2.1, T.2.2.1, f, T.2.2.2.2)) → va_S (vz_A (wT cI cZ h0 a1 a2 a3 a4 T)) s.heap H locs → lv_has ls 4 [(0, .ref h0), (1, .int x1), (2, .int x2), (3, .int x3)] → W p l e ({ frames := 0, cells := 0, slots := 0, locals := 0 }) s m ([.ref h0, .int x1] : List Value).toArray below meth c H locs 0 0 Q (F0 m 4 ls []) := by
    intro n
    induction n with
    | zero =>
      intro x2 x3 f hres i3 H locs ls hP hD hS hl
      exfalso
      omega
    | succ n ih =>
      intro x2 x3 f hres i3 H locs ls hP hD hS hl
      refine lv_iload_n hx hb d_T_takeOut_4 rfl (lv_at hl 3 rfl) ?_
      refine lv_aload_n hx hb d_T_takeOut_5 rfl (lv_at hl 0 rfl) ?_
      refine va_get (D := (dC, dI)) (ci := 0) (v := .int T.2.2.2.2) (C := R_T) (T := F_T) (N := 5) hx hb hT i_T hown hK hP 0 rfl rfl 4 (by decide) (hT _ kw_93) (fun _ h9 => h9) rfl d_T_takeOut_6 ?_
      refine lv_icmp_ge (tgt := 43) hx hb d_T_takeOut_9 (by decide) (fun c_9 => ?_) (fun c_9 => ?_)
      · have z_9 : T.2.2.2.2.toInt ≤ x3.toInt := Int32.le_iff_toInt_le.mp c_9
        refine lv_aload_n hx hb d_T_takeOut_43 rfl (lv_at hl 0 rfl) ?_
        refine lv_iload_n hx hb d_T_takeOut_44 rfl (lv_at hl 2 rfl) ?_
        refine va_put (D := (dC, dI)) (ci := 0) (v := .int x2) (ty := .int) (C := R_T) (T := F_T) (N := 5) hx hb hT i_T tt_T tt_T_ok n_T hown hK hP hD hS 0 rfl rfl 4 (by decide) (hT _ kw_93) (fun _ h9 => h9) rfl (by decide +kernel) rfl rfl (Nat.le_of_ble_eq_true rfl) d_T_takeOut_45 (fun H locs hP hD hS => ?_)
        have hP : va_P (dC, dI) classes (wT cI cZ h0 a1 a2 a3 a4 (T.1, T.2.1, T.2.2.1, f, x2)) H := vz_reP (hW_T_takeOut_45 cI cZ cQ h0 a1 a2 a3 a4 (T.1, T.2.1, T.2.2.1, f, T.2.2.2.2) x2) hP
        have hD : va_D (vz_A (wT cI cZ h0 a1 a2 a3 a4 T)) (wT cI cZ h0 a1 a2 a3 a4 (T.1, T.2.1, T.2.2.1, f, x2)) := vz_reD (hW_T_takeOut_45 cI cZ cQ h0 a1 a2 a3 a4 (T.1, T.2.1, T.2.2.1, f, T.2.2.2.2) x2) hD
        rw [l_T_takeOut_4, if_pos c_9] at hres
        subst hres
        subst hQ
        exact vz_vret hx hb hr hlocks d_T_takeOut_48 hS rfl hP
      · have z_9 : ¬ T.2.2.2.2.toInt ≤ x3.toInt := mt Int32.le_iff_toInt_le.mpr c_9
        refine lv_aload_n hx hb d_T_takeOut_12 rfl (lv_at hl 0 rfl) ?_
        refine va_get (D := (dC, dI)) (ci := 0) (v := .ref a4) (C := R_T) (T := F_T) (N := 5) hx hb hT i_T hown hK hP 0 rfl rfl 3 (by decide) (hT _ kw_92) (fun _ h9 => h9) rfl d_T_takeOut_13 ?_
        refine lv_iload_n hx hb d_T_takeOut_16 rfl (lv_at hl 3 rfl) ?_
        refine va_iald hx hb hK hP 4 0 rfl rfl (ti_vp (by omega) (by omega)) d_T_takeOut_17 ?_
        refine lv_iload_n hx hb d_T_takeOut_18 rfl (lv_at hl 1 rfl) ?_
        refine lv_icmp_eq (tgt := 37) hx hb d_T_takeOut_19 (by decide) (fun c_19 => ?_) (fun c_19 => ?_)
        · have z_19 : (f x3.toNatClampNeg).toInt = x1.toInt := congrArg Int32.toInt c_19
          refine lv_iinc (v := x3 + 1) (lv' := [(3, .int (x3 + 1)), (0, .ref h0), (1, .int x1), (2, .int x2)]) hx hb d_T_takeOut_37 hl (k := 3) rfl rfl (by decide) rfl (fun ls hl => ?_)
          refine lv_goto (tgt := 4) hx hb d_T_takeOut_40 (by decide) ?_
          rw [l_T_takeOut_4, if_neg c_9, if_pos c_19] at hres
          exact ih x2 (x3 + 1) f  hres (by first | (rw [ti_inc (x := x3) (by omega)]; omega) | (rw [ti_inc (x := x3) (by omega), ti_inc (x := x2) (by omega)]; omega)) H locs ls hP hD hS (lv_sub hl [1, 2, 3, 0] rfl)
        · have z_19 : ¬ (f x3.toNatClampNeg).toInt = x1.toInt := mt Int32.toInt_inj.mp c_19
          refine lv_aload_n hx hb d_T_takeOut_22 rfl (lv_at hl 0 rfl) ?_
          refine va_get (D := (dC, dI)) (ci := 0) (v := .ref a4) (C := R_T) (T := F_T) (N := 5) hx hb hT i_T hown hK hP 0 rfl rfl 3 (by decide) (hT _ kw_92) (fun _ h9 => h9) rfl d_T_takeOut_23 ?_
          refine lv_iload_n hx hb d_T_takeOut_26 rfl (lv_at hl 2 rfl) ?_
          refine lv_aload_n hx hb d_T_takeOut_27 rfl (lv_at hl 0 rfl) ?_
          refine va_get (D := (dC, dI)) (ci := 0) (v := .ref a4) (C := R_T) (T := F_T) (N := 5) hx hb hT i_T hown hK hP 0 rfl rfl 3 (by decide) (hT _ kw_92) (fun _ h9 => h9) rfl d_T_takeOut_28 ?_
          refine lv_iload_n hx hb d_T_takeOut_31 rfl (lv_at hl 3 rfl) ?_
          refine va_iald hx hb hK hP 4 0 rfl rfl (ti_vp (by omega) (by omega)) d_T_takeOut_32 ?_
          refine va_iast hx hb hK hP hD hS 4 0 rfl rfl (ti_vp (by omega) (by omega)) d_T_takeOut_33 (fun H locs hP hD hS => ?_)
          have hP : va_P (dC, dI) classes (wT cI cZ h0 a1 a2 a3 a4 (T.1, T.2.1, T.2.2.1, upd f x2.toNatClampNeg (f x3.toNatClampNeg), T.2.2.2.2)) H := vz_reP (hW_T_takeOut_33 cI cZ cQ h0 a1 a2 a3 a4 (T.1, T.2.1, T.2.2.1, f, T.2.2.2.2) (upd f x2.toNatClampNeg (f x3.toNatClampNeg))) hP
          have hD : va_D (vz_A (wT cI cZ h0 a1 a2 a3 a4 T)) (wT cI cZ h0 a1 a2 a3 a4 (T.1, T.2.1, T.2.2.1, upd f x2.toNatClampNeg (f x3.toNatClampNeg), T.2.2.2.2)) := vz_reD (hW_T_takeOut_33 cI cZ cQ h0 a1 a2 a3 a4 (T.1, T.2.1, T.2.2.1, f, T.2.2.2.2) (upd f x2.toNatClampNeg (f x3.toNatClampNeg))) hD
          refine lv_iinc (v := x2 + 1) (lv' := [(2, .int (x2 + 1)), (0, .ref h0), (1, .int x1), (3, .int x3)]) hx hb d_T_takeOut_34 hl (k := 2) rfl rfl (by decide) rfl (fun ls hl => ?_)
          refine lv_iinc (v := x3 + 1) (lv' := [(3, .int (x3 + 1)), (2, .int (x2 + 1)), (0, .ref h0), (1, .int x1)]) hx hb d_T_takeOut_37 hl (k := 3) rfl rfl (by decide) rfl (fun ls hl => ?_)
          refine lv_goto (tgt := 4) hx hb d_T_takeOut_40 (by decide) ?_
          rw [l_T_takeOut_4, if_neg c_9, if_neg c_19] at hres
          exact ih (x2 + 1) (x3 + 1) (upd f x2.toNatClampNeg (f x3.toNatClampNeg))  hres (by first | (rw [ti_inc (x := x3) (by omega)]; omega) | (rw [ti_inc (x := x3) (by omega), ti_inc (x := x2) (by omega)]; omega)) H locs ls hP hD hS (lv_sub hl [2, 3, 1, 0] rfl)
  have hS0 := hS
  refine lv_iconst (v := 0) hx hb d_T_takeOut_0 (by decide) ?_
  refine lv_istore_n (lv' := [(2, .int 0), (0, .ref h0), (1, .int x1)]) hx hb d_T_takeOut_1 rfl hl (by decide) rfl (fun ls hl => ?_)
  refine lv_iconst (v := 0) hx hb d_T_takeOut_2 (by decide) ?_
  refine lv_istore_n (lv' := [(3, .int 0), (2, .int 0), (0, .ref h0), (1, .int x1)]) hx hb d_T_takeOut_3 rfl hl (by decide) rfl (fun ls hl => ?_)
  rw [m_T_takeOut] at hres
  exact k_4 41 0 0 T.2.2.2.1  hres (by omega) _ _ ls hP hD hS (lv_sub hl [2, 3, 1, 0] rfl)

theorem hW_T_putAt_40 (cI cZ cQ : ClassId) (q0 q1 q2 q3 q4 : Nat) (S0 : cT) (v : cA) : (wT cI cZ q0 q1 q2 q3 q4 S0 : va_W).set 4 (q4, .inl (cI, 40, .inl v)) = wT cI cZ q0 q1 q2 q3 q4 (S0.1, S0.2.1, S0.2.2.1, v, S0.2.2.2.2) := rfl
theorem hW_T_putAt_47 (cI cZ cQ : ClassId) (q0 q1 q2 q3 q4 : Nat) (S0 : cT) (v : cA) : (wT cI cZ q0 q1 q2 q3 q4 S0 : va_W).set 2 (q2, .inl (cI, 40, .inl v)) = wT cI cZ q0 q1 q2 q3 q4 (S0.1, v, S0.2.2.1, S0.2.2.2.1, S0.2.2.2.2) := rfl
theorem hW_T_putAt_55 (cI cZ cQ : ClassId) (q0 q1 q2 q3 q4 : Nat) (S0 : cT) (v : Int32) : (wT cI cZ q0 q1 q2 q3 q4 S0 : va_W).set 0 (q0, .inr (0, [.ref q1, .ref q2, .ref q3, .ref q4, .int S0.2.2.2.2].set 4 (.int v))) = wT cI cZ q0 q1 q2 q3 q4 (S0.1, S0.2.1, S0.2.2.1, S0.2.2.2.1, v) := rfl
theorem hW_T_putAt_27 (cI cZ cQ : ClassId) (q0 q1 q2 q3 q4 : Nat) (S0 : cT) (v : cA) : (wT cI cZ q0 q1 q2 q3 q4 S0 : va_W).set 4 (q4, .inl (cI, 40, .inl v)) = wT cI cZ q0 q1 q2 q3 q4 (S0.1, S0.2.1, S0.2.2.1, v, S0.2.2.2.2) := rfl
def l_T_putAt_6 (T : cT) (x1 : Int32) (x2 : Int32) (x3 : Int32) : Nat → Int32 → cA → cT
  | 0, _, _ => T
  | n + 1, x4, f => (if x4 ≤ x1 then (T.1, upd T.2.1 x2.toNatClampNeg x3, T.2.2.1, upd f x1.toNatClampNeg x2, T.2.2.2.2 + 1) else (l_T_putAt_6 T x1 x2 x3 n (x4 + (-1)) (upd f x4.toNatClampNeg (f (x4 - 1).toNatClampNeg))))
def m_T_putAt (T : cT) (x1 : Int32) (x2 : Int32) (x3 : Int32) : cT := (l_T_putAt_6 T x1 x2 x3 41 T.2.2.2.2 T.2.2.2.1)
set_option maxHeartbeats 1000000 in
set_option maxRecDepth 100000 in
theorem c_T_putAt (l : Launch) (dC : Nat → ClassId) (dI : Nat → Nat → Nat) (cI cZ cQ : ClassId) (h0 : Nat) (a1 : Nat) (a2 : Nat) (a3 : Nat) (a4 : Nat) (T : cT) (x1 : Int32) (x2 : Int32) (x3 : Int32) (hsz : 0 ≤ T.2.2.2.2.toInt ∧ T.2.2.2.2.toInt < 40) (h1 : 0 ≤ x1.toInt ∧ x1.toInt ≤ T.2.2.2.2.toInt) (h2 : 0 ≤ x2.toInt ∧ x2.toInt < 40) : vz_C l (dC, dI) classes [(cI, .int), (cZ, .boolean), (cQ, .object "BinTrees$Person")] y_T_putAt (Cond.code y_T_putAt b_T_putAt 5 none :: vz_tbl) ({ frames := 0, cells := 0, slots := 0, locals := 0 }) [.ref h0, .int x1, .int x2, .int x3] (wT cI cZ h0 a1 a2 a3 a4 T) (none) (wT cI cZ h0 a1 a2 a3 a4 (m_T_putAt T x1 x2 x3)) := by
  generalize hres : (m_T_putAt T x1 x2 x3) = RES
  refine vz_C.of (by decide) (Nat.le_of_ble_eq_true rfl) ?_
  intro p e s m below meth c ls E hl hK hP hD hS
  obtain ⟨hx, hb, hr, hml, hown, hT, hlocks⟩ := E
  obtain ⟨Q, hQ⟩ : ∃ Q, Q = MQ below (vz_Q (dC, dI) classes (wT cI cZ h0 a1 a2 a3 a4 T) (none) (wT cI cZ h0 a1 a2 a3 a4 RES)) ([.ref h0, .int x1, .int x2, .int x3] : List Value).toArray s 0 0 (vz_A (wT cI cZ h0 a1 a2 a3 a4 T)) := ⟨_, rfl⟩
  rw [← hQ]
  have hl : lv_has ls 5 [(0, .ref h0), (1, .int x1), (2, .int x2), (3, .int x3)] := hl
  have T0 := ti_0
  have T1 := ti_1
  have Tm := ti_m1
  have T8 := ti_8
  have T39 := ti_39
  have T40 := ti_40
  have T4 := ti_4
  have T300 := ti_300
  have k_6 : ∀ (n : Nat) (x4 : Int32) (f : cA), l_T_putAt_6 T x1 x2 x3 n x4 f = RES → (x1.toInt ≤ x4.toInt ∧ x4.toInt ≤ T.2.2.2.2.toInt ∧ x4.toInt < n + x1.toInt) → ∀ (H : Heap) (locs : List Loc) (ls : Array Slot), va_P (dC, dI) classes (wT cI cZ h0 a1 a2 a3 a4 (T.1, T.2.1, T.2.2.1, f, T.2.2.2.2)) H → va_D (vz_A (wT cI cZ h0 a1 a2 a3 a4 T)) (wT cI cZ h0 a1 a2 a3 a4 (T.1, T.2.1, T.2.2.1, f, T.2.2.2.2)) → va_S (vz_A (wT cI cZ h0 a1 a2 a3 a4 T)) s.heap H locs → lv_has ls 5 [(0, .ref h0), (1, .int x1), (2, .int x2), (3, .int x3), (4, .int x4)] → W p l e ({ frames := 0, cells := 0, slots := 0, locals := 0 }) s m ([.ref h0, .int x1, .int x2, .int x3] : List Value).toArray below meth c H locs 0 0 Q (F0 m 6 ls []) := by
    intro n
    induction n with
    | zero =>
      intro x4 f hres i4 H locs ls hP hD hS hl
      exfalso
      omega
    | succ n ih =>
      intro x4 f hres i4 H locs ls hP hD hS hl
      refine lv_iload hx hb d_T_putAt_6 (lv_at hl 4 rfl) ?_
      refine lv_iload_n hx hb d_T_putAt_8 rfl (lv_at hl 1 rfl) ?_
      refine lv_icmp_le (tgt := 34) hx hb d_T_putAt_9 (by decide) (fun c_9 => ?_) (fun c_9 => ?_)
      · have z_9 : x4.toInt ≤ x1.toInt := Int32.le_iff_toInt_le.mp c_9
        refine lv_aload_n hx hb d_T_putAt_34 rfl (lv_at hl 0 rfl) ?_
        refine va_get (D := (dC, dI)) (ci := 0) (v := .ref a4) (C := R_T) (T := F_T) (N := 5) hx hb hT i_T hown hK hP 0 rfl rfl 3 (by decide) (hT _ kw_92) (fun _ h9 => h9) rfl d_T_putAt_35 ?_
        refine lv_iload_n hx hb d_T_putAt_38 rfl (lv_at hl 1 rfl) ?_
        refine lv_iload_n hx hb d_T_putAt_39 rfl (lv_at hl 2 rfl) ?_
        refine va_iast hx hb hK hP hD hS 4 0 rfl rfl (ti_vp (by omega) (by omega)) d_T_putAt_40 (fun H locs hP hD hS => ?_)
        have hP : va_P (dC, dI) classes (wT cI cZ h0 a1 a2 a3 a4 (T.1, T.2.1, T.2.2.1, upd f x1.toNatClampNeg x2, T.2.2.2.2)) H := vz_reP (hW_T_putAt_40 cI cZ cQ h0 a1 a2 a3 a4 (T.1, T.2.1, T.2.2.1, f, T.2.2.2.2) (upd f x1.toNatClampNeg x2)) hP
        have hD : va_D (vz_A (wT cI cZ h0 a1 a2 a3 a4 T)) (wT cI cZ h0 a1 a2 a3 a4 (T.1, T.2.1, T.2.2.1, upd f x1.toNatClampNeg x2, T.2.2.2.2)) := vz_reD (hW_T_putAt_40 cI cZ cQ h0 a1 a2 a3 a4 (T.1, T.2.1, T.2.2.1, f, T.2.2.2.2) (upd f x1.toNatClampNeg x2)) hD
        refine lv_aload_n hx hb d_T_putAt_41 rfl (lv_at hl 0 rfl) ?_
        refine va_get (D := (dC, dI)) (ci := 0) (v := .ref a2) (C := R_T) (T := F_T) (N := 5) hx hb hT i_T hown hK hP 0 rfl rfl 1 (by decide) (hT _ kw_88) (fun _ h9 => h9) rfl d_T_putAt_42 ?_
        refine lv_iload_n hx hb d_T_putAt_45 rfl (lv_at hl 2 rfl) ?_
        refine lv_iload_n hx hb d_T_putAt_46 rfl (lv_at hl 3 rfl) ?_
        refine va_iast hx hb hK hP hD hS 2 0 rfl rfl (ti_vp (by omega) (by omega)) d_T_putAt_47 (fun H locs hP hD hS => ?_)
        have hP : va_P (dC, dI) classes (wT cI cZ h0 a1 a2 a3 a4 (T.1, upd T.2.1 x2.toNatClampNeg x3, T.2.2.1, upd f x1.toNatClampNeg x2, T.2.2.2.2)) H := vz_reP (hW_T_putAt_47 cI cZ cQ h0 a1 a2 a3 a4 (T.1, T.2.1, T.2.2.1, upd f x1.toNatClampNeg x2, T.2.2.2.2) (upd T.2.1 x2.toNatClampNeg x3)) hP
        have hD : va_D (vz_A (wT cI cZ h0 a1 a2 a3 a4 T)) (wT cI cZ h0 a1 a2 a3 a4 (T.1, upd T.2.1 x2.toNatClampNeg x3, T.2.2.1, upd f x1.toNatClampNeg x2, T.2.2.2.2)) := vz_reD (hW_T_putAt_47 cI cZ cQ h0 a1 a2 a3 a4 (T.1, T.2.1, T.2.2.1, upd f x1.toNatClampNeg x2, T.2.2.2.2) (upd T.2.1 x2.toNatClampNeg x3)) hD
        refine lv_aload_n hx hb d_T_putAt_48 rfl (lv_at hl 0 rfl) ?_
        refine lv_dup hx hb d_T_putAt_49 rfl ?_
        refine va_get (D := (dC, dI)) (ci := 0) (v := .int T.2.2.2.2) (C := R_T) (T := F_T) (N := 5) hx hb hT i_T hown hK hP 0 rfl rfl 4 (by decide) (hT _ kw_93) (fun _ h9 => h9) rfl d_T_putAt_50 ?_
        refine lv_iconst (v := 1) hx hb d_T_putAt_53 (by decide) ?_
        refine lv_iadd hx hb d_T_putAt_54 ?_
        refine va_put (D := (dC, dI)) (ci := 0) (v := .int (T.2.2.2.2 + 1)) (ty := .int) (C := R_T) (T := F_T) (N := 5) hx hb hT i_T tt_T tt_T_ok n_T hown hK hP hD hS 0 rfl rfl 4 (by decide) (hT _ kw_93) (fun _ h9 => h9) rfl (by decide +kernel) rfl rfl (Nat.le_of_ble_eq_true rfl) d_T_putAt_55 (fun H locs hP hD hS => ?_)
        have hP : va_P (dC, dI) classes (wT cI cZ h0 a1 a2 a3 a4 (T.1, upd T.2.1 x2.toNatClampNeg x3, T.2.2.1, upd f x1.toNatClampNeg x2, T.2.2.2.2 + 1)) H := vz_reP (hW_T_putAt_55 cI cZ cQ h0 a1 a2 a3 a4 (T.1, upd T.2.1 x2.toNatClampNeg x3, T.2.2.1, upd f x1.toNatClampNeg x2, T.2.2.2.2) (T.2.2.2.2 + 1)) hP
        have hD : va_D (vz_A (wT cI cZ h0 a1 a2 a3 a4 T)) (wT cI cZ h0 a1 a2 a3 a4 (T.1, upd T.2.1 x2.toNatClampNeg x3, T.2.2.1, upd f x1.toNatClampNeg x2, T.2.2.2.2 + 1)) := vz_reD (hW_T_putAt_55 cI cZ cQ h0 a1 a2 a3 a4 (T.1, upd T.2.1 x2.toNatClampNeg x3, T.2.2.1, upd f x1.toNatClampNeg x2, T.2.2.2.2) (T.2.2.2.2 + 1)) hD
        rw [l_T_putAt_6, if_pos c_9] at hres
        subst hres
        subst hQ
        exact vz_vret hx hb hr hlocks d_T_putAt_58 hS rfl hP
      · have z_9 : ¬ x4.toInt ≤ x1.toInt := mt Int32.le_iff_toInt_le.mpr c_9
        refine lv_aload_n hx hb d_T_putAt_12 rfl (lv_at hl 0 rfl) ?_
        refine va_get (D := (dC, dI)) (ci := 0) (v := .ref a4) (C := R_T) (T := F_T) (N := 5) hx hb hT i_T hown hK hP 0 rfl rfl 3 (by decide) (hT _ kw_92) (fun _ h9 => h9) rfl d_T_putAt_13 ?_
        refine lv_iload hx hb d_T_putAt_16 (lv_at hl 4 rfl) ?_
        refine lv_aload_n hx hb d_T_putAt_18 rfl (lv_at hl 0 rfl) ?_
        refine va_get (D := (dC, dI)) (ci := 0) (v := .ref a4) (C := R_T) (T := F_T) (N := 5) hx hb hT i_T hown hK hP 0 rfl rfl 3 (by decide) (hT _ kw_92) (fun _ h9 => h9) rfl d_T_putAt_19 ?_
        refine lv_iload hx hb d_T_putAt_22 (lv_at hl 4 rfl) ?_
        refine lv_iconst (v := 1) hx hb d_T_putAt_24 (by decide) ?_
        refine lv_isub hx hb d_T_putAt_25 ?_
        refine va_iald hx hb hK hP 4 0 rfl rfl (ti_vp (by rw [ti_dec' (by omega)]; omega) (by rw [ti_dec' (by omega)]; omega)) d_T_putAt_26 ?_
        refine va_iast hx hb hK hP hD hS 4 0 rfl rfl (ti_vp (by omega) (by omega)) d_T_putAt_27 (fun H locs hP hD hS => ?_)
        have hP : va_P (dC, dI) classes (wT cI cZ h0 a1 a2 a3 a4 (T.1, T.2.1, T.2.2.1, upd f x4.toNatClampNeg (f (x4 - 1).toNatClampNeg), T.2.2.2.2)) H := vz_reP (hW_T_putAt_27 cI cZ cQ h0 a1 a2 a3 a4 (T.1, T.2.1, T.2.2.1, f, T.2.2.2.2) (upd f x4.toNatClampNeg (f (x4 - 1).toNatClampNeg))) hP
        have hD : va_D (vz_A (wT cI cZ h0 a1 a2 a3 a4 T)) (wT cI cZ h0 a1 a2 a3 a4 (T.1, T.2.1, T.2.2.1, upd f x4.toNatClampNeg (f (x4 - 1).toNatClampNeg), T.2.2.2.2)) := vz_reD (hW_T_putAt_27 cI cZ cQ h0 a1 a2 a3 a4 (T.1, T.2.1, T.2.2.1, f, T.2.2.2.2) (upd f x4.toNatClampNeg (f (x4 - 1).toNatClampNeg))) hD
        refine lv_iinc (v := x4 + (-1)) (lv' := [(4, .int (x4 + (-1))), (0, .ref h0), (1, .int x1), (2, .int x2), (3, .int x3)]) hx hb d_T_putAt_28 hl (k := 4) rfl rfl (by decide) rfl (fun ls hl => ?_)
        refine lv_goto (tgt := 6) hx hb d_T_putAt_31 (by decide) ?_
        rw [l_T_putAt_6, if_neg c_9] at hres
        exact ih (x4 + (-1)) (upd f x4.toNatClampNeg (f (x4 - 1).toNatClampNeg))  hres (by rw [ti_dec (by omega)]; omega) H locs ls hP hD hS (lv_sub hl [1, 2, 3, 4, 0] rfl)
  have hS0 := hS
  refine lv_aload_n hx hb d_T_putAt_0 rfl (lv_at hl 0 rfl) ?_
  refine va_get (D := (dC, dI)) (ci := 0) (v := .int T.2.2.2.2) (C := R_T) (T := F_T) (N := 5) hx hb hT i_T hown hK hP 0 rfl rfl 4 (by decide) (hT _ kw_93) (fun _ h9 => h9) rfl d_T_putAt_1 ?_
  refine lv_istore (lv' := [(4, .int T.2.2.2.2), (0, .ref h0), (1, .int x1), (2, .int x2), (3, .int x3)]) hx hb d_T_putAt_4 hl (by decide) rfl (fun ls hl => ?_)
  rw [m_T_putAt] at hres
  exact k_6 41 T.2.2.2.2 T.2.2.2.1  hres (by omega) _ _ ls hP hD hS (lv_sub hl [1, 2, 3, 4, 0] rfl)

def l_T_spotBehind_2 (T : cT) (x1 : Int32) (x2 : Int32) : Nat → Int32 → Int32
  | 0, _ => 0
  | n + 1, x3 => (if T.2.2.2.2 ≤ x3 then 0 else (if (T.2.2.2.1 x3.toNatClampNeg) = x1 then (if (T.2.1 x1.toNatClampNeg) = x2 then x3 + 1 else (l_T_spotBehind_2 T x1 x2 n (x3 + 1))) else (l_T_spotBehind_2 T x1 x2 n (x3 + 1))))
def m_T_spotBehind (T : cT) (x1 : Int32) (x2 : Int32) : Int32 := (l_T_spotBehind_2 T x1 x2 41 0)
set_option maxHeartbeats 1000000 in
set_option maxRecDepth 100000 in
theorem c_T_spotBehind (l : Launch) (dC : Nat → ClassId) (dI : Nat → Nat → Nat) (cI cZ cQ : ClassId) (h0 : Nat) (a1 : Nat) (a2 : Nat) (a3 : Nat) (a4 : Nat) (T : cT) (x1 : Int32) (x2 : Int32) (hsz : 0 ≤ T.2.2.2.2.toInt ∧ T.2.2.2.2.toInt ≤ 40) (hline : ∀ j, j < 40 → 0 ≤ (T.2.2.2.1 j).toInt ∧ (T.2.2.2.1 j).toInt < 40) : vz_C l (dC, dI) classes [(cI, .int), (cZ, .boolean), (cQ, .object "BinTrees$Person")] y_T_spotBehind (Cond.code y_T_spotBehind b_T_spotBehind 4 (some .int) :: vz_tbl) ({ frames := 0, cells := 0, slots := 0, locals := 0 }) [.ref h0, .int x1, .int x2] (wT cI cZ h0 a1 a2 a3 a4 T) (some (.int (m_T_spotBehind T x1 x2))) (wT cI cZ h0 a1 a2 a3 a4 T) := by
  generalize hres : (m_T_spotBehind T x1 x2) = RES
  refine vz_C.of (by decide) (Nat.le_of_ble_eq_true rfl) ?_
  intro p e s m below meth c ls E hl hK hP hD hS
  obtain ⟨hx, hb, hr, hml, hown, hT, hlocks⟩ := E
  obtain ⟨Q, hQ⟩ : ∃ Q, Q = MQ below (vz_Q (dC, dI) classes (wT cI cZ h0 a1 a2 a3 a4 T) (some (.int RES)) (wT cI cZ h0 a1 a2 a3 a4 T)) ([.ref h0, .int x1, .int x2] : List Value).toArray s 0 0 (vz_A (wT cI cZ h0 a1 a2 a3 a4 T)) := ⟨_, rfl⟩
  rw [← hQ]
  have hl : lv_has ls 4 [(0, .ref h0), (1, .int x1), (2, .int x2)] := hl
  have T0 := ti_0
  have T1 := ti_1
  have Tm := ti_m1
  have T8 := ti_8
  have T39 := ti_39
  have T40 := ti_40
  have T4 := ti_4
  have T300 := ti_300
  have k_2 : ∀ (n : Nat) (x3 : Int32), l_T_spotBehind_2 T x1 x2 n x3 = RES → (0 ≤ x3.toInt ∧ x3.toInt ≤ T.2.2.2.2.toInt ∧ T.2.2.2.2.toInt < n + x3.toInt) → ∀ (H : Heap) (locs : List Loc) (ls : Array Slot), va_P (dC, dI) classes (wT cI cZ h0 a1 a2 a3 a4 T) H → va_D (vz_A (wT cI cZ h0 a1 a2 a3 a4 T)) (wT cI cZ h0 a1 a2 a3 a4 T) → va_S (vz_A (wT cI cZ h0 a1 a2 a3 a4 T)) s.heap H locs → lv_has ls 4 [(0, .ref h0), (1, .int x1), (2, .int x2), (3, .int x3)] → W p l e ({ frames := 0, cells := 0, slots := 0, locals := 0 }) s m ([.ref h0, .int x1, .int x2] : List Value).toArray below meth c H locs 0 0 Q (F0 m 2 ls []) := by
    intro n
    induction n with
    | zero =>
      intro x3 hres i3 H locs ls hP hD hS hl
      exfalso
      omega
    | succ n ih =>
      intro x3 hres i3 H locs ls hP hD hS hl
      refine lv_iload_n hx hb d_T_spotBehind_2 rfl (lv_at hl 3 rfl) ?_
      refine lv_aload_n hx hb d_T_spotBehind_3 rfl (lv_at hl 0 rfl) ?_
      refine va_get (D := (dC, dI)) (ci := 0) (v := .int T.2.2.2.2) (C := R_T) (T := F_T) (N := 5) hx hb hT i_T hown hK hP 0 rfl rfl 4 (by decide) (hT _ kw_93) (fun _ h9 => h9) rfl d_T_spotBehind_4 ?_
      refine lv_icmp_ge (tgt := 40) hx hb d_T_spotBehind_7 (by decide) (fun c_7 => ?_) (fun c_7 => ?_)
      · have z_7 : T.2.2.2.2.toInt ≤ x3.toInt := Int32.le_iff_toInt_le.mp c_7
        refine lv_iconst (v := 0) hx hb d_T_spotBehind_40 (by decide) ?_
        rw [l_T_spotBehind_2, if_pos c_7] at hres
        subst hres
        subst hQ
        exact vz_iret hx hb hr hlocks d_T_spotBehind_41 hS rfl hP
      · have z_7 : ¬ T.2.2.2.2.toInt ≤ x3.toInt := mt Int32.le_iff_toInt_le.mpr c_7
        refine lv_aload_n hx hb d_T_spotBehind_10 rfl (lv_at hl 0 rfl) ?_
        refine va_get (D := (dC, dI)) (ci := 0) (v := .ref a4) (C := R_T) (T := F_T) (N := 5) hx hb hT i_T hown hK hP 0 rfl rfl 3 (by decide) (hT _ kw_92) (fun _ h9 => h9) rfl d_T_spotBehind_11 ?_
        refine lv_iload_n hx hb d_T_spotBehind_14 rfl (lv_at hl 3 rfl) ?_
        refine va_iald hx hb hK hP 4 0 rfl rfl (ti_vp (by omega) (by omega)) d_T_spotBehind_15 ?_
        refine lv_iload_n hx hb d_T_spotBehind_16 rfl (lv_at hl 1 rfl) ?_
        refine lv_icmp_ne (tgt := 34) hx hb d_T_spotBehind_17 (by decide) (fun c_17 => ?_) (fun c_17 => ?_)
        · have z_17 : ¬ (T.2.2.2.1 x3.toNatClampNeg).toInt = x1.toInt := mt Int32.toInt_inj.mp c_17
          refine lv_iinc (v := x3 + 1) (lv' := [(3, .int (x3 + 1)), (0, .ref h0), (1, .int x1), (2, .int x2)]) hx hb d_T_spotBehind_34 hl (k := 3) rfl rfl (by decide) rfl (fun ls hl => ?_)
          refine lv_goto (tgt := 2) hx hb d_T_spotBehind_37 (by decide) ?_
          rw [l_T_spotBehind_2, if_neg c_7, if_neg c_17] at hres
          exact ih (x3 + 1)  hres (by rw [ti_inc (x := x3) (by omega)]; omega) H locs ls hP hD hS (lv_sub hl [1, 2, 3, 0] rfl)
        · have z_17 : (T.2.2.2.1 x3.toNatClampNeg).toInt = x1.toInt := congrArg Int32.toInt c_17
          refine lv_aload_n hx hb d_T_spotBehind_20 rfl (lv_at hl 0 rfl) ?_
          refine va_get (D := (dC, dI)) (ci := 0) (v := .ref a2) (C := R_T) (T := F_T) (N := 5) hx hb hT i_T hown hK hP 0 rfl rfl 1 (by decide) (hT _ kw_88) (fun _ h9 => h9) rfl d_T_spotBehind_21 ?_
          refine lv_iload_n hx hb d_T_spotBehind_24 rfl (lv_at hl 1 rfl) ?_
          refine va_iald hx hb hK hP 2 0 rfl rfl (by have hz := hline _ (ti_ix (x := x3) (n := 40) (by omega) (by omega)); rw [c_17] at hz; exact ti_vp (by omega) (by omega)) d_T_spotBehind_25 ?_
          refine lv_iload_n hx hb d_T_spotBehind_26 rfl (lv_at hl 2 rfl) ?_
          refine lv_icmp_ne (tgt := 34) hx hb d_T_spotBehind_27 (by decide) (fun c_27 => ?_) (fun c_27 => ?_)
          · have z_27 : ¬ (T.2.1 x1.toNatClampNeg).toInt = x2.toInt := mt Int32.toInt_inj.mp c_27
            refine lv_iinc (v := x3 + 1) (lv' := [(3, .int (x3 + 1)), (0, .ref h0), (1, .int x1), (2, .int x2)]) hx hb d_T_spotBehind_34 hl (k := 3) rfl rfl (by decide) rfl (fun ls hl => ?_)
            refine lv_goto (tgt := 2) hx hb d_T_spotBehind_37 (by decide) ?_
            rw [l_T_spotBehind_2, if_neg c_7, if_pos c_17, if_neg c_27] at hres
            exact ih (x3 + 1)  hres (by rw [ti_inc (x := x3) (by omega)]; omega) H locs ls hP hD hS (lv_sub hl [1, 2, 3, 0] rfl)
          · have z_27 : (T.2.1 x1.toNatClampNeg).toInt = x2.toInt := congrArg Int32.toInt c_27
            refine lv_iload_n hx hb d_T_spotBehind_30 rfl (lv_at hl 3 rfl) ?_
            refine lv_iconst (v := 1) hx hb d_T_spotBehind_31 (by decide) ?_
            refine lv_iadd hx hb d_T_spotBehind_32 ?_
            rw [l_T_spotBehind_2, if_neg c_7, if_pos c_17, if_pos c_27] at hres
            subst hres
            subst hQ
            exact vz_iret hx hb hr hlocks d_T_spotBehind_33 hS rfl hP
  have hS0 := hS
  refine lv_iconst (v := 0) hx hb d_T_spotBehind_0 (by decide) ?_
  refine lv_istore_n (lv' := [(3, .int 0), (0, .ref h0), (1, .int x1), (2, .int x2)]) hx hb d_T_spotBehind_1 rfl hl (by decide) rfl (fun ls hl => ?_)
  rw [m_T_spotBehind] at hres
  exact k_2 41 0  hres (by omega) _ _ ls hP hD hS (lv_sub hl [1, 2, 3, 0] rfl)

def l_T_childCount_4 (T : cT) (x1 : Int32) : Nat → Int32 → Int32 → Int32
  | 0, _, _ => 0
  | n + 1, x2, x3 => (if T.2.2.2.2 ≤ x3 then x2 else (if (T.2.1 (T.2.2.2.1 x3.toNatClampNeg).toNatClampNeg) = x1 then (l_T_childCount_4 T x1 n (x2 + 1) (x3 + 1)) else (l_T_childCount_4 T x1 n x2 (x3 + 1))))
def m_T_childCount (T : cT) (x1 : Int32) : Int32 := (l_T_childCount_4 T x1 41 0 0)
set_option maxHeartbeats 1000000 in
set_option maxRecDepth 100000 in
theorem c_T_childCount (l : Launch) (dC : Nat → ClassId) (dI : Nat → Nat → Nat) (cI cZ cQ : ClassId) (h0 : Nat) (a1 : Nat) (a2 : Nat) (a3 : Nat) (a4 : Nat) (T : cT) (x1 : Int32) (hsz : 0 ≤ T.2.2.2.2.toInt ∧ T.2.2.2.2.toInt ≤ 40) (hline : ∀ j, j < 40 → 0 ≤ (T.2.2.2.1 j).toInt ∧ (T.2.2.2.1 j).toInt < 40) : vz_C l (dC, dI) classes [(cI, .int), (cZ, .boolean), (cQ, .object "BinTrees$Person")] y_T_childCount (Cond.code y_T_childCount b_T_childCount 4 (some .int) :: vz_tbl) ({ frames := 0, cells := 0, slots := 0, locals := 0 }) [.ref h0, .int x1] (wT cI cZ h0 a1 a2 a3 a4 T) (some (.int (m_T_childCount T x1))) (wT cI cZ h0 a1 a2 a3 a4 T) := by
  generalize hres : (m_T_childCount T x1) = RES
  refine vz_C.of (by decide) (Nat.le_of_ble_eq_true rfl) ?_
  intro p e s m below meth c ls E hl hK hP hD hS
  obtain ⟨hx, hb, hr, hml, hown, hT, hlocks⟩ := E
  obtain ⟨Q, hQ⟩ : ∃ Q, Q = MQ below (vz_Q (dC, dI) classes (wT cI cZ h0 a1 a2 a3 a4 T) (some (.int RES)) (wT cI cZ h0 a1 a2 a3 a4 T)) ([.ref h0, .int x1] : List Value).toArray s 0 0 (vz_A (wT cI cZ h0 a1 a2 a3 a4 T)) := ⟨_, rfl⟩
  rw [← hQ]
  have hl : lv_has ls 4 [(0, .ref h0), (1, .int x1)] := hl
  have T0 := ti_0
  have T1 := ti_1
  have Tm := ti_m1
  have T8 := ti_8
  have T39 := ti_39
  have T40 := ti_40
  have T4 := ti_4
  have T300 := ti_300
  have k_4 : ∀ (n : Nat) (x2 : Int32) (x3 : Int32), l_T_childCount_4 T x1 n x2 x3 = RES → (0 ≤ x3.toInt ∧ x3.toInt ≤ T.2.2.2.2.toInt ∧ T.2.2.2.2.toInt < n + x3.toInt) → ∀ (H : Heap) (locs : List Loc) (ls : Array Slot), va_P (dC, dI) classes (wT cI cZ h0 a1 a2 a3 a4 T) H → va_D (vz_A (wT cI cZ h0 a1 a2 a3 a4 T)) (wT cI cZ h0 a1 a2 a3 a4 T) → va_S (vz_A (wT cI cZ h0 a1 a2 a3 a4 T)) s.heap H locs → lv_has ls 4 [(0, .ref h0), (1, .int x1), (2, .int x2), (3, .int x3)] → W p l e ({ frames := 0, cells := 0, slots := 0, locals := 0 }) s m ([.ref h0, .int x1] : List Value).toArray below meth c H locs 0 0 Q (F0 m 4 ls []) := by
    intro n
    induction n with
    | zero =>
      intro x2 x3 hres i3 H locs ls hP hD hS hl
      exfalso
      omega
    | succ n ih =>
      intro x2 x3 hres i3 H locs ls hP hD hS hl
      refine lv_iload_n hx hb d_T_childCount_4 rfl (lv_at hl 3 rfl) ?_
      refine lv_aload_n hx hb d_T_childCount_5 rfl (lv_at hl 0 rfl) ?_
      refine va_get (D := (dC, dI)) (ci := 0) (v := .int T.2.2.2.2) (C := R_T) (T := F_T) (N := 5) hx hb hT i_T hown hK hP 0 rfl rfl 4 (by decide) (hT _ kw_93) (fun _ h9 => h9) rfl d_T_childCount_6 ?_
      refine lv_icmp_ge (tgt := 36) hx hb d_T_childCount_9 (by decide) (fun c_9 => ?_) (fun c_9 => ?_)
      · have z_9 : T.2.2.2.2.toInt ≤ x3.toInt := Int32.le_iff_toInt_le.mp c_9
        refine lv_iload_n hx hb d_T_childCount_36 rfl (lv_at hl 2 rfl) ?_
        rw [l_T_childCount_4, if_pos c_9] at hres
        subst hres
        subst hQ
        exact vz_iret hx hb hr hlocks d_T_childCount_37 hS rfl hP
      · have z_9 : ¬ T.2.2.2.2.toInt ≤ x3.toInt := mt Int32.le_iff_toInt_le.mpr c_9
        refine lv_aload_n hx hb d_T_childCount_12 rfl (lv_at hl 0 rfl) ?_
        refine va_get (D := (dC, dI)) (ci := 0) (v := .ref a2) (C := R_T) (T := F_T) (N := 5) hx hb hT i_T hown hK hP 0 rfl rfl 1 (by decide) (hT _ kw_88) (fun _ h9 => h9) rfl d_T_childCount_13 ?_
        refine lv_aload_n hx hb d_T_childCount_16 rfl (lv_at hl 0 rfl) ?_
        refine va_get (D := (dC, dI)) (ci := 0) (v := .ref a4) (C := R_T) (T := F_T) (N := 5) hx hb hT i_T hown hK hP 0 rfl rfl 3 (by decide) (hT _ kw_92) (fun _ h9 => h9) rfl d_T_childCount_17 ?_
        refine lv_iload_n hx hb d_T_childCount_20 rfl (lv_at hl 3 rfl) ?_
        refine va_iald hx hb hK hP 4 0 rfl rfl (ti_vp (by omega) (by omega)) d_T_childCount_21 ?_
        refine va_iald hx hb hK hP 2 0 rfl rfl (by have hz := hline _ (ti_ix (x := x3) (n := 40) (by omega) (by omega)); exact ti_vp (by omega) (by omega)) d_T_childCount_22 ?_
        refine lv_iload_n hx hb d_T_childCount_23 rfl (lv_at hl 1 rfl) ?_
        refine lv_icmp_ne (tgt := 30) hx hb d_T_childCount_24 (by decide) (fun c_24 => ?_) (fun c_24 => ?_)
        · have z_24 : ¬ (T.2.1 (T.2.2.2.1 x3.toNatClampNeg).toNatClampNeg).toInt = x1.toInt := mt Int32.toInt_inj.mp c_24
          refine lv_iinc (v := x3 + 1) (lv' := [(3, .int (x3 + 1)), (0, .ref h0), (1, .int x1), (2, .int x2)]) hx hb d_T_childCount_30 hl (k := 3) rfl rfl (by decide) rfl (fun ls hl => ?_)
          refine lv_goto (tgt := 4) hx hb d_T_childCount_33 (by decide) ?_
          rw [l_T_childCount_4, if_neg c_9, if_neg c_24] at hres
          exact ih x2 (x3 + 1)  hres (by rw [ti_inc (x := x3) (by omega)]; omega) H locs ls hP hD hS (lv_sub hl [1, 2, 3, 0] rfl)
        · have z_24 : (T.2.1 (T.2.2.2.1 x3.toNatClampNeg).toNatClampNeg).toInt = x1.toInt := congrArg Int32.toInt c_24
          refine lv_iinc (v := x2 + 1) (lv' := [(2, .int (x2 + 1)), (0, .ref h0), (1, .int x1), (3, .int x3)]) hx hb d_T_childCount_27 hl (k := 2) rfl rfl (by decide) rfl (fun ls hl => ?_)
          refine lv_iinc (v := x3 + 1) (lv' := [(3, .int (x3 + 1)), (2, .int (x2 + 1)), (0, .ref h0), (1, .int x1)]) hx hb d_T_childCount_30 hl (k := 3) rfl rfl (by decide) rfl (fun ls hl => ?_)
          refine lv_goto (tgt := 4) hx hb d_T_childCount_33 (by decide) ?_
          rw [l_T_childCount_4, if_neg c_9, if_pos c_24] at hres
          exact ih (x2 + 1) (x3 + 1)  hres (by rw [ti_inc (x := x3) (by omega)]; omega) H locs ls hP hD hS (lv_sub hl [2, 3, 1, 0] rfl)
  have hS0 := hS
  refine lv_iconst (v := 0) hx hb d_T_childCount_0 (by decide) ?_
  refine lv_istore_n (lv' := [(2, .int 0), (0, .ref h0), (1, .int x1)]) hx hb d_T_childCount_1 rfl hl (by decide) rfl (fun ls hl => ?_)
  refine lv_iconst (v := 0) hx hb d_T_childCount_2 (by decide) ?_
  refine lv_istore_n (lv' := [(3, .int 0), (2, .int 0), (0, .ref h0), (1, .int x1)]) hx hb d_T_childCount_3 rfl hl (by decide) rfl (fun ls hl => ?_)
  rw [m_T_childCount] at hres
  exact k_4 41 0 0  hres (by omega) _ _ ls hP hD hS (lv_sub hl [2, 3, 1, 0] rfl)

def l_T_childAt_5 (T : cT) (x1 : Int32) (x2 : Int32) : Nat → Int32 → Int32 → Int32
  | 0, _, _ => 0
  | n + 1, x3, x4 => (if T.2.2.2.2 ≤ x4 then -1 else (if (T.2.1 (T.2.2.2.1 x4.toNatClampNeg).toNatClampNeg) = x1 then (if x3 = x2 then T.2.2.2.1 x4.toNatClampNeg else (l_T_childAt_5 T x1 x2 n (x3 + 1) (x4 + 1))) else (l_T_childAt_5 T x1 x2 n x3 (x4 + 1))))
def m_T_childAt (T : cT) (x1 : Int32) (x2 : Int32) : Int32 := (l_T_childAt_5 T x1 x2 41 0 0)
set_option maxHeartbeats 1000000 in
set_option maxRecDepth 100000 in
theorem c_T_childAt (l : Launch) (dC : Nat → ClassId) (dI : Nat → Nat → Nat) (cI cZ cQ : ClassId) (h0 : Nat) (a1 : Nat) (a2 : Nat) (a3 : Nat) (a4 : Nat) (T : cT) (x1 : Int32) (x2 : Int32) (hsz : 0 ≤ T.2.2.2.2.toInt ∧ T.2.2.2.2.toInt ≤ 40) (hline : ∀ j, j < 40 → 0 ≤ (T.2.2.2.1 j).toInt ∧ (T.2.2.2.1 j).toInt < 40) : vz_C l (dC, dI) classes [(cI, .int), (cZ, .boolean), (cQ, .object "BinTrees$Person")] y_T_childAt (Cond.code y_T_childAt b_T_childAt 5 (some .int) :: vz_tbl) ({ frames := 0, cells := 0, slots := 0, locals := 0 }) [.ref h0, .int x1, .int x2] (wT cI cZ h0 a1 a2 a3 a4 T) (some (.int (m_T_childAt T x1 x2))) (wT cI cZ h0 a1 a2 a3 a4 T) := by
  generalize hres : (m_T_childAt T x1 x2) = RES
  refine vz_C.of (by decide) (Nat.le_of_ble_eq_true rfl) ?_
  intro p e s m below meth c ls E hl hK hP hD hS
  obtain ⟨hx, hb, hr, hml, hown, hT, hlocks⟩ := E
  obtain ⟨Q, hQ⟩ : ∃ Q, Q = MQ below (vz_Q (dC, dI) classes (wT cI cZ h0 a1 a2 a3 a4 T) (some (.int RES)) (wT cI cZ h0 a1 a2 a3 a4 T)) ([.ref h0, .int x1, .int x2] : List Value).toArray s 0 0 (vz_A (wT cI cZ h0 a1 a2 a3 a4 T)) := ⟨_, rfl⟩
  rw [← hQ]
  have hl : lv_has ls 5 [(0, .ref h0), (1, .int x1), (2, .int x2)] := hl
  have T0 := ti_0
  have T1 := ti_1
  have Tm := ti_m1
  have T8 := ti_8
  have T39 := ti_39
  have T40 := ti_40
  have T4 := ti_4
  have T300 := ti_300
  have k_5 : ∀ (n : Nat) (x3 : Int32) (x4 : Int32), l_T_childAt_5 T x1 x2 n x3 x4 = RES → (0 ≤ x4.toInt ∧ x4.toInt ≤ T.2.2.2.2.toInt ∧ T.2.2.2.2.toInt < n + x4.toInt) → ∀ (H : Heap) (locs : List Loc) (ls : Array Slot), va_P (dC, dI) classes (wT cI cZ h0 a1 a2 a3 a4 T) H → va_D (vz_A (wT cI cZ h0 a1 a2 a3 a4 T)) (wT cI cZ h0 a1 a2 a3 a4 T) → va_S (vz_A (wT cI cZ h0 a1 a2 a3 a4 T)) s.heap H locs → lv_has ls 5 [(0, .ref h0), (1, .int x1), (2, .int x2), (3, .int x3), (4, .int x4)] → W p l e ({ frames := 0, cells := 0, slots := 0, locals := 0 }) s m ([.ref h0, .int x1, .int x2] : List Value).toArray below meth c H locs 0 0 Q (F0 m 5 ls []) := by
    intro n
    induction n with
    | zero =>
      intro x3 x4 hres i3 H locs ls hP hD hS hl
      exfalso
      omega
    | succ n ih =>
      intro x3 x4 hres i3 H locs ls hP hD hS hl
      refine lv_iload hx hb d_T_childAt_5 (lv_at hl 4 rfl) ?_
      refine lv_aload_n hx hb d_T_childAt_7 rfl (lv_at hl 0 rfl) ?_
      refine va_get (D := (dC, dI)) (ci := 0) (v := .int T.2.2.2.2) (C := R_T) (T := F_T) (N := 5) hx hb hT i_T hown hK hP 0 rfl rfl 4 (by decide) (hT _ kw_93) (fun _ h9 => h9) rfl d_T_childAt_8 ?_
      refine lv_icmp_ge (tgt := 52) hx hb d_T_childAt_11 (by decide) (fun c_11 => ?_) (fun c_11 => ?_)
      · have z_11 : T.2.2.2.2.toInt ≤ x4.toInt := Int32.le_iff_toInt_le.mp c_11
        refine lv_iconst (v := -1) hx hb d_T_childAt_52 (by decide) ?_
        rw [l_T_childAt_5, if_pos c_11] at hres
        subst hres
        subst hQ
        exact vz_iret hx hb hr hlocks d_T_childAt_53 hS rfl hP
      · have z_11 : ¬ T.2.2.2.2.toInt ≤ x4.toInt := mt Int32.le_iff_toInt_le.mpr c_11
        refine lv_aload_n hx hb d_T_childAt_14 rfl (lv_at hl 0 rfl) ?_
        refine va_get (D := (dC, dI)) (ci := 0) (v := .ref a2) (C := R_T) (T := F_T) (N := 5) hx hb hT i_T hown hK hP 0 rfl rfl 1 (by decide) (hT _ kw_88) (fun _ h9 => h9) rfl d_T_childAt_15 ?_
        refine lv_aload_n hx hb d_T_childAt_18 rfl (lv_at hl 0 rfl) ?_
        refine va_get (D := (dC, dI)) (ci := 0) (v := .ref a4) (C := R_T) (T := F_T) (N := 5) hx hb hT i_T hown hK hP 0 rfl rfl 3 (by decide) (hT _ kw_92) (fun _ h9 => h9) rfl d_T_childAt_19 ?_
        refine lv_iload hx hb d_T_childAt_22 (lv_at hl 4 rfl) ?_
        refine va_iald hx hb hK hP 4 0 rfl rfl (ti_vp (by omega) (by omega)) d_T_childAt_24 ?_
        refine va_iald hx hb hK hP 2 0 rfl rfl (by have hz := hline _ (ti_ix (x := x4) (n := 40) (by omega) (by omega)); exact ti_vp (by omega) (by omega)) d_T_childAt_25 ?_
        refine lv_iload_n hx hb d_T_childAt_26 rfl (lv_at hl 1 rfl) ?_
        refine lv_icmp_ne (tgt := 46) hx hb d_T_childAt_27 (by decide) (fun c_27 => ?_) (fun c_27 => ?_)
        · have z_27 : ¬ (T.2.1 (T.2.2.2.1 x4.toNatClampNeg).toNatClampNeg).toInt = x1.toInt := mt Int32.toInt_inj.mp c_27
          refine lv_iinc (v := x4 + 1) (lv' := [(4, .int (x4 + 1)), (0, .ref h0), (1, .int x1), (2, .int x2), (3, .int x3)]) hx hb d_T_childAt_46 hl (k := 4) rfl rfl (by decide) rfl (fun ls hl => ?_)
          refine lv_goto (tgt := 5) hx hb d_T_childAt_49 (by decide) ?_
          rw [l_T_childAt_5, if_neg c_11, if_neg c_27] at hres
          exact ih x3 (x4 + 1)  hres (by rw [ti_inc (x := x4) (by omega)]; omega) H locs ls hP hD hS (lv_sub hl [1, 2, 3, 4, 0] rfl)
        · have z_27 : (T.2.1 (T.2.2.2.1 x4.toNatClampNeg).toNatClampNeg).toInt = x1.toInt := congrArg Int32.toInt c_27
          refine lv_iload_n hx hb d_T_childAt_30 rfl (lv_at hl 3 rfl) ?_
          refine lv_iload_n hx hb d_T_childAt_31 rfl (lv_at hl 2 rfl) ?_
          refine lv_icmp_ne (tgt := 43) hx hb d_T_childAt_32 (by decide) (fun c_32 => ?_) (fun c_32 => ?_)
          · have z_32 : ¬ x3.toInt = x2.toInt := mt Int32.toInt_inj.mp c_32
            refine lv_iinc (v := x3 + 1) (lv' := [(3, .int (x3 + 1)), (0, .ref h0), (1, .int x1), (2, .int x2), (4, .int x4)]) hx hb d_T_childAt_43 hl (k := 3) rfl rfl (by decide) rfl (fun ls hl => ?_)
            refine lv_iinc (v := x4 + 1) (lv' := [(4, .int (x4 + 1)), (3, .int (x3 + 1)), (0, .ref h0), (1, .int x1), (2, .int x2)]) hx hb d_T_childAt_46 hl (k := 4) rfl rfl (by decide) rfl (fun ls hl => ?_)
            refine lv_goto (tgt := 5) hx hb d_T_childAt_49 (by decide) ?_
            rw [l_T_childAt_5, if_neg c_11, if_pos c_27, if_neg c_32] at hres
            exact ih (x3 + 1) (x4 + 1)  hres (by rw [ti_inc (x := x4) (by omega)]; omega) H locs ls hP hD hS (lv_sub hl [2, 3, 4, 1, 0] rfl)
          · have z_32 : x3.toInt = x2.toInt := congrArg Int32.toInt c_32
            refine lv_aload_n hx hb d_T_childAt_35 rfl (lv_at hl 0 rfl) ?_
            refine va_get (D := (dC, dI)) (ci := 0) (v := .ref a4) (C := R_T) (T := F_T) (N := 5) hx hb hT i_T hown hK hP 0 rfl rfl 3 (by decide) (hT _ kw_92) (fun _ h9 => h9) rfl d_T_childAt_36 ?_
            refine lv_iload hx hb d_T_childAt_39 (lv_at hl 4 rfl) ?_
            refine va_iald hx hb hK hP 4 0 rfl rfl (ti_vp (by omega) (by omega)) d_T_childAt_41 ?_
            rw [l_T_childAt_5, if_neg c_11, if_pos c_27, if_pos c_32] at hres
            subst hres
            subst hQ
            exact vz_iret hx hb hr hlocks d_T_childAt_42 hS rfl hP
  have hS0 := hS
  refine lv_iconst (v := 0) hx hb d_T_childAt_0 (by decide) ?_
  refine lv_istore_n (lv' := [(3, .int 0), (0, .ref h0), (1, .int x1), (2, .int x2)]) hx hb d_T_childAt_1 rfl hl (by decide) rfl (fun ls hl => ?_)
  refine lv_iconst (v := 0) hx hb d_T_childAt_2 (by decide) ?_
  refine lv_istore (lv' := [(4, .int 0), (3, .int 0), (0, .ref h0), (1, .int x1), (2, .int x2)]) hx hb d_T_childAt_3 hl (by decide) rfl (fun ls hl => ?_)
  rw [m_T_childAt] at hres
  exact k_5 41 0 0  hres (by omega) _ _ ls hP hD hS (lv_sub hl [2, 3, 4, 1, 0] rfl)

def l_T_placeOf_10 (T : cT) (x1 : Int32) : Nat → Int32 → Int32 → Int32
  | 0, _, _ => 0
  | n + 1, x2, x3 => (if T.2.2.2.2 ≤ x3 then x2 else (if (T.2.2.2.1 x3.toNatClampNeg) = x1 then x2 else (if (T.2.1 (T.2.2.2.1 x3.toNatClampNeg).toNatClampNeg) = (T.2.1 x1.toNatClampNeg) then (l_T_placeOf_10 T x1 n (x2 + 1) (x3 + 1)) else (l_T_placeOf_10 T x1 n x2 (x3 + 1)))))
def m_T_placeOf (T : cT) (x1 : Int32) : Int32 := (if x1 = 0 then 0 else (l_T_placeOf_10 T x1 41 0 0))
set_option maxHeartbeats 1000000 in
set_option maxRecDepth 100000 in
theorem c_T_placeOf (l : Launch) (dC : Nat → ClassId) (dI : Nat → Nat → Nat) (cI cZ cQ : ClassId) (h0 : Nat) (a1 : Nat) (a2 : Nat) (a3 : Nat) (a4 : Nat) (T : cT) (x1 : Int32) (hsz : 0 ≤ T.2.2.2.2.toInt ∧ T.2.2.2.2.toInt ≤ 40) (hline : ∀ j, j < 40 → 0 ≤ (T.2.2.2.1 j).toInt ∧ (T.2.2.2.1 j).toInt < 40) (h1 : 0 ≤ x1.toInt ∧ x1.toInt < 40) : vz_C l (dC, dI) classes [(cI, .int), (cZ, .boolean), (cQ, .object "BinTrees$Person")] y_T_placeOf (Cond.code y_T_placeOf b_T_placeOf 4 (some .int) :: vz_tbl) ({ frames := 0, cells := 0, slots := 0, locals := 0 }) [.ref h0, .int x1] (wT cI cZ h0 a1 a2 a3 a4 T) (some (.int (m_T_placeOf T x1))) (wT cI cZ h0 a1 a2 a3 a4 T) := by
  generalize hres : (m_T_placeOf T x1) = RES
  refine vz_C.of (by decide) (Nat.le_of_ble_eq_true rfl) ?_
  intro p e s m below meth c ls E hl hK hP hD hS
  obtain ⟨hx, hb, hr, hml, hown, hT, hlocks⟩ := E
  obtain ⟨Q, hQ⟩ : ∃ Q, Q = MQ below (vz_Q (dC, dI) classes (wT cI cZ h0 a1 a2 a3 a4 T) (some (.int RES)) (wT cI cZ h0 a1 a2 a3 a4 T)) ([.ref h0, .int x1] : List Value).toArray s 0 0 (vz_A (wT cI cZ h0 a1 a2 a3 a4 T)) := ⟨_, rfl⟩
  rw [← hQ]
  have hl : lv_has ls 4 [(0, .ref h0), (1, .int x1)] := hl
  have T0 := ti_0
  have T1 := ti_1
  have Tm := ti_m1
  have T8 := ti_8
  have T39 := ti_39
  have T40 := ti_40
  have T4 := ti_4
  have T300 := ti_300
  have k_10 : ∀ (n : Nat) (x2 : Int32) (x3 : Int32), l_T_placeOf_10 T x1 n x2 x3 = RES → (0 ≤ x3.toInt ∧ x3.toInt ≤ T.2.2.2.2.toInt ∧ T.2.2.2.2.toInt < n + x3.toInt) → ∀ (H : Heap) (locs : List Loc) (ls : Array Slot), va_P (dC, dI) classes (wT cI cZ h0 a1 a2 a3 a4 T) H → va_D (vz_A (wT cI cZ h0 a1 a2 a3 a4 T)) (wT cI cZ h0 a1 a2 a3 a4 T) → va_S (vz_A (wT cI cZ h0 a1 a2 a3 a4 T)) s.heap H locs → lv_has ls 4 [(0, .ref h0), (1, .int x1), (2, .int x2), (3, .int x3)] → W p l e ({ frames := 0, cells := 0, slots := 0, locals := 0 }) s m ([.ref h0, .int x1] : List Value).toArray below meth c H locs 0 0 Q (F0 m 10 ls []) := by
    intro n
    induction n with
    | zero =>
      intro x2 x3 hres i3 H locs ls hP hD hS hl
      exfalso
      omega
    | succ n ih =>
      intro x2 x3 hres i3 H locs ls hP hD hS hl
      refine lv_iload_n hx hb d_T_placeOf_10 rfl (lv_at hl 3 rfl) ?_
      refine lv_aload_n hx hb d_T_placeOf_11 rfl (lv_at hl 0 rfl) ?_
      refine va_get (D := (dC, dI)) (ci := 0) (v := .int T.2.2.2.2) (C := R_T) (T := F_T) (N := 5) hx hb hT i_T hown hK hP 0 rfl rfl 4 (by decide) (hT _ kw_93) (fun _ h9 => h9) rfl d_T_placeOf_12 ?_
      refine lv_icmp_ge (tgt := 57) hx hb d_T_placeOf_15 (by decide) (fun c_15 => ?_) (fun c_15 => ?_)
      · have z_15 : T.2.2.2.2.toInt ≤ x3.toInt := Int32.le_iff_toInt_le.mp c_15
        refine lv_iload_n hx hb d_T_placeOf_57 rfl (lv_at hl 2 rfl) ?_
        rw [l_T_placeOf_10, if_pos c_15] at hres
        subst hres
        subst hQ
        exact vz_iret hx hb hr hlocks d_T_placeOf_58 hS rfl hP
      · have z_15 : ¬ T.2.2.2.2.toInt ≤ x3.toInt := mt Int32.le_iff_toInt_le.mpr c_15
        refine lv_aload_n hx hb d_T_placeOf_18 rfl (lv_at hl 0 rfl) ?_
        refine va_get (D := (dC, dI)) (ci := 0) (v := .ref a4) (C := R_T) (T := F_T) (N := 5) hx hb hT i_T hown hK hP 0 rfl rfl 3 (by decide) (hT _ kw_92) (fun _ h9 => h9) rfl d_T_placeOf_19 ?_
        refine lv_iload_n hx hb d_T_placeOf_22 rfl (lv_at hl 3 rfl) ?_
        refine va_iald hx hb hK hP 4 0 rfl rfl (ti_vp (by omega) (by omega)) d_T_placeOf_23 ?_
        refine lv_iload_n hx hb d_T_placeOf_24 rfl (lv_at hl 1 rfl) ?_
        refine lv_icmp_eq (tgt := 57) hx hb d_T_placeOf_25 (by decide) (fun c_25 => ?_) (fun c_25 => ?_)
        · have z_25 : (T.2.2.2.1 x3.toNatClampNeg).toInt = x1.toInt := congrArg Int32.toInt c_25
          refine lv_iload_n hx hb d_T_placeOf_57 rfl (lv_at hl 2 rfl) ?_
          rw [l_T_placeOf_10, if_neg c_15, if_pos c_25] at hres
          subst hres
          subst hQ
          exact vz_iret hx hb hr hlocks d_T_placeOf_58 hS rfl hP
        · have z_25 : ¬ (T.2.2.2.1 x3.toNatClampNeg).toInt = x1.toInt := mt Int32.toInt_inj.mp c_25
          refine lv_aload_n hx hb d_T_placeOf_28 rfl (lv_at hl 0 rfl) ?_
          refine va_get (D := (dC, dI)) (ci := 0) (v := .ref a2) (C := R_T) (T := F_T) (N := 5) hx hb hT i_T hown hK hP 0 rfl rfl 1 (by decide) (hT _ kw_88) (fun _ h9 => h9) rfl d_T_placeOf_29 ?_
          refine lv_aload_n hx hb d_T_placeOf_32 rfl (lv_at hl 0 rfl) ?_
          refine va_get (D := (dC, dI)) (ci := 0) (v := .ref a4) (C := R_T) (T := F_T) (N := 5) hx hb hT i_T hown hK hP 0 rfl rfl 3 (by decide) (hT _ kw_92) (fun _ h9 => h9) rfl d_T_placeOf_33 ?_
          refine lv_iload_n hx hb d_T_placeOf_36 rfl (lv_at hl 3 rfl) ?_
          refine va_iald hx hb hK hP 4 0 rfl rfl (ti_vp (by omega) (by omega)) d_T_placeOf_37 ?_
          refine va_iald hx hb hK hP 2 0 rfl rfl (by have hz := hline _ (ti_ix (x := x3) (n := 40) (by omega) (by omega)); exact ti_vp (by omega) (by omega)) d_T_placeOf_38 ?_
          refine lv_aload_n hx hb d_T_placeOf_39 rfl (lv_at hl 0 rfl) ?_
          refine va_get (D := (dC, dI)) (ci := 0) (v := .ref a2) (C := R_T) (T := F_T) (N := 5) hx hb hT i_T hown hK hP 0 rfl rfl 1 (by decide) (hT _ kw_88) (fun _ h9 => h9) rfl d_T_placeOf_40 ?_
          refine lv_iload_n hx hb d_T_placeOf_43 rfl (lv_at hl 1 rfl) ?_
          refine va_iald hx hb hK hP 2 0 rfl rfl (ti_vp (by omega) (by omega)) d_T_placeOf_44 ?_
          refine lv_icmp_ne (tgt := 51) hx hb d_T_placeOf_45 (by decide) (fun c_45 => ?_) (fun c_45 => ?_)
          · have z_45 : ¬ (T.2.1 (T.2.2.2.1 x3.toNatClampNeg).toNatClampNeg).toInt = (T.2.1 x1.toNatClampNeg).toInt := mt Int32.toInt_inj.mp c_45
            refine lv_iinc (v := x3 + 1) (lv' := [(3, .int (x3 + 1)), (0, .ref h0), (1, .int x1), (2, .int x2)]) hx hb d_T_placeOf_51 hl (k := 3) rfl rfl (by decide) rfl (fun ls hl => ?_)
            refine lv_goto (tgt := 10) hx hb d_T_placeOf_54 (by decide) ?_
            rw [l_T_placeOf_10, if_neg c_15, if_neg c_25, if_neg c_45] at hres
            exact ih x2 (x3 + 1)  hres (by rw [ti_inc (x := x3) (by omega)]; omega) H locs ls hP hD hS (lv_sub hl [1, 2, 3, 0] rfl)
          · have z_45 : (T.2.1 (T.2.2.2.1 x3.toNatClampNeg).toNatClampNeg).toInt = (T.2.1 x1.toNatClampNeg).toInt := congrArg Int32.toInt c_45
            refine lv_iinc (v := x2 + 1) (lv' := [(2, .int (x2 + 1)), (0, .ref h0), (1, .int x1), (3, .int x3)]) hx hb d_T_placeOf_48 hl (k := 2) rfl rfl (by decide) rfl (fun ls hl => ?_)
            refine lv_iinc (v := x3 + 1) (lv' := [(3, .int (x3 + 1)), (2, .int (x2 + 1)), (0, .ref h0), (1, .int x1)]) hx hb d_T_placeOf_51 hl (k := 3) rfl rfl (by decide) rfl (fun ls hl => ?_)
            refine lv_goto (tgt := 10) hx hb d_T_placeOf_54 (by decide) ?_
            rw [l_T_placeOf_10, if_neg c_15, if_neg c_25, if_pos c_45] at hres
            exact ih (x2 + 1) (x3 + 1)  hres (by rw [ti_inc (x := x3) (by omega)]; omega) H locs ls hP hD hS (lv_sub hl [2, 3, 1, 0] rfl)
  have hS0 := hS
  refine lv_iload_n hx hb d_T_placeOf_0 rfl (lv_at hl 1 rfl) ?_
  refine lv_if_ne (tgt := 6) hx hb d_T_placeOf_1 (by decide) (fun c_1 => ?_) (fun c_1 => ?_)
  · have z_1 : ¬ x1.toInt = (0 : Int32).toInt := mt Int32.toInt_inj.mp c_1
    refine lv_iconst (v := 0) hx hb d_T_placeOf_6 (by decide) ?_
    refine lv_istore_n (lv' := [(2, .int 0), (0, .ref h0), (1, .int x1)]) hx hb d_T_placeOf_7 rfl hl (by decide) rfl (fun ls hl => ?_)
    refine lv_iconst (v := 0) hx hb d_T_placeOf_8 (by decide) ?_
    refine lv_istore_n (lv' := [(3, .int 0), (2, .int 0), (0, .ref h0), (1, .int x1)]) hx hb d_T_placeOf_9 rfl hl (by decide) rfl (fun ls hl => ?_)
    rw [m_T_placeOf, if_neg c_1] at hres
    exact k_10 41 0 0  hres (by omega) _ _ ls hP hD hS (lv_sub hl [2, 3, 1, 0] rfl)
  · have z_1 : x1.toInt = (0 : Int32).toInt := congrArg Int32.toInt c_1
    refine lv_iconst (v := 0) hx hb d_T_placeOf_4 (by decide) ?_
    rw [m_T_placeOf, if_pos c_1] at hres
    subst hres
    subst hQ
    exact vz_iret hx hb hr hlocks d_T_placeOf_5 hS rfl hP
